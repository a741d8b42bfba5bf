/-! the law, case by case: 38 -/
theorem jQ_41_122 {xs : List Int} {d : Nat} {p7 p8 q1 : Int} (h_p7 : (-20) ≤ p7 ∧ p7 ≤ 20) (h_p8 : (-10) ≤ p8 ∧ p8 ≤ 10) (h_q1 : (-60) ≤ q1 ∧ q1 ≤ 60) (g_0 : 0 ≤ (-108917793694) * p7 - 159561683698 * p8 - 68719476736 * q1 - 1) (g_1 : 0 ≤ (-108917793694) * p7 - 159561683700 * p8 - 68719476736 * q1 - 1) (g_2 : 0 ≤ (-108917793696) * p7 - 159561683698 * p8 - 68719476736 * q1 - 1) (g_3 : 0 ≤ (-108917793696) * p7 - 159561683700 * p8 - 68719476736 * q1 - 1) (g_4 : p7 < 0) (g_5 : 0 ≤ p8) (g_6 : q1 < 0) (g_7 : 108917793695 * p7 + 159561683699 * p8 + 68719476736 * q1 - 1 < 0) (g_8 : 0 ≤ 108917793695 * p7 + 159561683699 * p8 + 68719476736 * q1) : jT xs d 41 2 0 [(0, (4, 0)), (1, (4, 1))] [] [jgh, (101, [], [q1, p7, p8, 0, 0, 0])] 0 0 (fun k v hsN => k = 0 ∧ v = (1, 108917793695 * p7 + 159561683699 * p8 + 68719476736 * q1) ∧ hsN = [jgh, (101, [], [q1, p7, p8, 0, 0, 0])] ++ []) := by
  refine jT_xlconst (z := 0) (pcN := 1) jIQ_41_0 rfl rfl ?_
  refine jT_xlstore_n (v := (1, 0)) (LN := [(2, (1, 0)), (0, (4, 0)), (1, (4, 1))]) (pcN := 2) jIQ_41_1 rfl rfl rfl rfl ?_
  refine jT_xiconst (k := 0) (pcN := 3) jIQ_41_2 rfl ?_
  refine jT_xistore (v := (0, 0)) (LN := [(4, (0, 0)), (2, (1, 0)), (0, (4, 0)), (1, (4, 1))]) (pcN := 5) jIQ_41_3 rfl rfl rfl rfl ?_
  refine jT_xiload (v := (0, 0)) (pcN := 7) jIQ_41_5 rfl rfl rfl ?_
  refine jT_xbipush (k := 6) (pcN := 9) jIQ_41_7 (by decide) rfl ?_
  refine jT_xicF (t := 32) (pcN := 12) jIQ_41_9 rfl (by decide +kernel) rfl rfl ?_
  refine jT_xlload_n (v := (1, 0)) (pcN := 13) jIQ_41_12 rfl rfl rfl ?_
  refine jT_xaload_n (v := (4, 1)) (pcN := 14) jIQ_41_13 rfl rfl rfl ?_
  refine jT_xiload (v := (0, 0)) (pcN := 16) jIQ_41_14 rfl rfl rfl ?_
  refine jT_lald (x := q1) (a := 1) (j := 0) (fs := []) (X := [q1, p7, p8, 0, 0, 0]) jIQ_41_16 rfl rfl rfl rfl ?_
  refine jT_eq (LN := [(4, (0, 0)), (2, (1, 0)), (0, (4, 0)), (1, (4, 1))]) (stN := [(1, q1), (1, 0)]) (hsN := [jgh, (101, [], [q1, p7, p8, 0, 0, 0])]) rfl rfl rfl ?_
  refine jT_adv 1 (pcN := 20) (LN := [(4, (0, 0)), (2, (1, 0)), (0, (4, 0)), (1, (4, 1))]) (stN := [(5, 0), (1, q1), (1, 0)]) (hsN := [jgh, (101, [], [q1, p7, p8, 0, 0, 0])]) (c1 := 0) (s1 := 0) (c2 := 0) (s2 := 0) (by exact rfl) ?_ (by omega) (by omega)
  refine jT_xiload (v := (0, 0)) (pcN := 22) jIQ_41_20 rfl rfl rfl ?_
  refine jT_adv 1 (pcN := 23) (LN := [(4, (0, 0)), (2, (1, 0)), (0, (4, 0)), (1, (4, 1))]) (stN := [(1, 68719476736), (1, q1), (1, 0)]) (hsN := [jgh, (101, [], [q1, p7, p8, 0, 0, 0])]) (c1 := 0) (s1 := 0) (c2 := 0) (s2 := 0) (by exact rfl) ?_ (by omega) (by omega)
  refine jT_xlmul (x := q1) (y := 68719476736) (z := 68719476736 * q1) (pcN := 24) jIQ_41_23 rfl (by omega) rfl ?_
  refine jT_xladd (x := 0) (y := 68719476736 * q1) (z := 68719476736 * q1) (pcN := 25) jIQ_41_24 rfl (by omega) rfl ?_
  refine jT_xlstore_n (v := (1, 68719476736 * q1)) (LN := [(2, (1, 68719476736 * q1)), (4, (0, 0)), (0, (4, 0)), (1, (4, 1))]) (pcN := 26) jIQ_41_25 rfl rfl rfl rfl ?_
  refine jT_xiinc (x := 0) (z := 1) (LN := [(4, (0, 1)), (2, (1, 68719476736 * q1)), (0, (4, 0)), (1, (4, 1))]) (pcN := 29) jIQ_41_26 rfl rfl (by decide) rfl rfl ?_
  refine jT_xgoto (pcN := 5) jIQ_41_29 rfl ?_
  refine jT_xiload (v := (0, 1)) (pcN := 7) jIQ_41_5 rfl rfl rfl ?_
  refine jT_xbipush (k := 6) (pcN := 9) jIQ_41_7 (by decide) rfl ?_
  refine jT_xicF (t := 32) (pcN := 12) jIQ_41_9 rfl (by decide +kernel) rfl rfl ?_
  refine jT_xlload_n (v := (1, 68719476736 * q1)) (pcN := 13) jIQ_41_12 rfl rfl rfl ?_
  refine jT_xaload_n (v := (4, 1)) (pcN := 14) jIQ_41_13 rfl rfl rfl ?_
  refine jT_xiload (v := (0, 1)) (pcN := 16) jIQ_41_14 rfl rfl rfl ?_
  refine jT_lald (x := p7) (a := 1) (j := 1) (fs := []) (X := [q1, p7, p8, 0, 0, 0]) jIQ_41_16 rfl rfl rfl rfl ?_
  refine jT_eq (LN := [(4, (0, 1)), (2, (1, 68719476736 * q1)), (0, (4, 0)), (1, (4, 1))]) (stN := [(1, p7), (1, 68719476736 * q1)]) (hsN := [jgh, (101, [], [q1, p7, p8, 0, 0, 0])]) rfl rfl rfl ?_
  refine jT_adv 1 (pcN := 20) (LN := [(4, (0, 1)), (2, (1, 68719476736 * q1)), (0, (4, 0)), (1, (4, 1))]) (stN := [(5, 0), (1, p7), (1, 68719476736 * q1)]) (hsN := [jgh, (101, [], [q1, p7, p8, 0, 0, 0])]) (c1 := 0) (s1 := 0) (c2 := 0) (s2 := 0) (by exact rfl) ?_ (by omega) (by omega)
  refine jT_xiload (v := (0, 1)) (pcN := 22) jIQ_41_20 rfl rfl rfl ?_
  refine jT_adv 1 (pcN := 23) (LN := [(4, (0, 1)), (2, (1, 68719476736 * q1)), (0, (4, 0)), (1, (4, 1))]) (stN := [(1, 108917793695), (1, p7), (1, 68719476736 * q1)]) (hsN := [jgh, (101, [], [q1, p7, p8, 0, 0, 0])]) (c1 := 0) (s1 := 0) (c2 := 0) (s2 := 0) (by exact rfl) ?_ (by omega) (by omega)
  refine jT_xlmul (x := p7) (y := 108917793695) (z := 108917793695 * p7) (pcN := 24) jIQ_41_23 rfl (by omega) rfl ?_
  refine jT_xladd (x := 68719476736 * q1) (y := 108917793695 * p7) (z := 108917793695 * p7 + 68719476736 * q1) (pcN := 25) jIQ_41_24 rfl (by omega) rfl ?_
  refine jT_xlstore_n (v := (1, 108917793695 * p7 + 68719476736 * q1)) (LN := [(2, (1, 108917793695 * p7 + 68719476736 * q1)), (4, (0, 1)), (0, (4, 0)), (1, (4, 1))]) (pcN := 26) jIQ_41_25 rfl rfl rfl rfl ?_
  refine jT_xiinc (x := 1) (z := 2) (LN := [(4, (0, 2)), (2, (1, 108917793695 * p7 + 68719476736 * q1)), (0, (4, 0)), (1, (4, 1))]) (pcN := 29) jIQ_41_26 rfl rfl (by decide) rfl rfl ?_
  refine jT_xgoto (pcN := 5) jIQ_41_29 rfl ?_
  refine jT_xiload (v := (0, 2)) (pcN := 7) jIQ_41_5 rfl rfl rfl ?_
  refine jT_xbipush (k := 6) (pcN := 9) jIQ_41_7 (by decide) rfl ?_
  refine jT_xicF (t := 32) (pcN := 12) jIQ_41_9 rfl (by decide +kernel) rfl rfl ?_
  refine jT_xlload_n (v := (1, 108917793695 * p7 + 68719476736 * q1)) (pcN := 13) jIQ_41_12 rfl rfl rfl ?_
  refine jT_xaload_n (v := (4, 1)) (pcN := 14) jIQ_41_13 rfl rfl rfl ?_
  refine jT_xiload (v := (0, 2)) (pcN := 16) jIQ_41_14 rfl rfl rfl ?_
  refine jT_lald (x := p8) (a := 1) (j := 2) (fs := []) (X := [q1, p7, p8, 0, 0, 0]) jIQ_41_16 rfl rfl rfl rfl ?_
  refine jT_eq (LN := [(4, (0, 2)), (2, (1, 108917793695 * p7 + 68719476736 * q1)), (0, (4, 0)), (1, (4, 1))]) (stN := [(1, p8), (1, 108917793695 * p7 + 68719476736 * q1)]) (hsN := [jgh, (101, [], [q1, p7, p8, 0, 0, 0])]) rfl rfl rfl ?_
  refine jT_adv 1 (pcN := 20) (LN := [(4, (0, 2)), (2, (1, 108917793695 * p7 + 68719476736 * q1)), (0, (4, 0)), (1, (4, 1))]) (stN := [(5, 0), (1, p8), (1, 108917793695 * p7 + 68719476736 * q1)]) (hsN := [jgh, (101, [], [q1, p7, p8, 0, 0, 0])]) (c1 := 0) (s1 := 0) (c2 := 0) (s2 := 0) (by exact rfl) ?_ (by omega) (by omega)
  refine jT_xiload (v := (0, 2)) (pcN := 22) jIQ_41_20 rfl rfl rfl ?_
  refine jT_adv 1 (pcN := 23) (LN := [(4, (0, 2)), (2, (1, 108917793695 * p7 + 68719476736 * q1)), (0, (4, 0)), (1, (4, 1))]) (stN := [(1, 159561683699), (1, p8), (1, 108917793695 * p7 + 68719476736 * q1)]) (hsN := [jgh, (101, [], [q1, p7, p8, 0, 0, 0])]) (c1 := 0) (s1 := 0) (c2 := 0) (s2 := 0) (by exact rfl) ?_ (by omega) (by omega)
  refine jT_xlmul (x := p8) (y := 159561683699) (z := 159561683699 * p8) (pcN := 24) jIQ_41_23 rfl (by omega) rfl ?_
  refine jT_xladd (x := 108917793695 * p7 + 68719476736 * q1) (y := 159561683699 * p8) (z := 108917793695 * p7 + 159561683699 * p8 + 68719476736 * q1) (pcN := 25) jIQ_41_24 rfl (by omega) rfl ?_
  refine jT_xlstore_n (v := (1, 108917793695 * p7 + 159561683699 * p8 + 68719476736 * q1)) (LN := [(2, (1, 108917793695 * p7 + 159561683699 * p8 + 68719476736 * q1)), (4, (0, 2)), (0, (4, 0)), (1, (4, 1))]) (pcN := 26) jIQ_41_25 rfl rfl rfl rfl ?_
  refine jT_xiinc (x := 2) (z := 3) (LN := [(4, (0, 3)), (2, (1, 108917793695 * p7 + 159561683699 * p8 + 68719476736 * q1)), (0, (4, 0)), (1, (4, 1))]) (pcN := 29) jIQ_41_26 rfl rfl (by decide) rfl rfl ?_
  refine jT_xgoto (pcN := 5) jIQ_41_29 rfl ?_
  refine jT_xiload (v := (0, 3)) (pcN := 7) jIQ_41_5 rfl rfl rfl ?_
  refine jT_xbipush (k := 6) (pcN := 9) jIQ_41_7 (by decide) rfl ?_
  refine jT_xicF (t := 32) (pcN := 12) jIQ_41_9 rfl (by decide +kernel) rfl rfl ?_
  refine jT_xlload_n (v := (1, 108917793695 * p7 + 159561683699 * p8 + 68719476736 * q1)) (pcN := 13) jIQ_41_12 rfl rfl rfl ?_
  refine jT_xaload_n (v := (4, 1)) (pcN := 14) jIQ_41_13 rfl rfl rfl ?_
  refine jT_xiload (v := (0, 3)) (pcN := 16) jIQ_41_14 rfl rfl rfl ?_
  refine jT_lald (x := 0) (a := 1) (j := 3) (fs := []) (X := [q1, p7, p8, 0, 0, 0]) jIQ_41_16 rfl rfl rfl rfl ?_
  refine jT_eq (LN := [(4, (0, 3)), (2, (1, 108917793695 * p7 + 159561683699 * p8 + 68719476736 * q1)), (0, (4, 0)), (1, (4, 1))]) (stN := [(1, 0), (1, 108917793695 * p7 + 159561683699 * p8 + 68719476736 * q1)]) (hsN := [jgh, (101, [], [q1, p7, p8, 0, 0, 0])]) rfl rfl rfl ?_
  refine jT_adv 1 (pcN := 20) (LN := [(4, (0, 3)), (2, (1, 108917793695 * p7 + 159561683699 * p8 + 68719476736 * q1)), (0, (4, 0)), (1, (4, 1))]) (stN := [(5, 0), (1, 0), (1, 108917793695 * p7 + 159561683699 * p8 + 68719476736 * q1)]) (hsN := [jgh, (101, [], [q1, p7, p8, 0, 0, 0])]) (c1 := 0) (s1 := 0) (c2 := 0) (s2 := 0) (by exact rfl) ?_ (by omega) (by omega)
  refine jT_xiload (v := (0, 3)) (pcN := 22) jIQ_41_20 rfl rfl rfl ?_
  refine jT_adv 1 (pcN := 23) (LN := [(4, (0, 3)), (2, (1, 108917793695 * p7 + 159561683699 * p8 + 68719476736 * q1)), (0, (4, 0)), (1, (4, 1))]) (stN := [(1, 192919961256), (1, 0), (1, 108917793695 * p7 + 159561683699 * p8 + 68719476736 * q1)]) (hsN := [jgh, (101, [], [q1, p7, p8, 0, 0, 0])]) (c1 := 0) (s1 := 0) (c2 := 0) (s2 := 0) (by exact rfl) ?_ (by omega) (by omega)
  refine jT_xlmul (x := 0) (y := 192919961256) (z := 0) (pcN := 24) jIQ_41_23 rfl (by decide) rfl ?_
  refine jT_xladd (x := 108917793695 * p7 + 159561683699 * p8 + 68719476736 * q1) (y := 0) (z := 108917793695 * p7 + 159561683699 * p8 + 68719476736 * q1) (pcN := 25) jIQ_41_24 rfl (by omega) rfl ?_
  refine jT_xlstore_n (v := (1, 108917793695 * p7 + 159561683699 * p8 + 68719476736 * q1)) (LN := [(2, (1, 108917793695 * p7 + 159561683699 * p8 + 68719476736 * q1)), (4, (0, 3)), (0, (4, 0)), (1, (4, 1))]) (pcN := 26) jIQ_41_25 rfl rfl rfl rfl ?_
  refine jT_xiinc (x := 3) (z := 4) (LN := [(4, (0, 4)), (2, (1, 108917793695 * p7 + 159561683699 * p8 + 68719476736 * q1)), (0, (4, 0)), (1, (4, 1))]) (pcN := 29) jIQ_41_26 rfl rfl (by decide) rfl rfl ?_
  refine jT_xgoto (pcN := 5) jIQ_41_29 rfl ?_
  refine jT_xiload (v := (0, 4)) (pcN := 7) jIQ_41_5 rfl rfl rfl ?_
  refine jT_xbipush (k := 6) (pcN := 9) jIQ_41_7 (by decide) rfl ?_
  refine jT_xicF (t := 32) (pcN := 12) jIQ_41_9 rfl (by decide +kernel) rfl rfl ?_
  refine jT_xlload_n (v := (1, 108917793695 * p7 + 159561683699 * p8 + 68719476736 * q1)) (pcN := 13) jIQ_41_12 rfl rfl rfl ?_
  refine jT_xaload_n (v := (4, 1)) (pcN := 14) jIQ_41_13 rfl rfl rfl ?_
  refine jT_xiload (v := (0, 4)) (pcN := 16) jIQ_41_14 rfl rfl rfl ?_
  refine jT_lald (x := 0) (a := 1) (j := 4) (fs := []) (X := [q1, p7, p8, 0, 0, 0]) jIQ_41_16 rfl rfl rfl rfl ?_
  refine jT_eq (LN := [(4, (0, 4)), (2, (1, 108917793695 * p7 + 159561683699 * p8 + 68719476736 * q1)), (0, (4, 0)), (1, (4, 1))]) (stN := [(1, 0), (1, 108917793695 * p7 + 159561683699 * p8 + 68719476736 * q1)]) (hsN := [jgh, (101, [], [q1, p7, p8, 0, 0, 0])]) rfl rfl rfl ?_
  refine jT_adv 1 (pcN := 20) (LN := [(4, (0, 4)), (2, (1, 108917793695 * p7 + 159561683699 * p8 + 68719476736 * q1)), (0, (4, 0)), (1, (4, 1))]) (stN := [(5, 0), (1, 0), (1, 108917793695 * p7 + 159561683699 * p8 + 68719476736 * q1)]) (hsN := [jgh, (101, [], [q1, p7, p8, 0, 0, 0])]) (c1 := 0) (s1 := 0) (c2 := 0) (s2 := 0) (by exact rfl) ?_ (by omega) (by omega)
  refine jT_xiload (v := (0, 4)) (pcN := 22) jIQ_41_20 rfl rfl rfl ?_
  refine jT_adv 1 (pcN := 23) (LN := [(4, (0, 4)), (2, (1, 108917793695 * p7 + 159561683699 * p8 + 68719476736 * q1)), (0, (4, 0)), (1, (4, 1))]) (stN := [(1, 237730330636), (1, 0), (1, 108917793695 * p7 + 159561683699 * p8 + 68719476736 * q1)]) (hsN := [jgh, (101, [], [q1, p7, p8, 0, 0, 0])]) (c1 := 0) (s1 := 0) (c2 := 0) (s2 := 0) (by exact rfl) ?_ (by omega) (by omega)
  refine jT_xlmul (x := 0) (y := 237730330636) (z := 0) (pcN := 24) jIQ_41_23 rfl (by decide) rfl ?_
  refine jT_xladd (x := 108917793695 * p7 + 159561683699 * p8 + 68719476736 * q1) (y := 0) (z := 108917793695 * p7 + 159561683699 * p8 + 68719476736 * q1) (pcN := 25) jIQ_41_24 rfl (by omega) rfl ?_
  refine jT_xlstore_n (v := (1, 108917793695 * p7 + 159561683699 * p8 + 68719476736 * q1)) (LN := [(2, (1, 108917793695 * p7 + 159561683699 * p8 + 68719476736 * q1)), (4, (0, 4)), (0, (4, 0)), (1, (4, 1))]) (pcN := 26) jIQ_41_25 rfl rfl rfl rfl ?_
  refine jT_xiinc (x := 4) (z := 5) (LN := [(4, (0, 5)), (2, (1, 108917793695 * p7 + 159561683699 * p8 + 68719476736 * q1)), (0, (4, 0)), (1, (4, 1))]) (pcN := 29) jIQ_41_26 rfl rfl (by decide) rfl rfl ?_
  refine jT_xgoto (pcN := 5) jIQ_41_29 rfl ?_
  refine jT_xiload (v := (0, 5)) (pcN := 7) jIQ_41_5 rfl rfl rfl ?_
  refine jT_xbipush (k := 6) (pcN := 9) jIQ_41_7 (by decide) rfl ?_
  refine jT_xicF (t := 32) (pcN := 12) jIQ_41_9 rfl (by decide +kernel) rfl rfl ?_
  refine jT_xlload_n (v := (1, 108917793695 * p7 + 159561683699 * p8 + 68719476736 * q1)) (pcN := 13) jIQ_41_12 rfl rfl rfl ?_
  refine jT_xaload_n (v := (4, 1)) (pcN := 14) jIQ_41_13 rfl rfl rfl ?_
  refine jT_xiload (v := (0, 5)) (pcN := 16) jIQ_41_14 rfl rfl rfl ?_
  refine jT_lald (x := 0) (a := 1) (j := 5) (fs := []) (X := [q1, p7, p8, 0, 0, 0]) jIQ_41_16 rfl rfl rfl rfl ?_
  refine jT_eq (LN := [(4, (0, 5)), (2, (1, 108917793695 * p7 + 159561683699 * p8 + 68719476736 * q1)), (0, (4, 0)), (1, (4, 1))]) (stN := [(1, 0), (1, 108917793695 * p7 + 159561683699 * p8 + 68719476736 * q1)]) (hsN := [jgh, (101, [], [q1, p7, p8, 0, 0, 0])]) rfl rfl rfl ?_
  refine jT_adv 1 (pcN := 20) (LN := [(4, (0, 5)), (2, (1, 108917793695 * p7 + 159561683699 * p8 + 68719476736 * q1)), (0, (4, 0)), (1, (4, 1))]) (stN := [(5, 0), (1, 0), (1, 108917793695 * p7 + 159561683699 * p8 + 68719476736 * q1)]) (hsN := [jgh, (101, [], [q1, p7, p8, 0, 0, 0])]) (c1 := 0) (s1 := 0) (c2 := 0) (s2 := 0) (by exact rfl) ?_ (by omega) (by omega)
  refine jT_xiload (v := (0, 5)) (pcN := 22) jIQ_41_20 rfl rfl rfl ?_
  refine jT_adv 1 (pcN := 23) (LN := [(4, (0, 5)), (2, (1, 108917793695 * p7 + 159561683699 * p8 + 68719476736 * q1)), (0, (4, 0)), (1, (4, 1))]) (stN := [(1, 254292281123), (1, 0), (1, 108917793695 * p7 + 159561683699 * p8 + 68719476736 * q1)]) (hsN := [jgh, (101, [], [q1, p7, p8, 0, 0, 0])]) (c1 := 0) (s1 := 0) (c2 := 0) (s2 := 0) (by exact rfl) ?_ (by omega) (by omega)
  refine jT_xlmul (x := 0) (y := 254292281123) (z := 0) (pcN := 24) jIQ_41_23 rfl (by decide) rfl ?_
  refine jT_xladd (x := 108917793695 * p7 + 159561683699 * p8 + 68719476736 * q1) (y := 0) (z := 108917793695 * p7 + 159561683699 * p8 + 68719476736 * q1) (pcN := 25) jIQ_41_24 rfl (by omega) rfl ?_
  refine jT_xlstore_n (v := (1, 108917793695 * p7 + 159561683699 * p8 + 68719476736 * q1)) (LN := [(2, (1, 108917793695 * p7 + 159561683699 * p8 + 68719476736 * q1)), (4, (0, 5)), (0, (4, 0)), (1, (4, 1))]) (pcN := 26) jIQ_41_25 rfl rfl rfl rfl ?_
  refine jT_xiinc (x := 5) (z := 6) (LN := [(4, (0, 6)), (2, (1, 108917793695 * p7 + 159561683699 * p8 + 68719476736 * q1)), (0, (4, 0)), (1, (4, 1))]) (pcN := 29) jIQ_41_26 rfl rfl (by decide) rfl rfl ?_
  refine jT_xgoto (pcN := 5) jIQ_41_29 rfl ?_
  refine jT_xiload (v := (0, 6)) (pcN := 7) jIQ_41_5 rfl rfl rfl ?_
  refine jT_xbipush (k := 6) (pcN := 9) jIQ_41_7 (by decide) rfl ?_
  refine jT_xicT (pcN := 32) jIQ_41_9 rfl (by decide +kernel) rfl ?_
  refine jT_xlload_n (v := (1, 108917793695 * p7 + 159561683699 * p8 + 68719476736 * q1)) (pcN := 33) jIQ_41_32 rfl rfl rfl ?_
  exact jT_ret rfl (by decide) (by show 2 ≤ 2; omega) (by omega) (by omega) ⟨rfl, rfl, rfl⟩
theorem jQ_39_123 {xs : List Int} {d : Nat} {p7 p8 q1 : Int} (h_p7 : (-20) ≤ p7 ∧ p7 ≤ 20) (h_p8 : (-10) ≤ p8 ∧ p8 ≤ 10) (h_q1 : (-60) ≤ q1 ∧ q1 ≤ 60) (g_0 : 0 ≤ (-108917793694) * p7 - 159561683698 * p8 - 68719476736 * q1 - 1) (g_1 : 0 ≤ (-108917793694) * p7 - 159561683700 * p8 - 68719476736 * q1 - 1) (g_2 : 0 ≤ (-108917793696) * p7 - 159561683698 * p8 - 68719476736 * q1 - 1) (g_3 : 0 ≤ (-108917793696) * p7 - 159561683700 * p8 - 68719476736 * q1 - 1) (g_4 : p7 < 0) (g_5 : 0 ≤ p8) (g_6 : q1 < 0) (g_7 : 0 ≤ 108917793695 * p7 + 159561683699 * p8 + 68719476736 * q1 - 1) : jT xs d 39 2 0 [(0, (4, 0)), (1, (4, 1))] [] [jgh, (101, [], [q1, p7, p8, 0, 0, 0])] 0 0 (fun k v hsN => k = 0 ∧ v = (1, -p7 + p8) ∧ hsN = [jgh, (101, [], [q1, p7, p8, 0, 0, 0])] ++ []) := by
  refine jT_xlconst (z := 0) (pcN := 1) jIQ_39_0 rfl rfl ?_
  refine jT_xlstore_n (v := (1, 0)) (LN := [(2, (1, 0)), (0, (4, 0)), (1, (4, 1))]) (pcN := 2) jIQ_39_1 rfl rfl rfl rfl ?_
  refine jT_xiconst (k := 1) (pcN := 3) jIQ_39_2 rfl ?_
  refine jT_xistore (v := (0, 1)) (LN := [(4, (0, 1)), (2, (1, 0)), (0, (4, 0)), (1, (4, 1))]) (pcN := 5) jIQ_39_3 rfl rfl rfl rfl ?_
  refine jT_xiload (v := (0, 1)) (pcN := 7) jIQ_39_5 rfl rfl rfl ?_
  refine jT_xbipush (k := 6) (pcN := 9) jIQ_39_7 (by decide) rfl ?_
  refine jT_xicF (t := 28) (pcN := 12) jIQ_39_9 rfl (by decide +kernel) rfl rfl ?_
  refine jT_xlload_n (v := (1, 0)) (pcN := 13) jIQ_39_12 rfl rfl rfl ?_
  refine jT_xaload_n (v := (4, 1)) (pcN := 14) jIQ_39_13 rfl rfl rfl ?_
  refine jT_xiload (v := (0, 1)) (pcN := 16) jIQ_39_14 rfl rfl rfl ?_
  refine jT_lald (x := p7) (a := 1) (j := 1) (fs := []) (X := [q1, p7, p8, 0, 0, 0]) jIQ_39_16 rfl rfl rfl rfl ?_
  refine jT_eq (LN := [(4, (0, 1)), (2, (1, 0)), (0, (4, 0)), (1, (4, 1))]) (stN := [(1, p7), (1, 0)]) (hsN := [jgh, (101, [], [q1, p7, p8, 0, 0, 0])]) rfl rfl rfl ?_
  refine jT_labs (z := -p7) (by rfl) (by rfl) (by rfl) (by rfl) (by rw [show jwl (p7) = p7 from jwl_idd (by omega) (by omega), decide_eq_true (by omega)]; first | (simp only [cond_true, cond_false]; done) | (simp only [cond_true, cond_false]; omega) | rfl) ?_
  refine jT_xladd (x := 0) (y := -p7) (z := -p7) (pcN := 21) jIQ_39_20 rfl (by omega) rfl ?_
  refine jT_xlstore_n (v := (1, -p7)) (LN := [(2, (1, -p7)), (4, (0, 1)), (0, (4, 0)), (1, (4, 1))]) (pcN := 22) jIQ_39_21 rfl rfl rfl rfl ?_
  refine jT_xiinc (x := 1) (z := 2) (LN := [(4, (0, 2)), (2, (1, -p7)), (0, (4, 0)), (1, (4, 1))]) (pcN := 25) jIQ_39_22 rfl rfl (by decide) rfl rfl ?_
  refine jT_xgoto (pcN := 5) jIQ_39_25 rfl ?_
  refine jT_xiload (v := (0, 2)) (pcN := 7) jIQ_39_5 rfl rfl rfl ?_
  refine jT_xbipush (k := 6) (pcN := 9) jIQ_39_7 (by decide) rfl ?_
  refine jT_xicF (t := 28) (pcN := 12) jIQ_39_9 rfl (by decide +kernel) rfl rfl ?_
  refine jT_xlload_n (v := (1, -p7)) (pcN := 13) jIQ_39_12 rfl rfl rfl ?_
  refine jT_xaload_n (v := (4, 1)) (pcN := 14) jIQ_39_13 rfl rfl rfl ?_
  refine jT_xiload (v := (0, 2)) (pcN := 16) jIQ_39_14 rfl rfl rfl ?_
  refine jT_lald (x := p8) (a := 1) (j := 2) (fs := []) (X := [q1, p7, p8, 0, 0, 0]) jIQ_39_16 rfl rfl rfl rfl ?_
  refine jT_eq (LN := [(4, (0, 2)), (2, (1, -p7)), (0, (4, 0)), (1, (4, 1))]) (stN := [(1, p8), (1, -p7)]) (hsN := [jgh, (101, [], [q1, p7, p8, 0, 0, 0])]) rfl rfl rfl ?_
  refine jT_labs (z := p8) (by rfl) (by rfl) (by rfl) (by rfl) (by rw [show jwl (p8) = p8 from jwl_idd (by omega) (by omega), decide_eq_false (by omega)]; first | (simp only [cond_true, cond_false]; done) | (simp only [cond_true, cond_false]; omega) | rfl) ?_
  refine jT_xladd (x := -p7) (y := p8) (z := -p7 + p8) (pcN := 21) jIQ_39_20 rfl (by omega) rfl ?_
  refine jT_xlstore_n (v := (1, -p7 + p8)) (LN := [(2, (1, -p7 + p8)), (4, (0, 2)), (0, (4, 0)), (1, (4, 1))]) (pcN := 22) jIQ_39_21 rfl rfl rfl rfl ?_
  refine jT_xiinc (x := 2) (z := 3) (LN := [(4, (0, 3)), (2, (1, -p7 + p8)), (0, (4, 0)), (1, (4, 1))]) (pcN := 25) jIQ_39_22 rfl rfl (by decide) rfl rfl ?_
  refine jT_xgoto (pcN := 5) jIQ_39_25 rfl ?_
  refine jT_xiload (v := (0, 3)) (pcN := 7) jIQ_39_5 rfl rfl rfl ?_
  refine jT_xbipush (k := 6) (pcN := 9) jIQ_39_7 (by decide) rfl ?_
  refine jT_xicF (t := 28) (pcN := 12) jIQ_39_9 rfl (by decide +kernel) rfl rfl ?_
  refine jT_xlload_n (v := (1, -p7 + p8)) (pcN := 13) jIQ_39_12 rfl rfl rfl ?_
  refine jT_xaload_n (v := (4, 1)) (pcN := 14) jIQ_39_13 rfl rfl rfl ?_
  refine jT_xiload (v := (0, 3)) (pcN := 16) jIQ_39_14 rfl rfl rfl ?_
  refine jT_lald (x := 0) (a := 1) (j := 3) (fs := []) (X := [q1, p7, p8, 0, 0, 0]) jIQ_39_16 rfl rfl rfl rfl ?_
  refine jT_eq (LN := [(4, (0, 3)), (2, (1, -p7 + p8)), (0, (4, 0)), (1, (4, 1))]) (stN := [(1, 0), (1, -p7 + p8)]) (hsN := [jgh, (101, [], [q1, p7, p8, 0, 0, 0])]) rfl rfl rfl ?_
  refine jT_labs (z := 0) (by rfl) (by rfl) (by rfl) (by rfl) (by decide +kernel) ?_
  refine jT_xladd (x := -p7 + p8) (y := 0) (z := -p7 + p8) (pcN := 21) jIQ_39_20 rfl (by omega) rfl ?_
  refine jT_xlstore_n (v := (1, -p7 + p8)) (LN := [(2, (1, -p7 + p8)), (4, (0, 3)), (0, (4, 0)), (1, (4, 1))]) (pcN := 22) jIQ_39_21 rfl rfl rfl rfl ?_
  refine jT_xiinc (x := 3) (z := 4) (LN := [(4, (0, 4)), (2, (1, -p7 + p8)), (0, (4, 0)), (1, (4, 1))]) (pcN := 25) jIQ_39_22 rfl rfl (by decide) rfl rfl ?_
  refine jT_xgoto (pcN := 5) jIQ_39_25 rfl ?_
  refine jT_xiload (v := (0, 4)) (pcN := 7) jIQ_39_5 rfl rfl rfl ?_
  refine jT_xbipush (k := 6) (pcN := 9) jIQ_39_7 (by decide) rfl ?_
  refine jT_xicF (t := 28) (pcN := 12) jIQ_39_9 rfl (by decide +kernel) rfl rfl ?_
  refine jT_xlload_n (v := (1, -p7 + p8)) (pcN := 13) jIQ_39_12 rfl rfl rfl ?_
  refine jT_xaload_n (v := (4, 1)) (pcN := 14) jIQ_39_13 rfl rfl rfl ?_
  refine jT_xiload (v := (0, 4)) (pcN := 16) jIQ_39_14 rfl rfl rfl ?_
  refine jT_lald (x := 0) (a := 1) (j := 4) (fs := []) (X := [q1, p7, p8, 0, 0, 0]) jIQ_39_16 rfl rfl rfl rfl ?_
  refine jT_eq (LN := [(4, (0, 4)), (2, (1, -p7 + p8)), (0, (4, 0)), (1, (4, 1))]) (stN := [(1, 0), (1, -p7 + p8)]) (hsN := [jgh, (101, [], [q1, p7, p8, 0, 0, 0])]) rfl rfl rfl ?_
  refine jT_labs (z := 0) (by rfl) (by rfl) (by rfl) (by rfl) (by decide +kernel) ?_
  refine jT_xladd (x := -p7 + p8) (y := 0) (z := -p7 + p8) (pcN := 21) jIQ_39_20 rfl (by omega) rfl ?_
  refine jT_xlstore_n (v := (1, -p7 + p8)) (LN := [(2, (1, -p7 + p8)), (4, (0, 4)), (0, (4, 0)), (1, (4, 1))]) (pcN := 22) jIQ_39_21 rfl rfl rfl rfl ?_
  refine jT_xiinc (x := 4) (z := 5) (LN := [(4, (0, 5)), (2, (1, -p7 + p8)), (0, (4, 0)), (1, (4, 1))]) (pcN := 25) jIQ_39_22 rfl rfl (by decide) rfl rfl ?_
  refine jT_xgoto (pcN := 5) jIQ_39_25 rfl ?_
  refine jT_xiload (v := (0, 5)) (pcN := 7) jIQ_39_5 rfl rfl rfl ?_
  refine jT_xbipush (k := 6) (pcN := 9) jIQ_39_7 (by decide) rfl ?_
  refine jT_xicF (t := 28) (pcN := 12) jIQ_39_9 rfl (by decide +kernel) rfl rfl ?_
  refine jT_xlload_n (v := (1, -p7 + p8)) (pcN := 13) jIQ_39_12 rfl rfl rfl ?_
  refine jT_xaload_n (v := (4, 1)) (pcN := 14) jIQ_39_13 rfl rfl rfl ?_
  refine jT_xiload (v := (0, 5)) (pcN := 16) jIQ_39_14 rfl rfl rfl ?_
  refine jT_lald (x := 0) (a := 1) (j := 5) (fs := []) (X := [q1, p7, p8, 0, 0, 0]) jIQ_39_16 rfl rfl rfl rfl ?_
  refine jT_eq (LN := [(4, (0, 5)), (2, (1, -p7 + p8)), (0, (4, 0)), (1, (4, 1))]) (stN := [(1, 0), (1, -p7 + p8)]) (hsN := [jgh, (101, [], [q1, p7, p8, 0, 0, 0])]) rfl rfl rfl ?_
  refine jT_labs (z := 0) (by rfl) (by rfl) (by rfl) (by rfl) (by decide +kernel) ?_
  refine jT_xladd (x := -p7 + p8) (y := 0) (z := -p7 + p8) (pcN := 21) jIQ_39_20 rfl (by omega) rfl ?_
  refine jT_xlstore_n (v := (1, -p7 + p8)) (LN := [(2, (1, -p7 + p8)), (4, (0, 5)), (0, (4, 0)), (1, (4, 1))]) (pcN := 22) jIQ_39_21 rfl rfl rfl rfl ?_
  refine jT_xiinc (x := 5) (z := 6) (LN := [(4, (0, 6)), (2, (1, -p7 + p8)), (0, (4, 0)), (1, (4, 1))]) (pcN := 25) jIQ_39_22 rfl rfl (by decide) rfl rfl ?_
  refine jT_xgoto (pcN := 5) jIQ_39_25 rfl ?_
  refine jT_xiload (v := (0, 6)) (pcN := 7) jIQ_39_5 rfl rfl rfl ?_
  refine jT_xbipush (k := 6) (pcN := 9) jIQ_39_7 (by decide) rfl ?_
  refine jT_xicT (pcN := 28) jIQ_39_9 rfl (by decide +kernel) rfl ?_
  refine jT_xlload_n (v := (1, -p7 + p8)) (pcN := 29) jIQ_39_28 rfl rfl rfl ?_
  exact jT_ret rfl (by decide) (by show 2 ≤ 2; omega) (by omega) (by omega) ⟨rfl, rfl, rfl⟩
theorem jQ_40_124 {xs : List Int} {d : Nat} {p7 p8 q1 : Int} (h_p7 : (-20) ≤ p7 ∧ p7 ≤ 20) (h_p8 : (-10) ≤ p8 ∧ p8 ≤ 10) (h_q1 : (-60) ≤ q1 ∧ q1 ≤ 60) (g_0 : 0 ≤ (-108917793694) * p7 - 159561683698 * p8 - 68719476736 * q1 - 1) (g_1 : 0 ≤ (-108917793694) * p7 - 159561683700 * p8 - 68719476736 * q1 - 1) (g_2 : 0 ≤ (-108917793696) * p7 - 159561683698 * p8 - 68719476736 * q1 - 1) (g_3 : 0 ≤ (-108917793696) * p7 - 159561683700 * p8 - 68719476736 * q1 - 1) (g_4 : p7 < 0) (g_5 : 0 ≤ p8) (g_6 : q1 < 0) (g_7 : 0 ≤ 108917793695 * p7 + 159561683699 * p8 + 68719476736 * q1 - 1) : jT xs d 40 2 0 [(0, (4, 0)), (1, (4, 1)), (2, (1, -p7 + p8))] [] [jgh, (101, [], [q1, p7, p8, 0, 0, 0])] 0 0 (fun k v hsN => k = 0 ∧ v = (0, 1) ∧ hsN = [jgh, (101, [], [q1, p7, p8, 0, 0, 0])] ++ []) := by
  refine jT_xlload_n (v := (1, -p7 + p8)) (pcN := 1) jIQ_40_0 rfl rfl rfl ?_
  refine jT_adv 1 (pcN := 4) (LN := [(0, (4, 0)), (1, (4, 1)), (2, (1, -p7 + p8))]) (stN := [(1, 16777216), (1, -p7 + p8)]) (hsN := [jgh, (101, [], [q1, p7, p8, 0, 0, 0])]) (c1 := 0) (s1 := 0) (c2 := 0) (s2 := 0) (by exact rfl) ?_ (by omega) (by omega)
  refine jT_lcmp (a := -p7 + p8) (b := 16777216) (z := (-1)) (by rfl) (by rfl) (jwl_idd (by omega) (by omega)) (jwl_idd (by omega) (by omega)) (by rw [decide_eq_false (show ¬ ((16777216 : Int) < -p7 + p8) by omega), decide_eq_false (show ¬ ((-p7 + p8 : Int) = 16777216) by omega)]; rfl) ?_
  refine jT_xifF (t := 25) (pcN := 8) jIQ_40_5 rfl (by decide +kernel) rfl rfl ?_
  refine jT_xaload_n (v := (4, 1)) (pcN := 9) jIQ_40_8 rfl rfl rfl ?_
  refine jT_xiconst (k := 0) (pcN := 10) jIQ_40_9 rfl ?_
  refine jT_lald (x := q1) (a := 1) (j := 0) (fs := []) (X := [q1, p7, p8, 0, 0, 0]) jIQ_40_10 rfl rfl rfl rfl ?_
  refine jT_eq (LN := [(0, (4, 0)), (1, (4, 1)), (2, (1, -p7 + p8))]) (stN := [(1, q1)]) (hsN := [jgh, (101, [], [q1, p7, p8, 0, 0, 0])]) rfl rfl rfl ?_
  refine jT_labs (z := -q1) (by rfl) (by rfl) (by rfl) (by rfl) (by rw [show jwl (q1) = q1 from jwl_idd (by omega) (by omega), decide_eq_true (by omega)]; first | (simp only [cond_true, cond_false]; done) | (simp only [cond_true, cond_false]; omega) | rfl) ?_
  refine jT_adv 1 (pcN := 17) (LN := [(0, (4, 0)), (1, (4, 1)), (2, (1, -p7 + p8))]) (stN := [(1, 16777216), (1, -q1)]) (hsN := [jgh, (101, [], [q1, p7, p8, 0, 0, 0])]) (c1 := 0) (s1 := 0) (c2 := 0) (s2 := 0) (by exact rfl) ?_ (by omega) (by omega)
  refine jT_lcmp (a := -q1) (b := 16777216) (z := (-1)) (by rfl) (by rfl) (jwl_idd (by omega) (by omega)) (jwl_idd (by omega) (by omega)) (by rw [decide_eq_false (show ¬ ((16777216 : Int) < -q1) by omega), decide_eq_false (show ¬ ((-q1 : Int) = 16777216) by omega)]; rfl) ?_
  refine jT_xifF (t := 25) (pcN := 21) jIQ_40_18 rfl (by decide +kernel) rfl rfl ?_
  refine jT_xiconst (k := 1) (pcN := 22) jIQ_40_21 rfl ?_
  refine jT_xgoto (pcN := 26) jIQ_40_22 rfl ?_
  exact jT_ret rfl (by decide) (by show 2 ≤ 2; omega) (by omega) (by omega) ⟨rfl, rfl, rfl⟩
theorem jQ_41_125 {xs : List Int} {d : Nat} {p7 p8 q1 : Int} (h_p7 : (-20) ≤ p7 ∧ p7 ≤ 20) (h_p8 : (-10) ≤ p8 ∧ p8 ≤ 10) (h_q1 : (-60) ≤ q1 ∧ q1 ≤ 60) (g_0 : 0 ≤ (-108917793694) * p7 - 159561683698 * p8 - 68719476736 * q1 - 1) (g_1 : 0 ≤ (-108917793694) * p7 - 159561683700 * p8 - 68719476736 * q1 - 1) (g_2 : 0 ≤ (-108917793696) * p7 - 159561683698 * p8 - 68719476736 * q1 - 1) (g_3 : 0 ≤ (-108917793696) * p7 - 159561683700 * p8 - 68719476736 * q1 - 1) (g_4 : p7 < 0) (g_5 : 0 ≤ p8) (g_6 : q1 < 0) (g_7 : 0 ≤ 108917793695 * p7 + 159561683699 * p8 + 68719476736 * q1 - 1) : jT xs d 41 2 0 [(0, (4, 0)), (1, (4, 1))] [] [jgh, (101, [], [q1, p7, p8, 0, 0, 0])] 0 0 (fun k v hsN => k = 0 ∧ v = (1, 108917793695 * p7 + 159561683699 * p8 + 68719476736 * q1) ∧ hsN = [jgh, (101, [], [q1, p7, p8, 0, 0, 0])] ++ []) := by
  refine jT_xlconst (z := 0) (pcN := 1) jIQ_41_0 rfl rfl ?_
  refine jT_xlstore_n (v := (1, 0)) (LN := [(2, (1, 0)), (0, (4, 0)), (1, (4, 1))]) (pcN := 2) jIQ_41_1 rfl rfl rfl rfl ?_
  refine jT_xiconst (k := 0) (pcN := 3) jIQ_41_2 rfl ?_
  refine jT_xistore (v := (0, 0)) (LN := [(4, (0, 0)), (2, (1, 0)), (0, (4, 0)), (1, (4, 1))]) (pcN := 5) jIQ_41_3 rfl rfl rfl rfl ?_
  refine jT_xiload (v := (0, 0)) (pcN := 7) jIQ_41_5 rfl rfl rfl ?_
  refine jT_xbipush (k := 6) (pcN := 9) jIQ_41_7 (by decide) rfl ?_
  refine jT_xicF (t := 32) (pcN := 12) jIQ_41_9 rfl (by decide +kernel) rfl rfl ?_
  refine jT_xlload_n (v := (1, 0)) (pcN := 13) jIQ_41_12 rfl rfl rfl ?_
  refine jT_xaload_n (v := (4, 1)) (pcN := 14) jIQ_41_13 rfl rfl rfl ?_
  refine jT_xiload (v := (0, 0)) (pcN := 16) jIQ_41_14 rfl rfl rfl ?_
  refine jT_lald (x := q1) (a := 1) (j := 0) (fs := []) (X := [q1, p7, p8, 0, 0, 0]) jIQ_41_16 rfl rfl rfl rfl ?_
  refine jT_eq (LN := [(4, (0, 0)), (2, (1, 0)), (0, (4, 0)), (1, (4, 1))]) (stN := [(1, q1), (1, 0)]) (hsN := [jgh, (101, [], [q1, p7, p8, 0, 0, 0])]) rfl rfl rfl ?_
  refine jT_adv 1 (pcN := 20) (LN := [(4, (0, 0)), (2, (1, 0)), (0, (4, 0)), (1, (4, 1))]) (stN := [(5, 0), (1, q1), (1, 0)]) (hsN := [jgh, (101, [], [q1, p7, p8, 0, 0, 0])]) (c1 := 0) (s1 := 0) (c2 := 0) (s2 := 0) (by exact rfl) ?_ (by omega) (by omega)
  refine jT_xiload (v := (0, 0)) (pcN := 22) jIQ_41_20 rfl rfl rfl ?_
  refine jT_adv 1 (pcN := 23) (LN := [(4, (0, 0)), (2, (1, 0)), (0, (4, 0)), (1, (4, 1))]) (stN := [(1, 68719476736), (1, q1), (1, 0)]) (hsN := [jgh, (101, [], [q1, p7, p8, 0, 0, 0])]) (c1 := 0) (s1 := 0) (c2 := 0) (s2 := 0) (by exact rfl) ?_ (by omega) (by omega)
  refine jT_xlmul (x := q1) (y := 68719476736) (z := 68719476736 * q1) (pcN := 24) jIQ_41_23 rfl (by omega) rfl ?_
  refine jT_xladd (x := 0) (y := 68719476736 * q1) (z := 68719476736 * q1) (pcN := 25) jIQ_41_24 rfl (by omega) rfl ?_
  refine jT_xlstore_n (v := (1, 68719476736 * q1)) (LN := [(2, (1, 68719476736 * q1)), (4, (0, 0)), (0, (4, 0)), (1, (4, 1))]) (pcN := 26) jIQ_41_25 rfl rfl rfl rfl ?_
  refine jT_xiinc (x := 0) (z := 1) (LN := [(4, (0, 1)), (2, (1, 68719476736 * q1)), (0, (4, 0)), (1, (4, 1))]) (pcN := 29) jIQ_41_26 rfl rfl (by decide) rfl rfl ?_
  refine jT_xgoto (pcN := 5) jIQ_41_29 rfl ?_
  refine jT_xiload (v := (0, 1)) (pcN := 7) jIQ_41_5 rfl rfl rfl ?_
  refine jT_xbipush (k := 6) (pcN := 9) jIQ_41_7 (by decide) rfl ?_
  refine jT_xicF (t := 32) (pcN := 12) jIQ_41_9 rfl (by decide +kernel) rfl rfl ?_
  refine jT_xlload_n (v := (1, 68719476736 * q1)) (pcN := 13) jIQ_41_12 rfl rfl rfl ?_
  refine jT_xaload_n (v := (4, 1)) (pcN := 14) jIQ_41_13 rfl rfl rfl ?_
  refine jT_xiload (v := (0, 1)) (pcN := 16) jIQ_41_14 rfl rfl rfl ?_
  refine jT_lald (x := p7) (a := 1) (j := 1) (fs := []) (X := [q1, p7, p8, 0, 0, 0]) jIQ_41_16 rfl rfl rfl rfl ?_
  refine jT_eq (LN := [(4, (0, 1)), (2, (1, 68719476736 * q1)), (0, (4, 0)), (1, (4, 1))]) (stN := [(1, p7), (1, 68719476736 * q1)]) (hsN := [jgh, (101, [], [q1, p7, p8, 0, 0, 0])]) rfl rfl rfl ?_
  refine jT_adv 1 (pcN := 20) (LN := [(4, (0, 1)), (2, (1, 68719476736 * q1)), (0, (4, 0)), (1, (4, 1))]) (stN := [(5, 0), (1, p7), (1, 68719476736 * q1)]) (hsN := [jgh, (101, [], [q1, p7, p8, 0, 0, 0])]) (c1 := 0) (s1 := 0) (c2 := 0) (s2 := 0) (by exact rfl) ?_ (by omega) (by omega)
  refine jT_xiload (v := (0, 1)) (pcN := 22) jIQ_41_20 rfl rfl rfl ?_
  refine jT_adv 1 (pcN := 23) (LN := [(4, (0, 1)), (2, (1, 68719476736 * q1)), (0, (4, 0)), (1, (4, 1))]) (stN := [(1, 108917793695), (1, p7), (1, 68719476736 * q1)]) (hsN := [jgh, (101, [], [q1, p7, p8, 0, 0, 0])]) (c1 := 0) (s1 := 0) (c2 := 0) (s2 := 0) (by exact rfl) ?_ (by omega) (by omega)
  refine jT_xlmul (x := p7) (y := 108917793695) (z := 108917793695 * p7) (pcN := 24) jIQ_41_23 rfl (by omega) rfl ?_
  refine jT_xladd (x := 68719476736 * q1) (y := 108917793695 * p7) (z := 108917793695 * p7 + 68719476736 * q1) (pcN := 25) jIQ_41_24 rfl (by omega) rfl ?_
  refine jT_xlstore_n (v := (1, 108917793695 * p7 + 68719476736 * q1)) (LN := [(2, (1, 108917793695 * p7 + 68719476736 * q1)), (4, (0, 1)), (0, (4, 0)), (1, (4, 1))]) (pcN := 26) jIQ_41_25 rfl rfl rfl rfl ?_
  refine jT_xiinc (x := 1) (z := 2) (LN := [(4, (0, 2)), (2, (1, 108917793695 * p7 + 68719476736 * q1)), (0, (4, 0)), (1, (4, 1))]) (pcN := 29) jIQ_41_26 rfl rfl (by decide) rfl rfl ?_
  refine jT_xgoto (pcN := 5) jIQ_41_29 rfl ?_
  refine jT_xiload (v := (0, 2)) (pcN := 7) jIQ_41_5 rfl rfl rfl ?_
  refine jT_xbipush (k := 6) (pcN := 9) jIQ_41_7 (by decide) rfl ?_
  refine jT_xicF (t := 32) (pcN := 12) jIQ_41_9 rfl (by decide +kernel) rfl rfl ?_
  refine jT_xlload_n (v := (1, 108917793695 * p7 + 68719476736 * q1)) (pcN := 13) jIQ_41_12 rfl rfl rfl ?_
  refine jT_xaload_n (v := (4, 1)) (pcN := 14) jIQ_41_13 rfl rfl rfl ?_
  refine jT_xiload (v := (0, 2)) (pcN := 16) jIQ_41_14 rfl rfl rfl ?_
  refine jT_lald (x := p8) (a := 1) (j := 2) (fs := []) (X := [q1, p7, p8, 0, 0, 0]) jIQ_41_16 rfl rfl rfl rfl ?_
  refine jT_eq (LN := [(4, (0, 2)), (2, (1, 108917793695 * p7 + 68719476736 * q1)), (0, (4, 0)), (1, (4, 1))]) (stN := [(1, p8), (1, 108917793695 * p7 + 68719476736 * q1)]) (hsN := [jgh, (101, [], [q1, p7, p8, 0, 0, 0])]) rfl rfl rfl ?_
  refine jT_adv 1 (pcN := 20) (LN := [(4, (0, 2)), (2, (1, 108917793695 * p7 + 68719476736 * q1)), (0, (4, 0)), (1, (4, 1))]) (stN := [(5, 0), (1, p8), (1, 108917793695 * p7 + 68719476736 * q1)]) (hsN := [jgh, (101, [], [q1, p7, p8, 0, 0, 0])]) (c1 := 0) (s1 := 0) (c2 := 0) (s2 := 0) (by exact rfl) ?_ (by omega) (by omega)
  refine jT_xiload (v := (0, 2)) (pcN := 22) jIQ_41_20 rfl rfl rfl ?_
  refine jT_adv 1 (pcN := 23) (LN := [(4, (0, 2)), (2, (1, 108917793695 * p7 + 68719476736 * q1)), (0, (4, 0)), (1, (4, 1))]) (stN := [(1, 159561683699), (1, p8), (1, 108917793695 * p7 + 68719476736 * q1)]) (hsN := [jgh, (101, [], [q1, p7, p8, 0, 0, 0])]) (c1 := 0) (s1 := 0) (c2 := 0) (s2 := 0) (by exact rfl) ?_ (by omega) (by omega)
  refine jT_xlmul (x := p8) (y := 159561683699) (z := 159561683699 * p8) (pcN := 24) jIQ_41_23 rfl (by omega) rfl ?_
  refine jT_xladd (x := 108917793695 * p7 + 68719476736 * q1) (y := 159561683699 * p8) (z := 108917793695 * p7 + 159561683699 * p8 + 68719476736 * q1) (pcN := 25) jIQ_41_24 rfl (by omega) rfl ?_
  refine jT_xlstore_n (v := (1, 108917793695 * p7 + 159561683699 * p8 + 68719476736 * q1)) (LN := [(2, (1, 108917793695 * p7 + 159561683699 * p8 + 68719476736 * q1)), (4, (0, 2)), (0, (4, 0)), (1, (4, 1))]) (pcN := 26) jIQ_41_25 rfl rfl rfl rfl ?_
  refine jT_xiinc (x := 2) (z := 3) (LN := [(4, (0, 3)), (2, (1, 108917793695 * p7 + 159561683699 * p8 + 68719476736 * q1)), (0, (4, 0)), (1, (4, 1))]) (pcN := 29) jIQ_41_26 rfl rfl (by decide) rfl rfl ?_
  refine jT_xgoto (pcN := 5) jIQ_41_29 rfl ?_
  refine jT_xiload (v := (0, 3)) (pcN := 7) jIQ_41_5 rfl rfl rfl ?_
  refine jT_xbipush (k := 6) (pcN := 9) jIQ_41_7 (by decide) rfl ?_
  refine jT_xicF (t := 32) (pcN := 12) jIQ_41_9 rfl (by decide +kernel) rfl rfl ?_
  refine jT_xlload_n (v := (1, 108917793695 * p7 + 159561683699 * p8 + 68719476736 * q1)) (pcN := 13) jIQ_41_12 rfl rfl rfl ?_
  refine jT_xaload_n (v := (4, 1)) (pcN := 14) jIQ_41_13 rfl rfl rfl ?_
  refine jT_xiload (v := (0, 3)) (pcN := 16) jIQ_41_14 rfl rfl rfl ?_
  refine jT_lald (x := 0) (a := 1) (j := 3) (fs := []) (X := [q1, p7, p8, 0, 0, 0]) jIQ_41_16 rfl rfl rfl rfl ?_
  refine jT_eq (LN := [(4, (0, 3)), (2, (1, 108917793695 * p7 + 159561683699 * p8 + 68719476736 * q1)), (0, (4, 0)), (1, (4, 1))]) (stN := [(1, 0), (1, 108917793695 * p7 + 159561683699 * p8 + 68719476736 * q1)]) (hsN := [jgh, (101, [], [q1, p7, p8, 0, 0, 0])]) rfl rfl rfl ?_
  refine jT_adv 1 (pcN := 20) (LN := [(4, (0, 3)), (2, (1, 108917793695 * p7 + 159561683699 * p8 + 68719476736 * q1)), (0, (4, 0)), (1, (4, 1))]) (stN := [(5, 0), (1, 0), (1, 108917793695 * p7 + 159561683699 * p8 + 68719476736 * q1)]) (hsN := [jgh, (101, [], [q1, p7, p8, 0, 0, 0])]) (c1 := 0) (s1 := 0) (c2 := 0) (s2 := 0) (by exact rfl) ?_ (by omega) (by omega)
  refine jT_xiload (v := (0, 3)) (pcN := 22) jIQ_41_20 rfl rfl rfl ?_
  refine jT_adv 1 (pcN := 23) (LN := [(4, (0, 3)), (2, (1, 108917793695 * p7 + 159561683699 * p8 + 68719476736 * q1)), (0, (4, 0)), (1, (4, 1))]) (stN := [(1, 192919961256), (1, 0), (1, 108917793695 * p7 + 159561683699 * p8 + 68719476736 * q1)]) (hsN := [jgh, (101, [], [q1, p7, p8, 0, 0, 0])]) (c1 := 0) (s1 := 0) (c2 := 0) (s2 := 0) (by exact rfl) ?_ (by omega) (by omega)
  refine jT_xlmul (x := 0) (y := 192919961256) (z := 0) (pcN := 24) jIQ_41_23 rfl (by decide) rfl ?_
  refine jT_xladd (x := 108917793695 * p7 + 159561683699 * p8 + 68719476736 * q1) (y := 0) (z := 108917793695 * p7 + 159561683699 * p8 + 68719476736 * q1) (pcN := 25) jIQ_41_24 rfl (by omega) rfl ?_
  refine jT_xlstore_n (v := (1, 108917793695 * p7 + 159561683699 * p8 + 68719476736 * q1)) (LN := [(2, (1, 108917793695 * p7 + 159561683699 * p8 + 68719476736 * q1)), (4, (0, 3)), (0, (4, 0)), (1, (4, 1))]) (pcN := 26) jIQ_41_25 rfl rfl rfl rfl ?_
  refine jT_xiinc (x := 3) (z := 4) (LN := [(4, (0, 4)), (2, (1, 108917793695 * p7 + 159561683699 * p8 + 68719476736 * q1)), (0, (4, 0)), (1, (4, 1))]) (pcN := 29) jIQ_41_26 rfl rfl (by decide) rfl rfl ?_
  refine jT_xgoto (pcN := 5) jIQ_41_29 rfl ?_
  refine jT_xiload (v := (0, 4)) (pcN := 7) jIQ_41_5 rfl rfl rfl ?_
  refine jT_xbipush (k := 6) (pcN := 9) jIQ_41_7 (by decide) rfl ?_
  refine jT_xicF (t := 32) (pcN := 12) jIQ_41_9 rfl (by decide +kernel) rfl rfl ?_
  refine jT_xlload_n (v := (1, 108917793695 * p7 + 159561683699 * p8 + 68719476736 * q1)) (pcN := 13) jIQ_41_12 rfl rfl rfl ?_
  refine jT_xaload_n (v := (4, 1)) (pcN := 14) jIQ_41_13 rfl rfl rfl ?_
  refine jT_xiload (v := (0, 4)) (pcN := 16) jIQ_41_14 rfl rfl rfl ?_
  refine jT_lald (x := 0) (a := 1) (j := 4) (fs := []) (X := [q1, p7, p8, 0, 0, 0]) jIQ_41_16 rfl rfl rfl rfl ?_
  refine jT_eq (LN := [(4, (0, 4)), (2, (1, 108917793695 * p7 + 159561683699 * p8 + 68719476736 * q1)), (0, (4, 0)), (1, (4, 1))]) (stN := [(1, 0), (1, 108917793695 * p7 + 159561683699 * p8 + 68719476736 * q1)]) (hsN := [jgh, (101, [], [q1, p7, p8, 0, 0, 0])]) rfl rfl rfl ?_
  refine jT_adv 1 (pcN := 20) (LN := [(4, (0, 4)), (2, (1, 108917793695 * p7 + 159561683699 * p8 + 68719476736 * q1)), (0, (4, 0)), (1, (4, 1))]) (stN := [(5, 0), (1, 0), (1, 108917793695 * p7 + 159561683699 * p8 + 68719476736 * q1)]) (hsN := [jgh, (101, [], [q1, p7, p8, 0, 0, 0])]) (c1 := 0) (s1 := 0) (c2 := 0) (s2 := 0) (by exact rfl) ?_ (by omega) (by omega)
  refine jT_xiload (v := (0, 4)) (pcN := 22) jIQ_41_20 rfl rfl rfl ?_
  refine jT_adv 1 (pcN := 23) (LN := [(4, (0, 4)), (2, (1, 108917793695 * p7 + 159561683699 * p8 + 68719476736 * q1)), (0, (4, 0)), (1, (4, 1))]) (stN := [(1, 237730330636), (1, 0), (1, 108917793695 * p7 + 159561683699 * p8 + 68719476736 * q1)]) (hsN := [jgh, (101, [], [q1, p7, p8, 0, 0, 0])]) (c1 := 0) (s1 := 0) (c2 := 0) (s2 := 0) (by exact rfl) ?_ (by omega) (by omega)
  refine jT_xlmul (x := 0) (y := 237730330636) (z := 0) (pcN := 24) jIQ_41_23 rfl (by decide) rfl ?_
  refine jT_xladd (x := 108917793695 * p7 + 159561683699 * p8 + 68719476736 * q1) (y := 0) (z := 108917793695 * p7 + 159561683699 * p8 + 68719476736 * q1) (pcN := 25) jIQ_41_24 rfl (by omega) rfl ?_
  refine jT_xlstore_n (v := (1, 108917793695 * p7 + 159561683699 * p8 + 68719476736 * q1)) (LN := [(2, (1, 108917793695 * p7 + 159561683699 * p8 + 68719476736 * q1)), (4, (0, 4)), (0, (4, 0)), (1, (4, 1))]) (pcN := 26) jIQ_41_25 rfl rfl rfl rfl ?_
  refine jT_xiinc (x := 4) (z := 5) (LN := [(4, (0, 5)), (2, (1, 108917793695 * p7 + 159561683699 * p8 + 68719476736 * q1)), (0, (4, 0)), (1, (4, 1))]) (pcN := 29) jIQ_41_26 rfl rfl (by decide) rfl rfl ?_
  refine jT_xgoto (pcN := 5) jIQ_41_29 rfl ?_
  refine jT_xiload (v := (0, 5)) (pcN := 7) jIQ_41_5 rfl rfl rfl ?_
  refine jT_xbipush (k := 6) (pcN := 9) jIQ_41_7 (by decide) rfl ?_
  refine jT_xicF (t := 32) (pcN := 12) jIQ_41_9 rfl (by decide +kernel) rfl rfl ?_
  refine jT_xlload_n (v := (1, 108917793695 * p7 + 159561683699 * p8 + 68719476736 * q1)) (pcN := 13) jIQ_41_12 rfl rfl rfl ?_
  refine jT_xaload_n (v := (4, 1)) (pcN := 14) jIQ_41_13 rfl rfl rfl ?_
  refine jT_xiload (v := (0, 5)) (pcN := 16) jIQ_41_14 rfl rfl rfl ?_
  refine jT_lald (x := 0) (a := 1) (j := 5) (fs := []) (X := [q1, p7, p8, 0, 0, 0]) jIQ_41_16 rfl rfl rfl rfl ?_
  refine jT_eq (LN := [(4, (0, 5)), (2, (1, 108917793695 * p7 + 159561683699 * p8 + 68719476736 * q1)), (0, (4, 0)), (1, (4, 1))]) (stN := [(1, 0), (1, 108917793695 * p7 + 159561683699 * p8 + 68719476736 * q1)]) (hsN := [jgh, (101, [], [q1, p7, p8, 0, 0, 0])]) rfl rfl rfl ?_
  refine jT_adv 1 (pcN := 20) (LN := [(4, (0, 5)), (2, (1, 108917793695 * p7 + 159561683699 * p8 + 68719476736 * q1)), (0, (4, 0)), (1, (4, 1))]) (stN := [(5, 0), (1, 0), (1, 108917793695 * p7 + 159561683699 * p8 + 68719476736 * q1)]) (hsN := [jgh, (101, [], [q1, p7, p8, 0, 0, 0])]) (c1 := 0) (s1 := 0) (c2 := 0) (s2 := 0) (by exact rfl) ?_ (by omega) (by omega)
  refine jT_xiload (v := (0, 5)) (pcN := 22) jIQ_41_20 rfl rfl rfl ?_
  refine jT_adv 1 (pcN := 23) (LN := [(4, (0, 5)), (2, (1, 108917793695 * p7 + 159561683699 * p8 + 68719476736 * q1)), (0, (4, 0)), (1, (4, 1))]) (stN := [(1, 254292281123), (1, 0), (1, 108917793695 * p7 + 159561683699 * p8 + 68719476736 * q1)]) (hsN := [jgh, (101, [], [q1, p7, p8, 0, 0, 0])]) (c1 := 0) (s1 := 0) (c2 := 0) (s2 := 0) (by exact rfl) ?_ (by omega) (by omega)
  refine jT_xlmul (x := 0) (y := 254292281123) (z := 0) (pcN := 24) jIQ_41_23 rfl (by decide) rfl ?_
  refine jT_xladd (x := 108917793695 * p7 + 159561683699 * p8 + 68719476736 * q1) (y := 0) (z := 108917793695 * p7 + 159561683699 * p8 + 68719476736 * q1) (pcN := 25) jIQ_41_24 rfl (by omega) rfl ?_
  refine jT_xlstore_n (v := (1, 108917793695 * p7 + 159561683699 * p8 + 68719476736 * q1)) (LN := [(2, (1, 108917793695 * p7 + 159561683699 * p8 + 68719476736 * q1)), (4, (0, 5)), (0, (4, 0)), (1, (4, 1))]) (pcN := 26) jIQ_41_25 rfl rfl rfl rfl ?_
  refine jT_xiinc (x := 5) (z := 6) (LN := [(4, (0, 6)), (2, (1, 108917793695 * p7 + 159561683699 * p8 + 68719476736 * q1)), (0, (4, 0)), (1, (4, 1))]) (pcN := 29) jIQ_41_26 rfl rfl (by decide) rfl rfl ?_
  refine jT_xgoto (pcN := 5) jIQ_41_29 rfl ?_
  refine jT_xiload (v := (0, 6)) (pcN := 7) jIQ_41_5 rfl rfl rfl ?_
  refine jT_xbipush (k := 6) (pcN := 9) jIQ_41_7 (by decide) rfl ?_
  refine jT_xicT (pcN := 32) jIQ_41_9 rfl (by decide +kernel) rfl ?_
  refine jT_xlload_n (v := (1, 108917793695 * p7 + 159561683699 * p8 + 68719476736 * q1)) (pcN := 33) jIQ_41_32 rfl rfl rfl ?_
  exact jT_ret rfl (by decide) (by show 2 ≤ 2; omega) (by omega) (by omega) ⟨rfl, rfl, rfl⟩
theorem jQ_39_126 {xs : List Int} {d : Nat} {p7 p8 q1 : Int} (h_p7 : (-20) ≤ p7 ∧ p7 ≤ 20) (h_p8 : (-10) ≤ p8 ∧ p8 ≤ 10) (h_q1 : (-60) ≤ q1 ∧ q1 ≤ 60) (g_0 : 0 ≤ (-108917793694) * p7 - 159561683698 * p8 - 68719476736 * q1 - 1) (g_1 : 0 ≤ (-108917793694) * p7 - 159561683700 * p8 - 68719476736 * q1 - 1) (g_2 : 0 ≤ (-108917793696) * p7 - 159561683698 * p8 - 68719476736 * q1 - 1) (g_3 : 0 ≤ (-108917793696) * p7 - 159561683700 * p8 - 68719476736 * q1 - 1) (g_4 : p7 < 0) (g_5 : 0 ≤ p8) (g_6 : 0 ≤ q1) : jT xs d 39 2 0 [(0, (4, 0)), (1, (4, 1))] [] [jgh, (101, [], [q1, p7, p8, 0, 0, 0])] 0 0 (fun k v hsN => k = 0 ∧ v = (1, -p7 + p8) ∧ hsN = [jgh, (101, [], [q1, p7, p8, 0, 0, 0])] ++ []) := by
  refine jT_xlconst (z := 0) (pcN := 1) jIQ_39_0 rfl rfl ?_
  refine jT_xlstore_n (v := (1, 0)) (LN := [(2, (1, 0)), (0, (4, 0)), (1, (4, 1))]) (pcN := 2) jIQ_39_1 rfl rfl rfl rfl ?_
  refine jT_xiconst (k := 1) (pcN := 3) jIQ_39_2 rfl ?_
  refine jT_xistore (v := (0, 1)) (LN := [(4, (0, 1)), (2, (1, 0)), (0, (4, 0)), (1, (4, 1))]) (pcN := 5) jIQ_39_3 rfl rfl rfl rfl ?_
  refine jT_xiload (v := (0, 1)) (pcN := 7) jIQ_39_5 rfl rfl rfl ?_
  refine jT_xbipush (k := 6) (pcN := 9) jIQ_39_7 (by decide) rfl ?_
  refine jT_xicF (t := 28) (pcN := 12) jIQ_39_9 rfl (by decide +kernel) rfl rfl ?_
  refine jT_xlload_n (v := (1, 0)) (pcN := 13) jIQ_39_12 rfl rfl rfl ?_
  refine jT_xaload_n (v := (4, 1)) (pcN := 14) jIQ_39_13 rfl rfl rfl ?_
  refine jT_xiload (v := (0, 1)) (pcN := 16) jIQ_39_14 rfl rfl rfl ?_
  refine jT_lald (x := p7) (a := 1) (j := 1) (fs := []) (X := [q1, p7, p8, 0, 0, 0]) jIQ_39_16 rfl rfl rfl rfl ?_
  refine jT_eq (LN := [(4, (0, 1)), (2, (1, 0)), (0, (4, 0)), (1, (4, 1))]) (stN := [(1, p7), (1, 0)]) (hsN := [jgh, (101, [], [q1, p7, p8, 0, 0, 0])]) rfl rfl rfl ?_
  refine jT_labs (z := -p7) (by rfl) (by rfl) (by rfl) (by rfl) (by rw [show jwl (p7) = p7 from jwl_idd (by omega) (by omega), decide_eq_true (by omega)]; first | (simp only [cond_true, cond_false]; done) | (simp only [cond_true, cond_false]; omega) | rfl) ?_
  refine jT_xladd (x := 0) (y := -p7) (z := -p7) (pcN := 21) jIQ_39_20 rfl (by omega) rfl ?_
  refine jT_xlstore_n (v := (1, -p7)) (LN := [(2, (1, -p7)), (4, (0, 1)), (0, (4, 0)), (1, (4, 1))]) (pcN := 22) jIQ_39_21 rfl rfl rfl rfl ?_
  refine jT_xiinc (x := 1) (z := 2) (LN := [(4, (0, 2)), (2, (1, -p7)), (0, (4, 0)), (1, (4, 1))]) (pcN := 25) jIQ_39_22 rfl rfl (by decide) rfl rfl ?_
  refine jT_xgoto (pcN := 5) jIQ_39_25 rfl ?_
  refine jT_xiload (v := (0, 2)) (pcN := 7) jIQ_39_5 rfl rfl rfl ?_
  refine jT_xbipush (k := 6) (pcN := 9) jIQ_39_7 (by decide) rfl ?_
  refine jT_xicF (t := 28) (pcN := 12) jIQ_39_9 rfl (by decide +kernel) rfl rfl ?_
  refine jT_xlload_n (v := (1, -p7)) (pcN := 13) jIQ_39_12 rfl rfl rfl ?_
  refine jT_xaload_n (v := (4, 1)) (pcN := 14) jIQ_39_13 rfl rfl rfl ?_
  refine jT_xiload (v := (0, 2)) (pcN := 16) jIQ_39_14 rfl rfl rfl ?_
  refine jT_lald (x := p8) (a := 1) (j := 2) (fs := []) (X := [q1, p7, p8, 0, 0, 0]) jIQ_39_16 rfl rfl rfl rfl ?_
  refine jT_eq (LN := [(4, (0, 2)), (2, (1, -p7)), (0, (4, 0)), (1, (4, 1))]) (stN := [(1, p8), (1, -p7)]) (hsN := [jgh, (101, [], [q1, p7, p8, 0, 0, 0])]) rfl rfl rfl ?_
  refine jT_labs (z := p8) (by rfl) (by rfl) (by rfl) (by rfl) (by rw [show jwl (p8) = p8 from jwl_idd (by omega) (by omega), decide_eq_false (by omega)]; first | (simp only [cond_true, cond_false]; done) | (simp only [cond_true, cond_false]; omega) | rfl) ?_
  refine jT_xladd (x := -p7) (y := p8) (z := -p7 + p8) (pcN := 21) jIQ_39_20 rfl (by omega) rfl ?_
  refine jT_xlstore_n (v := (1, -p7 + p8)) (LN := [(2, (1, -p7 + p8)), (4, (0, 2)), (0, (4, 0)), (1, (4, 1))]) (pcN := 22) jIQ_39_21 rfl rfl rfl rfl ?_
  refine jT_xiinc (x := 2) (z := 3) (LN := [(4, (0, 3)), (2, (1, -p7 + p8)), (0, (4, 0)), (1, (4, 1))]) (pcN := 25) jIQ_39_22 rfl rfl (by decide) rfl rfl ?_
  refine jT_xgoto (pcN := 5) jIQ_39_25 rfl ?_
  refine jT_xiload (v := (0, 3)) (pcN := 7) jIQ_39_5 rfl rfl rfl ?_
  refine jT_xbipush (k := 6) (pcN := 9) jIQ_39_7 (by decide) rfl ?_
  refine jT_xicF (t := 28) (pcN := 12) jIQ_39_9 rfl (by decide +kernel) rfl rfl ?_
  refine jT_xlload_n (v := (1, -p7 + p8)) (pcN := 13) jIQ_39_12 rfl rfl rfl ?_
  refine jT_xaload_n (v := (4, 1)) (pcN := 14) jIQ_39_13 rfl rfl rfl ?_
  refine jT_xiload (v := (0, 3)) (pcN := 16) jIQ_39_14 rfl rfl rfl ?_
  refine jT_lald (x := 0) (a := 1) (j := 3) (fs := []) (X := [q1, p7, p8, 0, 0, 0]) jIQ_39_16 rfl rfl rfl rfl ?_
  refine jT_eq (LN := [(4, (0, 3)), (2, (1, -p7 + p8)), (0, (4, 0)), (1, (4, 1))]) (stN := [(1, 0), (1, -p7 + p8)]) (hsN := [jgh, (101, [], [q1, p7, p8, 0, 0, 0])]) rfl rfl rfl ?_
  refine jT_labs (z := 0) (by rfl) (by rfl) (by rfl) (by rfl) (by decide +kernel) ?_
  refine jT_xladd (x := -p7 + p8) (y := 0) (z := -p7 + p8) (pcN := 21) jIQ_39_20 rfl (by omega) rfl ?_
  refine jT_xlstore_n (v := (1, -p7 + p8)) (LN := [(2, (1, -p7 + p8)), (4, (0, 3)), (0, (4, 0)), (1, (4, 1))]) (pcN := 22) jIQ_39_21 rfl rfl rfl rfl ?_
  refine jT_xiinc (x := 3) (z := 4) (LN := [(4, (0, 4)), (2, (1, -p7 + p8)), (0, (4, 0)), (1, (4, 1))]) (pcN := 25) jIQ_39_22 rfl rfl (by decide) rfl rfl ?_
  refine jT_xgoto (pcN := 5) jIQ_39_25 rfl ?_
  refine jT_xiload (v := (0, 4)) (pcN := 7) jIQ_39_5 rfl rfl rfl ?_
  refine jT_xbipush (k := 6) (pcN := 9) jIQ_39_7 (by decide) rfl ?_
  refine jT_xicF (t := 28) (pcN := 12) jIQ_39_9 rfl (by decide +kernel) rfl rfl ?_
  refine jT_xlload_n (v := (1, -p7 + p8)) (pcN := 13) jIQ_39_12 rfl rfl rfl ?_
  refine jT_xaload_n (v := (4, 1)) (pcN := 14) jIQ_39_13 rfl rfl rfl ?_
  refine jT_xiload (v := (0, 4)) (pcN := 16) jIQ_39_14 rfl rfl rfl ?_
  refine jT_lald (x := 0) (a := 1) (j := 4) (fs := []) (X := [q1, p7, p8, 0, 0, 0]) jIQ_39_16 rfl rfl rfl rfl ?_
  refine jT_eq (LN := [(4, (0, 4)), (2, (1, -p7 + p8)), (0, (4, 0)), (1, (4, 1))]) (stN := [(1, 0), (1, -p7 + p8)]) (hsN := [jgh, (101, [], [q1, p7, p8, 0, 0, 0])]) rfl rfl rfl ?_
  refine jT_labs (z := 0) (by rfl) (by rfl) (by rfl) (by rfl) (by decide +kernel) ?_
  refine jT_xladd (x := -p7 + p8) (y := 0) (z := -p7 + p8) (pcN := 21) jIQ_39_20 rfl (by omega) rfl ?_
  refine jT_xlstore_n (v := (1, -p7 + p8)) (LN := [(2, (1, -p7 + p8)), (4, (0, 4)), (0, (4, 0)), (1, (4, 1))]) (pcN := 22) jIQ_39_21 rfl rfl rfl rfl ?_
  refine jT_xiinc (x := 4) (z := 5) (LN := [(4, (0, 5)), (2, (1, -p7 + p8)), (0, (4, 0)), (1, (4, 1))]) (pcN := 25) jIQ_39_22 rfl rfl (by decide) rfl rfl ?_
  refine jT_xgoto (pcN := 5) jIQ_39_25 rfl ?_
  refine jT_xiload (v := (0, 5)) (pcN := 7) jIQ_39_5 rfl rfl rfl ?_
  refine jT_xbipush (k := 6) (pcN := 9) jIQ_39_7 (by decide) rfl ?_
  refine jT_xicF (t := 28) (pcN := 12) jIQ_39_9 rfl (by decide +kernel) rfl rfl ?_
  refine jT_xlload_n (v := (1, -p7 + p8)) (pcN := 13) jIQ_39_12 rfl rfl rfl ?_
  refine jT_xaload_n (v := (4, 1)) (pcN := 14) jIQ_39_13 rfl rfl rfl ?_
  refine jT_xiload (v := (0, 5)) (pcN := 16) jIQ_39_14 rfl rfl rfl ?_
  refine jT_lald (x := 0) (a := 1) (j := 5) (fs := []) (X := [q1, p7, p8, 0, 0, 0]) jIQ_39_16 rfl rfl rfl rfl ?_
  refine jT_eq (LN := [(4, (0, 5)), (2, (1, -p7 + p8)), (0, (4, 0)), (1, (4, 1))]) (stN := [(1, 0), (1, -p7 + p8)]) (hsN := [jgh, (101, [], [q1, p7, p8, 0, 0, 0])]) rfl rfl rfl ?_
  refine jT_labs (z := 0) (by rfl) (by rfl) (by rfl) (by rfl) (by decide +kernel) ?_
  refine jT_xladd (x := -p7 + p8) (y := 0) (z := -p7 + p8) (pcN := 21) jIQ_39_20 rfl (by omega) rfl ?_
  refine jT_xlstore_n (v := (1, -p7 + p8)) (LN := [(2, (1, -p7 + p8)), (4, (0, 5)), (0, (4, 0)), (1, (4, 1))]) (pcN := 22) jIQ_39_21 rfl rfl rfl rfl ?_
  refine jT_xiinc (x := 5) (z := 6) (LN := [(4, (0, 6)), (2, (1, -p7 + p8)), (0, (4, 0)), (1, (4, 1))]) (pcN := 25) jIQ_39_22 rfl rfl (by decide) rfl rfl ?_
  refine jT_xgoto (pcN := 5) jIQ_39_25 rfl ?_
  refine jT_xiload (v := (0, 6)) (pcN := 7) jIQ_39_5 rfl rfl rfl ?_
  refine jT_xbipush (k := 6) (pcN := 9) jIQ_39_7 (by decide) rfl ?_
  refine jT_xicT (pcN := 28) jIQ_39_9 rfl (by decide +kernel) rfl ?_
  refine jT_xlload_n (v := (1, -p7 + p8)) (pcN := 29) jIQ_39_28 rfl rfl rfl ?_
  exact jT_ret rfl (by decide) (by show 2 ≤ 2; omega) (by omega) (by omega) ⟨rfl, rfl, rfl⟩
theorem jQ_40_127 {xs : List Int} {d : Nat} {p7 p8 q1 : Int} (h_p7 : (-20) ≤ p7 ∧ p7 ≤ 20) (h_p8 : (-10) ≤ p8 ∧ p8 ≤ 10) (h_q1 : (-60) ≤ q1 ∧ q1 ≤ 60) (g_0 : 0 ≤ (-108917793694) * p7 - 159561683698 * p8 - 68719476736 * q1 - 1) (g_1 : 0 ≤ (-108917793694) * p7 - 159561683700 * p8 - 68719476736 * q1 - 1) (g_2 : 0 ≤ (-108917793696) * p7 - 159561683698 * p8 - 68719476736 * q1 - 1) (g_3 : 0 ≤ (-108917793696) * p7 - 159561683700 * p8 - 68719476736 * q1 - 1) (g_4 : p7 < 0) (g_5 : 0 ≤ p8) (g_6 : 0 ≤ q1) : jT xs d 40 2 0 [(0, (4, 0)), (1, (4, 1)), (2, (1, -p7 + p8))] [] [jgh, (101, [], [q1, p7, p8, 0, 0, 0])] 0 0 (fun k v hsN => k = 0 ∧ v = (0, 1) ∧ hsN = [jgh, (101, [], [q1, p7, p8, 0, 0, 0])] ++ []) := by
  refine jT_xlload_n (v := (1, -p7 + p8)) (pcN := 1) jIQ_40_0 rfl rfl rfl ?_
  refine jT_adv 1 (pcN := 4) (LN := [(0, (4, 0)), (1, (4, 1)), (2, (1, -p7 + p8))]) (stN := [(1, 16777216), (1, -p7 + p8)]) (hsN := [jgh, (101, [], [q1, p7, p8, 0, 0, 0])]) (c1 := 0) (s1 := 0) (c2 := 0) (s2 := 0) (by exact rfl) ?_ (by omega) (by omega)
  refine jT_lcmp (a := -p7 + p8) (b := 16777216) (z := (-1)) (by rfl) (by rfl) (jwl_idd (by omega) (by omega)) (jwl_idd (by omega) (by omega)) (by rw [decide_eq_false (show ¬ ((16777216 : Int) < -p7 + p8) by omega), decide_eq_false (show ¬ ((-p7 + p8 : Int) = 16777216) by omega)]; rfl) ?_
  refine jT_xifF (t := 25) (pcN := 8) jIQ_40_5 rfl (by decide +kernel) rfl rfl ?_
  refine jT_xaload_n (v := (4, 1)) (pcN := 9) jIQ_40_8 rfl rfl rfl ?_
  refine jT_xiconst (k := 0) (pcN := 10) jIQ_40_9 rfl ?_
  refine jT_lald (x := q1) (a := 1) (j := 0) (fs := []) (X := [q1, p7, p8, 0, 0, 0]) jIQ_40_10 rfl rfl rfl rfl ?_
  refine jT_eq (LN := [(0, (4, 0)), (1, (4, 1)), (2, (1, -p7 + p8))]) (stN := [(1, q1)]) (hsN := [jgh, (101, [], [q1, p7, p8, 0, 0, 0])]) rfl rfl rfl ?_
  refine jT_labs (z := q1) (by rfl) (by rfl) (by rfl) (by rfl) (by rw [show jwl (q1) = q1 from jwl_idd (by omega) (by omega), decide_eq_false (by omega)]; first | (simp only [cond_true, cond_false]; done) | (simp only [cond_true, cond_false]; omega) | rfl) ?_
  refine jT_adv 1 (pcN := 17) (LN := [(0, (4, 0)), (1, (4, 1)), (2, (1, -p7 + p8))]) (stN := [(1, 16777216), (1, q1)]) (hsN := [jgh, (101, [], [q1, p7, p8, 0, 0, 0])]) (c1 := 0) (s1 := 0) (c2 := 0) (s2 := 0) (by exact rfl) ?_ (by omega) (by omega)
  refine jT_lcmp (a := q1) (b := 16777216) (z := (-1)) (by rfl) (by rfl) (jwl_idd (by omega) (by omega)) (jwl_idd (by omega) (by omega)) (by rw [decide_eq_false (show ¬ ((16777216 : Int) < q1) by omega), decide_eq_false (show ¬ ((q1 : Int) = 16777216) by omega)]; rfl) ?_
  refine jT_xifF (t := 25) (pcN := 21) jIQ_40_18 rfl (by decide +kernel) rfl rfl ?_
  refine jT_xiconst (k := 1) (pcN := 22) jIQ_40_21 rfl ?_
  refine jT_xgoto (pcN := 26) jIQ_40_22 rfl ?_
  exact jT_ret rfl (by decide) (by show 2 ≤ 2; omega) (by omega) (by omega) ⟨rfl, rfl, rfl⟩
theorem jQ_41_128 {xs : List Int} {d : Nat} {p7 p8 q1 : Int} (h_p7 : (-20) ≤ p7 ∧ p7 ≤ 20) (h_p8 : (-10) ≤ p8 ∧ p8 ≤ 10) (h_q1 : (-60) ≤ q1 ∧ q1 ≤ 60) (g_0 : 0 ≤ (-108917793694) * p7 - 159561683698 * p8 - 68719476736 * q1 - 1) (g_1 : 0 ≤ (-108917793694) * p7 - 159561683700 * p8 - 68719476736 * q1 - 1) (g_2 : 0 ≤ (-108917793696) * p7 - 159561683698 * p8 - 68719476736 * q1 - 1) (g_3 : 0 ≤ (-108917793696) * p7 - 159561683700 * p8 - 68719476736 * q1 - 1) (g_4 : p7 < 0) (g_5 : 0 ≤ p8) (g_6 : 0 ≤ q1) : jT xs d 41 2 0 [(0, (4, 0)), (1, (4, 1))] [] [jgh, (101, [], [q1, p7, p8, 0, 0, 0])] 0 0 (fun k v hsN => k = 0 ∧ v = (1, 108917793695 * p7 + 159561683699 * p8 + 68719476736 * q1) ∧ hsN = [jgh, (101, [], [q1, p7, p8, 0, 0, 0])] ++ []) := by
  refine jT_xlconst (z := 0) (pcN := 1) jIQ_41_0 rfl rfl ?_
  refine jT_xlstore_n (v := (1, 0)) (LN := [(2, (1, 0)), (0, (4, 0)), (1, (4, 1))]) (pcN := 2) jIQ_41_1 rfl rfl rfl rfl ?_
  refine jT_xiconst (k := 0) (pcN := 3) jIQ_41_2 rfl ?_
  refine jT_xistore (v := (0, 0)) (LN := [(4, (0, 0)), (2, (1, 0)), (0, (4, 0)), (1, (4, 1))]) (pcN := 5) jIQ_41_3 rfl rfl rfl rfl ?_
  refine jT_xiload (v := (0, 0)) (pcN := 7) jIQ_41_5 rfl rfl rfl ?_
  refine jT_xbipush (k := 6) (pcN := 9) jIQ_41_7 (by decide) rfl ?_
  refine jT_xicF (t := 32) (pcN := 12) jIQ_41_9 rfl (by decide +kernel) rfl rfl ?_
  refine jT_xlload_n (v := (1, 0)) (pcN := 13) jIQ_41_12 rfl rfl rfl ?_
  refine jT_xaload_n (v := (4, 1)) (pcN := 14) jIQ_41_13 rfl rfl rfl ?_
  refine jT_xiload (v := (0, 0)) (pcN := 16) jIQ_41_14 rfl rfl rfl ?_
  refine jT_lald (x := q1) (a := 1) (j := 0) (fs := []) (X := [q1, p7, p8, 0, 0, 0]) jIQ_41_16 rfl rfl rfl rfl ?_
  refine jT_eq (LN := [(4, (0, 0)), (2, (1, 0)), (0, (4, 0)), (1, (4, 1))]) (stN := [(1, q1), (1, 0)]) (hsN := [jgh, (101, [], [q1, p7, p8, 0, 0, 0])]) rfl rfl rfl ?_
  refine jT_adv 1 (pcN := 20) (LN := [(4, (0, 0)), (2, (1, 0)), (0, (4, 0)), (1, (4, 1))]) (stN := [(5, 0), (1, q1), (1, 0)]) (hsN := [jgh, (101, [], [q1, p7, p8, 0, 0, 0])]) (c1 := 0) (s1 := 0) (c2 := 0) (s2 := 0) (by exact rfl) ?_ (by omega) (by omega)
  refine jT_xiload (v := (0, 0)) (pcN := 22) jIQ_41_20 rfl rfl rfl ?_
  refine jT_adv 1 (pcN := 23) (LN := [(4, (0, 0)), (2, (1, 0)), (0, (4, 0)), (1, (4, 1))]) (stN := [(1, 68719476736), (1, q1), (1, 0)]) (hsN := [jgh, (101, [], [q1, p7, p8, 0, 0, 0])]) (c1 := 0) (s1 := 0) (c2 := 0) (s2 := 0) (by exact rfl) ?_ (by omega) (by omega)
  refine jT_xlmul (x := q1) (y := 68719476736) (z := 68719476736 * q1) (pcN := 24) jIQ_41_23 rfl (by omega) rfl ?_
  refine jT_xladd (x := 0) (y := 68719476736 * q1) (z := 68719476736 * q1) (pcN := 25) jIQ_41_24 rfl (by omega) rfl ?_
  refine jT_xlstore_n (v := (1, 68719476736 * q1)) (LN := [(2, (1, 68719476736 * q1)), (4, (0, 0)), (0, (4, 0)), (1, (4, 1))]) (pcN := 26) jIQ_41_25 rfl rfl rfl rfl ?_
  refine jT_xiinc (x := 0) (z := 1) (LN := [(4, (0, 1)), (2, (1, 68719476736 * q1)), (0, (4, 0)), (1, (4, 1))]) (pcN := 29) jIQ_41_26 rfl rfl (by decide) rfl rfl ?_
  refine jT_xgoto (pcN := 5) jIQ_41_29 rfl ?_
  refine jT_xiload (v := (0, 1)) (pcN := 7) jIQ_41_5 rfl rfl rfl ?_
  refine jT_xbipush (k := 6) (pcN := 9) jIQ_41_7 (by decide) rfl ?_
  refine jT_xicF (t := 32) (pcN := 12) jIQ_41_9 rfl (by decide +kernel) rfl rfl ?_
  refine jT_xlload_n (v := (1, 68719476736 * q1)) (pcN := 13) jIQ_41_12 rfl rfl rfl ?_
  refine jT_xaload_n (v := (4, 1)) (pcN := 14) jIQ_41_13 rfl rfl rfl ?_
  refine jT_xiload (v := (0, 1)) (pcN := 16) jIQ_41_14 rfl rfl rfl ?_
  refine jT_lald (x := p7) (a := 1) (j := 1) (fs := []) (X := [q1, p7, p8, 0, 0, 0]) jIQ_41_16 rfl rfl rfl rfl ?_
  refine jT_eq (LN := [(4, (0, 1)), (2, (1, 68719476736 * q1)), (0, (4, 0)), (1, (4, 1))]) (stN := [(1, p7), (1, 68719476736 * q1)]) (hsN := [jgh, (101, [], [q1, p7, p8, 0, 0, 0])]) rfl rfl rfl ?_
  refine jT_adv 1 (pcN := 20) (LN := [(4, (0, 1)), (2, (1, 68719476736 * q1)), (0, (4, 0)), (1, (4, 1))]) (stN := [(5, 0), (1, p7), (1, 68719476736 * q1)]) (hsN := [jgh, (101, [], [q1, p7, p8, 0, 0, 0])]) (c1 := 0) (s1 := 0) (c2 := 0) (s2 := 0) (by exact rfl) ?_ (by omega) (by omega)
  refine jT_xiload (v := (0, 1)) (pcN := 22) jIQ_41_20 rfl rfl rfl ?_
  refine jT_adv 1 (pcN := 23) (LN := [(4, (0, 1)), (2, (1, 68719476736 * q1)), (0, (4, 0)), (1, (4, 1))]) (stN := [(1, 108917793695), (1, p7), (1, 68719476736 * q1)]) (hsN := [jgh, (101, [], [q1, p7, p8, 0, 0, 0])]) (c1 := 0) (s1 := 0) (c2 := 0) (s2 := 0) (by exact rfl) ?_ (by omega) (by omega)
  refine jT_xlmul (x := p7) (y := 108917793695) (z := 108917793695 * p7) (pcN := 24) jIQ_41_23 rfl (by omega) rfl ?_
  refine jT_xladd (x := 68719476736 * q1) (y := 108917793695 * p7) (z := 108917793695 * p7 + 68719476736 * q1) (pcN := 25) jIQ_41_24 rfl (by omega) rfl ?_
  refine jT_xlstore_n (v := (1, 108917793695 * p7 + 68719476736 * q1)) (LN := [(2, (1, 108917793695 * p7 + 68719476736 * q1)), (4, (0, 1)), (0, (4, 0)), (1, (4, 1))]) (pcN := 26) jIQ_41_25 rfl rfl rfl rfl ?_
  refine jT_xiinc (x := 1) (z := 2) (LN := [(4, (0, 2)), (2, (1, 108917793695 * p7 + 68719476736 * q1)), (0, (4, 0)), (1, (4, 1))]) (pcN := 29) jIQ_41_26 rfl rfl (by decide) rfl rfl ?_
  refine jT_xgoto (pcN := 5) jIQ_41_29 rfl ?_
  refine jT_xiload (v := (0, 2)) (pcN := 7) jIQ_41_5 rfl rfl rfl ?_
  refine jT_xbipush (k := 6) (pcN := 9) jIQ_41_7 (by decide) rfl ?_
  refine jT_xicF (t := 32) (pcN := 12) jIQ_41_9 rfl (by decide +kernel) rfl rfl ?_
  refine jT_xlload_n (v := (1, 108917793695 * p7 + 68719476736 * q1)) (pcN := 13) jIQ_41_12 rfl rfl rfl ?_
  refine jT_xaload_n (v := (4, 1)) (pcN := 14) jIQ_41_13 rfl rfl rfl ?_
  refine jT_xiload (v := (0, 2)) (pcN := 16) jIQ_41_14 rfl rfl rfl ?_
  refine jT_lald (x := p8) (a := 1) (j := 2) (fs := []) (X := [q1, p7, p8, 0, 0, 0]) jIQ_41_16 rfl rfl rfl rfl ?_
  refine jT_eq (LN := [(4, (0, 2)), (2, (1, 108917793695 * p7 + 68719476736 * q1)), (0, (4, 0)), (1, (4, 1))]) (stN := [(1, p8), (1, 108917793695 * p7 + 68719476736 * q1)]) (hsN := [jgh, (101, [], [q1, p7, p8, 0, 0, 0])]) rfl rfl rfl ?_
  refine jT_adv 1 (pcN := 20) (LN := [(4, (0, 2)), (2, (1, 108917793695 * p7 + 68719476736 * q1)), (0, (4, 0)), (1, (4, 1))]) (stN := [(5, 0), (1, p8), (1, 108917793695 * p7 + 68719476736 * q1)]) (hsN := [jgh, (101, [], [q1, p7, p8, 0, 0, 0])]) (c1 := 0) (s1 := 0) (c2 := 0) (s2 := 0) (by exact rfl) ?_ (by omega) (by omega)
  refine jT_xiload (v := (0, 2)) (pcN := 22) jIQ_41_20 rfl rfl rfl ?_
  refine jT_adv 1 (pcN := 23) (LN := [(4, (0, 2)), (2, (1, 108917793695 * p7 + 68719476736 * q1)), (0, (4, 0)), (1, (4, 1))]) (stN := [(1, 159561683699), (1, p8), (1, 108917793695 * p7 + 68719476736 * q1)]) (hsN := [jgh, (101, [], [q1, p7, p8, 0, 0, 0])]) (c1 := 0) (s1 := 0) (c2 := 0) (s2 := 0) (by exact rfl) ?_ (by omega) (by omega)
  refine jT_xlmul (x := p8) (y := 159561683699) (z := 159561683699 * p8) (pcN := 24) jIQ_41_23 rfl (by omega) rfl ?_
  refine jT_xladd (x := 108917793695 * p7 + 68719476736 * q1) (y := 159561683699 * p8) (z := 108917793695 * p7 + 159561683699 * p8 + 68719476736 * q1) (pcN := 25) jIQ_41_24 rfl (by omega) rfl ?_
  refine jT_xlstore_n (v := (1, 108917793695 * p7 + 159561683699 * p8 + 68719476736 * q1)) (LN := [(2, (1, 108917793695 * p7 + 159561683699 * p8 + 68719476736 * q1)), (4, (0, 2)), (0, (4, 0)), (1, (4, 1))]) (pcN := 26) jIQ_41_25 rfl rfl rfl rfl ?_
  refine jT_xiinc (x := 2) (z := 3) (LN := [(4, (0, 3)), (2, (1, 108917793695 * p7 + 159561683699 * p8 + 68719476736 * q1)), (0, (4, 0)), (1, (4, 1))]) (pcN := 29) jIQ_41_26 rfl rfl (by decide) rfl rfl ?_
  refine jT_xgoto (pcN := 5) jIQ_41_29 rfl ?_
  refine jT_xiload (v := (0, 3)) (pcN := 7) jIQ_41_5 rfl rfl rfl ?_
  refine jT_xbipush (k := 6) (pcN := 9) jIQ_41_7 (by decide) rfl ?_
  refine jT_xicF (t := 32) (pcN := 12) jIQ_41_9 rfl (by decide +kernel) rfl rfl ?_
  refine jT_xlload_n (v := (1, 108917793695 * p7 + 159561683699 * p8 + 68719476736 * q1)) (pcN := 13) jIQ_41_12 rfl rfl rfl ?_
  refine jT_xaload_n (v := (4, 1)) (pcN := 14) jIQ_41_13 rfl rfl rfl ?_
  refine jT_xiload (v := (0, 3)) (pcN := 16) jIQ_41_14 rfl rfl rfl ?_
  refine jT_lald (x := 0) (a := 1) (j := 3) (fs := []) (X := [q1, p7, p8, 0, 0, 0]) jIQ_41_16 rfl rfl rfl rfl ?_
  refine jT_eq (LN := [(4, (0, 3)), (2, (1, 108917793695 * p7 + 159561683699 * p8 + 68719476736 * q1)), (0, (4, 0)), (1, (4, 1))]) (stN := [(1, 0), (1, 108917793695 * p7 + 159561683699 * p8 + 68719476736 * q1)]) (hsN := [jgh, (101, [], [q1, p7, p8, 0, 0, 0])]) rfl rfl rfl ?_
  refine jT_adv 1 (pcN := 20) (LN := [(4, (0, 3)), (2, (1, 108917793695 * p7 + 159561683699 * p8 + 68719476736 * q1)), (0, (4, 0)), (1, (4, 1))]) (stN := [(5, 0), (1, 0), (1, 108917793695 * p7 + 159561683699 * p8 + 68719476736 * q1)]) (hsN := [jgh, (101, [], [q1, p7, p8, 0, 0, 0])]) (c1 := 0) (s1 := 0) (c2 := 0) (s2 := 0) (by exact rfl) ?_ (by omega) (by omega)
  refine jT_xiload (v := (0, 3)) (pcN := 22) jIQ_41_20 rfl rfl rfl ?_
  refine jT_adv 1 (pcN := 23) (LN := [(4, (0, 3)), (2, (1, 108917793695 * p7 + 159561683699 * p8 + 68719476736 * q1)), (0, (4, 0)), (1, (4, 1))]) (stN := [(1, 192919961256), (1, 0), (1, 108917793695 * p7 + 159561683699 * p8 + 68719476736 * q1)]) (hsN := [jgh, (101, [], [q1, p7, p8, 0, 0, 0])]) (c1 := 0) (s1 := 0) (c2 := 0) (s2 := 0) (by exact rfl) ?_ (by omega) (by omega)
  refine jT_xlmul (x := 0) (y := 192919961256) (z := 0) (pcN := 24) jIQ_41_23 rfl (by decide) rfl ?_
  refine jT_xladd (x := 108917793695 * p7 + 159561683699 * p8 + 68719476736 * q1) (y := 0) (z := 108917793695 * p7 + 159561683699 * p8 + 68719476736 * q1) (pcN := 25) jIQ_41_24 rfl (by omega) rfl ?_
  refine jT_xlstore_n (v := (1, 108917793695 * p7 + 159561683699 * p8 + 68719476736 * q1)) (LN := [(2, (1, 108917793695 * p7 + 159561683699 * p8 + 68719476736 * q1)), (4, (0, 3)), (0, (4, 0)), (1, (4, 1))]) (pcN := 26) jIQ_41_25 rfl rfl rfl rfl ?_
  refine jT_xiinc (x := 3) (z := 4) (LN := [(4, (0, 4)), (2, (1, 108917793695 * p7 + 159561683699 * p8 + 68719476736 * q1)), (0, (4, 0)), (1, (4, 1))]) (pcN := 29) jIQ_41_26 rfl rfl (by decide) rfl rfl ?_
  refine jT_xgoto (pcN := 5) jIQ_41_29 rfl ?_
  refine jT_xiload (v := (0, 4)) (pcN := 7) jIQ_41_5 rfl rfl rfl ?_
  refine jT_xbipush (k := 6) (pcN := 9) jIQ_41_7 (by decide) rfl ?_
  refine jT_xicF (t := 32) (pcN := 12) jIQ_41_9 rfl (by decide +kernel) rfl rfl ?_
  refine jT_xlload_n (v := (1, 108917793695 * p7 + 159561683699 * p8 + 68719476736 * q1)) (pcN := 13) jIQ_41_12 rfl rfl rfl ?_
  refine jT_xaload_n (v := (4, 1)) (pcN := 14) jIQ_41_13 rfl rfl rfl ?_
  refine jT_xiload (v := (0, 4)) (pcN := 16) jIQ_41_14 rfl rfl rfl ?_
  refine jT_lald (x := 0) (a := 1) (j := 4) (fs := []) (X := [q1, p7, p8, 0, 0, 0]) jIQ_41_16 rfl rfl rfl rfl ?_
  refine jT_eq (LN := [(4, (0, 4)), (2, (1, 108917793695 * p7 + 159561683699 * p8 + 68719476736 * q1)), (0, (4, 0)), (1, (4, 1))]) (stN := [(1, 0), (1, 108917793695 * p7 + 159561683699 * p8 + 68719476736 * q1)]) (hsN := [jgh, (101, [], [q1, p7, p8, 0, 0, 0])]) rfl rfl rfl ?_
  refine jT_adv 1 (pcN := 20) (LN := [(4, (0, 4)), (2, (1, 108917793695 * p7 + 159561683699 * p8 + 68719476736 * q1)), (0, (4, 0)), (1, (4, 1))]) (stN := [(5, 0), (1, 0), (1, 108917793695 * p7 + 159561683699 * p8 + 68719476736 * q1)]) (hsN := [jgh, (101, [], [q1, p7, p8, 0, 0, 0])]) (c1 := 0) (s1 := 0) (c2 := 0) (s2 := 0) (by exact rfl) ?_ (by omega) (by omega)
  refine jT_xiload (v := (0, 4)) (pcN := 22) jIQ_41_20 rfl rfl rfl ?_
  refine jT_adv 1 (pcN := 23) (LN := [(4, (0, 4)), (2, (1, 108917793695 * p7 + 159561683699 * p8 + 68719476736 * q1)), (0, (4, 0)), (1, (4, 1))]) (stN := [(1, 237730330636), (1, 0), (1, 108917793695 * p7 + 159561683699 * p8 + 68719476736 * q1)]) (hsN := [jgh, (101, [], [q1, p7, p8, 0, 0, 0])]) (c1 := 0) (s1 := 0) (c2 := 0) (s2 := 0) (by exact rfl) ?_ (by omega) (by omega)
  refine jT_xlmul (x := 0) (y := 237730330636) (z := 0) (pcN := 24) jIQ_41_23 rfl (by decide) rfl ?_
  refine jT_xladd (x := 108917793695 * p7 + 159561683699 * p8 + 68719476736 * q1) (y := 0) (z := 108917793695 * p7 + 159561683699 * p8 + 68719476736 * q1) (pcN := 25) jIQ_41_24 rfl (by omega) rfl ?_
  refine jT_xlstore_n (v := (1, 108917793695 * p7 + 159561683699 * p8 + 68719476736 * q1)) (LN := [(2, (1, 108917793695 * p7 + 159561683699 * p8 + 68719476736 * q1)), (4, (0, 4)), (0, (4, 0)), (1, (4, 1))]) (pcN := 26) jIQ_41_25 rfl rfl rfl rfl ?_
  refine jT_xiinc (x := 4) (z := 5) (LN := [(4, (0, 5)), (2, (1, 108917793695 * p7 + 159561683699 * p8 + 68719476736 * q1)), (0, (4, 0)), (1, (4, 1))]) (pcN := 29) jIQ_41_26 rfl rfl (by decide) rfl rfl ?_
  refine jT_xgoto (pcN := 5) jIQ_41_29 rfl ?_
  refine jT_xiload (v := (0, 5)) (pcN := 7) jIQ_41_5 rfl rfl rfl ?_
  refine jT_xbipush (k := 6) (pcN := 9) jIQ_41_7 (by decide) rfl ?_
  refine jT_xicF (t := 32) (pcN := 12) jIQ_41_9 rfl (by decide +kernel) rfl rfl ?_
  refine jT_xlload_n (v := (1, 108917793695 * p7 + 159561683699 * p8 + 68719476736 * q1)) (pcN := 13) jIQ_41_12 rfl rfl rfl ?_
  refine jT_xaload_n (v := (4, 1)) (pcN := 14) jIQ_41_13 rfl rfl rfl ?_
  refine jT_xiload (v := (0, 5)) (pcN := 16) jIQ_41_14 rfl rfl rfl ?_
  refine jT_lald (x := 0) (a := 1) (j := 5) (fs := []) (X := [q1, p7, p8, 0, 0, 0]) jIQ_41_16 rfl rfl rfl rfl ?_
  refine jT_eq (LN := [(4, (0, 5)), (2, (1, 108917793695 * p7 + 159561683699 * p8 + 68719476736 * q1)), (0, (4, 0)), (1, (4, 1))]) (stN := [(1, 0), (1, 108917793695 * p7 + 159561683699 * p8 + 68719476736 * q1)]) (hsN := [jgh, (101, [], [q1, p7, p8, 0, 0, 0])]) rfl rfl rfl ?_
  refine jT_adv 1 (pcN := 20) (LN := [(4, (0, 5)), (2, (1, 108917793695 * p7 + 159561683699 * p8 + 68719476736 * q1)), (0, (4, 0)), (1, (4, 1))]) (stN := [(5, 0), (1, 0), (1, 108917793695 * p7 + 159561683699 * p8 + 68719476736 * q1)]) (hsN := [jgh, (101, [], [q1, p7, p8, 0, 0, 0])]) (c1 := 0) (s1 := 0) (c2 := 0) (s2 := 0) (by exact rfl) ?_ (by omega) (by omega)
  refine jT_xiload (v := (0, 5)) (pcN := 22) jIQ_41_20 rfl rfl rfl ?_
  refine jT_adv 1 (pcN := 23) (LN := [(4, (0, 5)), (2, (1, 108917793695 * p7 + 159561683699 * p8 + 68719476736 * q1)), (0, (4, 0)), (1, (4, 1))]) (stN := [(1, 254292281123), (1, 0), (1, 108917793695 * p7 + 159561683699 * p8 + 68719476736 * q1)]) (hsN := [jgh, (101, [], [q1, p7, p8, 0, 0, 0])]) (c1 := 0) (s1 := 0) (c2 := 0) (s2 := 0) (by exact rfl) ?_ (by omega) (by omega)
  refine jT_xlmul (x := 0) (y := 254292281123) (z := 0) (pcN := 24) jIQ_41_23 rfl (by decide) rfl ?_
  refine jT_xladd (x := 108917793695 * p7 + 159561683699 * p8 + 68719476736 * q1) (y := 0) (z := 108917793695 * p7 + 159561683699 * p8 + 68719476736 * q1) (pcN := 25) jIQ_41_24 rfl (by omega) rfl ?_
  refine jT_xlstore_n (v := (1, 108917793695 * p7 + 159561683699 * p8 + 68719476736 * q1)) (LN := [(2, (1, 108917793695 * p7 + 159561683699 * p8 + 68719476736 * q1)), (4, (0, 5)), (0, (4, 0)), (1, (4, 1))]) (pcN := 26) jIQ_41_25 rfl rfl rfl rfl ?_
  refine jT_xiinc (x := 5) (z := 6) (LN := [(4, (0, 6)), (2, (1, 108917793695 * p7 + 159561683699 * p8 + 68719476736 * q1)), (0, (4, 0)), (1, (4, 1))]) (pcN := 29) jIQ_41_26 rfl rfl (by decide) rfl rfl ?_
  refine jT_xgoto (pcN := 5) jIQ_41_29 rfl ?_
  refine jT_xiload (v := (0, 6)) (pcN := 7) jIQ_41_5 rfl rfl rfl ?_
  refine jT_xbipush (k := 6) (pcN := 9) jIQ_41_7 (by decide) rfl ?_
  refine jT_xicT (pcN := 32) jIQ_41_9 rfl (by decide +kernel) rfl ?_
  refine jT_xlload_n (v := (1, 108917793695 * p7 + 159561683699 * p8 + 68719476736 * q1)) (pcN := 33) jIQ_41_32 rfl rfl rfl ?_
  exact jT_ret rfl (by decide) (by show 2 ≤ 2; omega) (by omega) (by omega) ⟨rfl, rfl, rfl⟩
theorem jQ_39_129 {xs : List Int} {d : Nat} {p7 p8 q1 : Int} (h_p7 : (-20) ≤ p7 ∧ p7 ≤ 20) (h_p8 : (-10) ≤ p8 ∧ p8 ≤ 10) (h_q1 : (-60) ≤ q1 ∧ q1 ≤ 60) (g_0 : 0 ≤ (-108917793694) * p7 - 159561683698 * p8 - 68719476736 * q1 - 1) (g_1 : 0 ≤ (-108917793694) * p7 - 159561683700 * p8 - 68719476736 * q1 - 1) (g_2 : 0 ≤ (-108917793696) * p7 - 159561683698 * p8 - 68719476736 * q1 - 1) (g_3 : 0 ≤ (-108917793696) * p7 - 159561683700 * p8 - 68719476736 * q1 - 1) (g_4 : p7 < 0) (g_5 : 0 ≤ p8) (g_6 : 0 ≤ q1) (g_7 : 108917793695 * p7 + 159561683699 * p8 + 68719476736 * q1 - 1 < 0) : jT xs d 39 2 0 [(0, (4, 0)), (1, (4, 1))] [] [jgh, (101, [], [q1, p7, p8, 0, 0, 0])] 0 0 (fun k v hsN => k = 0 ∧ v = (1, -p7 + p8) ∧ hsN = [jgh, (101, [], [q1, p7, p8, 0, 0, 0])] ++ []) := by
  refine jT_xlconst (z := 0) (pcN := 1) jIQ_39_0 rfl rfl ?_
  refine jT_xlstore_n (v := (1, 0)) (LN := [(2, (1, 0)), (0, (4, 0)), (1, (4, 1))]) (pcN := 2) jIQ_39_1 rfl rfl rfl rfl ?_
  refine jT_xiconst (k := 1) (pcN := 3) jIQ_39_2 rfl ?_
  refine jT_xistore (v := (0, 1)) (LN := [(4, (0, 1)), (2, (1, 0)), (0, (4, 0)), (1, (4, 1))]) (pcN := 5) jIQ_39_3 rfl rfl rfl rfl ?_
  refine jT_xiload (v := (0, 1)) (pcN := 7) jIQ_39_5 rfl rfl rfl ?_
  refine jT_xbipush (k := 6) (pcN := 9) jIQ_39_7 (by decide) rfl ?_
  refine jT_xicF (t := 28) (pcN := 12) jIQ_39_9 rfl (by decide +kernel) rfl rfl ?_
  refine jT_xlload_n (v := (1, 0)) (pcN := 13) jIQ_39_12 rfl rfl rfl ?_
  refine jT_xaload_n (v := (4, 1)) (pcN := 14) jIQ_39_13 rfl rfl rfl ?_
  refine jT_xiload (v := (0, 1)) (pcN := 16) jIQ_39_14 rfl rfl rfl ?_
  refine jT_lald (x := p7) (a := 1) (j := 1) (fs := []) (X := [q1, p7, p8, 0, 0, 0]) jIQ_39_16 rfl rfl rfl rfl ?_
  refine jT_eq (LN := [(4, (0, 1)), (2, (1, 0)), (0, (4, 0)), (1, (4, 1))]) (stN := [(1, p7), (1, 0)]) (hsN := [jgh, (101, [], [q1, p7, p8, 0, 0, 0])]) rfl rfl rfl ?_
  refine jT_labs (z := -p7) (by rfl) (by rfl) (by rfl) (by rfl) (by rw [show jwl (p7) = p7 from jwl_idd (by omega) (by omega), decide_eq_true (by omega)]; first | (simp only [cond_true, cond_false]; done) | (simp only [cond_true, cond_false]; omega) | rfl) ?_
  refine jT_xladd (x := 0) (y := -p7) (z := -p7) (pcN := 21) jIQ_39_20 rfl (by omega) rfl ?_
  refine jT_xlstore_n (v := (1, -p7)) (LN := [(2, (1, -p7)), (4, (0, 1)), (0, (4, 0)), (1, (4, 1))]) (pcN := 22) jIQ_39_21 rfl rfl rfl rfl ?_
  refine jT_xiinc (x := 1) (z := 2) (LN := [(4, (0, 2)), (2, (1, -p7)), (0, (4, 0)), (1, (4, 1))]) (pcN := 25) jIQ_39_22 rfl rfl (by decide) rfl rfl ?_
  refine jT_xgoto (pcN := 5) jIQ_39_25 rfl ?_
  refine jT_xiload (v := (0, 2)) (pcN := 7) jIQ_39_5 rfl rfl rfl ?_
  refine jT_xbipush (k := 6) (pcN := 9) jIQ_39_7 (by decide) rfl ?_
  refine jT_xicF (t := 28) (pcN := 12) jIQ_39_9 rfl (by decide +kernel) rfl rfl ?_
  refine jT_xlload_n (v := (1, -p7)) (pcN := 13) jIQ_39_12 rfl rfl rfl ?_
  refine jT_xaload_n (v := (4, 1)) (pcN := 14) jIQ_39_13 rfl rfl rfl ?_
  refine jT_xiload (v := (0, 2)) (pcN := 16) jIQ_39_14 rfl rfl rfl ?_
  refine jT_lald (x := p8) (a := 1) (j := 2) (fs := []) (X := [q1, p7, p8, 0, 0, 0]) jIQ_39_16 rfl rfl rfl rfl ?_
  refine jT_eq (LN := [(4, (0, 2)), (2, (1, -p7)), (0, (4, 0)), (1, (4, 1))]) (stN := [(1, p8), (1, -p7)]) (hsN := [jgh, (101, [], [q1, p7, p8, 0, 0, 0])]) rfl rfl rfl ?_
  refine jT_labs (z := p8) (by rfl) (by rfl) (by rfl) (by rfl) (by rw [show jwl (p8) = p8 from jwl_idd (by omega) (by omega), decide_eq_false (by omega)]; first | (simp only [cond_true, cond_false]; done) | (simp only [cond_true, cond_false]; omega) | rfl) ?_
  refine jT_xladd (x := -p7) (y := p8) (z := -p7 + p8) (pcN := 21) jIQ_39_20 rfl (by omega) rfl ?_
  refine jT_xlstore_n (v := (1, -p7 + p8)) (LN := [(2, (1, -p7 + p8)), (4, (0, 2)), (0, (4, 0)), (1, (4, 1))]) (pcN := 22) jIQ_39_21 rfl rfl rfl rfl ?_
  refine jT_xiinc (x := 2) (z := 3) (LN := [(4, (0, 3)), (2, (1, -p7 + p8)), (0, (4, 0)), (1, (4, 1))]) (pcN := 25) jIQ_39_22 rfl rfl (by decide) rfl rfl ?_
  refine jT_xgoto (pcN := 5) jIQ_39_25 rfl ?_
  refine jT_xiload (v := (0, 3)) (pcN := 7) jIQ_39_5 rfl rfl rfl ?_
  refine jT_xbipush (k := 6) (pcN := 9) jIQ_39_7 (by decide) rfl ?_
  refine jT_xicF (t := 28) (pcN := 12) jIQ_39_9 rfl (by decide +kernel) rfl rfl ?_
  refine jT_xlload_n (v := (1, -p7 + p8)) (pcN := 13) jIQ_39_12 rfl rfl rfl ?_
  refine jT_xaload_n (v := (4, 1)) (pcN := 14) jIQ_39_13 rfl rfl rfl ?_
  refine jT_xiload (v := (0, 3)) (pcN := 16) jIQ_39_14 rfl rfl rfl ?_
  refine jT_lald (x := 0) (a := 1) (j := 3) (fs := []) (X := [q1, p7, p8, 0, 0, 0]) jIQ_39_16 rfl rfl rfl rfl ?_
  refine jT_eq (LN := [(4, (0, 3)), (2, (1, -p7 + p8)), (0, (4, 0)), (1, (4, 1))]) (stN := [(1, 0), (1, -p7 + p8)]) (hsN := [jgh, (101, [], [q1, p7, p8, 0, 0, 0])]) rfl rfl rfl ?_
  refine jT_labs (z := 0) (by rfl) (by rfl) (by rfl) (by rfl) (by decide +kernel) ?_
  refine jT_xladd (x := -p7 + p8) (y := 0) (z := -p7 + p8) (pcN := 21) jIQ_39_20 rfl (by omega) rfl ?_
  refine jT_xlstore_n (v := (1, -p7 + p8)) (LN := [(2, (1, -p7 + p8)), (4, (0, 3)), (0, (4, 0)), (1, (4, 1))]) (pcN := 22) jIQ_39_21 rfl rfl rfl rfl ?_
  refine jT_xiinc (x := 3) (z := 4) (LN := [(4, (0, 4)), (2, (1, -p7 + p8)), (0, (4, 0)), (1, (4, 1))]) (pcN := 25) jIQ_39_22 rfl rfl (by decide) rfl rfl ?_
  refine jT_xgoto (pcN := 5) jIQ_39_25 rfl ?_
  refine jT_xiload (v := (0, 4)) (pcN := 7) jIQ_39_5 rfl rfl rfl ?_
  refine jT_xbipush (k := 6) (pcN := 9) jIQ_39_7 (by decide) rfl ?_
  refine jT_xicF (t := 28) (pcN := 12) jIQ_39_9 rfl (by decide +kernel) rfl rfl ?_
  refine jT_xlload_n (v := (1, -p7 + p8)) (pcN := 13) jIQ_39_12 rfl rfl rfl ?_
  refine jT_xaload_n (v := (4, 1)) (pcN := 14) jIQ_39_13 rfl rfl rfl ?_
  refine jT_xiload (v := (0, 4)) (pcN := 16) jIQ_39_14 rfl rfl rfl ?_
  refine jT_lald (x := 0) (a := 1) (j := 4) (fs := []) (X := [q1, p7, p8, 0, 0, 0]) jIQ_39_16 rfl rfl rfl rfl ?_
  refine jT_eq (LN := [(4, (0, 4)), (2, (1, -p7 + p8)), (0, (4, 0)), (1, (4, 1))]) (stN := [(1, 0), (1, -p7 + p8)]) (hsN := [jgh, (101, [], [q1, p7, p8, 0, 0, 0])]) rfl rfl rfl ?_
  refine jT_labs (z := 0) (by rfl) (by rfl) (by rfl) (by rfl) (by decide +kernel) ?_
  refine jT_xladd (x := -p7 + p8) (y := 0) (z := -p7 + p8) (pcN := 21) jIQ_39_20 rfl (by omega) rfl ?_
  refine jT_xlstore_n (v := (1, -p7 + p8)) (LN := [(2, (1, -p7 + p8)), (4, (0, 4)), (0, (4, 0)), (1, (4, 1))]) (pcN := 22) jIQ_39_21 rfl rfl rfl rfl ?_
  refine jT_xiinc (x := 4) (z := 5) (LN := [(4, (0, 5)), (2, (1, -p7 + p8)), (0, (4, 0)), (1, (4, 1))]) (pcN := 25) jIQ_39_22 rfl rfl (by decide) rfl rfl ?_
  refine jT_xgoto (pcN := 5) jIQ_39_25 rfl ?_
  refine jT_xiload (v := (0, 5)) (pcN := 7) jIQ_39_5 rfl rfl rfl ?_
  refine jT_xbipush (k := 6) (pcN := 9) jIQ_39_7 (by decide) rfl ?_
  refine jT_xicF (t := 28) (pcN := 12) jIQ_39_9 rfl (by decide +kernel) rfl rfl ?_
  refine jT_xlload_n (v := (1, -p7 + p8)) (pcN := 13) jIQ_39_12 rfl rfl rfl ?_
  refine jT_xaload_n (v := (4, 1)) (pcN := 14) jIQ_39_13 rfl rfl rfl ?_
  refine jT_xiload (v := (0, 5)) (pcN := 16) jIQ_39_14 rfl rfl rfl ?_
  refine jT_lald (x := 0) (a := 1) (j := 5) (fs := []) (X := [q1, p7, p8, 0, 0, 0]) jIQ_39_16 rfl rfl rfl rfl ?_
  refine jT_eq (LN := [(4, (0, 5)), (2, (1, -p7 + p8)), (0, (4, 0)), (1, (4, 1))]) (stN := [(1, 0), (1, -p7 + p8)]) (hsN := [jgh, (101, [], [q1, p7, p8, 0, 0, 0])]) rfl rfl rfl ?_
  refine jT_labs (z := 0) (by rfl) (by rfl) (by rfl) (by rfl) (by decide +kernel) ?_
  refine jT_xladd (x := -p7 + p8) (y := 0) (z := -p7 + p8) (pcN := 21) jIQ_39_20 rfl (by omega) rfl ?_
  refine jT_xlstore_n (v := (1, -p7 + p8)) (LN := [(2, (1, -p7 + p8)), (4, (0, 5)), (0, (4, 0)), (1, (4, 1))]) (pcN := 22) jIQ_39_21 rfl rfl rfl rfl ?_
  refine jT_xiinc (x := 5) (z := 6) (LN := [(4, (0, 6)), (2, (1, -p7 + p8)), (0, (4, 0)), (1, (4, 1))]) (pcN := 25) jIQ_39_22 rfl rfl (by decide) rfl rfl ?_
  refine jT_xgoto (pcN := 5) jIQ_39_25 rfl ?_
  refine jT_xiload (v := (0, 6)) (pcN := 7) jIQ_39_5 rfl rfl rfl ?_
  refine jT_xbipush (k := 6) (pcN := 9) jIQ_39_7 (by decide) rfl ?_
  refine jT_xicT (pcN := 28) jIQ_39_9 rfl (by decide +kernel) rfl ?_
  refine jT_xlload_n (v := (1, -p7 + p8)) (pcN := 29) jIQ_39_28 rfl rfl rfl ?_
  exact jT_ret rfl (by decide) (by show 2 ≤ 2; omega) (by omega) (by omega) ⟨rfl, rfl, rfl⟩
theorem jQ_40_130 {xs : List Int} {d : Nat} {p7 p8 q1 : Int} (h_p7 : (-20) ≤ p7 ∧ p7 ≤ 20) (h_p8 : (-10) ≤ p8 ∧ p8 ≤ 10) (h_q1 : (-60) ≤ q1 ∧ q1 ≤ 60) (g_0 : 0 ≤ (-108917793694) * p7 - 159561683698 * p8 - 68719476736 * q1 - 1) (g_1 : 0 ≤ (-108917793694) * p7 - 159561683700 * p8 - 68719476736 * q1 - 1) (g_2 : 0 ≤ (-108917793696) * p7 - 159561683698 * p8 - 68719476736 * q1 - 1) (g_3 : 0 ≤ (-108917793696) * p7 - 159561683700 * p8 - 68719476736 * q1 - 1) (g_4 : p7 < 0) (g_5 : 0 ≤ p8) (g_6 : 0 ≤ q1) (g_7 : 108917793695 * p7 + 159561683699 * p8 + 68719476736 * q1 - 1 < 0) : jT xs d 40 2 0 [(0, (4, 0)), (1, (4, 1)), (2, (1, -p7 + p8))] [] [jgh, (101, [], [q1, p7, p8, 0, 0, 0])] 0 0 (fun k v hsN => k = 0 ∧ v = (0, 1) ∧ hsN = [jgh, (101, [], [q1, p7, p8, 0, 0, 0])] ++ []) := by
  refine jT_xlload_n (v := (1, -p7 + p8)) (pcN := 1) jIQ_40_0 rfl rfl rfl ?_
  refine jT_adv 1 (pcN := 4) (LN := [(0, (4, 0)), (1, (4, 1)), (2, (1, -p7 + p8))]) (stN := [(1, 16777216), (1, -p7 + p8)]) (hsN := [jgh, (101, [], [q1, p7, p8, 0, 0, 0])]) (c1 := 0) (s1 := 0) (c2 := 0) (s2 := 0) (by exact rfl) ?_ (by omega) (by omega)
  refine jT_lcmp (a := -p7 + p8) (b := 16777216) (z := (-1)) (by rfl) (by rfl) (jwl_idd (by omega) (by omega)) (jwl_idd (by omega) (by omega)) (by rw [decide_eq_false (show ¬ ((16777216 : Int) < -p7 + p8) by omega), decide_eq_false (show ¬ ((-p7 + p8 : Int) = 16777216) by omega)]; rfl) ?_
  refine jT_xifF (t := 25) (pcN := 8) jIQ_40_5 rfl (by decide +kernel) rfl rfl ?_
  refine jT_xaload_n (v := (4, 1)) (pcN := 9) jIQ_40_8 rfl rfl rfl ?_
  refine jT_xiconst (k := 0) (pcN := 10) jIQ_40_9 rfl ?_
  refine jT_lald (x := q1) (a := 1) (j := 0) (fs := []) (X := [q1, p7, p8, 0, 0, 0]) jIQ_40_10 rfl rfl rfl rfl ?_
  refine jT_eq (LN := [(0, (4, 0)), (1, (4, 1)), (2, (1, -p7 + p8))]) (stN := [(1, q1)]) (hsN := [jgh, (101, [], [q1, p7, p8, 0, 0, 0])]) rfl rfl rfl ?_
  refine jT_labs (z := q1) (by rfl) (by rfl) (by rfl) (by rfl) (by rw [show jwl (q1) = q1 from jwl_idd (by omega) (by omega), decide_eq_false (by omega)]; first | (simp only [cond_true, cond_false]; done) | (simp only [cond_true, cond_false]; omega) | rfl) ?_
  refine jT_adv 1 (pcN := 17) (LN := [(0, (4, 0)), (1, (4, 1)), (2, (1, -p7 + p8))]) (stN := [(1, 16777216), (1, q1)]) (hsN := [jgh, (101, [], [q1, p7, p8, 0, 0, 0])]) (c1 := 0) (s1 := 0) (c2 := 0) (s2 := 0) (by exact rfl) ?_ (by omega) (by omega)
  refine jT_lcmp (a := q1) (b := 16777216) (z := (-1)) (by rfl) (by rfl) (jwl_idd (by omega) (by omega)) (jwl_idd (by omega) (by omega)) (by rw [decide_eq_false (show ¬ ((16777216 : Int) < q1) by omega), decide_eq_false (show ¬ ((q1 : Int) = 16777216) by omega)]; rfl) ?_
  refine jT_xifF (t := 25) (pcN := 21) jIQ_40_18 rfl (by decide +kernel) rfl rfl ?_
  refine jT_xiconst (k := 1) (pcN := 22) jIQ_40_21 rfl ?_
  refine jT_xgoto (pcN := 26) jIQ_40_22 rfl ?_
  exact jT_ret rfl (by decide) (by show 2 ≤ 2; omega) (by omega) (by omega) ⟨rfl, rfl, rfl⟩
theorem jQ_41_131 {xs : List Int} {d : Nat} {p7 p8 q1 : Int} (h_p7 : (-20) ≤ p7 ∧ p7 ≤ 20) (h_p8 : (-10) ≤ p8 ∧ p8 ≤ 10) (h_q1 : (-60) ≤ q1 ∧ q1 ≤ 60) (g_0 : 0 ≤ (-108917793694) * p7 - 159561683698 * p8 - 68719476736 * q1 - 1) (g_1 : 0 ≤ (-108917793694) * p7 - 159561683700 * p8 - 68719476736 * q1 - 1) (g_2 : 0 ≤ (-108917793696) * p7 - 159561683698 * p8 - 68719476736 * q1 - 1) (g_3 : 0 ≤ (-108917793696) * p7 - 159561683700 * p8 - 68719476736 * q1 - 1) (g_4 : p7 < 0) (g_5 : 0 ≤ p8) (g_6 : 0 ≤ q1) (g_7 : 108917793695 * p7 + 159561683699 * p8 + 68719476736 * q1 - 1 < 0) : jT xs d 41 2 0 [(0, (4, 0)), (1, (4, 1))] [] [jgh, (101, [], [q1, p7, p8, 0, 0, 0])] 0 0 (fun k v hsN => k = 0 ∧ v = (1, 108917793695 * p7 + 159561683699 * p8 + 68719476736 * q1) ∧ hsN = [jgh, (101, [], [q1, p7, p8, 0, 0, 0])] ++ []) := by
  refine jT_xlconst (z := 0) (pcN := 1) jIQ_41_0 rfl rfl ?_
  refine jT_xlstore_n (v := (1, 0)) (LN := [(2, (1, 0)), (0, (4, 0)), (1, (4, 1))]) (pcN := 2) jIQ_41_1 rfl rfl rfl rfl ?_
  refine jT_xiconst (k := 0) (pcN := 3) jIQ_41_2 rfl ?_
  refine jT_xistore (v := (0, 0)) (LN := [(4, (0, 0)), (2, (1, 0)), (0, (4, 0)), (1, (4, 1))]) (pcN := 5) jIQ_41_3 rfl rfl rfl rfl ?_
  refine jT_xiload (v := (0, 0)) (pcN := 7) jIQ_41_5 rfl rfl rfl ?_
  refine jT_xbipush (k := 6) (pcN := 9) jIQ_41_7 (by decide) rfl ?_
  refine jT_xicF (t := 32) (pcN := 12) jIQ_41_9 rfl (by decide +kernel) rfl rfl ?_
  refine jT_xlload_n (v := (1, 0)) (pcN := 13) jIQ_41_12 rfl rfl rfl ?_
  refine jT_xaload_n (v := (4, 1)) (pcN := 14) jIQ_41_13 rfl rfl rfl ?_
  refine jT_xiload (v := (0, 0)) (pcN := 16) jIQ_41_14 rfl rfl rfl ?_
  refine jT_lald (x := q1) (a := 1) (j := 0) (fs := []) (X := [q1, p7, p8, 0, 0, 0]) jIQ_41_16 rfl rfl rfl rfl ?_
  refine jT_eq (LN := [(4, (0, 0)), (2, (1, 0)), (0, (4, 0)), (1, (4, 1))]) (stN := [(1, q1), (1, 0)]) (hsN := [jgh, (101, [], [q1, p7, p8, 0, 0, 0])]) rfl rfl rfl ?_
  refine jT_adv 1 (pcN := 20) (LN := [(4, (0, 0)), (2, (1, 0)), (0, (4, 0)), (1, (4, 1))]) (stN := [(5, 0), (1, q1), (1, 0)]) (hsN := [jgh, (101, [], [q1, p7, p8, 0, 0, 0])]) (c1 := 0) (s1 := 0) (c2 := 0) (s2 := 0) (by exact rfl) ?_ (by omega) (by omega)
  refine jT_xiload (v := (0, 0)) (pcN := 22) jIQ_41_20 rfl rfl rfl ?_
  refine jT_adv 1 (pcN := 23) (LN := [(4, (0, 0)), (2, (1, 0)), (0, (4, 0)), (1, (4, 1))]) (stN := [(1, 68719476736), (1, q1), (1, 0)]) (hsN := [jgh, (101, [], [q1, p7, p8, 0, 0, 0])]) (c1 := 0) (s1 := 0) (c2 := 0) (s2 := 0) (by exact rfl) ?_ (by omega) (by omega)
  refine jT_xlmul (x := q1) (y := 68719476736) (z := 68719476736 * q1) (pcN := 24) jIQ_41_23 rfl (by omega) rfl ?_
  refine jT_xladd (x := 0) (y := 68719476736 * q1) (z := 68719476736 * q1) (pcN := 25) jIQ_41_24 rfl (by omega) rfl ?_
  refine jT_xlstore_n (v := (1, 68719476736 * q1)) (LN := [(2, (1, 68719476736 * q1)), (4, (0, 0)), (0, (4, 0)), (1, (4, 1))]) (pcN := 26) jIQ_41_25 rfl rfl rfl rfl ?_
  refine jT_xiinc (x := 0) (z := 1) (LN := [(4, (0, 1)), (2, (1, 68719476736 * q1)), (0, (4, 0)), (1, (4, 1))]) (pcN := 29) jIQ_41_26 rfl rfl (by decide) rfl rfl ?_
  refine jT_xgoto (pcN := 5) jIQ_41_29 rfl ?_
  refine jT_xiload (v := (0, 1)) (pcN := 7) jIQ_41_5 rfl rfl rfl ?_
  refine jT_xbipush (k := 6) (pcN := 9) jIQ_41_7 (by decide) rfl ?_
  refine jT_xicF (t := 32) (pcN := 12) jIQ_41_9 rfl (by decide +kernel) rfl rfl ?_
  refine jT_xlload_n (v := (1, 68719476736 * q1)) (pcN := 13) jIQ_41_12 rfl rfl rfl ?_
  refine jT_xaload_n (v := (4, 1)) (pcN := 14) jIQ_41_13 rfl rfl rfl ?_
  refine jT_xiload (v := (0, 1)) (pcN := 16) jIQ_41_14 rfl rfl rfl ?_
  refine jT_lald (x := p7) (a := 1) (j := 1) (fs := []) (X := [q1, p7, p8, 0, 0, 0]) jIQ_41_16 rfl rfl rfl rfl ?_
  refine jT_eq (LN := [(4, (0, 1)), (2, (1, 68719476736 * q1)), (0, (4, 0)), (1, (4, 1))]) (stN := [(1, p7), (1, 68719476736 * q1)]) (hsN := [jgh, (101, [], [q1, p7, p8, 0, 0, 0])]) rfl rfl rfl ?_
  refine jT_adv 1 (pcN := 20) (LN := [(4, (0, 1)), (2, (1, 68719476736 * q1)), (0, (4, 0)), (1, (4, 1))]) (stN := [(5, 0), (1, p7), (1, 68719476736 * q1)]) (hsN := [jgh, (101, [], [q1, p7, p8, 0, 0, 0])]) (c1 := 0) (s1 := 0) (c2 := 0) (s2 := 0) (by exact rfl) ?_ (by omega) (by omega)
  refine jT_xiload (v := (0, 1)) (pcN := 22) jIQ_41_20 rfl rfl rfl ?_
  refine jT_adv 1 (pcN := 23) (LN := [(4, (0, 1)), (2, (1, 68719476736 * q1)), (0, (4, 0)), (1, (4, 1))]) (stN := [(1, 108917793695), (1, p7), (1, 68719476736 * q1)]) (hsN := [jgh, (101, [], [q1, p7, p8, 0, 0, 0])]) (c1 := 0) (s1 := 0) (c2 := 0) (s2 := 0) (by exact rfl) ?_ (by omega) (by omega)
  refine jT_xlmul (x := p7) (y := 108917793695) (z := 108917793695 * p7) (pcN := 24) jIQ_41_23 rfl (by omega) rfl ?_
  refine jT_xladd (x := 68719476736 * q1) (y := 108917793695 * p7) (z := 108917793695 * p7 + 68719476736 * q1) (pcN := 25) jIQ_41_24 rfl (by omega) rfl ?_
  refine jT_xlstore_n (v := (1, 108917793695 * p7 + 68719476736 * q1)) (LN := [(2, (1, 108917793695 * p7 + 68719476736 * q1)), (4, (0, 1)), (0, (4, 0)), (1, (4, 1))]) (pcN := 26) jIQ_41_25 rfl rfl rfl rfl ?_
  refine jT_xiinc (x := 1) (z := 2) (LN := [(4, (0, 2)), (2, (1, 108917793695 * p7 + 68719476736 * q1)), (0, (4, 0)), (1, (4, 1))]) (pcN := 29) jIQ_41_26 rfl rfl (by decide) rfl rfl ?_
  refine jT_xgoto (pcN := 5) jIQ_41_29 rfl ?_
  refine jT_xiload (v := (0, 2)) (pcN := 7) jIQ_41_5 rfl rfl rfl ?_
  refine jT_xbipush (k := 6) (pcN := 9) jIQ_41_7 (by decide) rfl ?_
  refine jT_xicF (t := 32) (pcN := 12) jIQ_41_9 rfl (by decide +kernel) rfl rfl ?_
  refine jT_xlload_n (v := (1, 108917793695 * p7 + 68719476736 * q1)) (pcN := 13) jIQ_41_12 rfl rfl rfl ?_
  refine jT_xaload_n (v := (4, 1)) (pcN := 14) jIQ_41_13 rfl rfl rfl ?_
  refine jT_xiload (v := (0, 2)) (pcN := 16) jIQ_41_14 rfl rfl rfl ?_
  refine jT_lald (x := p8) (a := 1) (j := 2) (fs := []) (X := [q1, p7, p8, 0, 0, 0]) jIQ_41_16 rfl rfl rfl rfl ?_
  refine jT_eq (LN := [(4, (0, 2)), (2, (1, 108917793695 * p7 + 68719476736 * q1)), (0, (4, 0)), (1, (4, 1))]) (stN := [(1, p8), (1, 108917793695 * p7 + 68719476736 * q1)]) (hsN := [jgh, (101, [], [q1, p7, p8, 0, 0, 0])]) rfl rfl rfl ?_
  refine jT_adv 1 (pcN := 20) (LN := [(4, (0, 2)), (2, (1, 108917793695 * p7 + 68719476736 * q1)), (0, (4, 0)), (1, (4, 1))]) (stN := [(5, 0), (1, p8), (1, 108917793695 * p7 + 68719476736 * q1)]) (hsN := [jgh, (101, [], [q1, p7, p8, 0, 0, 0])]) (c1 := 0) (s1 := 0) (c2 := 0) (s2 := 0) (by exact rfl) ?_ (by omega) (by omega)
  refine jT_xiload (v := (0, 2)) (pcN := 22) jIQ_41_20 rfl rfl rfl ?_
  refine jT_adv 1 (pcN := 23) (LN := [(4, (0, 2)), (2, (1, 108917793695 * p7 + 68719476736 * q1)), (0, (4, 0)), (1, (4, 1))]) (stN := [(1, 159561683699), (1, p8), (1, 108917793695 * p7 + 68719476736 * q1)]) (hsN := [jgh, (101, [], [q1, p7, p8, 0, 0, 0])]) (c1 := 0) (s1 := 0) (c2 := 0) (s2 := 0) (by exact rfl) ?_ (by omega) (by omega)
  refine jT_xlmul (x := p8) (y := 159561683699) (z := 159561683699 * p8) (pcN := 24) jIQ_41_23 rfl (by omega) rfl ?_
  refine jT_xladd (x := 108917793695 * p7 + 68719476736 * q1) (y := 159561683699 * p8) (z := 108917793695 * p7 + 159561683699 * p8 + 68719476736 * q1) (pcN := 25) jIQ_41_24 rfl (by omega) rfl ?_
  refine jT_xlstore_n (v := (1, 108917793695 * p7 + 159561683699 * p8 + 68719476736 * q1)) (LN := [(2, (1, 108917793695 * p7 + 159561683699 * p8 + 68719476736 * q1)), (4, (0, 2)), (0, (4, 0)), (1, (4, 1))]) (pcN := 26) jIQ_41_25 rfl rfl rfl rfl ?_
  refine jT_xiinc (x := 2) (z := 3) (LN := [(4, (0, 3)), (2, (1, 108917793695 * p7 + 159561683699 * p8 + 68719476736 * q1)), (0, (4, 0)), (1, (4, 1))]) (pcN := 29) jIQ_41_26 rfl rfl (by decide) rfl rfl ?_
  refine jT_xgoto (pcN := 5) jIQ_41_29 rfl ?_
  refine jT_xiload (v := (0, 3)) (pcN := 7) jIQ_41_5 rfl rfl rfl ?_
  refine jT_xbipush (k := 6) (pcN := 9) jIQ_41_7 (by decide) rfl ?_
  refine jT_xicF (t := 32) (pcN := 12) jIQ_41_9 rfl (by decide +kernel) rfl rfl ?_
  refine jT_xlload_n (v := (1, 108917793695 * p7 + 159561683699 * p8 + 68719476736 * q1)) (pcN := 13) jIQ_41_12 rfl rfl rfl ?_
  refine jT_xaload_n (v := (4, 1)) (pcN := 14) jIQ_41_13 rfl rfl rfl ?_
  refine jT_xiload (v := (0, 3)) (pcN := 16) jIQ_41_14 rfl rfl rfl ?_
  refine jT_lald (x := 0) (a := 1) (j := 3) (fs := []) (X := [q1, p7, p8, 0, 0, 0]) jIQ_41_16 rfl rfl rfl rfl ?_
  refine jT_eq (LN := [(4, (0, 3)), (2, (1, 108917793695 * p7 + 159561683699 * p8 + 68719476736 * q1)), (0, (4, 0)), (1, (4, 1))]) (stN := [(1, 0), (1, 108917793695 * p7 + 159561683699 * p8 + 68719476736 * q1)]) (hsN := [jgh, (101, [], [q1, p7, p8, 0, 0, 0])]) rfl rfl rfl ?_
  refine jT_adv 1 (pcN := 20) (LN := [(4, (0, 3)), (2, (1, 108917793695 * p7 + 159561683699 * p8 + 68719476736 * q1)), (0, (4, 0)), (1, (4, 1))]) (stN := [(5, 0), (1, 0), (1, 108917793695 * p7 + 159561683699 * p8 + 68719476736 * q1)]) (hsN := [jgh, (101, [], [q1, p7, p8, 0, 0, 0])]) (c1 := 0) (s1 := 0) (c2 := 0) (s2 := 0) (by exact rfl) ?_ (by omega) (by omega)
  refine jT_xiload (v := (0, 3)) (pcN := 22) jIQ_41_20 rfl rfl rfl ?_
  refine jT_adv 1 (pcN := 23) (LN := [(4, (0, 3)), (2, (1, 108917793695 * p7 + 159561683699 * p8 + 68719476736 * q1)), (0, (4, 0)), (1, (4, 1))]) (stN := [(1, 192919961256), (1, 0), (1, 108917793695 * p7 + 159561683699 * p8 + 68719476736 * q1)]) (hsN := [jgh, (101, [], [q1, p7, p8, 0, 0, 0])]) (c1 := 0) (s1 := 0) (c2 := 0) (s2 := 0) (by exact rfl) ?_ (by omega) (by omega)
  refine jT_xlmul (x := 0) (y := 192919961256) (z := 0) (pcN := 24) jIQ_41_23 rfl (by decide) rfl ?_
  refine jT_xladd (x := 108917793695 * p7 + 159561683699 * p8 + 68719476736 * q1) (y := 0) (z := 108917793695 * p7 + 159561683699 * p8 + 68719476736 * q1) (pcN := 25) jIQ_41_24 rfl (by omega) rfl ?_
  refine jT_xlstore_n (v := (1, 108917793695 * p7 + 159561683699 * p8 + 68719476736 * q1)) (LN := [(2, (1, 108917793695 * p7 + 159561683699 * p8 + 68719476736 * q1)), (4, (0, 3)), (0, (4, 0)), (1, (4, 1))]) (pcN := 26) jIQ_41_25 rfl rfl rfl rfl ?_
  refine jT_xiinc (x := 3) (z := 4) (LN := [(4, (0, 4)), (2, (1, 108917793695 * p7 + 159561683699 * p8 + 68719476736 * q1)), (0, (4, 0)), (1, (4, 1))]) (pcN := 29) jIQ_41_26 rfl rfl (by decide) rfl rfl ?_
  refine jT_xgoto (pcN := 5) jIQ_41_29 rfl ?_
  refine jT_xiload (v := (0, 4)) (pcN := 7) jIQ_41_5 rfl rfl rfl ?_
  refine jT_xbipush (k := 6) (pcN := 9) jIQ_41_7 (by decide) rfl ?_
  refine jT_xicF (t := 32) (pcN := 12) jIQ_41_9 rfl (by decide +kernel) rfl rfl ?_
  refine jT_xlload_n (v := (1, 108917793695 * p7 + 159561683699 * p8 + 68719476736 * q1)) (pcN := 13) jIQ_41_12 rfl rfl rfl ?_
  refine jT_xaload_n (v := (4, 1)) (pcN := 14) jIQ_41_13 rfl rfl rfl ?_
  refine jT_xiload (v := (0, 4)) (pcN := 16) jIQ_41_14 rfl rfl rfl ?_
  refine jT_lald (x := 0) (a := 1) (j := 4) (fs := []) (X := [q1, p7, p8, 0, 0, 0]) jIQ_41_16 rfl rfl rfl rfl ?_
  refine jT_eq (LN := [(4, (0, 4)), (2, (1, 108917793695 * p7 + 159561683699 * p8 + 68719476736 * q1)), (0, (4, 0)), (1, (4, 1))]) (stN := [(1, 0), (1, 108917793695 * p7 + 159561683699 * p8 + 68719476736 * q1)]) (hsN := [jgh, (101, [], [q1, p7, p8, 0, 0, 0])]) rfl rfl rfl ?_
  refine jT_adv 1 (pcN := 20) (LN := [(4, (0, 4)), (2, (1, 108917793695 * p7 + 159561683699 * p8 + 68719476736 * q1)), (0, (4, 0)), (1, (4, 1))]) (stN := [(5, 0), (1, 0), (1, 108917793695 * p7 + 159561683699 * p8 + 68719476736 * q1)]) (hsN := [jgh, (101, [], [q1, p7, p8, 0, 0, 0])]) (c1 := 0) (s1 := 0) (c2 := 0) (s2 := 0) (by exact rfl) ?_ (by omega) (by omega)
  refine jT_xiload (v := (0, 4)) (pcN := 22) jIQ_41_20 rfl rfl rfl ?_
  refine jT_adv 1 (pcN := 23) (LN := [(4, (0, 4)), (2, (1, 108917793695 * p7 + 159561683699 * p8 + 68719476736 * q1)), (0, (4, 0)), (1, (4, 1))]) (stN := [(1, 237730330636), (1, 0), (1, 108917793695 * p7 + 159561683699 * p8 + 68719476736 * q1)]) (hsN := [jgh, (101, [], [q1, p7, p8, 0, 0, 0])]) (c1 := 0) (s1 := 0) (c2 := 0) (s2 := 0) (by exact rfl) ?_ (by omega) (by omega)
  refine jT_xlmul (x := 0) (y := 237730330636) (z := 0) (pcN := 24) jIQ_41_23 rfl (by decide) rfl ?_
  refine jT_xladd (x := 108917793695 * p7 + 159561683699 * p8 + 68719476736 * q1) (y := 0) (z := 108917793695 * p7 + 159561683699 * p8 + 68719476736 * q1) (pcN := 25) jIQ_41_24 rfl (by omega) rfl ?_
  refine jT_xlstore_n (v := (1, 108917793695 * p7 + 159561683699 * p8 + 68719476736 * q1)) (LN := [(2, (1, 108917793695 * p7 + 159561683699 * p8 + 68719476736 * q1)), (4, (0, 4)), (0, (4, 0)), (1, (4, 1))]) (pcN := 26) jIQ_41_25 rfl rfl rfl rfl ?_
  refine jT_xiinc (x := 4) (z := 5) (LN := [(4, (0, 5)), (2, (1, 108917793695 * p7 + 159561683699 * p8 + 68719476736 * q1)), (0, (4, 0)), (1, (4, 1))]) (pcN := 29) jIQ_41_26 rfl rfl (by decide) rfl rfl ?_
  refine jT_xgoto (pcN := 5) jIQ_41_29 rfl ?_
  refine jT_xiload (v := (0, 5)) (pcN := 7) jIQ_41_5 rfl rfl rfl ?_
  refine jT_xbipush (k := 6) (pcN := 9) jIQ_41_7 (by decide) rfl ?_
  refine jT_xicF (t := 32) (pcN := 12) jIQ_41_9 rfl (by decide +kernel) rfl rfl ?_
  refine jT_xlload_n (v := (1, 108917793695 * p7 + 159561683699 * p8 + 68719476736 * q1)) (pcN := 13) jIQ_41_12 rfl rfl rfl ?_
  refine jT_xaload_n (v := (4, 1)) (pcN := 14) jIQ_41_13 rfl rfl rfl ?_
  refine jT_xiload (v := (0, 5)) (pcN := 16) jIQ_41_14 rfl rfl rfl ?_
  refine jT_lald (x := 0) (a := 1) (j := 5) (fs := []) (X := [q1, p7, p8, 0, 0, 0]) jIQ_41_16 rfl rfl rfl rfl ?_
  refine jT_eq (LN := [(4, (0, 5)), (2, (1, 108917793695 * p7 + 159561683699 * p8 + 68719476736 * q1)), (0, (4, 0)), (1, (4, 1))]) (stN := [(1, 0), (1, 108917793695 * p7 + 159561683699 * p8 + 68719476736 * q1)]) (hsN := [jgh, (101, [], [q1, p7, p8, 0, 0, 0])]) rfl rfl rfl ?_
  refine jT_adv 1 (pcN := 20) (LN := [(4, (0, 5)), (2, (1, 108917793695 * p7 + 159561683699 * p8 + 68719476736 * q1)), (0, (4, 0)), (1, (4, 1))]) (stN := [(5, 0), (1, 0), (1, 108917793695 * p7 + 159561683699 * p8 + 68719476736 * q1)]) (hsN := [jgh, (101, [], [q1, p7, p8, 0, 0, 0])]) (c1 := 0) (s1 := 0) (c2 := 0) (s2 := 0) (by exact rfl) ?_ (by omega) (by omega)
  refine jT_xiload (v := (0, 5)) (pcN := 22) jIQ_41_20 rfl rfl rfl ?_
  refine jT_adv 1 (pcN := 23) (LN := [(4, (0, 5)), (2, (1, 108917793695 * p7 + 159561683699 * p8 + 68719476736 * q1)), (0, (4, 0)), (1, (4, 1))]) (stN := [(1, 254292281123), (1, 0), (1, 108917793695 * p7 + 159561683699 * p8 + 68719476736 * q1)]) (hsN := [jgh, (101, [], [q1, p7, p8, 0, 0, 0])]) (c1 := 0) (s1 := 0) (c2 := 0) (s2 := 0) (by exact rfl) ?_ (by omega) (by omega)
  refine jT_xlmul (x := 0) (y := 254292281123) (z := 0) (pcN := 24) jIQ_41_23 rfl (by decide) rfl ?_
  refine jT_xladd (x := 108917793695 * p7 + 159561683699 * p8 + 68719476736 * q1) (y := 0) (z := 108917793695 * p7 + 159561683699 * p8 + 68719476736 * q1) (pcN := 25) jIQ_41_24 rfl (by omega) rfl ?_
  refine jT_xlstore_n (v := (1, 108917793695 * p7 + 159561683699 * p8 + 68719476736 * q1)) (LN := [(2, (1, 108917793695 * p7 + 159561683699 * p8 + 68719476736 * q1)), (4, (0, 5)), (0, (4, 0)), (1, (4, 1))]) (pcN := 26) jIQ_41_25 rfl rfl rfl rfl ?_
  refine jT_xiinc (x := 5) (z := 6) (LN := [(4, (0, 6)), (2, (1, 108917793695 * p7 + 159561683699 * p8 + 68719476736 * q1)), (0, (4, 0)), (1, (4, 1))]) (pcN := 29) jIQ_41_26 rfl rfl (by decide) rfl rfl ?_
  refine jT_xgoto (pcN := 5) jIQ_41_29 rfl ?_
  refine jT_xiload (v := (0, 6)) (pcN := 7) jIQ_41_5 rfl rfl rfl ?_
  refine jT_xbipush (k := 6) (pcN := 9) jIQ_41_7 (by decide) rfl ?_
  refine jT_xicT (pcN := 32) jIQ_41_9 rfl (by decide +kernel) rfl ?_
  refine jT_xlload_n (v := (1, 108917793695 * p7 + 159561683699 * p8 + 68719476736 * q1)) (pcN := 33) jIQ_41_32 rfl rfl rfl ?_
  exact jT_ret rfl (by decide) (by show 2 ≤ 2; omega) (by omega) (by omega) ⟨rfl, rfl, rfl⟩
theorem jQ_39_132 {xs : List Int} {d : Nat} {p7 p8 q1 : Int} (h_p7 : (-20) ≤ p7 ∧ p7 ≤ 20) (h_p8 : (-10) ≤ p8 ∧ p8 ≤ 10) (h_q1 : (-60) ≤ q1 ∧ q1 ≤ 60) (g_0 : 0 ≤ (-108917793694) * p7 - 159561683698 * p8 - 68719476736 * q1 - 1) (g_1 : 0 ≤ (-108917793694) * p7 - 159561683700 * p8 - 68719476736 * q1 - 1) (g_2 : 0 ≤ (-108917793696) * p7 - 159561683698 * p8 - 68719476736 * q1 - 1) (g_3 : 0 ≤ (-108917793696) * p7 - 159561683700 * p8 - 68719476736 * q1 - 1) (g_4 : p7 < 0) (g_5 : 0 ≤ p8) (g_6 : 0 ≤ q1) (g_7 : 108917793695 * p7 + 159561683699 * p8 + 68719476736 * q1 - 1 < 0) (g_8 : 108917793695 * p7 + 159561683699 * p8 + 68719476736 * q1 < 0) : jT xs d 39 2 0 [(0, (4, 0)), (1, (4, 1))] [] [jgh, (101, [], [q1, p7, p8, 0, 0, 0])] 0 0 (fun k v hsN => k = 0 ∧ v = (1, -p7 + p8) ∧ hsN = [jgh, (101, [], [q1, p7, p8, 0, 0, 0])] ++ []) := by
  refine jT_xlconst (z := 0) (pcN := 1) jIQ_39_0 rfl rfl ?_
  refine jT_xlstore_n (v := (1, 0)) (LN := [(2, (1, 0)), (0, (4, 0)), (1, (4, 1))]) (pcN := 2) jIQ_39_1 rfl rfl rfl rfl ?_
  refine jT_xiconst (k := 1) (pcN := 3) jIQ_39_2 rfl ?_
  refine jT_xistore (v := (0, 1)) (LN := [(4, (0, 1)), (2, (1, 0)), (0, (4, 0)), (1, (4, 1))]) (pcN := 5) jIQ_39_3 rfl rfl rfl rfl ?_
  refine jT_xiload (v := (0, 1)) (pcN := 7) jIQ_39_5 rfl rfl rfl ?_
  refine jT_xbipush (k := 6) (pcN := 9) jIQ_39_7 (by decide) rfl ?_
  refine jT_xicF (t := 28) (pcN := 12) jIQ_39_9 rfl (by decide +kernel) rfl rfl ?_
  refine jT_xlload_n (v := (1, 0)) (pcN := 13) jIQ_39_12 rfl rfl rfl ?_
  refine jT_xaload_n (v := (4, 1)) (pcN := 14) jIQ_39_13 rfl rfl rfl ?_
  refine jT_xiload (v := (0, 1)) (pcN := 16) jIQ_39_14 rfl rfl rfl ?_
  refine jT_lald (x := p7) (a := 1) (j := 1) (fs := []) (X := [q1, p7, p8, 0, 0, 0]) jIQ_39_16 rfl rfl rfl rfl ?_
  refine jT_eq (LN := [(4, (0, 1)), (2, (1, 0)), (0, (4, 0)), (1, (4, 1))]) (stN := [(1, p7), (1, 0)]) (hsN := [jgh, (101, [], [q1, p7, p8, 0, 0, 0])]) rfl rfl rfl ?_
  refine jT_labs (z := -p7) (by rfl) (by rfl) (by rfl) (by rfl) (by rw [show jwl (p7) = p7 from jwl_idd (by omega) (by omega), decide_eq_true (by omega)]; first | (simp only [cond_true, cond_false]; done) | (simp only [cond_true, cond_false]; omega) | rfl) ?_
  refine jT_xladd (x := 0) (y := -p7) (z := -p7) (pcN := 21) jIQ_39_20 rfl (by omega) rfl ?_
  refine jT_xlstore_n (v := (1, -p7)) (LN := [(2, (1, -p7)), (4, (0, 1)), (0, (4, 0)), (1, (4, 1))]) (pcN := 22) jIQ_39_21 rfl rfl rfl rfl ?_
  refine jT_xiinc (x := 1) (z := 2) (LN := [(4, (0, 2)), (2, (1, -p7)), (0, (4, 0)), (1, (4, 1))]) (pcN := 25) jIQ_39_22 rfl rfl (by decide) rfl rfl ?_
  refine jT_xgoto (pcN := 5) jIQ_39_25 rfl ?_
  refine jT_xiload (v := (0, 2)) (pcN := 7) jIQ_39_5 rfl rfl rfl ?_
  refine jT_xbipush (k := 6) (pcN := 9) jIQ_39_7 (by decide) rfl ?_
  refine jT_xicF (t := 28) (pcN := 12) jIQ_39_9 rfl (by decide +kernel) rfl rfl ?_
  refine jT_xlload_n (v := (1, -p7)) (pcN := 13) jIQ_39_12 rfl rfl rfl ?_
  refine jT_xaload_n (v := (4, 1)) (pcN := 14) jIQ_39_13 rfl rfl rfl ?_
  refine jT_xiload (v := (0, 2)) (pcN := 16) jIQ_39_14 rfl rfl rfl ?_
  refine jT_lald (x := p8) (a := 1) (j := 2) (fs := []) (X := [q1, p7, p8, 0, 0, 0]) jIQ_39_16 rfl rfl rfl rfl ?_
  refine jT_eq (LN := [(4, (0, 2)), (2, (1, -p7)), (0, (4, 0)), (1, (4, 1))]) (stN := [(1, p8), (1, -p7)]) (hsN := [jgh, (101, [], [q1, p7, p8, 0, 0, 0])]) rfl rfl rfl ?_
  refine jT_labs (z := p8) (by rfl) (by rfl) (by rfl) (by rfl) (by rw [show jwl (p8) = p8 from jwl_idd (by omega) (by omega), decide_eq_false (by omega)]; first | (simp only [cond_true, cond_false]; done) | (simp only [cond_true, cond_false]; omega) | rfl) ?_
  refine jT_xladd (x := -p7) (y := p8) (z := -p7 + p8) (pcN := 21) jIQ_39_20 rfl (by omega) rfl ?_
  refine jT_xlstore_n (v := (1, -p7 + p8)) (LN := [(2, (1, -p7 + p8)), (4, (0, 2)), (0, (4, 0)), (1, (4, 1))]) (pcN := 22) jIQ_39_21 rfl rfl rfl rfl ?_
  refine jT_xiinc (x := 2) (z := 3) (LN := [(4, (0, 3)), (2, (1, -p7 + p8)), (0, (4, 0)), (1, (4, 1))]) (pcN := 25) jIQ_39_22 rfl rfl (by decide) rfl rfl ?_
  refine jT_xgoto (pcN := 5) jIQ_39_25 rfl ?_
  refine jT_xiload (v := (0, 3)) (pcN := 7) jIQ_39_5 rfl rfl rfl ?_
  refine jT_xbipush (k := 6) (pcN := 9) jIQ_39_7 (by decide) rfl ?_
  refine jT_xicF (t := 28) (pcN := 12) jIQ_39_9 rfl (by decide +kernel) rfl rfl ?_
  refine jT_xlload_n (v := (1, -p7 + p8)) (pcN := 13) jIQ_39_12 rfl rfl rfl ?_
  refine jT_xaload_n (v := (4, 1)) (pcN := 14) jIQ_39_13 rfl rfl rfl ?_
  refine jT_xiload (v := (0, 3)) (pcN := 16) jIQ_39_14 rfl rfl rfl ?_
  refine jT_lald (x := 0) (a := 1) (j := 3) (fs := []) (X := [q1, p7, p8, 0, 0, 0]) jIQ_39_16 rfl rfl rfl rfl ?_
  refine jT_eq (LN := [(4, (0, 3)), (2, (1, -p7 + p8)), (0, (4, 0)), (1, (4, 1))]) (stN := [(1, 0), (1, -p7 + p8)]) (hsN := [jgh, (101, [], [q1, p7, p8, 0, 0, 0])]) rfl rfl rfl ?_
  refine jT_labs (z := 0) (by rfl) (by rfl) (by rfl) (by rfl) (by decide +kernel) ?_
  refine jT_xladd (x := -p7 + p8) (y := 0) (z := -p7 + p8) (pcN := 21) jIQ_39_20 rfl (by omega) rfl ?_
  refine jT_xlstore_n (v := (1, -p7 + p8)) (LN := [(2, (1, -p7 + p8)), (4, (0, 3)), (0, (4, 0)), (1, (4, 1))]) (pcN := 22) jIQ_39_21 rfl rfl rfl rfl ?_
  refine jT_xiinc (x := 3) (z := 4) (LN := [(4, (0, 4)), (2, (1, -p7 + p8)), (0, (4, 0)), (1, (4, 1))]) (pcN := 25) jIQ_39_22 rfl rfl (by decide) rfl rfl ?_
  refine jT_xgoto (pcN := 5) jIQ_39_25 rfl ?_
  refine jT_xiload (v := (0, 4)) (pcN := 7) jIQ_39_5 rfl rfl rfl ?_
  refine jT_xbipush (k := 6) (pcN := 9) jIQ_39_7 (by decide) rfl ?_
  refine jT_xicF (t := 28) (pcN := 12) jIQ_39_9 rfl (by decide +kernel) rfl rfl ?_
  refine jT_xlload_n (v := (1, -p7 + p8)) (pcN := 13) jIQ_39_12 rfl rfl rfl ?_
  refine jT_xaload_n (v := (4, 1)) (pcN := 14) jIQ_39_13 rfl rfl rfl ?_
  refine jT_xiload (v := (0, 4)) (pcN := 16) jIQ_39_14 rfl rfl rfl ?_
  refine jT_lald (x := 0) (a := 1) (j := 4) (fs := []) (X := [q1, p7, p8, 0, 0, 0]) jIQ_39_16 rfl rfl rfl rfl ?_
  refine jT_eq (LN := [(4, (0, 4)), (2, (1, -p7 + p8)), (0, (4, 0)), (1, (4, 1))]) (stN := [(1, 0), (1, -p7 + p8)]) (hsN := [jgh, (101, [], [q1, p7, p8, 0, 0, 0])]) rfl rfl rfl ?_
  refine jT_labs (z := 0) (by rfl) (by rfl) (by rfl) (by rfl) (by decide +kernel) ?_
  refine jT_xladd (x := -p7 + p8) (y := 0) (z := -p7 + p8) (pcN := 21) jIQ_39_20 rfl (by omega) rfl ?_
  refine jT_xlstore_n (v := (1, -p7 + p8)) (LN := [(2, (1, -p7 + p8)), (4, (0, 4)), (0, (4, 0)), (1, (4, 1))]) (pcN := 22) jIQ_39_21 rfl rfl rfl rfl ?_
  refine jT_xiinc (x := 4) (z := 5) (LN := [(4, (0, 5)), (2, (1, -p7 + p8)), (0, (4, 0)), (1, (4, 1))]) (pcN := 25) jIQ_39_22 rfl rfl (by decide) rfl rfl ?_
  refine jT_xgoto (pcN := 5) jIQ_39_25 rfl ?_
  refine jT_xiload (v := (0, 5)) (pcN := 7) jIQ_39_5 rfl rfl rfl ?_
  refine jT_xbipush (k := 6) (pcN := 9) jIQ_39_7 (by decide) rfl ?_
  refine jT_xicF (t := 28) (pcN := 12) jIQ_39_9 rfl (by decide +kernel) rfl rfl ?_
  refine jT_xlload_n (v := (1, -p7 + p8)) (pcN := 13) jIQ_39_12 rfl rfl rfl ?_
  refine jT_xaload_n (v := (4, 1)) (pcN := 14) jIQ_39_13 rfl rfl rfl ?_
  refine jT_xiload (v := (0, 5)) (pcN := 16) jIQ_39_14 rfl rfl rfl ?_
  refine jT_lald (x := 0) (a := 1) (j := 5) (fs := []) (X := [q1, p7, p8, 0, 0, 0]) jIQ_39_16 rfl rfl rfl rfl ?_
  refine jT_eq (LN := [(4, (0, 5)), (2, (1, -p7 + p8)), (0, (4, 0)), (1, (4, 1))]) (stN := [(1, 0), (1, -p7 + p8)]) (hsN := [jgh, (101, [], [q1, p7, p8, 0, 0, 0])]) rfl rfl rfl ?_
  refine jT_labs (z := 0) (by rfl) (by rfl) (by rfl) (by rfl) (by decide +kernel) ?_
  refine jT_xladd (x := -p7 + p8) (y := 0) (z := -p7 + p8) (pcN := 21) jIQ_39_20 rfl (by omega) rfl ?_
  refine jT_xlstore_n (v := (1, -p7 + p8)) (LN := [(2, (1, -p7 + p8)), (4, (0, 5)), (0, (4, 0)), (1, (4, 1))]) (pcN := 22) jIQ_39_21 rfl rfl rfl rfl ?_
  refine jT_xiinc (x := 5) (z := 6) (LN := [(4, (0, 6)), (2, (1, -p7 + p8)), (0, (4, 0)), (1, (4, 1))]) (pcN := 25) jIQ_39_22 rfl rfl (by decide) rfl rfl ?_
  refine jT_xgoto (pcN := 5) jIQ_39_25 rfl ?_
  refine jT_xiload (v := (0, 6)) (pcN := 7) jIQ_39_5 rfl rfl rfl ?_
  refine jT_xbipush (k := 6) (pcN := 9) jIQ_39_7 (by decide) rfl ?_
  refine jT_xicT (pcN := 28) jIQ_39_9 rfl (by decide +kernel) rfl ?_
  refine jT_xlload_n (v := (1, -p7 + p8)) (pcN := 29) jIQ_39_28 rfl rfl rfl ?_
  exact jT_ret rfl (by decide) (by show 2 ≤ 2; omega) (by omega) (by omega) ⟨rfl, rfl, rfl⟩
theorem jQ_40_133 {xs : List Int} {d : Nat} {p7 p8 q1 : Int} (h_p7 : (-20) ≤ p7 ∧ p7 ≤ 20) (h_p8 : (-10) ≤ p8 ∧ p8 ≤ 10) (h_q1 : (-60) ≤ q1 ∧ q1 ≤ 60) (g_0 : 0 ≤ (-108917793694) * p7 - 159561683698 * p8 - 68719476736 * q1 - 1) (g_1 : 0 ≤ (-108917793694) * p7 - 159561683700 * p8 - 68719476736 * q1 - 1) (g_2 : 0 ≤ (-108917793696) * p7 - 159561683698 * p8 - 68719476736 * q1 - 1) (g_3 : 0 ≤ (-108917793696) * p7 - 159561683700 * p8 - 68719476736 * q1 - 1) (g_4 : p7 < 0) (g_5 : 0 ≤ p8) (g_6 : 0 ≤ q1) (g_7 : 108917793695 * p7 + 159561683699 * p8 + 68719476736 * q1 - 1 < 0) (g_8 : 108917793695 * p7 + 159561683699 * p8 + 68719476736 * q1 < 0) : jT xs d 40 2 0 [(0, (4, 0)), (1, (4, 1)), (2, (1, -p7 + p8))] [] [jgh, (101, [], [q1, p7, p8, 0, 0, 0])] 0 0 (fun k v hsN => k = 0 ∧ v = (0, 1) ∧ hsN = [jgh, (101, [], [q1, p7, p8, 0, 0, 0])] ++ []) := by
  refine jT_xlload_n (v := (1, -p7 + p8)) (pcN := 1) jIQ_40_0 rfl rfl rfl ?_
  refine jT_adv 1 (pcN := 4) (LN := [(0, (4, 0)), (1, (4, 1)), (2, (1, -p7 + p8))]) (stN := [(1, 16777216), (1, -p7 + p8)]) (hsN := [jgh, (101, [], [q1, p7, p8, 0, 0, 0])]) (c1 := 0) (s1 := 0) (c2 := 0) (s2 := 0) (by exact rfl) ?_ (by omega) (by omega)
  refine jT_lcmp (a := -p7 + p8) (b := 16777216) (z := (-1)) (by rfl) (by rfl) (jwl_idd (by omega) (by omega)) (jwl_idd (by omega) (by omega)) (by rw [decide_eq_false (show ¬ ((16777216 : Int) < -p7 + p8) by omega), decide_eq_false (show ¬ ((-p7 + p8 : Int) = 16777216) by omega)]; rfl) ?_
  refine jT_xifF (t := 25) (pcN := 8) jIQ_40_5 rfl (by decide +kernel) rfl rfl ?_
  refine jT_xaload_n (v := (4, 1)) (pcN := 9) jIQ_40_8 rfl rfl rfl ?_
  refine jT_xiconst (k := 0) (pcN := 10) jIQ_40_9 rfl ?_
  refine jT_lald (x := q1) (a := 1) (j := 0) (fs := []) (X := [q1, p7, p8, 0, 0, 0]) jIQ_40_10 rfl rfl rfl rfl ?_
  refine jT_eq (LN := [(0, (4, 0)), (1, (4, 1)), (2, (1, -p7 + p8))]) (stN := [(1, q1)]) (hsN := [jgh, (101, [], [q1, p7, p8, 0, 0, 0])]) rfl rfl rfl ?_
  refine jT_labs (z := q1) (by rfl) (by rfl) (by rfl) (by rfl) (by rw [show jwl (q1) = q1 from jwl_idd (by omega) (by omega), decide_eq_false (by omega)]; first | (simp only [cond_true, cond_false]; done) | (simp only [cond_true, cond_false]; omega) | rfl) ?_
  refine jT_adv 1 (pcN := 17) (LN := [(0, (4, 0)), (1, (4, 1)), (2, (1, -p7 + p8))]) (stN := [(1, 16777216), (1, q1)]) (hsN := [jgh, (101, [], [q1, p7, p8, 0, 0, 0])]) (c1 := 0) (s1 := 0) (c2 := 0) (s2 := 0) (by exact rfl) ?_ (by omega) (by omega)
  refine jT_lcmp (a := q1) (b := 16777216) (z := (-1)) (by rfl) (by rfl) (jwl_idd (by omega) (by omega)) (jwl_idd (by omega) (by omega)) (by rw [decide_eq_false (show ¬ ((16777216 : Int) < q1) by omega), decide_eq_false (show ¬ ((q1 : Int) = 16777216) by omega)]; rfl) ?_
  refine jT_xifF (t := 25) (pcN := 21) jIQ_40_18 rfl (by decide +kernel) rfl rfl ?_
  refine jT_xiconst (k := 1) (pcN := 22) jIQ_40_21 rfl ?_
  refine jT_xgoto (pcN := 26) jIQ_40_22 rfl ?_
  exact jT_ret rfl (by decide) (by show 2 ≤ 2; omega) (by omega) (by omega) ⟨rfl, rfl, rfl⟩
theorem jQ_41_134 {xs : List Int} {d : Nat} {p7 p8 q1 : Int} (h_p7 : (-20) ≤ p7 ∧ p7 ≤ 20) (h_p8 : (-10) ≤ p8 ∧ p8 ≤ 10) (h_q1 : (-60) ≤ q1 ∧ q1 ≤ 60) (g_0 : 0 ≤ (-108917793694) * p7 - 159561683698 * p8 - 68719476736 * q1 - 1) (g_1 : 0 ≤ (-108917793694) * p7 - 159561683700 * p8 - 68719476736 * q1 - 1) (g_2 : 0 ≤ (-108917793696) * p7 - 159561683698 * p8 - 68719476736 * q1 - 1) (g_3 : 0 ≤ (-108917793696) * p7 - 159561683700 * p8 - 68719476736 * q1 - 1) (g_4 : p7 < 0) (g_5 : 0 ≤ p8) (g_6 : 0 ≤ q1) (g_7 : 108917793695 * p7 + 159561683699 * p8 + 68719476736 * q1 - 1 < 0) (g_8 : 108917793695 * p7 + 159561683699 * p8 + 68719476736 * q1 < 0) : jT xs d 41 2 0 [(0, (4, 0)), (1, (4, 1))] [] [jgh, (101, [], [q1, p7, p8, 0, 0, 0])] 0 0 (fun k v hsN => k = 0 ∧ v = (1, 108917793695 * p7 + 159561683699 * p8 + 68719476736 * q1) ∧ hsN = [jgh, (101, [], [q1, p7, p8, 0, 0, 0])] ++ []) := by
  refine jT_xlconst (z := 0) (pcN := 1) jIQ_41_0 rfl rfl ?_
  refine jT_xlstore_n (v := (1, 0)) (LN := [(2, (1, 0)), (0, (4, 0)), (1, (4, 1))]) (pcN := 2) jIQ_41_1 rfl rfl rfl rfl ?_
  refine jT_xiconst (k := 0) (pcN := 3) jIQ_41_2 rfl ?_
  refine jT_xistore (v := (0, 0)) (LN := [(4, (0, 0)), (2, (1, 0)), (0, (4, 0)), (1, (4, 1))]) (pcN := 5) jIQ_41_3 rfl rfl rfl rfl ?_
  refine jT_xiload (v := (0, 0)) (pcN := 7) jIQ_41_5 rfl rfl rfl ?_
  refine jT_xbipush (k := 6) (pcN := 9) jIQ_41_7 (by decide) rfl ?_
  refine jT_xicF (t := 32) (pcN := 12) jIQ_41_9 rfl (by decide +kernel) rfl rfl ?_
  refine jT_xlload_n (v := (1, 0)) (pcN := 13) jIQ_41_12 rfl rfl rfl ?_
  refine jT_xaload_n (v := (4, 1)) (pcN := 14) jIQ_41_13 rfl rfl rfl ?_
  refine jT_xiload (v := (0, 0)) (pcN := 16) jIQ_41_14 rfl rfl rfl ?_
  refine jT_lald (x := q1) (a := 1) (j := 0) (fs := []) (X := [q1, p7, p8, 0, 0, 0]) jIQ_41_16 rfl rfl rfl rfl ?_
  refine jT_eq (LN := [(4, (0, 0)), (2, (1, 0)), (0, (4, 0)), (1, (4, 1))]) (stN := [(1, q1), (1, 0)]) (hsN := [jgh, (101, [], [q1, p7, p8, 0, 0, 0])]) rfl rfl rfl ?_
  refine jT_adv 1 (pcN := 20) (LN := [(4, (0, 0)), (2, (1, 0)), (0, (4, 0)), (1, (4, 1))]) (stN := [(5, 0), (1, q1), (1, 0)]) (hsN := [jgh, (101, [], [q1, p7, p8, 0, 0, 0])]) (c1 := 0) (s1 := 0) (c2 := 0) (s2 := 0) (by exact rfl) ?_ (by omega) (by omega)
  refine jT_xiload (v := (0, 0)) (pcN := 22) jIQ_41_20 rfl rfl rfl ?_
  refine jT_adv 1 (pcN := 23) (LN := [(4, (0, 0)), (2, (1, 0)), (0, (4, 0)), (1, (4, 1))]) (stN := [(1, 68719476736), (1, q1), (1, 0)]) (hsN := [jgh, (101, [], [q1, p7, p8, 0, 0, 0])]) (c1 := 0) (s1 := 0) (c2 := 0) (s2 := 0) (by exact rfl) ?_ (by omega) (by omega)
  refine jT_xlmul (x := q1) (y := 68719476736) (z := 68719476736 * q1) (pcN := 24) jIQ_41_23 rfl (by omega) rfl ?_
  refine jT_xladd (x := 0) (y := 68719476736 * q1) (z := 68719476736 * q1) (pcN := 25) jIQ_41_24 rfl (by omega) rfl ?_
  refine jT_xlstore_n (v := (1, 68719476736 * q1)) (LN := [(2, (1, 68719476736 * q1)), (4, (0, 0)), (0, (4, 0)), (1, (4, 1))]) (pcN := 26) jIQ_41_25 rfl rfl rfl rfl ?_
  refine jT_xiinc (x := 0) (z := 1) (LN := [(4, (0, 1)), (2, (1, 68719476736 * q1)), (0, (4, 0)), (1, (4, 1))]) (pcN := 29) jIQ_41_26 rfl rfl (by decide) rfl rfl ?_
  refine jT_xgoto (pcN := 5) jIQ_41_29 rfl ?_
  refine jT_xiload (v := (0, 1)) (pcN := 7) jIQ_41_5 rfl rfl rfl ?_
  refine jT_xbipush (k := 6) (pcN := 9) jIQ_41_7 (by decide) rfl ?_
  refine jT_xicF (t := 32) (pcN := 12) jIQ_41_9 rfl (by decide +kernel) rfl rfl ?_
  refine jT_xlload_n (v := (1, 68719476736 * q1)) (pcN := 13) jIQ_41_12 rfl rfl rfl ?_
  refine jT_xaload_n (v := (4, 1)) (pcN := 14) jIQ_41_13 rfl rfl rfl ?_
  refine jT_xiload (v := (0, 1)) (pcN := 16) jIQ_41_14 rfl rfl rfl ?_
  refine jT_lald (x := p7) (a := 1) (j := 1) (fs := []) (X := [q1, p7, p8, 0, 0, 0]) jIQ_41_16 rfl rfl rfl rfl ?_
  refine jT_eq (LN := [(4, (0, 1)), (2, (1, 68719476736 * q1)), (0, (4, 0)), (1, (4, 1))]) (stN := [(1, p7), (1, 68719476736 * q1)]) (hsN := [jgh, (101, [], [q1, p7, p8, 0, 0, 0])]) rfl rfl rfl ?_
  refine jT_adv 1 (pcN := 20) (LN := [(4, (0, 1)), (2, (1, 68719476736 * q1)), (0, (4, 0)), (1, (4, 1))]) (stN := [(5, 0), (1, p7), (1, 68719476736 * q1)]) (hsN := [jgh, (101, [], [q1, p7, p8, 0, 0, 0])]) (c1 := 0) (s1 := 0) (c2 := 0) (s2 := 0) (by exact rfl) ?_ (by omega) (by omega)
  refine jT_xiload (v := (0, 1)) (pcN := 22) jIQ_41_20 rfl rfl rfl ?_
  refine jT_adv 1 (pcN := 23) (LN := [(4, (0, 1)), (2, (1, 68719476736 * q1)), (0, (4, 0)), (1, (4, 1))]) (stN := [(1, 108917793695), (1, p7), (1, 68719476736 * q1)]) (hsN := [jgh, (101, [], [q1, p7, p8, 0, 0, 0])]) (c1 := 0) (s1 := 0) (c2 := 0) (s2 := 0) (by exact rfl) ?_ (by omega) (by omega)
  refine jT_xlmul (x := p7) (y := 108917793695) (z := 108917793695 * p7) (pcN := 24) jIQ_41_23 rfl (by omega) rfl ?_
  refine jT_xladd (x := 68719476736 * q1) (y := 108917793695 * p7) (z := 108917793695 * p7 + 68719476736 * q1) (pcN := 25) jIQ_41_24 rfl (by omega) rfl ?_
  refine jT_xlstore_n (v := (1, 108917793695 * p7 + 68719476736 * q1)) (LN := [(2, (1, 108917793695 * p7 + 68719476736 * q1)), (4, (0, 1)), (0, (4, 0)), (1, (4, 1))]) (pcN := 26) jIQ_41_25 rfl rfl rfl rfl ?_
  refine jT_xiinc (x := 1) (z := 2) (LN := [(4, (0, 2)), (2, (1, 108917793695 * p7 + 68719476736 * q1)), (0, (4, 0)), (1, (4, 1))]) (pcN := 29) jIQ_41_26 rfl rfl (by decide) rfl rfl ?_
  refine jT_xgoto (pcN := 5) jIQ_41_29 rfl ?_
  refine jT_xiload (v := (0, 2)) (pcN := 7) jIQ_41_5 rfl rfl rfl ?_
  refine jT_xbipush (k := 6) (pcN := 9) jIQ_41_7 (by decide) rfl ?_
  refine jT_xicF (t := 32) (pcN := 12) jIQ_41_9 rfl (by decide +kernel) rfl rfl ?_
  refine jT_xlload_n (v := (1, 108917793695 * p7 + 68719476736 * q1)) (pcN := 13) jIQ_41_12 rfl rfl rfl ?_
  refine jT_xaload_n (v := (4, 1)) (pcN := 14) jIQ_41_13 rfl rfl rfl ?_
  refine jT_xiload (v := (0, 2)) (pcN := 16) jIQ_41_14 rfl rfl rfl ?_
  refine jT_lald (x := p8) (a := 1) (j := 2) (fs := []) (X := [q1, p7, p8, 0, 0, 0]) jIQ_41_16 rfl rfl rfl rfl ?_
  refine jT_eq (LN := [(4, (0, 2)), (2, (1, 108917793695 * p7 + 68719476736 * q1)), (0, (4, 0)), (1, (4, 1))]) (stN := [(1, p8), (1, 108917793695 * p7 + 68719476736 * q1)]) (hsN := [jgh, (101, [], [q1, p7, p8, 0, 0, 0])]) rfl rfl rfl ?_
  refine jT_adv 1 (pcN := 20) (LN := [(4, (0, 2)), (2, (1, 108917793695 * p7 + 68719476736 * q1)), (0, (4, 0)), (1, (4, 1))]) (stN := [(5, 0), (1, p8), (1, 108917793695 * p7 + 68719476736 * q1)]) (hsN := [jgh, (101, [], [q1, p7, p8, 0, 0, 0])]) (c1 := 0) (s1 := 0) (c2 := 0) (s2 := 0) (by exact rfl) ?_ (by omega) (by omega)
  refine jT_xiload (v := (0, 2)) (pcN := 22) jIQ_41_20 rfl rfl rfl ?_
  refine jT_adv 1 (pcN := 23) (LN := [(4, (0, 2)), (2, (1, 108917793695 * p7 + 68719476736 * q1)), (0, (4, 0)), (1, (4, 1))]) (stN := [(1, 159561683699), (1, p8), (1, 108917793695 * p7 + 68719476736 * q1)]) (hsN := [jgh, (101, [], [q1, p7, p8, 0, 0, 0])]) (c1 := 0) (s1 := 0) (c2 := 0) (s2 := 0) (by exact rfl) ?_ (by omega) (by omega)
  refine jT_xlmul (x := p8) (y := 159561683699) (z := 159561683699 * p8) (pcN := 24) jIQ_41_23 rfl (by omega) rfl ?_
  refine jT_xladd (x := 108917793695 * p7 + 68719476736 * q1) (y := 159561683699 * p8) (z := 108917793695 * p7 + 159561683699 * p8 + 68719476736 * q1) (pcN := 25) jIQ_41_24 rfl (by omega) rfl ?_
  refine jT_xlstore_n (v := (1, 108917793695 * p7 + 159561683699 * p8 + 68719476736 * q1)) (LN := [(2, (1, 108917793695 * p7 + 159561683699 * p8 + 68719476736 * q1)), (4, (0, 2)), (0, (4, 0)), (1, (4, 1))]) (pcN := 26) jIQ_41_25 rfl rfl rfl rfl ?_
  refine jT_xiinc (x := 2) (z := 3) (LN := [(4, (0, 3)), (2, (1, 108917793695 * p7 + 159561683699 * p8 + 68719476736 * q1)), (0, (4, 0)), (1, (4, 1))]) (pcN := 29) jIQ_41_26 rfl rfl (by decide) rfl rfl ?_
  refine jT_xgoto (pcN := 5) jIQ_41_29 rfl ?_
  refine jT_xiload (v := (0, 3)) (pcN := 7) jIQ_41_5 rfl rfl rfl ?_
  refine jT_xbipush (k := 6) (pcN := 9) jIQ_41_7 (by decide) rfl ?_
  refine jT_xicF (t := 32) (pcN := 12) jIQ_41_9 rfl (by decide +kernel) rfl rfl ?_
  refine jT_xlload_n (v := (1, 108917793695 * p7 + 159561683699 * p8 + 68719476736 * q1)) (pcN := 13) jIQ_41_12 rfl rfl rfl ?_
  refine jT_xaload_n (v := (4, 1)) (pcN := 14) jIQ_41_13 rfl rfl rfl ?_
  refine jT_xiload (v := (0, 3)) (pcN := 16) jIQ_41_14 rfl rfl rfl ?_
  refine jT_lald (x := 0) (a := 1) (j := 3) (fs := []) (X := [q1, p7, p8, 0, 0, 0]) jIQ_41_16 rfl rfl rfl rfl ?_
  refine jT_eq (LN := [(4, (0, 3)), (2, (1, 108917793695 * p7 + 159561683699 * p8 + 68719476736 * q1)), (0, (4, 0)), (1, (4, 1))]) (stN := [(1, 0), (1, 108917793695 * p7 + 159561683699 * p8 + 68719476736 * q1)]) (hsN := [jgh, (101, [], [q1, p7, p8, 0, 0, 0])]) rfl rfl rfl ?_
  refine jT_adv 1 (pcN := 20) (LN := [(4, (0, 3)), (2, (1, 108917793695 * p7 + 159561683699 * p8 + 68719476736 * q1)), (0, (4, 0)), (1, (4, 1))]) (stN := [(5, 0), (1, 0), (1, 108917793695 * p7 + 159561683699 * p8 + 68719476736 * q1)]) (hsN := [jgh, (101, [], [q1, p7, p8, 0, 0, 0])]) (c1 := 0) (s1 := 0) (c2 := 0) (s2 := 0) (by exact rfl) ?_ (by omega) (by omega)
  refine jT_xiload (v := (0, 3)) (pcN := 22) jIQ_41_20 rfl rfl rfl ?_
  refine jT_adv 1 (pcN := 23) (LN := [(4, (0, 3)), (2, (1, 108917793695 * p7 + 159561683699 * p8 + 68719476736 * q1)), (0, (4, 0)), (1, (4, 1))]) (stN := [(1, 192919961256), (1, 0), (1, 108917793695 * p7 + 159561683699 * p8 + 68719476736 * q1)]) (hsN := [jgh, (101, [], [q1, p7, p8, 0, 0, 0])]) (c1 := 0) (s1 := 0) (c2 := 0) (s2 := 0) (by exact rfl) ?_ (by omega) (by omega)
  refine jT_xlmul (x := 0) (y := 192919961256) (z := 0) (pcN := 24) jIQ_41_23 rfl (by decide) rfl ?_
  refine jT_xladd (x := 108917793695 * p7 + 159561683699 * p8 + 68719476736 * q1) (y := 0) (z := 108917793695 * p7 + 159561683699 * p8 + 68719476736 * q1) (pcN := 25) jIQ_41_24 rfl (by omega) rfl ?_
  refine jT_xlstore_n (v := (1, 108917793695 * p7 + 159561683699 * p8 + 68719476736 * q1)) (LN := [(2, (1, 108917793695 * p7 + 159561683699 * p8 + 68719476736 * q1)), (4, (0, 3)), (0, (4, 0)), (1, (4, 1))]) (pcN := 26) jIQ_41_25 rfl rfl rfl rfl ?_
  refine jT_xiinc (x := 3) (z := 4) (LN := [(4, (0, 4)), (2, (1, 108917793695 * p7 + 159561683699 * p8 + 68719476736 * q1)), (0, (4, 0)), (1, (4, 1))]) (pcN := 29) jIQ_41_26 rfl rfl (by decide) rfl rfl ?_
  refine jT_xgoto (pcN := 5) jIQ_41_29 rfl ?_
  refine jT_xiload (v := (0, 4)) (pcN := 7) jIQ_41_5 rfl rfl rfl ?_
  refine jT_xbipush (k := 6) (pcN := 9) jIQ_41_7 (by decide) rfl ?_
  refine jT_xicF (t := 32) (pcN := 12) jIQ_41_9 rfl (by decide +kernel) rfl rfl ?_
  refine jT_xlload_n (v := (1, 108917793695 * p7 + 159561683699 * p8 + 68719476736 * q1)) (pcN := 13) jIQ_41_12 rfl rfl rfl ?_
  refine jT_xaload_n (v := (4, 1)) (pcN := 14) jIQ_41_13 rfl rfl rfl ?_
  refine jT_xiload (v := (0, 4)) (pcN := 16) jIQ_41_14 rfl rfl rfl ?_
  refine jT_lald (x := 0) (a := 1) (j := 4) (fs := []) (X := [q1, p7, p8, 0, 0, 0]) jIQ_41_16 rfl rfl rfl rfl ?_
  refine jT_eq (LN := [(4, (0, 4)), (2, (1, 108917793695 * p7 + 159561683699 * p8 + 68719476736 * q1)), (0, (4, 0)), (1, (4, 1))]) (stN := [(1, 0), (1, 108917793695 * p7 + 159561683699 * p8 + 68719476736 * q1)]) (hsN := [jgh, (101, [], [q1, p7, p8, 0, 0, 0])]) rfl rfl rfl ?_
  refine jT_adv 1 (pcN := 20) (LN := [(4, (0, 4)), (2, (1, 108917793695 * p7 + 159561683699 * p8 + 68719476736 * q1)), (0, (4, 0)), (1, (4, 1))]) (stN := [(5, 0), (1, 0), (1, 108917793695 * p7 + 159561683699 * p8 + 68719476736 * q1)]) (hsN := [jgh, (101, [], [q1, p7, p8, 0, 0, 0])]) (c1 := 0) (s1 := 0) (c2 := 0) (s2 := 0) (by exact rfl) ?_ (by omega) (by omega)
  refine jT_xiload (v := (0, 4)) (pcN := 22) jIQ_41_20 rfl rfl rfl ?_
  refine jT_adv 1 (pcN := 23) (LN := [(4, (0, 4)), (2, (1, 108917793695 * p7 + 159561683699 * p8 + 68719476736 * q1)), (0, (4, 0)), (1, (4, 1))]) (stN := [(1, 237730330636), (1, 0), (1, 108917793695 * p7 + 159561683699 * p8 + 68719476736 * q1)]) (hsN := [jgh, (101, [], [q1, p7, p8, 0, 0, 0])]) (c1 := 0) (s1 := 0) (c2 := 0) (s2 := 0) (by exact rfl) ?_ (by omega) (by omega)
  refine jT_xlmul (x := 0) (y := 237730330636) (z := 0) (pcN := 24) jIQ_41_23 rfl (by decide) rfl ?_
  refine jT_xladd (x := 108917793695 * p7 + 159561683699 * p8 + 68719476736 * q1) (y := 0) (z := 108917793695 * p7 + 159561683699 * p8 + 68719476736 * q1) (pcN := 25) jIQ_41_24 rfl (by omega) rfl ?_
  refine jT_xlstore_n (v := (1, 108917793695 * p7 + 159561683699 * p8 + 68719476736 * q1)) (LN := [(2, (1, 108917793695 * p7 + 159561683699 * p8 + 68719476736 * q1)), (4, (0, 4)), (0, (4, 0)), (1, (4, 1))]) (pcN := 26) jIQ_41_25 rfl rfl rfl rfl ?_
  refine jT_xiinc (x := 4) (z := 5) (LN := [(4, (0, 5)), (2, (1, 108917793695 * p7 + 159561683699 * p8 + 68719476736 * q1)), (0, (4, 0)), (1, (4, 1))]) (pcN := 29) jIQ_41_26 rfl rfl (by decide) rfl rfl ?_
  refine jT_xgoto (pcN := 5) jIQ_41_29 rfl ?_
  refine jT_xiload (v := (0, 5)) (pcN := 7) jIQ_41_5 rfl rfl rfl ?_
  refine jT_xbipush (k := 6) (pcN := 9) jIQ_41_7 (by decide) rfl ?_
  refine jT_xicF (t := 32) (pcN := 12) jIQ_41_9 rfl (by decide +kernel) rfl rfl ?_
  refine jT_xlload_n (v := (1, 108917793695 * p7 + 159561683699 * p8 + 68719476736 * q1)) (pcN := 13) jIQ_41_12 rfl rfl rfl ?_
  refine jT_xaload_n (v := (4, 1)) (pcN := 14) jIQ_41_13 rfl rfl rfl ?_
  refine jT_xiload (v := (0, 5)) (pcN := 16) jIQ_41_14 rfl rfl rfl ?_
  refine jT_lald (x := 0) (a := 1) (j := 5) (fs := []) (X := [q1, p7, p8, 0, 0, 0]) jIQ_41_16 rfl rfl rfl rfl ?_
  refine jT_eq (LN := [(4, (0, 5)), (2, (1, 108917793695 * p7 + 159561683699 * p8 + 68719476736 * q1)), (0, (4, 0)), (1, (4, 1))]) (stN := [(1, 0), (1, 108917793695 * p7 + 159561683699 * p8 + 68719476736 * q1)]) (hsN := [jgh, (101, [], [q1, p7, p8, 0, 0, 0])]) rfl rfl rfl ?_
  refine jT_adv 1 (pcN := 20) (LN := [(4, (0, 5)), (2, (1, 108917793695 * p7 + 159561683699 * p8 + 68719476736 * q1)), (0, (4, 0)), (1, (4, 1))]) (stN := [(5, 0), (1, 0), (1, 108917793695 * p7 + 159561683699 * p8 + 68719476736 * q1)]) (hsN := [jgh, (101, [], [q1, p7, p8, 0, 0, 0])]) (c1 := 0) (s1 := 0) (c2 := 0) (s2 := 0) (by exact rfl) ?_ (by omega) (by omega)
  refine jT_xiload (v := (0, 5)) (pcN := 22) jIQ_41_20 rfl rfl rfl ?_
  refine jT_adv 1 (pcN := 23) (LN := [(4, (0, 5)), (2, (1, 108917793695 * p7 + 159561683699 * p8 + 68719476736 * q1)), (0, (4, 0)), (1, (4, 1))]) (stN := [(1, 254292281123), (1, 0), (1, 108917793695 * p7 + 159561683699 * p8 + 68719476736 * q1)]) (hsN := [jgh, (101, [], [q1, p7, p8, 0, 0, 0])]) (c1 := 0) (s1 := 0) (c2 := 0) (s2 := 0) (by exact rfl) ?_ (by omega) (by omega)
  refine jT_xlmul (x := 0) (y := 254292281123) (z := 0) (pcN := 24) jIQ_41_23 rfl (by decide) rfl ?_
  refine jT_xladd (x := 108917793695 * p7 + 159561683699 * p8 + 68719476736 * q1) (y := 0) (z := 108917793695 * p7 + 159561683699 * p8 + 68719476736 * q1) (pcN := 25) jIQ_41_24 rfl (by omega) rfl ?_
  refine jT_xlstore_n (v := (1, 108917793695 * p7 + 159561683699 * p8 + 68719476736 * q1)) (LN := [(2, (1, 108917793695 * p7 + 159561683699 * p8 + 68719476736 * q1)), (4, (0, 5)), (0, (4, 0)), (1, (4, 1))]) (pcN := 26) jIQ_41_25 rfl rfl rfl rfl ?_
  refine jT_xiinc (x := 5) (z := 6) (LN := [(4, (0, 6)), (2, (1, 108917793695 * p7 + 159561683699 * p8 + 68719476736 * q1)), (0, (4, 0)), (1, (4, 1))]) (pcN := 29) jIQ_41_26 rfl rfl (by decide) rfl rfl ?_
  refine jT_xgoto (pcN := 5) jIQ_41_29 rfl ?_
  refine jT_xiload (v := (0, 6)) (pcN := 7) jIQ_41_5 rfl rfl rfl ?_
  refine jT_xbipush (k := 6) (pcN := 9) jIQ_41_7 (by decide) rfl ?_
  refine jT_xicT (pcN := 32) jIQ_41_9 rfl (by decide +kernel) rfl ?_
  refine jT_xlload_n (v := (1, 108917793695 * p7 + 159561683699 * p8 + 68719476736 * q1)) (pcN := 33) jIQ_41_32 rfl rfl rfl ?_
  exact jT_ret rfl (by decide) (by show 2 ≤ 2; omega) (by omega) (by omega) ⟨rfl, rfl, rfl⟩
theorem jQ_39_135 {xs : List Int} {d : Nat} {p7 p8 q1 : Int} (h_p7 : (-20) ≤ p7 ∧ p7 ≤ 20) (h_p8 : (-10) ≤ p8 ∧ p8 ≤ 10) (h_q1 : (-60) ≤ q1 ∧ q1 ≤ 60) (g_0 : 0 ≤ (-108917793694) * p7 - 159561683698 * p8 - 68719476736 * q1 - 1) (g_1 : 0 ≤ (-108917793694) * p7 - 159561683700 * p8 - 68719476736 * q1 - 1) (g_2 : 0 ≤ (-108917793696) * p7 - 159561683698 * p8 - 68719476736 * q1 - 1) (g_3 : 0 ≤ (-108917793696) * p7 - 159561683700 * p8 - 68719476736 * q1 - 1) (g_4 : p7 < 0) (g_5 : 0 ≤ p8) (g_6 : 0 ≤ q1) (g_7 : 108917793695 * p7 + 159561683699 * p8 + 68719476736 * q1 - 1 < 0) (g_8 : 0 ≤ 108917793695 * p7 + 159561683699 * p8 + 68719476736 * q1) : jT xs d 39 2 0 [(0, (4, 0)), (1, (4, 1))] [] [jgh, (101, [], [q1, p7, p8, 0, 0, 0])] 0 0 (fun k v hsN => k = 0 ∧ v = (1, -p7 + p8) ∧ hsN = [jgh, (101, [], [q1, p7, p8, 0, 0, 0])] ++ []) := by
  refine jT_xlconst (z := 0) (pcN := 1) jIQ_39_0 rfl rfl ?_
  refine jT_xlstore_n (v := (1, 0)) (LN := [(2, (1, 0)), (0, (4, 0)), (1, (4, 1))]) (pcN := 2) jIQ_39_1 rfl rfl rfl rfl ?_
  refine jT_xiconst (k := 1) (pcN := 3) jIQ_39_2 rfl ?_
  refine jT_xistore (v := (0, 1)) (LN := [(4, (0, 1)), (2, (1, 0)), (0, (4, 0)), (1, (4, 1))]) (pcN := 5) jIQ_39_3 rfl rfl rfl rfl ?_
  refine jT_xiload (v := (0, 1)) (pcN := 7) jIQ_39_5 rfl rfl rfl ?_
  refine jT_xbipush (k := 6) (pcN := 9) jIQ_39_7 (by decide) rfl ?_
  refine jT_xicF (t := 28) (pcN := 12) jIQ_39_9 rfl (by decide +kernel) rfl rfl ?_
  refine jT_xlload_n (v := (1, 0)) (pcN := 13) jIQ_39_12 rfl rfl rfl ?_
  refine jT_xaload_n (v := (4, 1)) (pcN := 14) jIQ_39_13 rfl rfl rfl ?_
  refine jT_xiload (v := (0, 1)) (pcN := 16) jIQ_39_14 rfl rfl rfl ?_
  refine jT_lald (x := p7) (a := 1) (j := 1) (fs := []) (X := [q1, p7, p8, 0, 0, 0]) jIQ_39_16 rfl rfl rfl rfl ?_
  refine jT_eq (LN := [(4, (0, 1)), (2, (1, 0)), (0, (4, 0)), (1, (4, 1))]) (stN := [(1, p7), (1, 0)]) (hsN := [jgh, (101, [], [q1, p7, p8, 0, 0, 0])]) rfl rfl rfl ?_
  refine jT_labs (z := -p7) (by rfl) (by rfl) (by rfl) (by rfl) (by rw [show jwl (p7) = p7 from jwl_idd (by omega) (by omega), decide_eq_true (by omega)]; first | (simp only [cond_true, cond_false]; done) | (simp only [cond_true, cond_false]; omega) | rfl) ?_
  refine jT_xladd (x := 0) (y := -p7) (z := -p7) (pcN := 21) jIQ_39_20 rfl (by omega) rfl ?_
  refine jT_xlstore_n (v := (1, -p7)) (LN := [(2, (1, -p7)), (4, (0, 1)), (0, (4, 0)), (1, (4, 1))]) (pcN := 22) jIQ_39_21 rfl rfl rfl rfl ?_
  refine jT_xiinc (x := 1) (z := 2) (LN := [(4, (0, 2)), (2, (1, -p7)), (0, (4, 0)), (1, (4, 1))]) (pcN := 25) jIQ_39_22 rfl rfl (by decide) rfl rfl ?_
  refine jT_xgoto (pcN := 5) jIQ_39_25 rfl ?_
  refine jT_xiload (v := (0, 2)) (pcN := 7) jIQ_39_5 rfl rfl rfl ?_
  refine jT_xbipush (k := 6) (pcN := 9) jIQ_39_7 (by decide) rfl ?_
  refine jT_xicF (t := 28) (pcN := 12) jIQ_39_9 rfl (by decide +kernel) rfl rfl ?_
  refine jT_xlload_n (v := (1, -p7)) (pcN := 13) jIQ_39_12 rfl rfl rfl ?_
  refine jT_xaload_n (v := (4, 1)) (pcN := 14) jIQ_39_13 rfl rfl rfl ?_
  refine jT_xiload (v := (0, 2)) (pcN := 16) jIQ_39_14 rfl rfl rfl ?_
  refine jT_lald (x := p8) (a := 1) (j := 2) (fs := []) (X := [q1, p7, p8, 0, 0, 0]) jIQ_39_16 rfl rfl rfl rfl ?_
  refine jT_eq (LN := [(4, (0, 2)), (2, (1, -p7)), (0, (4, 0)), (1, (4, 1))]) (stN := [(1, p8), (1, -p7)]) (hsN := [jgh, (101, [], [q1, p7, p8, 0, 0, 0])]) rfl rfl rfl ?_
  refine jT_labs (z := p8) (by rfl) (by rfl) (by rfl) (by rfl) (by rw [show jwl (p8) = p8 from jwl_idd (by omega) (by omega), decide_eq_false (by omega)]; first | (simp only [cond_true, cond_false]; done) | (simp only [cond_true, cond_false]; omega) | rfl) ?_
  refine jT_xladd (x := -p7) (y := p8) (z := -p7 + p8) (pcN := 21) jIQ_39_20 rfl (by omega) rfl ?_
  refine jT_xlstore_n (v := (1, -p7 + p8)) (LN := [(2, (1, -p7 + p8)), (4, (0, 2)), (0, (4, 0)), (1, (4, 1))]) (pcN := 22) jIQ_39_21 rfl rfl rfl rfl ?_
  refine jT_xiinc (x := 2) (z := 3) (LN := [(4, (0, 3)), (2, (1, -p7 + p8)), (0, (4, 0)), (1, (4, 1))]) (pcN := 25) jIQ_39_22 rfl rfl (by decide) rfl rfl ?_
  refine jT_xgoto (pcN := 5) jIQ_39_25 rfl ?_
  refine jT_xiload (v := (0, 3)) (pcN := 7) jIQ_39_5 rfl rfl rfl ?_
  refine jT_xbipush (k := 6) (pcN := 9) jIQ_39_7 (by decide) rfl ?_
  refine jT_xicF (t := 28) (pcN := 12) jIQ_39_9 rfl (by decide +kernel) rfl rfl ?_
  refine jT_xlload_n (v := (1, -p7 + p8)) (pcN := 13) jIQ_39_12 rfl rfl rfl ?_
  refine jT_xaload_n (v := (4, 1)) (pcN := 14) jIQ_39_13 rfl rfl rfl ?_
  refine jT_xiload (v := (0, 3)) (pcN := 16) jIQ_39_14 rfl rfl rfl ?_
  refine jT_lald (x := 0) (a := 1) (j := 3) (fs := []) (X := [q1, p7, p8, 0, 0, 0]) jIQ_39_16 rfl rfl rfl rfl ?_
  refine jT_eq (LN := [(4, (0, 3)), (2, (1, -p7 + p8)), (0, (4, 0)), (1, (4, 1))]) (stN := [(1, 0), (1, -p7 + p8)]) (hsN := [jgh, (101, [], [q1, p7, p8, 0, 0, 0])]) rfl rfl rfl ?_
  refine jT_labs (z := 0) (by rfl) (by rfl) (by rfl) (by rfl) (by decide +kernel) ?_
  refine jT_xladd (x := -p7 + p8) (y := 0) (z := -p7 + p8) (pcN := 21) jIQ_39_20 rfl (by omega) rfl ?_
  refine jT_xlstore_n (v := (1, -p7 + p8)) (LN := [(2, (1, -p7 + p8)), (4, (0, 3)), (0, (4, 0)), (1, (4, 1))]) (pcN := 22) jIQ_39_21 rfl rfl rfl rfl ?_
  refine jT_xiinc (x := 3) (z := 4) (LN := [(4, (0, 4)), (2, (1, -p7 + p8)), (0, (4, 0)), (1, (4, 1))]) (pcN := 25) jIQ_39_22 rfl rfl (by decide) rfl rfl ?_
  refine jT_xgoto (pcN := 5) jIQ_39_25 rfl ?_
  refine jT_xiload (v := (0, 4)) (pcN := 7) jIQ_39_5 rfl rfl rfl ?_
  refine jT_xbipush (k := 6) (pcN := 9) jIQ_39_7 (by decide) rfl ?_
  refine jT_xicF (t := 28) (pcN := 12) jIQ_39_9 rfl (by decide +kernel) rfl rfl ?_
  refine jT_xlload_n (v := (1, -p7 + p8)) (pcN := 13) jIQ_39_12 rfl rfl rfl ?_
  refine jT_xaload_n (v := (4, 1)) (pcN := 14) jIQ_39_13 rfl rfl rfl ?_
  refine jT_xiload (v := (0, 4)) (pcN := 16) jIQ_39_14 rfl rfl rfl ?_
  refine jT_lald (x := 0) (a := 1) (j := 4) (fs := []) (X := [q1, p7, p8, 0, 0, 0]) jIQ_39_16 rfl rfl rfl rfl ?_
  refine jT_eq (LN := [(4, (0, 4)), (2, (1, -p7 + p8)), (0, (4, 0)), (1, (4, 1))]) (stN := [(1, 0), (1, -p7 + p8)]) (hsN := [jgh, (101, [], [q1, p7, p8, 0, 0, 0])]) rfl rfl rfl ?_
  refine jT_labs (z := 0) (by rfl) (by rfl) (by rfl) (by rfl) (by decide +kernel) ?_
  refine jT_xladd (x := -p7 + p8) (y := 0) (z := -p7 + p8) (pcN := 21) jIQ_39_20 rfl (by omega) rfl ?_
  refine jT_xlstore_n (v := (1, -p7 + p8)) (LN := [(2, (1, -p7 + p8)), (4, (0, 4)), (0, (4, 0)), (1, (4, 1))]) (pcN := 22) jIQ_39_21 rfl rfl rfl rfl ?_
  refine jT_xiinc (x := 4) (z := 5) (LN := [(4, (0, 5)), (2, (1, -p7 + p8)), (0, (4, 0)), (1, (4, 1))]) (pcN := 25) jIQ_39_22 rfl rfl (by decide) rfl rfl ?_
  refine jT_xgoto (pcN := 5) jIQ_39_25 rfl ?_
  refine jT_xiload (v := (0, 5)) (pcN := 7) jIQ_39_5 rfl rfl rfl ?_
  refine jT_xbipush (k := 6) (pcN := 9) jIQ_39_7 (by decide) rfl ?_
  refine jT_xicF (t := 28) (pcN := 12) jIQ_39_9 rfl (by decide +kernel) rfl rfl ?_
  refine jT_xlload_n (v := (1, -p7 + p8)) (pcN := 13) jIQ_39_12 rfl rfl rfl ?_
  refine jT_xaload_n (v := (4, 1)) (pcN := 14) jIQ_39_13 rfl rfl rfl ?_
  refine jT_xiload (v := (0, 5)) (pcN := 16) jIQ_39_14 rfl rfl rfl ?_
  refine jT_lald (x := 0) (a := 1) (j := 5) (fs := []) (X := [q1, p7, p8, 0, 0, 0]) jIQ_39_16 rfl rfl rfl rfl ?_
  refine jT_eq (LN := [(4, (0, 5)), (2, (1, -p7 + p8)), (0, (4, 0)), (1, (4, 1))]) (stN := [(1, 0), (1, -p7 + p8)]) (hsN := [jgh, (101, [], [q1, p7, p8, 0, 0, 0])]) rfl rfl rfl ?_
  refine jT_labs (z := 0) (by rfl) (by rfl) (by rfl) (by rfl) (by decide +kernel) ?_
  refine jT_xladd (x := -p7 + p8) (y := 0) (z := -p7 + p8) (pcN := 21) jIQ_39_20 rfl (by omega) rfl ?_
  refine jT_xlstore_n (v := (1, -p7 + p8)) (LN := [(2, (1, -p7 + p8)), (4, (0, 5)), (0, (4, 0)), (1, (4, 1))]) (pcN := 22) jIQ_39_21 rfl rfl rfl rfl ?_
  refine jT_xiinc (x := 5) (z := 6) (LN := [(4, (0, 6)), (2, (1, -p7 + p8)), (0, (4, 0)), (1, (4, 1))]) (pcN := 25) jIQ_39_22 rfl rfl (by decide) rfl rfl ?_
  refine jT_xgoto (pcN := 5) jIQ_39_25 rfl ?_
  refine jT_xiload (v := (0, 6)) (pcN := 7) jIQ_39_5 rfl rfl rfl ?_
  refine jT_xbipush (k := 6) (pcN := 9) jIQ_39_7 (by decide) rfl ?_
  refine jT_xicT (pcN := 28) jIQ_39_9 rfl (by decide +kernel) rfl ?_
  refine jT_xlload_n (v := (1, -p7 + p8)) (pcN := 29) jIQ_39_28 rfl rfl rfl ?_
  exact jT_ret rfl (by decide) (by show 2 ≤ 2; omega) (by omega) (by omega) ⟨rfl, rfl, rfl⟩
theorem jQ_40_136 {xs : List Int} {d : Nat} {p7 p8 q1 : Int} (h_p7 : (-20) ≤ p7 ∧ p7 ≤ 20) (h_p8 : (-10) ≤ p8 ∧ p8 ≤ 10) (h_q1 : (-60) ≤ q1 ∧ q1 ≤ 60) (g_0 : 0 ≤ (-108917793694) * p7 - 159561683698 * p8 - 68719476736 * q1 - 1) (g_1 : 0 ≤ (-108917793694) * p7 - 159561683700 * p8 - 68719476736 * q1 - 1) (g_2 : 0 ≤ (-108917793696) * p7 - 159561683698 * p8 - 68719476736 * q1 - 1) (g_3 : 0 ≤ (-108917793696) * p7 - 159561683700 * p8 - 68719476736 * q1 - 1) (g_4 : p7 < 0) (g_5 : 0 ≤ p8) (g_6 : 0 ≤ q1) (g_7 : 108917793695 * p7 + 159561683699 * p8 + 68719476736 * q1 - 1 < 0) (g_8 : 0 ≤ 108917793695 * p7 + 159561683699 * p8 + 68719476736 * q1) : jT xs d 40 2 0 [(0, (4, 0)), (1, (4, 1)), (2, (1, -p7 + p8))] [] [jgh, (101, [], [q1, p7, p8, 0, 0, 0])] 0 0 (fun k v hsN => k = 0 ∧ v = (0, 1) ∧ hsN = [jgh, (101, [], [q1, p7, p8, 0, 0, 0])] ++ []) := by
  refine jT_xlload_n (v := (1, -p7 + p8)) (pcN := 1) jIQ_40_0 rfl rfl rfl ?_
  refine jT_adv 1 (pcN := 4) (LN := [(0, (4, 0)), (1, (4, 1)), (2, (1, -p7 + p8))]) (stN := [(1, 16777216), (1, -p7 + p8)]) (hsN := [jgh, (101, [], [q1, p7, p8, 0, 0, 0])]) (c1 := 0) (s1 := 0) (c2 := 0) (s2 := 0) (by exact rfl) ?_ (by omega) (by omega)
  refine jT_lcmp (a := -p7 + p8) (b := 16777216) (z := (-1)) (by rfl) (by rfl) (jwl_idd (by omega) (by omega)) (jwl_idd (by omega) (by omega)) (by rw [decide_eq_false (show ¬ ((16777216 : Int) < -p7 + p8) by omega), decide_eq_false (show ¬ ((-p7 + p8 : Int) = 16777216) by omega)]; rfl) ?_
  refine jT_xifF (t := 25) (pcN := 8) jIQ_40_5 rfl (by decide +kernel) rfl rfl ?_
  refine jT_xaload_n (v := (4, 1)) (pcN := 9) jIQ_40_8 rfl rfl rfl ?_
  refine jT_xiconst (k := 0) (pcN := 10) jIQ_40_9 rfl ?_
  refine jT_lald (x := q1) (a := 1) (j := 0) (fs := []) (X := [q1, p7, p8, 0, 0, 0]) jIQ_40_10 rfl rfl rfl rfl ?_
  refine jT_eq (LN := [(0, (4, 0)), (1, (4, 1)), (2, (1, -p7 + p8))]) (stN := [(1, q1)]) (hsN := [jgh, (101, [], [q1, p7, p8, 0, 0, 0])]) rfl rfl rfl ?_
  refine jT_labs (z := q1) (by rfl) (by rfl) (by rfl) (by rfl) (by rw [show jwl (q1) = q1 from jwl_idd (by omega) (by omega), decide_eq_false (by omega)]; first | (simp only [cond_true, cond_false]; done) | (simp only [cond_true, cond_false]; omega) | rfl) ?_
  refine jT_adv 1 (pcN := 17) (LN := [(0, (4, 0)), (1, (4, 1)), (2, (1, -p7 + p8))]) (stN := [(1, 16777216), (1, q1)]) (hsN := [jgh, (101, [], [q1, p7, p8, 0, 0, 0])]) (c1 := 0) (s1 := 0) (c2 := 0) (s2 := 0) (by exact rfl) ?_ (by omega) (by omega)
  refine jT_lcmp (a := q1) (b := 16777216) (z := (-1)) (by rfl) (by rfl) (jwl_idd (by omega) (by omega)) (jwl_idd (by omega) (by omega)) (by rw [decide_eq_false (show ¬ ((16777216 : Int) < q1) by omega), decide_eq_false (show ¬ ((q1 : Int) = 16777216) by omega)]; rfl) ?_
  refine jT_xifF (t := 25) (pcN := 21) jIQ_40_18 rfl (by decide +kernel) rfl rfl ?_
  refine jT_xiconst (k := 1) (pcN := 22) jIQ_40_21 rfl ?_
  refine jT_xgoto (pcN := 26) jIQ_40_22 rfl ?_
  exact jT_ret rfl (by decide) (by show 2 ≤ 2; omega) (by omega) (by omega) ⟨rfl, rfl, rfl⟩
theorem jQ_41_137 {xs : List Int} {d : Nat} {p7 p8 q1 : Int} (h_p7 : (-20) ≤ p7 ∧ p7 ≤ 20) (h_p8 : (-10) ≤ p8 ∧ p8 ≤ 10) (h_q1 : (-60) ≤ q1 ∧ q1 ≤ 60) (g_0 : 0 ≤ (-108917793694) * p7 - 159561683698 * p8 - 68719476736 * q1 - 1) (g_1 : 0 ≤ (-108917793694) * p7 - 159561683700 * p8 - 68719476736 * q1 - 1) (g_2 : 0 ≤ (-108917793696) * p7 - 159561683698 * p8 - 68719476736 * q1 - 1) (g_3 : 0 ≤ (-108917793696) * p7 - 159561683700 * p8 - 68719476736 * q1 - 1) (g_4 : p7 < 0) (g_5 : 0 ≤ p8) (g_6 : 0 ≤ q1) (g_7 : 108917793695 * p7 + 159561683699 * p8 + 68719476736 * q1 - 1 < 0) (g_8 : 0 ≤ 108917793695 * p7 + 159561683699 * p8 + 68719476736 * q1) : jT xs d 41 2 0 [(0, (4, 0)), (1, (4, 1))] [] [jgh, (101, [], [q1, p7, p8, 0, 0, 0])] 0 0 (fun k v hsN => k = 0 ∧ v = (1, 108917793695 * p7 + 159561683699 * p8 + 68719476736 * q1) ∧ hsN = [jgh, (101, [], [q1, p7, p8, 0, 0, 0])] ++ []) := by
  refine jT_xlconst (z := 0) (pcN := 1) jIQ_41_0 rfl rfl ?_
  refine jT_xlstore_n (v := (1, 0)) (LN := [(2, (1, 0)), (0, (4, 0)), (1, (4, 1))]) (pcN := 2) jIQ_41_1 rfl rfl rfl rfl ?_
  refine jT_xiconst (k := 0) (pcN := 3) jIQ_41_2 rfl ?_
  refine jT_xistore (v := (0, 0)) (LN := [(4, (0, 0)), (2, (1, 0)), (0, (4, 0)), (1, (4, 1))]) (pcN := 5) jIQ_41_3 rfl rfl rfl rfl ?_
  refine jT_xiload (v := (0, 0)) (pcN := 7) jIQ_41_5 rfl rfl rfl ?_
  refine jT_xbipush (k := 6) (pcN := 9) jIQ_41_7 (by decide) rfl ?_
  refine jT_xicF (t := 32) (pcN := 12) jIQ_41_9 rfl (by decide +kernel) rfl rfl ?_
  refine jT_xlload_n (v := (1, 0)) (pcN := 13) jIQ_41_12 rfl rfl rfl ?_
  refine jT_xaload_n (v := (4, 1)) (pcN := 14) jIQ_41_13 rfl rfl rfl ?_
  refine jT_xiload (v := (0, 0)) (pcN := 16) jIQ_41_14 rfl rfl rfl ?_
  refine jT_lald (x := q1) (a := 1) (j := 0) (fs := []) (X := [q1, p7, p8, 0, 0, 0]) jIQ_41_16 rfl rfl rfl rfl ?_
  refine jT_eq (LN := [(4, (0, 0)), (2, (1, 0)), (0, (4, 0)), (1, (4, 1))]) (stN := [(1, q1), (1, 0)]) (hsN := [jgh, (101, [], [q1, p7, p8, 0, 0, 0])]) rfl rfl rfl ?_
  refine jT_adv 1 (pcN := 20) (LN := [(4, (0, 0)), (2, (1, 0)), (0, (4, 0)), (1, (4, 1))]) (stN := [(5, 0), (1, q1), (1, 0)]) (hsN := [jgh, (101, [], [q1, p7, p8, 0, 0, 0])]) (c1 := 0) (s1 := 0) (c2 := 0) (s2 := 0) (by exact rfl) ?_ (by omega) (by omega)
  refine jT_xiload (v := (0, 0)) (pcN := 22) jIQ_41_20 rfl rfl rfl ?_
  refine jT_adv 1 (pcN := 23) (LN := [(4, (0, 0)), (2, (1, 0)), (0, (4, 0)), (1, (4, 1))]) (stN := [(1, 68719476736), (1, q1), (1, 0)]) (hsN := [jgh, (101, [], [q1, p7, p8, 0, 0, 0])]) (c1 := 0) (s1 := 0) (c2 := 0) (s2 := 0) (by exact rfl) ?_ (by omega) (by omega)
  refine jT_xlmul (x := q1) (y := 68719476736) (z := 68719476736 * q1) (pcN := 24) jIQ_41_23 rfl (by omega) rfl ?_
  refine jT_xladd (x := 0) (y := 68719476736 * q1) (z := 68719476736 * q1) (pcN := 25) jIQ_41_24 rfl (by omega) rfl ?_
  refine jT_xlstore_n (v := (1, 68719476736 * q1)) (LN := [(2, (1, 68719476736 * q1)), (4, (0, 0)), (0, (4, 0)), (1, (4, 1))]) (pcN := 26) jIQ_41_25 rfl rfl rfl rfl ?_
  refine jT_xiinc (x := 0) (z := 1) (LN := [(4, (0, 1)), (2, (1, 68719476736 * q1)), (0, (4, 0)), (1, (4, 1))]) (pcN := 29) jIQ_41_26 rfl rfl (by decide) rfl rfl ?_
  refine jT_xgoto (pcN := 5) jIQ_41_29 rfl ?_
  refine jT_xiload (v := (0, 1)) (pcN := 7) jIQ_41_5 rfl rfl rfl ?_
  refine jT_xbipush (k := 6) (pcN := 9) jIQ_41_7 (by decide) rfl ?_
  refine jT_xicF (t := 32) (pcN := 12) jIQ_41_9 rfl (by decide +kernel) rfl rfl ?_
  refine jT_xlload_n (v := (1, 68719476736 * q1)) (pcN := 13) jIQ_41_12 rfl rfl rfl ?_
  refine jT_xaload_n (v := (4, 1)) (pcN := 14) jIQ_41_13 rfl rfl rfl ?_
  refine jT_xiload (v := (0, 1)) (pcN := 16) jIQ_41_14 rfl rfl rfl ?_
  refine jT_lald (x := p7) (a := 1) (j := 1) (fs := []) (X := [q1, p7, p8, 0, 0, 0]) jIQ_41_16 rfl rfl rfl rfl ?_
  refine jT_eq (LN := [(4, (0, 1)), (2, (1, 68719476736 * q1)), (0, (4, 0)), (1, (4, 1))]) (stN := [(1, p7), (1, 68719476736 * q1)]) (hsN := [jgh, (101, [], [q1, p7, p8, 0, 0, 0])]) rfl rfl rfl ?_
  refine jT_adv 1 (pcN := 20) (LN := [(4, (0, 1)), (2, (1, 68719476736 * q1)), (0, (4, 0)), (1, (4, 1))]) (stN := [(5, 0), (1, p7), (1, 68719476736 * q1)]) (hsN := [jgh, (101, [], [q1, p7, p8, 0, 0, 0])]) (c1 := 0) (s1 := 0) (c2 := 0) (s2 := 0) (by exact rfl) ?_ (by omega) (by omega)
  refine jT_xiload (v := (0, 1)) (pcN := 22) jIQ_41_20 rfl rfl rfl ?_
  refine jT_adv 1 (pcN := 23) (LN := [(4, (0, 1)), (2, (1, 68719476736 * q1)), (0, (4, 0)), (1, (4, 1))]) (stN := [(1, 108917793695), (1, p7), (1, 68719476736 * q1)]) (hsN := [jgh, (101, [], [q1, p7, p8, 0, 0, 0])]) (c1 := 0) (s1 := 0) (c2 := 0) (s2 := 0) (by exact rfl) ?_ (by omega) (by omega)
  refine jT_xlmul (x := p7) (y := 108917793695) (z := 108917793695 * p7) (pcN := 24) jIQ_41_23 rfl (by omega) rfl ?_
  refine jT_xladd (x := 68719476736 * q1) (y := 108917793695 * p7) (z := 108917793695 * p7 + 68719476736 * q1) (pcN := 25) jIQ_41_24 rfl (by omega) rfl ?_
  refine jT_xlstore_n (v := (1, 108917793695 * p7 + 68719476736 * q1)) (LN := [(2, (1, 108917793695 * p7 + 68719476736 * q1)), (4, (0, 1)), (0, (4, 0)), (1, (4, 1))]) (pcN := 26) jIQ_41_25 rfl rfl rfl rfl ?_
  refine jT_xiinc (x := 1) (z := 2) (LN := [(4, (0, 2)), (2, (1, 108917793695 * p7 + 68719476736 * q1)), (0, (4, 0)), (1, (4, 1))]) (pcN := 29) jIQ_41_26 rfl rfl (by decide) rfl rfl ?_
  refine jT_xgoto (pcN := 5) jIQ_41_29 rfl ?_
  refine jT_xiload (v := (0, 2)) (pcN := 7) jIQ_41_5 rfl rfl rfl ?_
  refine jT_xbipush (k := 6) (pcN := 9) jIQ_41_7 (by decide) rfl ?_
  refine jT_xicF (t := 32) (pcN := 12) jIQ_41_9 rfl (by decide +kernel) rfl rfl ?_
  refine jT_xlload_n (v := (1, 108917793695 * p7 + 68719476736 * q1)) (pcN := 13) jIQ_41_12 rfl rfl rfl ?_
  refine jT_xaload_n (v := (4, 1)) (pcN := 14) jIQ_41_13 rfl rfl rfl ?_
  refine jT_xiload (v := (0, 2)) (pcN := 16) jIQ_41_14 rfl rfl rfl ?_
  refine jT_lald (x := p8) (a := 1) (j := 2) (fs := []) (X := [q1, p7, p8, 0, 0, 0]) jIQ_41_16 rfl rfl rfl rfl ?_
  refine jT_eq (LN := [(4, (0, 2)), (2, (1, 108917793695 * p7 + 68719476736 * q1)), (0, (4, 0)), (1, (4, 1))]) (stN := [(1, p8), (1, 108917793695 * p7 + 68719476736 * q1)]) (hsN := [jgh, (101, [], [q1, p7, p8, 0, 0, 0])]) rfl rfl rfl ?_
  refine jT_adv 1 (pcN := 20) (LN := [(4, (0, 2)), (2, (1, 108917793695 * p7 + 68719476736 * q1)), (0, (4, 0)), (1, (4, 1))]) (stN := [(5, 0), (1, p8), (1, 108917793695 * p7 + 68719476736 * q1)]) (hsN := [jgh, (101, [], [q1, p7, p8, 0, 0, 0])]) (c1 := 0) (s1 := 0) (c2 := 0) (s2 := 0) (by exact rfl) ?_ (by omega) (by omega)
  refine jT_xiload (v := (0, 2)) (pcN := 22) jIQ_41_20 rfl rfl rfl ?_
  refine jT_adv 1 (pcN := 23) (LN := [(4, (0, 2)), (2, (1, 108917793695 * p7 + 68719476736 * q1)), (0, (4, 0)), (1, (4, 1))]) (stN := [(1, 159561683699), (1, p8), (1, 108917793695 * p7 + 68719476736 * q1)]) (hsN := [jgh, (101, [], [q1, p7, p8, 0, 0, 0])]) (c1 := 0) (s1 := 0) (c2 := 0) (s2 := 0) (by exact rfl) ?_ (by omega) (by omega)
  refine jT_xlmul (x := p8) (y := 159561683699) (z := 159561683699 * p8) (pcN := 24) jIQ_41_23 rfl (by omega) rfl ?_
  refine jT_xladd (x := 108917793695 * p7 + 68719476736 * q1) (y := 159561683699 * p8) (z := 108917793695 * p7 + 159561683699 * p8 + 68719476736 * q1) (pcN := 25) jIQ_41_24 rfl (by omega) rfl ?_
  refine jT_xlstore_n (v := (1, 108917793695 * p7 + 159561683699 * p8 + 68719476736 * q1)) (LN := [(2, (1, 108917793695 * p7 + 159561683699 * p8 + 68719476736 * q1)), (4, (0, 2)), (0, (4, 0)), (1, (4, 1))]) (pcN := 26) jIQ_41_25 rfl rfl rfl rfl ?_
  refine jT_xiinc (x := 2) (z := 3) (LN := [(4, (0, 3)), (2, (1, 108917793695 * p7 + 159561683699 * p8 + 68719476736 * q1)), (0, (4, 0)), (1, (4, 1))]) (pcN := 29) jIQ_41_26 rfl rfl (by decide) rfl rfl ?_
  refine jT_xgoto (pcN := 5) jIQ_41_29 rfl ?_
  refine jT_xiload (v := (0, 3)) (pcN := 7) jIQ_41_5 rfl rfl rfl ?_
  refine jT_xbipush (k := 6) (pcN := 9) jIQ_41_7 (by decide) rfl ?_
  refine jT_xicF (t := 32) (pcN := 12) jIQ_41_9 rfl (by decide +kernel) rfl rfl ?_
  refine jT_xlload_n (v := (1, 108917793695 * p7 + 159561683699 * p8 + 68719476736 * q1)) (pcN := 13) jIQ_41_12 rfl rfl rfl ?_
  refine jT_xaload_n (v := (4, 1)) (pcN := 14) jIQ_41_13 rfl rfl rfl ?_
  refine jT_xiload (v := (0, 3)) (pcN := 16) jIQ_41_14 rfl rfl rfl ?_
  refine jT_lald (x := 0) (a := 1) (j := 3) (fs := []) (X := [q1, p7, p8, 0, 0, 0]) jIQ_41_16 rfl rfl rfl rfl ?_
  refine jT_eq (LN := [(4, (0, 3)), (2, (1, 108917793695 * p7 + 159561683699 * p8 + 68719476736 * q1)), (0, (4, 0)), (1, (4, 1))]) (stN := [(1, 0), (1, 108917793695 * p7 + 159561683699 * p8 + 68719476736 * q1)]) (hsN := [jgh, (101, [], [q1, p7, p8, 0, 0, 0])]) rfl rfl rfl ?_
  refine jT_adv 1 (pcN := 20) (LN := [(4, (0, 3)), (2, (1, 108917793695 * p7 + 159561683699 * p8 + 68719476736 * q1)), (0, (4, 0)), (1, (4, 1))]) (stN := [(5, 0), (1, 0), (1, 108917793695 * p7 + 159561683699 * p8 + 68719476736 * q1)]) (hsN := [jgh, (101, [], [q1, p7, p8, 0, 0, 0])]) (c1 := 0) (s1 := 0) (c2 := 0) (s2 := 0) (by exact rfl) ?_ (by omega) (by omega)
  refine jT_xiload (v := (0, 3)) (pcN := 22) jIQ_41_20 rfl rfl rfl ?_
  refine jT_adv 1 (pcN := 23) (LN := [(4, (0, 3)), (2, (1, 108917793695 * p7 + 159561683699 * p8 + 68719476736 * q1)), (0, (4, 0)), (1, (4, 1))]) (stN := [(1, 192919961256), (1, 0), (1, 108917793695 * p7 + 159561683699 * p8 + 68719476736 * q1)]) (hsN := [jgh, (101, [], [q1, p7, p8, 0, 0, 0])]) (c1 := 0) (s1 := 0) (c2 := 0) (s2 := 0) (by exact rfl) ?_ (by omega) (by omega)
  refine jT_xlmul (x := 0) (y := 192919961256) (z := 0) (pcN := 24) jIQ_41_23 rfl (by decide) rfl ?_
  refine jT_xladd (x := 108917793695 * p7 + 159561683699 * p8 + 68719476736 * q1) (y := 0) (z := 108917793695 * p7 + 159561683699 * p8 + 68719476736 * q1) (pcN := 25) jIQ_41_24 rfl (by omega) rfl ?_
  refine jT_xlstore_n (v := (1, 108917793695 * p7 + 159561683699 * p8 + 68719476736 * q1)) (LN := [(2, (1, 108917793695 * p7 + 159561683699 * p8 + 68719476736 * q1)), (4, (0, 3)), (0, (4, 0)), (1, (4, 1))]) (pcN := 26) jIQ_41_25 rfl rfl rfl rfl ?_
  refine jT_xiinc (x := 3) (z := 4) (LN := [(4, (0, 4)), (2, (1, 108917793695 * p7 + 159561683699 * p8 + 68719476736 * q1)), (0, (4, 0)), (1, (4, 1))]) (pcN := 29) jIQ_41_26 rfl rfl (by decide) rfl rfl ?_
  refine jT_xgoto (pcN := 5) jIQ_41_29 rfl ?_
  refine jT_xiload (v := (0, 4)) (pcN := 7) jIQ_41_5 rfl rfl rfl ?_
  refine jT_xbipush (k := 6) (pcN := 9) jIQ_41_7 (by decide) rfl ?_
  refine jT_xicF (t := 32) (pcN := 12) jIQ_41_9 rfl (by decide +kernel) rfl rfl ?_
  refine jT_xlload_n (v := (1, 108917793695 * p7 + 159561683699 * p8 + 68719476736 * q1)) (pcN := 13) jIQ_41_12 rfl rfl rfl ?_
  refine jT_xaload_n (v := (4, 1)) (pcN := 14) jIQ_41_13 rfl rfl rfl ?_
  refine jT_xiload (v := (0, 4)) (pcN := 16) jIQ_41_14 rfl rfl rfl ?_
  refine jT_lald (x := 0) (a := 1) (j := 4) (fs := []) (X := [q1, p7, p8, 0, 0, 0]) jIQ_41_16 rfl rfl rfl rfl ?_
  refine jT_eq (LN := [(4, (0, 4)), (2, (1, 108917793695 * p7 + 159561683699 * p8 + 68719476736 * q1)), (0, (4, 0)), (1, (4, 1))]) (stN := [(1, 0), (1, 108917793695 * p7 + 159561683699 * p8 + 68719476736 * q1)]) (hsN := [jgh, (101, [], [q1, p7, p8, 0, 0, 0])]) rfl rfl rfl ?_
  refine jT_adv 1 (pcN := 20) (LN := [(4, (0, 4)), (2, (1, 108917793695 * p7 + 159561683699 * p8 + 68719476736 * q1)), (0, (4, 0)), (1, (4, 1))]) (stN := [(5, 0), (1, 0), (1, 108917793695 * p7 + 159561683699 * p8 + 68719476736 * q1)]) (hsN := [jgh, (101, [], [q1, p7, p8, 0, 0, 0])]) (c1 := 0) (s1 := 0) (c2 := 0) (s2 := 0) (by exact rfl) ?_ (by omega) (by omega)
  refine jT_xiload (v := (0, 4)) (pcN := 22) jIQ_41_20 rfl rfl rfl ?_
  refine jT_adv 1 (pcN := 23) (LN := [(4, (0, 4)), (2, (1, 108917793695 * p7 + 159561683699 * p8 + 68719476736 * q1)), (0, (4, 0)), (1, (4, 1))]) (stN := [(1, 237730330636), (1, 0), (1, 108917793695 * p7 + 159561683699 * p8 + 68719476736 * q1)]) (hsN := [jgh, (101, [], [q1, p7, p8, 0, 0, 0])]) (c1 := 0) (s1 := 0) (c2 := 0) (s2 := 0) (by exact rfl) ?_ (by omega) (by omega)
  refine jT_xlmul (x := 0) (y := 237730330636) (z := 0) (pcN := 24) jIQ_41_23 rfl (by decide) rfl ?_
  refine jT_xladd (x := 108917793695 * p7 + 159561683699 * p8 + 68719476736 * q1) (y := 0) (z := 108917793695 * p7 + 159561683699 * p8 + 68719476736 * q1) (pcN := 25) jIQ_41_24 rfl (by omega) rfl ?_
  refine jT_xlstore_n (v := (1, 108917793695 * p7 + 159561683699 * p8 + 68719476736 * q1)) (LN := [(2, (1, 108917793695 * p7 + 159561683699 * p8 + 68719476736 * q1)), (4, (0, 4)), (0, (4, 0)), (1, (4, 1))]) (pcN := 26) jIQ_41_25 rfl rfl rfl rfl ?_
  refine jT_xiinc (x := 4) (z := 5) (LN := [(4, (0, 5)), (2, (1, 108917793695 * p7 + 159561683699 * p8 + 68719476736 * q1)), (0, (4, 0)), (1, (4, 1))]) (pcN := 29) jIQ_41_26 rfl rfl (by decide) rfl rfl ?_
  refine jT_xgoto (pcN := 5) jIQ_41_29 rfl ?_
  refine jT_xiload (v := (0, 5)) (pcN := 7) jIQ_41_5 rfl rfl rfl ?_
  refine jT_xbipush (k := 6) (pcN := 9) jIQ_41_7 (by decide) rfl ?_
  refine jT_xicF (t := 32) (pcN := 12) jIQ_41_9 rfl (by decide +kernel) rfl rfl ?_
  refine jT_xlload_n (v := (1, 108917793695 * p7 + 159561683699 * p8 + 68719476736 * q1)) (pcN := 13) jIQ_41_12 rfl rfl rfl ?_
  refine jT_xaload_n (v := (4, 1)) (pcN := 14) jIQ_41_13 rfl rfl rfl ?_
  refine jT_xiload (v := (0, 5)) (pcN := 16) jIQ_41_14 rfl rfl rfl ?_
  refine jT_lald (x := 0) (a := 1) (j := 5) (fs := []) (X := [q1, p7, p8, 0, 0, 0]) jIQ_41_16 rfl rfl rfl rfl ?_
  refine jT_eq (LN := [(4, (0, 5)), (2, (1, 108917793695 * p7 + 159561683699 * p8 + 68719476736 * q1)), (0, (4, 0)), (1, (4, 1))]) (stN := [(1, 0), (1, 108917793695 * p7 + 159561683699 * p8 + 68719476736 * q1)]) (hsN := [jgh, (101, [], [q1, p7, p8, 0, 0, 0])]) rfl rfl rfl ?_
  refine jT_adv 1 (pcN := 20) (LN := [(4, (0, 5)), (2, (1, 108917793695 * p7 + 159561683699 * p8 + 68719476736 * q1)), (0, (4, 0)), (1, (4, 1))]) (stN := [(5, 0), (1, 0), (1, 108917793695 * p7 + 159561683699 * p8 + 68719476736 * q1)]) (hsN := [jgh, (101, [], [q1, p7, p8, 0, 0, 0])]) (c1 := 0) (s1 := 0) (c2 := 0) (s2 := 0) (by exact rfl) ?_ (by omega) (by omega)
  refine jT_xiload (v := (0, 5)) (pcN := 22) jIQ_41_20 rfl rfl rfl ?_
  refine jT_adv 1 (pcN := 23) (LN := [(4, (0, 5)), (2, (1, 108917793695 * p7 + 159561683699 * p8 + 68719476736 * q1)), (0, (4, 0)), (1, (4, 1))]) (stN := [(1, 254292281123), (1, 0), (1, 108917793695 * p7 + 159561683699 * p8 + 68719476736 * q1)]) (hsN := [jgh, (101, [], [q1, p7, p8, 0, 0, 0])]) (c1 := 0) (s1 := 0) (c2 := 0) (s2 := 0) (by exact rfl) ?_ (by omega) (by omega)
  refine jT_xlmul (x := 0) (y := 254292281123) (z := 0) (pcN := 24) jIQ_41_23 rfl (by decide) rfl ?_
  refine jT_xladd (x := 108917793695 * p7 + 159561683699 * p8 + 68719476736 * q1) (y := 0) (z := 108917793695 * p7 + 159561683699 * p8 + 68719476736 * q1) (pcN := 25) jIQ_41_24 rfl (by omega) rfl ?_
  refine jT_xlstore_n (v := (1, 108917793695 * p7 + 159561683699 * p8 + 68719476736 * q1)) (LN := [(2, (1, 108917793695 * p7 + 159561683699 * p8 + 68719476736 * q1)), (4, (0, 5)), (0, (4, 0)), (1, (4, 1))]) (pcN := 26) jIQ_41_25 rfl rfl rfl rfl ?_
  refine jT_xiinc (x := 5) (z := 6) (LN := [(4, (0, 6)), (2, (1, 108917793695 * p7 + 159561683699 * p8 + 68719476736 * q1)), (0, (4, 0)), (1, (4, 1))]) (pcN := 29) jIQ_41_26 rfl rfl (by decide) rfl rfl ?_
  refine jT_xgoto (pcN := 5) jIQ_41_29 rfl ?_
  refine jT_xiload (v := (0, 6)) (pcN := 7) jIQ_41_5 rfl rfl rfl ?_
  refine jT_xbipush (k := 6) (pcN := 9) jIQ_41_7 (by decide) rfl ?_
  refine jT_xicT (pcN := 32) jIQ_41_9 rfl (by decide +kernel) rfl ?_
  refine jT_xlload_n (v := (1, 108917793695 * p7 + 159561683699 * p8 + 68719476736 * q1)) (pcN := 33) jIQ_41_32 rfl rfl rfl ?_
  exact jT_ret rfl (by decide) (by show 2 ≤ 2; omega) (by omega) (by omega) ⟨rfl, rfl, rfl⟩
theorem jQ_39_138 {xs : List Int} {d : Nat} {p7 p8 q1 : Int} (h_p7 : (-20) ≤ p7 ∧ p7 ≤ 20) (h_p8 : (-10) ≤ p8 ∧ p8 ≤ 10) (h_q1 : (-60) ≤ q1 ∧ q1 ≤ 60) (g_0 : 0 ≤ (-108917793694) * p7 - 159561683698 * p8 - 68719476736 * q1 - 1) (g_1 : 0 ≤ (-108917793694) * p7 - 159561683700 * p8 - 68719476736 * q1 - 1) (g_2 : 0 ≤ (-108917793696) * p7 - 159561683698 * p8 - 68719476736 * q1 - 1) (g_3 : 0 ≤ (-108917793696) * p7 - 159561683700 * p8 - 68719476736 * q1 - 1) (g_4 : p7 < 0) (g_5 : 0 ≤ p8) (g_6 : 0 ≤ q1) (g_7 : 0 ≤ 108917793695 * p7 + 159561683699 * p8 + 68719476736 * q1 - 1) : jT xs d 39 2 0 [(0, (4, 0)), (1, (4, 1))] [] [jgh, (101, [], [q1, p7, p8, 0, 0, 0])] 0 0 (fun k v hsN => k = 0 ∧ v = (1, -p7 + p8) ∧ hsN = [jgh, (101, [], [q1, p7, p8, 0, 0, 0])] ++ []) := by
  refine jT_xlconst (z := 0) (pcN := 1) jIQ_39_0 rfl rfl ?_
  refine jT_xlstore_n (v := (1, 0)) (LN := [(2, (1, 0)), (0, (4, 0)), (1, (4, 1))]) (pcN := 2) jIQ_39_1 rfl rfl rfl rfl ?_
  refine jT_xiconst (k := 1) (pcN := 3) jIQ_39_2 rfl ?_
  refine jT_xistore (v := (0, 1)) (LN := [(4, (0, 1)), (2, (1, 0)), (0, (4, 0)), (1, (4, 1))]) (pcN := 5) jIQ_39_3 rfl rfl rfl rfl ?_
  refine jT_xiload (v := (0, 1)) (pcN := 7) jIQ_39_5 rfl rfl rfl ?_
  refine jT_xbipush (k := 6) (pcN := 9) jIQ_39_7 (by decide) rfl ?_
  refine jT_xicF (t := 28) (pcN := 12) jIQ_39_9 rfl (by decide +kernel) rfl rfl ?_
  refine jT_xlload_n (v := (1, 0)) (pcN := 13) jIQ_39_12 rfl rfl rfl ?_
  refine jT_xaload_n (v := (4, 1)) (pcN := 14) jIQ_39_13 rfl rfl rfl ?_
  refine jT_xiload (v := (0, 1)) (pcN := 16) jIQ_39_14 rfl rfl rfl ?_
  refine jT_lald (x := p7) (a := 1) (j := 1) (fs := []) (X := [q1, p7, p8, 0, 0, 0]) jIQ_39_16 rfl rfl rfl rfl ?_
  refine jT_eq (LN := [(4, (0, 1)), (2, (1, 0)), (0, (4, 0)), (1, (4, 1))]) (stN := [(1, p7), (1, 0)]) (hsN := [jgh, (101, [], [q1, p7, p8, 0, 0, 0])]) rfl rfl rfl ?_
  refine jT_labs (z := -p7) (by rfl) (by rfl) (by rfl) (by rfl) (by rw [show jwl (p7) = p7 from jwl_idd (by omega) (by omega), decide_eq_true (by omega)]; first | (simp only [cond_true, cond_false]; done) | (simp only [cond_true, cond_false]; omega) | rfl) ?_
  refine jT_xladd (x := 0) (y := -p7) (z := -p7) (pcN := 21) jIQ_39_20 rfl (by omega) rfl ?_
  refine jT_xlstore_n (v := (1, -p7)) (LN := [(2, (1, -p7)), (4, (0, 1)), (0, (4, 0)), (1, (4, 1))]) (pcN := 22) jIQ_39_21 rfl rfl rfl rfl ?_
  refine jT_xiinc (x := 1) (z := 2) (LN := [(4, (0, 2)), (2, (1, -p7)), (0, (4, 0)), (1, (4, 1))]) (pcN := 25) jIQ_39_22 rfl rfl (by decide) rfl rfl ?_
  refine jT_xgoto (pcN := 5) jIQ_39_25 rfl ?_
  refine jT_xiload (v := (0, 2)) (pcN := 7) jIQ_39_5 rfl rfl rfl ?_
  refine jT_xbipush (k := 6) (pcN := 9) jIQ_39_7 (by decide) rfl ?_
  refine jT_xicF (t := 28) (pcN := 12) jIQ_39_9 rfl (by decide +kernel) rfl rfl ?_
  refine jT_xlload_n (v := (1, -p7)) (pcN := 13) jIQ_39_12 rfl rfl rfl ?_
  refine jT_xaload_n (v := (4, 1)) (pcN := 14) jIQ_39_13 rfl rfl rfl ?_
  refine jT_xiload (v := (0, 2)) (pcN := 16) jIQ_39_14 rfl rfl rfl ?_
  refine jT_lald (x := p8) (a := 1) (j := 2) (fs := []) (X := [q1, p7, p8, 0, 0, 0]) jIQ_39_16 rfl rfl rfl rfl ?_
  refine jT_eq (LN := [(4, (0, 2)), (2, (1, -p7)), (0, (4, 0)), (1, (4, 1))]) (stN := [(1, p8), (1, -p7)]) (hsN := [jgh, (101, [], [q1, p7, p8, 0, 0, 0])]) rfl rfl rfl ?_
  refine jT_labs (z := p8) (by rfl) (by rfl) (by rfl) (by rfl) (by rw [show jwl (p8) = p8 from jwl_idd (by omega) (by omega), decide_eq_false (by omega)]; first | (simp only [cond_true, cond_false]; done) | (simp only [cond_true, cond_false]; omega) | rfl) ?_
  refine jT_xladd (x := -p7) (y := p8) (z := -p7 + p8) (pcN := 21) jIQ_39_20 rfl (by omega) rfl ?_
  refine jT_xlstore_n (v := (1, -p7 + p8)) (LN := [(2, (1, -p7 + p8)), (4, (0, 2)), (0, (4, 0)), (1, (4, 1))]) (pcN := 22) jIQ_39_21 rfl rfl rfl rfl ?_
  refine jT_xiinc (x := 2) (z := 3) (LN := [(4, (0, 3)), (2, (1, -p7 + p8)), (0, (4, 0)), (1, (4, 1))]) (pcN := 25) jIQ_39_22 rfl rfl (by decide) rfl rfl ?_
  refine jT_xgoto (pcN := 5) jIQ_39_25 rfl ?_
  refine jT_xiload (v := (0, 3)) (pcN := 7) jIQ_39_5 rfl rfl rfl ?_
  refine jT_xbipush (k := 6) (pcN := 9) jIQ_39_7 (by decide) rfl ?_
  refine jT_xicF (t := 28) (pcN := 12) jIQ_39_9 rfl (by decide +kernel) rfl rfl ?_
  refine jT_xlload_n (v := (1, -p7 + p8)) (pcN := 13) jIQ_39_12 rfl rfl rfl ?_
  refine jT_xaload_n (v := (4, 1)) (pcN := 14) jIQ_39_13 rfl rfl rfl ?_
  refine jT_xiload (v := (0, 3)) (pcN := 16) jIQ_39_14 rfl rfl rfl ?_
  refine jT_lald (x := 0) (a := 1) (j := 3) (fs := []) (X := [q1, p7, p8, 0, 0, 0]) jIQ_39_16 rfl rfl rfl rfl ?_
  refine jT_eq (LN := [(4, (0, 3)), (2, (1, -p7 + p8)), (0, (4, 0)), (1, (4, 1))]) (stN := [(1, 0), (1, -p7 + p8)]) (hsN := [jgh, (101, [], [q1, p7, p8, 0, 0, 0])]) rfl rfl rfl ?_
  refine jT_labs (z := 0) (by rfl) (by rfl) (by rfl) (by rfl) (by decide +kernel) ?_
  refine jT_xladd (x := -p7 + p8) (y := 0) (z := -p7 + p8) (pcN := 21) jIQ_39_20 rfl (by omega) rfl ?_
  refine jT_xlstore_n (v := (1, -p7 + p8)) (LN := [(2, (1, -p7 + p8)), (4, (0, 3)), (0, (4, 0)), (1, (4, 1))]) (pcN := 22) jIQ_39_21 rfl rfl rfl rfl ?_
  refine jT_xiinc (x := 3) (z := 4) (LN := [(4, (0, 4)), (2, (1, -p7 + p8)), (0, (4, 0)), (1, (4, 1))]) (pcN := 25) jIQ_39_22 rfl rfl (by decide) rfl rfl ?_
  refine jT_xgoto (pcN := 5) jIQ_39_25 rfl ?_
  refine jT_xiload (v := (0, 4)) (pcN := 7) jIQ_39_5 rfl rfl rfl ?_
  refine jT_xbipush (k := 6) (pcN := 9) jIQ_39_7 (by decide) rfl ?_
  refine jT_xicF (t := 28) (pcN := 12) jIQ_39_9 rfl (by decide +kernel) rfl rfl ?_
  refine jT_xlload_n (v := (1, -p7 + p8)) (pcN := 13) jIQ_39_12 rfl rfl rfl ?_
  refine jT_xaload_n (v := (4, 1)) (pcN := 14) jIQ_39_13 rfl rfl rfl ?_
  refine jT_xiload (v := (0, 4)) (pcN := 16) jIQ_39_14 rfl rfl rfl ?_
  refine jT_lald (x := 0) (a := 1) (j := 4) (fs := []) (X := [q1, p7, p8, 0, 0, 0]) jIQ_39_16 rfl rfl rfl rfl ?_
  refine jT_eq (LN := [(4, (0, 4)), (2, (1, -p7 + p8)), (0, (4, 0)), (1, (4, 1))]) (stN := [(1, 0), (1, -p7 + p8)]) (hsN := [jgh, (101, [], [q1, p7, p8, 0, 0, 0])]) rfl rfl rfl ?_
  refine jT_labs (z := 0) (by rfl) (by rfl) (by rfl) (by rfl) (by decide +kernel) ?_
  refine jT_xladd (x := -p7 + p8) (y := 0) (z := -p7 + p8) (pcN := 21) jIQ_39_20 rfl (by omega) rfl ?_
  refine jT_xlstore_n (v := (1, -p7 + p8)) (LN := [(2, (1, -p7 + p8)), (4, (0, 4)), (0, (4, 0)), (1, (4, 1))]) (pcN := 22) jIQ_39_21 rfl rfl rfl rfl ?_
  refine jT_xiinc (x := 4) (z := 5) (LN := [(4, (0, 5)), (2, (1, -p7 + p8)), (0, (4, 0)), (1, (4, 1))]) (pcN := 25) jIQ_39_22 rfl rfl (by decide) rfl rfl ?_
  refine jT_xgoto (pcN := 5) jIQ_39_25 rfl ?_
  refine jT_xiload (v := (0, 5)) (pcN := 7) jIQ_39_5 rfl rfl rfl ?_
  refine jT_xbipush (k := 6) (pcN := 9) jIQ_39_7 (by decide) rfl ?_
  refine jT_xicF (t := 28) (pcN := 12) jIQ_39_9 rfl (by decide +kernel) rfl rfl ?_
  refine jT_xlload_n (v := (1, -p7 + p8)) (pcN := 13) jIQ_39_12 rfl rfl rfl ?_
  refine jT_xaload_n (v := (4, 1)) (pcN := 14) jIQ_39_13 rfl rfl rfl ?_
  refine jT_xiload (v := (0, 5)) (pcN := 16) jIQ_39_14 rfl rfl rfl ?_
  refine jT_lald (x := 0) (a := 1) (j := 5) (fs := []) (X := [q1, p7, p8, 0, 0, 0]) jIQ_39_16 rfl rfl rfl rfl ?_
  refine jT_eq (LN := [(4, (0, 5)), (2, (1, -p7 + p8)), (0, (4, 0)), (1, (4, 1))]) (stN := [(1, 0), (1, -p7 + p8)]) (hsN := [jgh, (101, [], [q1, p7, p8, 0, 0, 0])]) rfl rfl rfl ?_
  refine jT_labs (z := 0) (by rfl) (by rfl) (by rfl) (by rfl) (by decide +kernel) ?_
  refine jT_xladd (x := -p7 + p8) (y := 0) (z := -p7 + p8) (pcN := 21) jIQ_39_20 rfl (by omega) rfl ?_
  refine jT_xlstore_n (v := (1, -p7 + p8)) (LN := [(2, (1, -p7 + p8)), (4, (0, 5)), (0, (4, 0)), (1, (4, 1))]) (pcN := 22) jIQ_39_21 rfl rfl rfl rfl ?_
  refine jT_xiinc (x := 5) (z := 6) (LN := [(4, (0, 6)), (2, (1, -p7 + p8)), (0, (4, 0)), (1, (4, 1))]) (pcN := 25) jIQ_39_22 rfl rfl (by decide) rfl rfl ?_
  refine jT_xgoto (pcN := 5) jIQ_39_25 rfl ?_
  refine jT_xiload (v := (0, 6)) (pcN := 7) jIQ_39_5 rfl rfl rfl ?_
  refine jT_xbipush (k := 6) (pcN := 9) jIQ_39_7 (by decide) rfl ?_
  refine jT_xicT (pcN := 28) jIQ_39_9 rfl (by decide +kernel) rfl ?_
  refine jT_xlload_n (v := (1, -p7 + p8)) (pcN := 29) jIQ_39_28 rfl rfl rfl ?_
  exact jT_ret rfl (by decide) (by show 2 ≤ 2; omega) (by omega) (by omega) ⟨rfl, rfl, rfl⟩
theorem jQ_40_139 {xs : List Int} {d : Nat} {p7 p8 q1 : Int} (h_p7 : (-20) ≤ p7 ∧ p7 ≤ 20) (h_p8 : (-10) ≤ p8 ∧ p8 ≤ 10) (h_q1 : (-60) ≤ q1 ∧ q1 ≤ 60) (g_0 : 0 ≤ (-108917793694) * p7 - 159561683698 * p8 - 68719476736 * q1 - 1) (g_1 : 0 ≤ (-108917793694) * p7 - 159561683700 * p8 - 68719476736 * q1 - 1) (g_2 : 0 ≤ (-108917793696) * p7 - 159561683698 * p8 - 68719476736 * q1 - 1) (g_3 : 0 ≤ (-108917793696) * p7 - 159561683700 * p8 - 68719476736 * q1 - 1) (g_4 : p7 < 0) (g_5 : 0 ≤ p8) (g_6 : 0 ≤ q1) (g_7 : 0 ≤ 108917793695 * p7 + 159561683699 * p8 + 68719476736 * q1 - 1) : jT xs d 40 2 0 [(0, (4, 0)), (1, (4, 1)), (2, (1, -p7 + p8))] [] [jgh, (101, [], [q1, p7, p8, 0, 0, 0])] 0 0 (fun k v hsN => k = 0 ∧ v = (0, 1) ∧ hsN = [jgh, (101, [], [q1, p7, p8, 0, 0, 0])] ++ []) := by
  refine jT_xlload_n (v := (1, -p7 + p8)) (pcN := 1) jIQ_40_0 rfl rfl rfl ?_
  refine jT_adv 1 (pcN := 4) (LN := [(0, (4, 0)), (1, (4, 1)), (2, (1, -p7 + p8))]) (stN := [(1, 16777216), (1, -p7 + p8)]) (hsN := [jgh, (101, [], [q1, p7, p8, 0, 0, 0])]) (c1 := 0) (s1 := 0) (c2 := 0) (s2 := 0) (by exact rfl) ?_ (by omega) (by omega)
  refine jT_lcmp (a := -p7 + p8) (b := 16777216) (z := (-1)) (by rfl) (by rfl) (jwl_idd (by omega) (by omega)) (jwl_idd (by omega) (by omega)) (by rw [decide_eq_false (show ¬ ((16777216 : Int) < -p7 + p8) by omega), decide_eq_false (show ¬ ((-p7 + p8 : Int) = 16777216) by omega)]; rfl) ?_
  refine jT_xifF (t := 25) (pcN := 8) jIQ_40_5 rfl (by decide +kernel) rfl rfl ?_
  refine jT_xaload_n (v := (4, 1)) (pcN := 9) jIQ_40_8 rfl rfl rfl ?_
  refine jT_xiconst (k := 0) (pcN := 10) jIQ_40_9 rfl ?_
  refine jT_lald (x := q1) (a := 1) (j := 0) (fs := []) (X := [q1, p7, p8, 0, 0, 0]) jIQ_40_10 rfl rfl rfl rfl ?_
  refine jT_eq (LN := [(0, (4, 0)), (1, (4, 1)), (2, (1, -p7 + p8))]) (stN := [(1, q1)]) (hsN := [jgh, (101, [], [q1, p7, p8, 0, 0, 0])]) rfl rfl rfl ?_
  refine jT_labs (z := q1) (by rfl) (by rfl) (by rfl) (by rfl) (by rw [show jwl (q1) = q1 from jwl_idd (by omega) (by omega), decide_eq_false (by omega)]; first | (simp only [cond_true, cond_false]; done) | (simp only [cond_true, cond_false]; omega) | rfl) ?_
  refine jT_adv 1 (pcN := 17) (LN := [(0, (4, 0)), (1, (4, 1)), (2, (1, -p7 + p8))]) (stN := [(1, 16777216), (1, q1)]) (hsN := [jgh, (101, [], [q1, p7, p8, 0, 0, 0])]) (c1 := 0) (s1 := 0) (c2 := 0) (s2 := 0) (by exact rfl) ?_ (by omega) (by omega)
  refine jT_lcmp (a := q1) (b := 16777216) (z := (-1)) (by rfl) (by rfl) (jwl_idd (by omega) (by omega)) (jwl_idd (by omega) (by omega)) (by rw [decide_eq_false (show ¬ ((16777216 : Int) < q1) by omega), decide_eq_false (show ¬ ((q1 : Int) = 16777216) by omega)]; rfl) ?_
  refine jT_xifF (t := 25) (pcN := 21) jIQ_40_18 rfl (by decide +kernel) rfl rfl ?_
  refine jT_xiconst (k := 1) (pcN := 22) jIQ_40_21 rfl ?_
  refine jT_xgoto (pcN := 26) jIQ_40_22 rfl ?_
  exact jT_ret rfl (by decide) (by show 2 ≤ 2; omega) (by omega) (by omega) ⟨rfl, rfl, rfl⟩
theorem jQ_41_140 {xs : List Int} {d : Nat} {p7 p8 q1 : Int} (h_p7 : (-20) ≤ p7 ∧ p7 ≤ 20) (h_p8 : (-10) ≤ p8 ∧ p8 ≤ 10) (h_q1 : (-60) ≤ q1 ∧ q1 ≤ 60) (g_0 : 0 ≤ (-108917793694) * p7 - 159561683698 * p8 - 68719476736 * q1 - 1) (g_1 : 0 ≤ (-108917793694) * p7 - 159561683700 * p8 - 68719476736 * q1 - 1) (g_2 : 0 ≤ (-108917793696) * p7 - 159561683698 * p8 - 68719476736 * q1 - 1) (g_3 : 0 ≤ (-108917793696) * p7 - 159561683700 * p8 - 68719476736 * q1 - 1) (g_4 : p7 < 0) (g_5 : 0 ≤ p8) (g_6 : 0 ≤ q1) (g_7 : 0 ≤ 108917793695 * p7 + 159561683699 * p8 + 68719476736 * q1 - 1) : jT xs d 41 2 0 [(0, (4, 0)), (1, (4, 1))] [] [jgh, (101, [], [q1, p7, p8, 0, 0, 0])] 0 0 (fun k v hsN => k = 0 ∧ v = (1, 108917793695 * p7 + 159561683699 * p8 + 68719476736 * q1) ∧ hsN = [jgh, (101, [], [q1, p7, p8, 0, 0, 0])] ++ []) := by
  refine jT_xlconst (z := 0) (pcN := 1) jIQ_41_0 rfl rfl ?_
  refine jT_xlstore_n (v := (1, 0)) (LN := [(2, (1, 0)), (0, (4, 0)), (1, (4, 1))]) (pcN := 2) jIQ_41_1 rfl rfl rfl rfl ?_
  refine jT_xiconst (k := 0) (pcN := 3) jIQ_41_2 rfl ?_
  refine jT_xistore (v := (0, 0)) (LN := [(4, (0, 0)), (2, (1, 0)), (0, (4, 0)), (1, (4, 1))]) (pcN := 5) jIQ_41_3 rfl rfl rfl rfl ?_
  refine jT_xiload (v := (0, 0)) (pcN := 7) jIQ_41_5 rfl rfl rfl ?_
  refine jT_xbipush (k := 6) (pcN := 9) jIQ_41_7 (by decide) rfl ?_
  refine jT_xicF (t := 32) (pcN := 12) jIQ_41_9 rfl (by decide +kernel) rfl rfl ?_
  refine jT_xlload_n (v := (1, 0)) (pcN := 13) jIQ_41_12 rfl rfl rfl ?_
  refine jT_xaload_n (v := (4, 1)) (pcN := 14) jIQ_41_13 rfl rfl rfl ?_
  refine jT_xiload (v := (0, 0)) (pcN := 16) jIQ_41_14 rfl rfl rfl ?_
  refine jT_lald (x := q1) (a := 1) (j := 0) (fs := []) (X := [q1, p7, p8, 0, 0, 0]) jIQ_41_16 rfl rfl rfl rfl ?_
  refine jT_eq (LN := [(4, (0, 0)), (2, (1, 0)), (0, (4, 0)), (1, (4, 1))]) (stN := [(1, q1), (1, 0)]) (hsN := [jgh, (101, [], [q1, p7, p8, 0, 0, 0])]) rfl rfl rfl ?_
  refine jT_adv 1 (pcN := 20) (LN := [(4, (0, 0)), (2, (1, 0)), (0, (4, 0)), (1, (4, 1))]) (stN := [(5, 0), (1, q1), (1, 0)]) (hsN := [jgh, (101, [], [q1, p7, p8, 0, 0, 0])]) (c1 := 0) (s1 := 0) (c2 := 0) (s2 := 0) (by exact rfl) ?_ (by omega) (by omega)
  refine jT_xiload (v := (0, 0)) (pcN := 22) jIQ_41_20 rfl rfl rfl ?_
  refine jT_adv 1 (pcN := 23) (LN := [(4, (0, 0)), (2, (1, 0)), (0, (4, 0)), (1, (4, 1))]) (stN := [(1, 68719476736), (1, q1), (1, 0)]) (hsN := [jgh, (101, [], [q1, p7, p8, 0, 0, 0])]) (c1 := 0) (s1 := 0) (c2 := 0) (s2 := 0) (by exact rfl) ?_ (by omega) (by omega)
  refine jT_xlmul (x := q1) (y := 68719476736) (z := 68719476736 * q1) (pcN := 24) jIQ_41_23 rfl (by omega) rfl ?_
  refine jT_xladd (x := 0) (y := 68719476736 * q1) (z := 68719476736 * q1) (pcN := 25) jIQ_41_24 rfl (by omega) rfl ?_
  refine jT_xlstore_n (v := (1, 68719476736 * q1)) (LN := [(2, (1, 68719476736 * q1)), (4, (0, 0)), (0, (4, 0)), (1, (4, 1))]) (pcN := 26) jIQ_41_25 rfl rfl rfl rfl ?_
  refine jT_xiinc (x := 0) (z := 1) (LN := [(4, (0, 1)), (2, (1, 68719476736 * q1)), (0, (4, 0)), (1, (4, 1))]) (pcN := 29) jIQ_41_26 rfl rfl (by decide) rfl rfl ?_
  refine jT_xgoto (pcN := 5) jIQ_41_29 rfl ?_
  refine jT_xiload (v := (0, 1)) (pcN := 7) jIQ_41_5 rfl rfl rfl ?_
  refine jT_xbipush (k := 6) (pcN := 9) jIQ_41_7 (by decide) rfl ?_
  refine jT_xicF (t := 32) (pcN := 12) jIQ_41_9 rfl (by decide +kernel) rfl rfl ?_
  refine jT_xlload_n (v := (1, 68719476736 * q1)) (pcN := 13) jIQ_41_12 rfl rfl rfl ?_
  refine jT_xaload_n (v := (4, 1)) (pcN := 14) jIQ_41_13 rfl rfl rfl ?_
  refine jT_xiload (v := (0, 1)) (pcN := 16) jIQ_41_14 rfl rfl rfl ?_
  refine jT_lald (x := p7) (a := 1) (j := 1) (fs := []) (X := [q1, p7, p8, 0, 0, 0]) jIQ_41_16 rfl rfl rfl rfl ?_
  refine jT_eq (LN := [(4, (0, 1)), (2, (1, 68719476736 * q1)), (0, (4, 0)), (1, (4, 1))]) (stN := [(1, p7), (1, 68719476736 * q1)]) (hsN := [jgh, (101, [], [q1, p7, p8, 0, 0, 0])]) rfl rfl rfl ?_
  refine jT_adv 1 (pcN := 20) (LN := [(4, (0, 1)), (2, (1, 68719476736 * q1)), (0, (4, 0)), (1, (4, 1))]) (stN := [(5, 0), (1, p7), (1, 68719476736 * q1)]) (hsN := [jgh, (101, [], [q1, p7, p8, 0, 0, 0])]) (c1 := 0) (s1 := 0) (c2 := 0) (s2 := 0) (by exact rfl) ?_ (by omega) (by omega)
  refine jT_xiload (v := (0, 1)) (pcN := 22) jIQ_41_20 rfl rfl rfl ?_
  refine jT_adv 1 (pcN := 23) (LN := [(4, (0, 1)), (2, (1, 68719476736 * q1)), (0, (4, 0)), (1, (4, 1))]) (stN := [(1, 108917793695), (1, p7), (1, 68719476736 * q1)]) (hsN := [jgh, (101, [], [q1, p7, p8, 0, 0, 0])]) (c1 := 0) (s1 := 0) (c2 := 0) (s2 := 0) (by exact rfl) ?_ (by omega) (by omega)
  refine jT_xlmul (x := p7) (y := 108917793695) (z := 108917793695 * p7) (pcN := 24) jIQ_41_23 rfl (by omega) rfl ?_
  refine jT_xladd (x := 68719476736 * q1) (y := 108917793695 * p7) (z := 108917793695 * p7 + 68719476736 * q1) (pcN := 25) jIQ_41_24 rfl (by omega) rfl ?_
  refine jT_xlstore_n (v := (1, 108917793695 * p7 + 68719476736 * q1)) (LN := [(2, (1, 108917793695 * p7 + 68719476736 * q1)), (4, (0, 1)), (0, (4, 0)), (1, (4, 1))]) (pcN := 26) jIQ_41_25 rfl rfl rfl rfl ?_
  refine jT_xiinc (x := 1) (z := 2) (LN := [(4, (0, 2)), (2, (1, 108917793695 * p7 + 68719476736 * q1)), (0, (4, 0)), (1, (4, 1))]) (pcN := 29) jIQ_41_26 rfl rfl (by decide) rfl rfl ?_
  refine jT_xgoto (pcN := 5) jIQ_41_29 rfl ?_
  refine jT_xiload (v := (0, 2)) (pcN := 7) jIQ_41_5 rfl rfl rfl ?_
  refine jT_xbipush (k := 6) (pcN := 9) jIQ_41_7 (by decide) rfl ?_
  refine jT_xicF (t := 32) (pcN := 12) jIQ_41_9 rfl (by decide +kernel) rfl rfl ?_
  refine jT_xlload_n (v := (1, 108917793695 * p7 + 68719476736 * q1)) (pcN := 13) jIQ_41_12 rfl rfl rfl ?_
  refine jT_xaload_n (v := (4, 1)) (pcN := 14) jIQ_41_13 rfl rfl rfl ?_
  refine jT_xiload (v := (0, 2)) (pcN := 16) jIQ_41_14 rfl rfl rfl ?_
  refine jT_lald (x := p8) (a := 1) (j := 2) (fs := []) (X := [q1, p7, p8, 0, 0, 0]) jIQ_41_16 rfl rfl rfl rfl ?_
  refine jT_eq (LN := [(4, (0, 2)), (2, (1, 108917793695 * p7 + 68719476736 * q1)), (0, (4, 0)), (1, (4, 1))]) (stN := [(1, p8), (1, 108917793695 * p7 + 68719476736 * q1)]) (hsN := [jgh, (101, [], [q1, p7, p8, 0, 0, 0])]) rfl rfl rfl ?_
  refine jT_adv 1 (pcN := 20) (LN := [(4, (0, 2)), (2, (1, 108917793695 * p7 + 68719476736 * q1)), (0, (4, 0)), (1, (4, 1))]) (stN := [(5, 0), (1, p8), (1, 108917793695 * p7 + 68719476736 * q1)]) (hsN := [jgh, (101, [], [q1, p7, p8, 0, 0, 0])]) (c1 := 0) (s1 := 0) (c2 := 0) (s2 := 0) (by exact rfl) ?_ (by omega) (by omega)
  refine jT_xiload (v := (0, 2)) (pcN := 22) jIQ_41_20 rfl rfl rfl ?_
  refine jT_adv 1 (pcN := 23) (LN := [(4, (0, 2)), (2, (1, 108917793695 * p7 + 68719476736 * q1)), (0, (4, 0)), (1, (4, 1))]) (stN := [(1, 159561683699), (1, p8), (1, 108917793695 * p7 + 68719476736 * q1)]) (hsN := [jgh, (101, [], [q1, p7, p8, 0, 0, 0])]) (c1 := 0) (s1 := 0) (c2 := 0) (s2 := 0) (by exact rfl) ?_ (by omega) (by omega)
  refine jT_xlmul (x := p8) (y := 159561683699) (z := 159561683699 * p8) (pcN := 24) jIQ_41_23 rfl (by omega) rfl ?_
  refine jT_xladd (x := 108917793695 * p7 + 68719476736 * q1) (y := 159561683699 * p8) (z := 108917793695 * p7 + 159561683699 * p8 + 68719476736 * q1) (pcN := 25) jIQ_41_24 rfl (by omega) rfl ?_
  refine jT_xlstore_n (v := (1, 108917793695 * p7 + 159561683699 * p8 + 68719476736 * q1)) (LN := [(2, (1, 108917793695 * p7 + 159561683699 * p8 + 68719476736 * q1)), (4, (0, 2)), (0, (4, 0)), (1, (4, 1))]) (pcN := 26) jIQ_41_25 rfl rfl rfl rfl ?_
  refine jT_xiinc (x := 2) (z := 3) (LN := [(4, (0, 3)), (2, (1, 108917793695 * p7 + 159561683699 * p8 + 68719476736 * q1)), (0, (4, 0)), (1, (4, 1))]) (pcN := 29) jIQ_41_26 rfl rfl (by decide) rfl rfl ?_
  refine jT_xgoto (pcN := 5) jIQ_41_29 rfl ?_
  refine jT_xiload (v := (0, 3)) (pcN := 7) jIQ_41_5 rfl rfl rfl ?_
  refine jT_xbipush (k := 6) (pcN := 9) jIQ_41_7 (by decide) rfl ?_
  refine jT_xicF (t := 32) (pcN := 12) jIQ_41_9 rfl (by decide +kernel) rfl rfl ?_
  refine jT_xlload_n (v := (1, 108917793695 * p7 + 159561683699 * p8 + 68719476736 * q1)) (pcN := 13) jIQ_41_12 rfl rfl rfl ?_
  refine jT_xaload_n (v := (4, 1)) (pcN := 14) jIQ_41_13 rfl rfl rfl ?_
  refine jT_xiload (v := (0, 3)) (pcN := 16) jIQ_41_14 rfl rfl rfl ?_
  refine jT_lald (x := 0) (a := 1) (j := 3) (fs := []) (X := [q1, p7, p8, 0, 0, 0]) jIQ_41_16 rfl rfl rfl rfl ?_
  refine jT_eq (LN := [(4, (0, 3)), (2, (1, 108917793695 * p7 + 159561683699 * p8 + 68719476736 * q1)), (0, (4, 0)), (1, (4, 1))]) (stN := [(1, 0), (1, 108917793695 * p7 + 159561683699 * p8 + 68719476736 * q1)]) (hsN := [jgh, (101, [], [q1, p7, p8, 0, 0, 0])]) rfl rfl rfl ?_
  refine jT_adv 1 (pcN := 20) (LN := [(4, (0, 3)), (2, (1, 108917793695 * p7 + 159561683699 * p8 + 68719476736 * q1)), (0, (4, 0)), (1, (4, 1))]) (stN := [(5, 0), (1, 0), (1, 108917793695 * p7 + 159561683699 * p8 + 68719476736 * q1)]) (hsN := [jgh, (101, [], [q1, p7, p8, 0, 0, 0])]) (c1 := 0) (s1 := 0) (c2 := 0) (s2 := 0) (by exact rfl) ?_ (by omega) (by omega)
  refine jT_xiload (v := (0, 3)) (pcN := 22) jIQ_41_20 rfl rfl rfl ?_
  refine jT_adv 1 (pcN := 23) (LN := [(4, (0, 3)), (2, (1, 108917793695 * p7 + 159561683699 * p8 + 68719476736 * q1)), (0, (4, 0)), (1, (4, 1))]) (stN := [(1, 192919961256), (1, 0), (1, 108917793695 * p7 + 159561683699 * p8 + 68719476736 * q1)]) (hsN := [jgh, (101, [], [q1, p7, p8, 0, 0, 0])]) (c1 := 0) (s1 := 0) (c2 := 0) (s2 := 0) (by exact rfl) ?_ (by omega) (by omega)
  refine jT_xlmul (x := 0) (y := 192919961256) (z := 0) (pcN := 24) jIQ_41_23 rfl (by decide) rfl ?_
  refine jT_xladd (x := 108917793695 * p7 + 159561683699 * p8 + 68719476736 * q1) (y := 0) (z := 108917793695 * p7 + 159561683699 * p8 + 68719476736 * q1) (pcN := 25) jIQ_41_24 rfl (by omega) rfl ?_
  refine jT_xlstore_n (v := (1, 108917793695 * p7 + 159561683699 * p8 + 68719476736 * q1)) (LN := [(2, (1, 108917793695 * p7 + 159561683699 * p8 + 68719476736 * q1)), (4, (0, 3)), (0, (4, 0)), (1, (4, 1))]) (pcN := 26) jIQ_41_25 rfl rfl rfl rfl ?_
  refine jT_xiinc (x := 3) (z := 4) (LN := [(4, (0, 4)), (2, (1, 108917793695 * p7 + 159561683699 * p8 + 68719476736 * q1)), (0, (4, 0)), (1, (4, 1))]) (pcN := 29) jIQ_41_26 rfl rfl (by decide) rfl rfl ?_
  refine jT_xgoto (pcN := 5) jIQ_41_29 rfl ?_
  refine jT_xiload (v := (0, 4)) (pcN := 7) jIQ_41_5 rfl rfl rfl ?_
  refine jT_xbipush (k := 6) (pcN := 9) jIQ_41_7 (by decide) rfl ?_
  refine jT_xicF (t := 32) (pcN := 12) jIQ_41_9 rfl (by decide +kernel) rfl rfl ?_
  refine jT_xlload_n (v := (1, 108917793695 * p7 + 159561683699 * p8 + 68719476736 * q1)) (pcN := 13) jIQ_41_12 rfl rfl rfl ?_
  refine jT_xaload_n (v := (4, 1)) (pcN := 14) jIQ_41_13 rfl rfl rfl ?_
  refine jT_xiload (v := (0, 4)) (pcN := 16) jIQ_41_14 rfl rfl rfl ?_
  refine jT_lald (x := 0) (a := 1) (j := 4) (fs := []) (X := [q1, p7, p8, 0, 0, 0]) jIQ_41_16 rfl rfl rfl rfl ?_
  refine jT_eq (LN := [(4, (0, 4)), (2, (1, 108917793695 * p7 + 159561683699 * p8 + 68719476736 * q1)), (0, (4, 0)), (1, (4, 1))]) (stN := [(1, 0), (1, 108917793695 * p7 + 159561683699 * p8 + 68719476736 * q1)]) (hsN := [jgh, (101, [], [q1, p7, p8, 0, 0, 0])]) rfl rfl rfl ?_
  refine jT_adv 1 (pcN := 20) (LN := [(4, (0, 4)), (2, (1, 108917793695 * p7 + 159561683699 * p8 + 68719476736 * q1)), (0, (4, 0)), (1, (4, 1))]) (stN := [(5, 0), (1, 0), (1, 108917793695 * p7 + 159561683699 * p8 + 68719476736 * q1)]) (hsN := [jgh, (101, [], [q1, p7, p8, 0, 0, 0])]) (c1 := 0) (s1 := 0) (c2 := 0) (s2 := 0) (by exact rfl) ?_ (by omega) (by omega)
  refine jT_xiload (v := (0, 4)) (pcN := 22) jIQ_41_20 rfl rfl rfl ?_
  refine jT_adv 1 (pcN := 23) (LN := [(4, (0, 4)), (2, (1, 108917793695 * p7 + 159561683699 * p8 + 68719476736 * q1)), (0, (4, 0)), (1, (4, 1))]) (stN := [(1, 237730330636), (1, 0), (1, 108917793695 * p7 + 159561683699 * p8 + 68719476736 * q1)]) (hsN := [jgh, (101, [], [q1, p7, p8, 0, 0, 0])]) (c1 := 0) (s1 := 0) (c2 := 0) (s2 := 0) (by exact rfl) ?_ (by omega) (by omega)
  refine jT_xlmul (x := 0) (y := 237730330636) (z := 0) (pcN := 24) jIQ_41_23 rfl (by decide) rfl ?_
  refine jT_xladd (x := 108917793695 * p7 + 159561683699 * p8 + 68719476736 * q1) (y := 0) (z := 108917793695 * p7 + 159561683699 * p8 + 68719476736 * q1) (pcN := 25) jIQ_41_24 rfl (by omega) rfl ?_
  refine jT_xlstore_n (v := (1, 108917793695 * p7 + 159561683699 * p8 + 68719476736 * q1)) (LN := [(2, (1, 108917793695 * p7 + 159561683699 * p8 + 68719476736 * q1)), (4, (0, 4)), (0, (4, 0)), (1, (4, 1))]) (pcN := 26) jIQ_41_25 rfl rfl rfl rfl ?_
  refine jT_xiinc (x := 4) (z := 5) (LN := [(4, (0, 5)), (2, (1, 108917793695 * p7 + 159561683699 * p8 + 68719476736 * q1)), (0, (4, 0)), (1, (4, 1))]) (pcN := 29) jIQ_41_26 rfl rfl (by decide) rfl rfl ?_
  refine jT_xgoto (pcN := 5) jIQ_41_29 rfl ?_
  refine jT_xiload (v := (0, 5)) (pcN := 7) jIQ_41_5 rfl rfl rfl ?_
  refine jT_xbipush (k := 6) (pcN := 9) jIQ_41_7 (by decide) rfl ?_
  refine jT_xicF (t := 32) (pcN := 12) jIQ_41_9 rfl (by decide +kernel) rfl rfl ?_
  refine jT_xlload_n (v := (1, 108917793695 * p7 + 159561683699 * p8 + 68719476736 * q1)) (pcN := 13) jIQ_41_12 rfl rfl rfl ?_
  refine jT_xaload_n (v := (4, 1)) (pcN := 14) jIQ_41_13 rfl rfl rfl ?_
  refine jT_xiload (v := (0, 5)) (pcN := 16) jIQ_41_14 rfl rfl rfl ?_
  refine jT_lald (x := 0) (a := 1) (j := 5) (fs := []) (X := [q1, p7, p8, 0, 0, 0]) jIQ_41_16 rfl rfl rfl rfl ?_
  refine jT_eq (LN := [(4, (0, 5)), (2, (1, 108917793695 * p7 + 159561683699 * p8 + 68719476736 * q1)), (0, (4, 0)), (1, (4, 1))]) (stN := [(1, 0), (1, 108917793695 * p7 + 159561683699 * p8 + 68719476736 * q1)]) (hsN := [jgh, (101, [], [q1, p7, p8, 0, 0, 0])]) rfl rfl rfl ?_
  refine jT_adv 1 (pcN := 20) (LN := [(4, (0, 5)), (2, (1, 108917793695 * p7 + 159561683699 * p8 + 68719476736 * q1)), (0, (4, 0)), (1, (4, 1))]) (stN := [(5, 0), (1, 0), (1, 108917793695 * p7 + 159561683699 * p8 + 68719476736 * q1)]) (hsN := [jgh, (101, [], [q1, p7, p8, 0, 0, 0])]) (c1 := 0) (s1 := 0) (c2 := 0) (s2 := 0) (by exact rfl) ?_ (by omega) (by omega)
  refine jT_xiload (v := (0, 5)) (pcN := 22) jIQ_41_20 rfl rfl rfl ?_
  refine jT_adv 1 (pcN := 23) (LN := [(4, (0, 5)), (2, (1, 108917793695 * p7 + 159561683699 * p8 + 68719476736 * q1)), (0, (4, 0)), (1, (4, 1))]) (stN := [(1, 254292281123), (1, 0), (1, 108917793695 * p7 + 159561683699 * p8 + 68719476736 * q1)]) (hsN := [jgh, (101, [], [q1, p7, p8, 0, 0, 0])]) (c1 := 0) (s1 := 0) (c2 := 0) (s2 := 0) (by exact rfl) ?_ (by omega) (by omega)
  refine jT_xlmul (x := 0) (y := 254292281123) (z := 0) (pcN := 24) jIQ_41_23 rfl (by decide) rfl ?_
  refine jT_xladd (x := 108917793695 * p7 + 159561683699 * p8 + 68719476736 * q1) (y := 0) (z := 108917793695 * p7 + 159561683699 * p8 + 68719476736 * q1) (pcN := 25) jIQ_41_24 rfl (by omega) rfl ?_
  refine jT_xlstore_n (v := (1, 108917793695 * p7 + 159561683699 * p8 + 68719476736 * q1)) (LN := [(2, (1, 108917793695 * p7 + 159561683699 * p8 + 68719476736 * q1)), (4, (0, 5)), (0, (4, 0)), (1, (4, 1))]) (pcN := 26) jIQ_41_25 rfl rfl rfl rfl ?_
  refine jT_xiinc (x := 5) (z := 6) (LN := [(4, (0, 6)), (2, (1, 108917793695 * p7 + 159561683699 * p8 + 68719476736 * q1)), (0, (4, 0)), (1, (4, 1))]) (pcN := 29) jIQ_41_26 rfl rfl (by decide) rfl rfl ?_
  refine jT_xgoto (pcN := 5) jIQ_41_29 rfl ?_
  refine jT_xiload (v := (0, 6)) (pcN := 7) jIQ_41_5 rfl rfl rfl ?_
  refine jT_xbipush (k := 6) (pcN := 9) jIQ_41_7 (by decide) rfl ?_
  refine jT_xicT (pcN := 32) jIQ_41_9 rfl (by decide +kernel) rfl ?_
  refine jT_xlload_n (v := (1, 108917793695 * p7 + 159561683699 * p8 + 68719476736 * q1)) (pcN := 33) jIQ_41_32 rfl rfl rfl ?_
  exact jT_ret rfl (by decide) (by show 2 ≤ 2; omega) (by omega) (by omega) ⟨rfl, rfl, rfl⟩
theorem jQ_39_141 {xs : List Int} {d : Nat} {p7 p8 q1 : Int} (h_p7 : (-20) ≤ p7 ∧ p7 ≤ 20) (h_p8 : (-10) ≤ p8 ∧ p8 ≤ 10) (h_q1 : (-60) ≤ q1 ∧ q1 ≤ 60) (g_0 : 0 ≤ (-108917793694) * p7 - 159561683698 * p8 - 68719476736 * q1 - 1) (g_1 : 0 ≤ (-108917793694) * p7 - 159561683700 * p8 - 68719476736 * q1 - 1) (g_2 : 0 ≤ (-108917793696) * p7 - 159561683698 * p8 - 68719476736 * q1 - 1) (g_3 : 0 ≤ (-108917793696) * p7 - 159561683700 * p8 - 68719476736 * q1 - 1) (g_4 : 0 ≤ p7) (g_5 : p8 < 0) : jT xs d 39 2 0 [(0, (4, 0)), (1, (4, 1))] [] [jgh, (101, [], [q1, p7, p8, 0, 0, 0])] 0 0 (fun k v hsN => k = 0 ∧ v = (1, p7 - p8) ∧ hsN = [jgh, (101, [], [q1, p7, p8, 0, 0, 0])] ++ []) := by
  refine jT_xlconst (z := 0) (pcN := 1) jIQ_39_0 rfl rfl ?_
  refine jT_xlstore_n (v := (1, 0)) (LN := [(2, (1, 0)), (0, (4, 0)), (1, (4, 1))]) (pcN := 2) jIQ_39_1 rfl rfl rfl rfl ?_
  refine jT_xiconst (k := 1) (pcN := 3) jIQ_39_2 rfl ?_
  refine jT_xistore (v := (0, 1)) (LN := [(4, (0, 1)), (2, (1, 0)), (0, (4, 0)), (1, (4, 1))]) (pcN := 5) jIQ_39_3 rfl rfl rfl rfl ?_
  refine jT_xiload (v := (0, 1)) (pcN := 7) jIQ_39_5 rfl rfl rfl ?_
  refine jT_xbipush (k := 6) (pcN := 9) jIQ_39_7 (by decide) rfl ?_
  refine jT_xicF (t := 28) (pcN := 12) jIQ_39_9 rfl (by decide +kernel) rfl rfl ?_
  refine jT_xlload_n (v := (1, 0)) (pcN := 13) jIQ_39_12 rfl rfl rfl ?_
  refine jT_xaload_n (v := (4, 1)) (pcN := 14) jIQ_39_13 rfl rfl rfl ?_
  refine jT_xiload (v := (0, 1)) (pcN := 16) jIQ_39_14 rfl rfl rfl ?_
  refine jT_lald (x := p7) (a := 1) (j := 1) (fs := []) (X := [q1, p7, p8, 0, 0, 0]) jIQ_39_16 rfl rfl rfl rfl ?_
  refine jT_eq (LN := [(4, (0, 1)), (2, (1, 0)), (0, (4, 0)), (1, (4, 1))]) (stN := [(1, p7), (1, 0)]) (hsN := [jgh, (101, [], [q1, p7, p8, 0, 0, 0])]) rfl rfl rfl ?_
  refine jT_labs (z := p7) (by rfl) (by rfl) (by rfl) (by rfl) (by rw [show jwl (p7) = p7 from jwl_idd (by omega) (by omega), decide_eq_false (by omega)]; first | (simp only [cond_true, cond_false]; done) | (simp only [cond_true, cond_false]; omega) | rfl) ?_
  refine jT_xladd (x := 0) (y := p7) (z := p7) (pcN := 21) jIQ_39_20 rfl (by omega) rfl ?_
  refine jT_xlstore_n (v := (1, p7)) (LN := [(2, (1, p7)), (4, (0, 1)), (0, (4, 0)), (1, (4, 1))]) (pcN := 22) jIQ_39_21 rfl rfl rfl rfl ?_
  refine jT_xiinc (x := 1) (z := 2) (LN := [(4, (0, 2)), (2, (1, p7)), (0, (4, 0)), (1, (4, 1))]) (pcN := 25) jIQ_39_22 rfl rfl (by decide) rfl rfl ?_
  refine jT_xgoto (pcN := 5) jIQ_39_25 rfl ?_
  refine jT_xiload (v := (0, 2)) (pcN := 7) jIQ_39_5 rfl rfl rfl ?_
  refine jT_xbipush (k := 6) (pcN := 9) jIQ_39_7 (by decide) rfl ?_
  refine jT_xicF (t := 28) (pcN := 12) jIQ_39_9 rfl (by decide +kernel) rfl rfl ?_
  refine jT_xlload_n (v := (1, p7)) (pcN := 13) jIQ_39_12 rfl rfl rfl ?_
  refine jT_xaload_n (v := (4, 1)) (pcN := 14) jIQ_39_13 rfl rfl rfl ?_
  refine jT_xiload (v := (0, 2)) (pcN := 16) jIQ_39_14 rfl rfl rfl ?_
  refine jT_lald (x := p8) (a := 1) (j := 2) (fs := []) (X := [q1, p7, p8, 0, 0, 0]) jIQ_39_16 rfl rfl rfl rfl ?_
  refine jT_eq (LN := [(4, (0, 2)), (2, (1, p7)), (0, (4, 0)), (1, (4, 1))]) (stN := [(1, p8), (1, p7)]) (hsN := [jgh, (101, [], [q1, p7, p8, 0, 0, 0])]) rfl rfl rfl ?_
  refine jT_labs (z := -p8) (by rfl) (by rfl) (by rfl) (by rfl) (by rw [show jwl (p8) = p8 from jwl_idd (by omega) (by omega), decide_eq_true (by omega)]; first | (simp only [cond_true, cond_false]; done) | (simp only [cond_true, cond_false]; omega) | rfl) ?_
  refine jT_xladd (x := p7) (y := -p8) (z := p7 - p8) (pcN := 21) jIQ_39_20 rfl (by omega) rfl ?_
  refine jT_xlstore_n (v := (1, p7 - p8)) (LN := [(2, (1, p7 - p8)), (4, (0, 2)), (0, (4, 0)), (1, (4, 1))]) (pcN := 22) jIQ_39_21 rfl rfl rfl rfl ?_
  refine jT_xiinc (x := 2) (z := 3) (LN := [(4, (0, 3)), (2, (1, p7 - p8)), (0, (4, 0)), (1, (4, 1))]) (pcN := 25) jIQ_39_22 rfl rfl (by decide) rfl rfl ?_
  refine jT_xgoto (pcN := 5) jIQ_39_25 rfl ?_
  refine jT_xiload (v := (0, 3)) (pcN := 7) jIQ_39_5 rfl rfl rfl ?_
  refine jT_xbipush (k := 6) (pcN := 9) jIQ_39_7 (by decide) rfl ?_
  refine jT_xicF (t := 28) (pcN := 12) jIQ_39_9 rfl (by decide +kernel) rfl rfl ?_
  refine jT_xlload_n (v := (1, p7 - p8)) (pcN := 13) jIQ_39_12 rfl rfl rfl ?_
  refine jT_xaload_n (v := (4, 1)) (pcN := 14) jIQ_39_13 rfl rfl rfl ?_
  refine jT_xiload (v := (0, 3)) (pcN := 16) jIQ_39_14 rfl rfl rfl ?_
  refine jT_lald (x := 0) (a := 1) (j := 3) (fs := []) (X := [q1, p7, p8, 0, 0, 0]) jIQ_39_16 rfl rfl rfl rfl ?_
  refine jT_eq (LN := [(4, (0, 3)), (2, (1, p7 - p8)), (0, (4, 0)), (1, (4, 1))]) (stN := [(1, 0), (1, p7 - p8)]) (hsN := [jgh, (101, [], [q1, p7, p8, 0, 0, 0])]) rfl rfl rfl ?_
  refine jT_labs (z := 0) (by rfl) (by rfl) (by rfl) (by rfl) (by decide +kernel) ?_
  refine jT_xladd (x := p7 - p8) (y := 0) (z := p7 - p8) (pcN := 21) jIQ_39_20 rfl (by omega) rfl ?_
  refine jT_xlstore_n (v := (1, p7 - p8)) (LN := [(2, (1, p7 - p8)), (4, (0, 3)), (0, (4, 0)), (1, (4, 1))]) (pcN := 22) jIQ_39_21 rfl rfl rfl rfl ?_
  refine jT_xiinc (x := 3) (z := 4) (LN := [(4, (0, 4)), (2, (1, p7 - p8)), (0, (4, 0)), (1, (4, 1))]) (pcN := 25) jIQ_39_22 rfl rfl (by decide) rfl rfl ?_
  refine jT_xgoto (pcN := 5) jIQ_39_25 rfl ?_
  refine jT_xiload (v := (0, 4)) (pcN := 7) jIQ_39_5 rfl rfl rfl ?_
  refine jT_xbipush (k := 6) (pcN := 9) jIQ_39_7 (by decide) rfl ?_
  refine jT_xicF (t := 28) (pcN := 12) jIQ_39_9 rfl (by decide +kernel) rfl rfl ?_
  refine jT_xlload_n (v := (1, p7 - p8)) (pcN := 13) jIQ_39_12 rfl rfl rfl ?_
  refine jT_xaload_n (v := (4, 1)) (pcN := 14) jIQ_39_13 rfl rfl rfl ?_
  refine jT_xiload (v := (0, 4)) (pcN := 16) jIQ_39_14 rfl rfl rfl ?_
  refine jT_lald (x := 0) (a := 1) (j := 4) (fs := []) (X := [q1, p7, p8, 0, 0, 0]) jIQ_39_16 rfl rfl rfl rfl ?_
  refine jT_eq (LN := [(4, (0, 4)), (2, (1, p7 - p8)), (0, (4, 0)), (1, (4, 1))]) (stN := [(1, 0), (1, p7 - p8)]) (hsN := [jgh, (101, [], [q1, p7, p8, 0, 0, 0])]) rfl rfl rfl ?_
  refine jT_labs (z := 0) (by rfl) (by rfl) (by rfl) (by rfl) (by decide +kernel) ?_
  refine jT_xladd (x := p7 - p8) (y := 0) (z := p7 - p8) (pcN := 21) jIQ_39_20 rfl (by omega) rfl ?_
  refine jT_xlstore_n (v := (1, p7 - p8)) (LN := [(2, (1, p7 - p8)), (4, (0, 4)), (0, (4, 0)), (1, (4, 1))]) (pcN := 22) jIQ_39_21 rfl rfl rfl rfl ?_
  refine jT_xiinc (x := 4) (z := 5) (LN := [(4, (0, 5)), (2, (1, p7 - p8)), (0, (4, 0)), (1, (4, 1))]) (pcN := 25) jIQ_39_22 rfl rfl (by decide) rfl rfl ?_
  refine jT_xgoto (pcN := 5) jIQ_39_25 rfl ?_
  refine jT_xiload (v := (0, 5)) (pcN := 7) jIQ_39_5 rfl rfl rfl ?_
  refine jT_xbipush (k := 6) (pcN := 9) jIQ_39_7 (by decide) rfl ?_
  refine jT_xicF (t := 28) (pcN := 12) jIQ_39_9 rfl (by decide +kernel) rfl rfl ?_
  refine jT_xlload_n (v := (1, p7 - p8)) (pcN := 13) jIQ_39_12 rfl rfl rfl ?_
  refine jT_xaload_n (v := (4, 1)) (pcN := 14) jIQ_39_13 rfl rfl rfl ?_
  refine jT_xiload (v := (0, 5)) (pcN := 16) jIQ_39_14 rfl rfl rfl ?_
  refine jT_lald (x := 0) (a := 1) (j := 5) (fs := []) (X := [q1, p7, p8, 0, 0, 0]) jIQ_39_16 rfl rfl rfl rfl ?_
  refine jT_eq (LN := [(4, (0, 5)), (2, (1, p7 - p8)), (0, (4, 0)), (1, (4, 1))]) (stN := [(1, 0), (1, p7 - p8)]) (hsN := [jgh, (101, [], [q1, p7, p8, 0, 0, 0])]) rfl rfl rfl ?_
  refine jT_labs (z := 0) (by rfl) (by rfl) (by rfl) (by rfl) (by decide +kernel) ?_
  refine jT_xladd (x := p7 - p8) (y := 0) (z := p7 - p8) (pcN := 21) jIQ_39_20 rfl (by omega) rfl ?_
  refine jT_xlstore_n (v := (1, p7 - p8)) (LN := [(2, (1, p7 - p8)), (4, (0, 5)), (0, (4, 0)), (1, (4, 1))]) (pcN := 22) jIQ_39_21 rfl rfl rfl rfl ?_
  refine jT_xiinc (x := 5) (z := 6) (LN := [(4, (0, 6)), (2, (1, p7 - p8)), (0, (4, 0)), (1, (4, 1))]) (pcN := 25) jIQ_39_22 rfl rfl (by decide) rfl rfl ?_
  refine jT_xgoto (pcN := 5) jIQ_39_25 rfl ?_
  refine jT_xiload (v := (0, 6)) (pcN := 7) jIQ_39_5 rfl rfl rfl ?_
  refine jT_xbipush (k := 6) (pcN := 9) jIQ_39_7 (by decide) rfl ?_
  refine jT_xicT (pcN := 28) jIQ_39_9 rfl (by decide +kernel) rfl ?_
  refine jT_xlload_n (v := (1, p7 - p8)) (pcN := 29) jIQ_39_28 rfl rfl rfl ?_
  exact jT_ret rfl (by decide) (by show 2 ≤ 2; omega) (by omega) (by omega) ⟨rfl, rfl, rfl⟩
theorem jQ_39_142 {xs : List Int} {d : Nat} {p7 p8 q1 : Int} (h_p7 : (-20) ≤ p7 ∧ p7 ≤ 20) (h_p8 : (-10) ≤ p8 ∧ p8 ≤ 10) (h_q1 : (-60) ≤ q1 ∧ q1 ≤ 60) (g_0 : 0 ≤ (-108917793694) * p7 - 159561683698 * p8 - 68719476736 * q1 - 1) (g_1 : 0 ≤ (-108917793694) * p7 - 159561683700 * p8 - 68719476736 * q1 - 1) (g_2 : 0 ≤ (-108917793696) * p7 - 159561683698 * p8 - 68719476736 * q1 - 1) (g_3 : 0 ≤ (-108917793696) * p7 - 159561683700 * p8 - 68719476736 * q1 - 1) (g_4 : 0 ≤ p7) (g_5 : p8 < 0) (g_6 : q1 < 0) : jT xs d 39 2 0 [(0, (4, 0)), (1, (4, 1))] [] [jgh, (101, [], [q1, p7, p8, 0, 0, 0])] 0 0 (fun k v hsN => k = 0 ∧ v = (1, p7 - p8) ∧ hsN = [jgh, (101, [], [q1, p7, p8, 0, 0, 0])] ++ []) := by
  refine jT_xlconst (z := 0) (pcN := 1) jIQ_39_0 rfl rfl ?_
  refine jT_xlstore_n (v := (1, 0)) (LN := [(2, (1, 0)), (0, (4, 0)), (1, (4, 1))]) (pcN := 2) jIQ_39_1 rfl rfl rfl rfl ?_
  refine jT_xiconst (k := 1) (pcN := 3) jIQ_39_2 rfl ?_
  refine jT_xistore (v := (0, 1)) (LN := [(4, (0, 1)), (2, (1, 0)), (0, (4, 0)), (1, (4, 1))]) (pcN := 5) jIQ_39_3 rfl rfl rfl rfl ?_
  refine jT_xiload (v := (0, 1)) (pcN := 7) jIQ_39_5 rfl rfl rfl ?_
  refine jT_xbipush (k := 6) (pcN := 9) jIQ_39_7 (by decide) rfl ?_
  refine jT_xicF (t := 28) (pcN := 12) jIQ_39_9 rfl (by decide +kernel) rfl rfl ?_
  refine jT_xlload_n (v := (1, 0)) (pcN := 13) jIQ_39_12 rfl rfl rfl ?_
  refine jT_xaload_n (v := (4, 1)) (pcN := 14) jIQ_39_13 rfl rfl rfl ?_
  refine jT_xiload (v := (0, 1)) (pcN := 16) jIQ_39_14 rfl rfl rfl ?_
  refine jT_lald (x := p7) (a := 1) (j := 1) (fs := []) (X := [q1, p7, p8, 0, 0, 0]) jIQ_39_16 rfl rfl rfl rfl ?_
  refine jT_eq (LN := [(4, (0, 1)), (2, (1, 0)), (0, (4, 0)), (1, (4, 1))]) (stN := [(1, p7), (1, 0)]) (hsN := [jgh, (101, [], [q1, p7, p8, 0, 0, 0])]) rfl rfl rfl ?_
  refine jT_labs (z := p7) (by rfl) (by rfl) (by rfl) (by rfl) (by rw [show jwl (p7) = p7 from jwl_idd (by omega) (by omega), decide_eq_false (by omega)]; first | (simp only [cond_true, cond_false]; done) | (simp only [cond_true, cond_false]; omega) | rfl) ?_
  refine jT_xladd (x := 0) (y := p7) (z := p7) (pcN := 21) jIQ_39_20 rfl (by omega) rfl ?_
  refine jT_xlstore_n (v := (1, p7)) (LN := [(2, (1, p7)), (4, (0, 1)), (0, (4, 0)), (1, (4, 1))]) (pcN := 22) jIQ_39_21 rfl rfl rfl rfl ?_
  refine jT_xiinc (x := 1) (z := 2) (LN := [(4, (0, 2)), (2, (1, p7)), (0, (4, 0)), (1, (4, 1))]) (pcN := 25) jIQ_39_22 rfl rfl (by decide) rfl rfl ?_
  refine jT_xgoto (pcN := 5) jIQ_39_25 rfl ?_
  refine jT_xiload (v := (0, 2)) (pcN := 7) jIQ_39_5 rfl rfl rfl ?_
  refine jT_xbipush (k := 6) (pcN := 9) jIQ_39_7 (by decide) rfl ?_
  refine jT_xicF (t := 28) (pcN := 12) jIQ_39_9 rfl (by decide +kernel) rfl rfl ?_
  refine jT_xlload_n (v := (1, p7)) (pcN := 13) jIQ_39_12 rfl rfl rfl ?_
  refine jT_xaload_n (v := (4, 1)) (pcN := 14) jIQ_39_13 rfl rfl rfl ?_
  refine jT_xiload (v := (0, 2)) (pcN := 16) jIQ_39_14 rfl rfl rfl ?_
  refine jT_lald (x := p8) (a := 1) (j := 2) (fs := []) (X := [q1, p7, p8, 0, 0, 0]) jIQ_39_16 rfl rfl rfl rfl ?_
  refine jT_eq (LN := [(4, (0, 2)), (2, (1, p7)), (0, (4, 0)), (1, (4, 1))]) (stN := [(1, p8), (1, p7)]) (hsN := [jgh, (101, [], [q1, p7, p8, 0, 0, 0])]) rfl rfl rfl ?_
  refine jT_labs (z := -p8) (by rfl) (by rfl) (by rfl) (by rfl) (by rw [show jwl (p8) = p8 from jwl_idd (by omega) (by omega), decide_eq_true (by omega)]; first | (simp only [cond_true, cond_false]; done) | (simp only [cond_true, cond_false]; omega) | rfl) ?_
  refine jT_xladd (x := p7) (y := -p8) (z := p7 - p8) (pcN := 21) jIQ_39_20 rfl (by omega) rfl ?_
  refine jT_xlstore_n (v := (1, p7 - p8)) (LN := [(2, (1, p7 - p8)), (4, (0, 2)), (0, (4, 0)), (1, (4, 1))]) (pcN := 22) jIQ_39_21 rfl rfl rfl rfl ?_
  refine jT_xiinc (x := 2) (z := 3) (LN := [(4, (0, 3)), (2, (1, p7 - p8)), (0, (4, 0)), (1, (4, 1))]) (pcN := 25) jIQ_39_22 rfl rfl (by decide) rfl rfl ?_
  refine jT_xgoto (pcN := 5) jIQ_39_25 rfl ?_
  refine jT_xiload (v := (0, 3)) (pcN := 7) jIQ_39_5 rfl rfl rfl ?_
  refine jT_xbipush (k := 6) (pcN := 9) jIQ_39_7 (by decide) rfl ?_
  refine jT_xicF (t := 28) (pcN := 12) jIQ_39_9 rfl (by decide +kernel) rfl rfl ?_
  refine jT_xlload_n (v := (1, p7 - p8)) (pcN := 13) jIQ_39_12 rfl rfl rfl ?_
  refine jT_xaload_n (v := (4, 1)) (pcN := 14) jIQ_39_13 rfl rfl rfl ?_
  refine jT_xiload (v := (0, 3)) (pcN := 16) jIQ_39_14 rfl rfl rfl ?_
  refine jT_lald (x := 0) (a := 1) (j := 3) (fs := []) (X := [q1, p7, p8, 0, 0, 0]) jIQ_39_16 rfl rfl rfl rfl ?_
  refine jT_eq (LN := [(4, (0, 3)), (2, (1, p7 - p8)), (0, (4, 0)), (1, (4, 1))]) (stN := [(1, 0), (1, p7 - p8)]) (hsN := [jgh, (101, [], [q1, p7, p8, 0, 0, 0])]) rfl rfl rfl ?_
  refine jT_labs (z := 0) (by rfl) (by rfl) (by rfl) (by rfl) (by decide +kernel) ?_
  refine jT_xladd (x := p7 - p8) (y := 0) (z := p7 - p8) (pcN := 21) jIQ_39_20 rfl (by omega) rfl ?_
  refine jT_xlstore_n (v := (1, p7 - p8)) (LN := [(2, (1, p7 - p8)), (4, (0, 3)), (0, (4, 0)), (1, (4, 1))]) (pcN := 22) jIQ_39_21 rfl rfl rfl rfl ?_
  refine jT_xiinc (x := 3) (z := 4) (LN := [(4, (0, 4)), (2, (1, p7 - p8)), (0, (4, 0)), (1, (4, 1))]) (pcN := 25) jIQ_39_22 rfl rfl (by decide) rfl rfl ?_
  refine jT_xgoto (pcN := 5) jIQ_39_25 rfl ?_
  refine jT_xiload (v := (0, 4)) (pcN := 7) jIQ_39_5 rfl rfl rfl ?_
  refine jT_xbipush (k := 6) (pcN := 9) jIQ_39_7 (by decide) rfl ?_
  refine jT_xicF (t := 28) (pcN := 12) jIQ_39_9 rfl (by decide +kernel) rfl rfl ?_
  refine jT_xlload_n (v := (1, p7 - p8)) (pcN := 13) jIQ_39_12 rfl rfl rfl ?_
  refine jT_xaload_n (v := (4, 1)) (pcN := 14) jIQ_39_13 rfl rfl rfl ?_
  refine jT_xiload (v := (0, 4)) (pcN := 16) jIQ_39_14 rfl rfl rfl ?_
  refine jT_lald (x := 0) (a := 1) (j := 4) (fs := []) (X := [q1, p7, p8, 0, 0, 0]) jIQ_39_16 rfl rfl rfl rfl ?_
  refine jT_eq (LN := [(4, (0, 4)), (2, (1, p7 - p8)), (0, (4, 0)), (1, (4, 1))]) (stN := [(1, 0), (1, p7 - p8)]) (hsN := [jgh, (101, [], [q1, p7, p8, 0, 0, 0])]) rfl rfl rfl ?_
  refine jT_labs (z := 0) (by rfl) (by rfl) (by rfl) (by rfl) (by decide +kernel) ?_
  refine jT_xladd (x := p7 - p8) (y := 0) (z := p7 - p8) (pcN := 21) jIQ_39_20 rfl (by omega) rfl ?_
  refine jT_xlstore_n (v := (1, p7 - p8)) (LN := [(2, (1, p7 - p8)), (4, (0, 4)), (0, (4, 0)), (1, (4, 1))]) (pcN := 22) jIQ_39_21 rfl rfl rfl rfl ?_
  refine jT_xiinc (x := 4) (z := 5) (LN := [(4, (0, 5)), (2, (1, p7 - p8)), (0, (4, 0)), (1, (4, 1))]) (pcN := 25) jIQ_39_22 rfl rfl (by decide) rfl rfl ?_
  refine jT_xgoto (pcN := 5) jIQ_39_25 rfl ?_
  refine jT_xiload (v := (0, 5)) (pcN := 7) jIQ_39_5 rfl rfl rfl ?_
  refine jT_xbipush (k := 6) (pcN := 9) jIQ_39_7 (by decide) rfl ?_
  refine jT_xicF (t := 28) (pcN := 12) jIQ_39_9 rfl (by decide +kernel) rfl rfl ?_
  refine jT_xlload_n (v := (1, p7 - p8)) (pcN := 13) jIQ_39_12 rfl rfl rfl ?_
  refine jT_xaload_n (v := (4, 1)) (pcN := 14) jIQ_39_13 rfl rfl rfl ?_
  refine jT_xiload (v := (0, 5)) (pcN := 16) jIQ_39_14 rfl rfl rfl ?_
  refine jT_lald (x := 0) (a := 1) (j := 5) (fs := []) (X := [q1, p7, p8, 0, 0, 0]) jIQ_39_16 rfl rfl rfl rfl ?_
  refine jT_eq (LN := [(4, (0, 5)), (2, (1, p7 - p8)), (0, (4, 0)), (1, (4, 1))]) (stN := [(1, 0), (1, p7 - p8)]) (hsN := [jgh, (101, [], [q1, p7, p8, 0, 0, 0])]) rfl rfl rfl ?_
  refine jT_labs (z := 0) (by rfl) (by rfl) (by rfl) (by rfl) (by decide +kernel) ?_
  refine jT_xladd (x := p7 - p8) (y := 0) (z := p7 - p8) (pcN := 21) jIQ_39_20 rfl (by omega) rfl ?_
  refine jT_xlstore_n (v := (1, p7 - p8)) (LN := [(2, (1, p7 - p8)), (4, (0, 5)), (0, (4, 0)), (1, (4, 1))]) (pcN := 22) jIQ_39_21 rfl rfl rfl rfl ?_
  refine jT_xiinc (x := 5) (z := 6) (LN := [(4, (0, 6)), (2, (1, p7 - p8)), (0, (4, 0)), (1, (4, 1))]) (pcN := 25) jIQ_39_22 rfl rfl (by decide) rfl rfl ?_
  refine jT_xgoto (pcN := 5) jIQ_39_25 rfl ?_
  refine jT_xiload (v := (0, 6)) (pcN := 7) jIQ_39_5 rfl rfl rfl ?_
  refine jT_xbipush (k := 6) (pcN := 9) jIQ_39_7 (by decide) rfl ?_
  refine jT_xicT (pcN := 28) jIQ_39_9 rfl (by decide +kernel) rfl ?_
  refine jT_xlload_n (v := (1, p7 - p8)) (pcN := 29) jIQ_39_28 rfl rfl rfl ?_
  exact jT_ret rfl (by decide) (by show 2 ≤ 2; omega) (by omega) (by omega) ⟨rfl, rfl, rfl⟩
theorem jQ_40_143 {xs : List Int} {d : Nat} {p7 p8 q1 : Int} (h_p7 : (-20) ≤ p7 ∧ p7 ≤ 20) (h_p8 : (-10) ≤ p8 ∧ p8 ≤ 10) (h_q1 : (-60) ≤ q1 ∧ q1 ≤ 60) (g_0 : 0 ≤ (-108917793694) * p7 - 159561683698 * p8 - 68719476736 * q1 - 1) (g_1 : 0 ≤ (-108917793694) * p7 - 159561683700 * p8 - 68719476736 * q1 - 1) (g_2 : 0 ≤ (-108917793696) * p7 - 159561683698 * p8 - 68719476736 * q1 - 1) (g_3 : 0 ≤ (-108917793696) * p7 - 159561683700 * p8 - 68719476736 * q1 - 1) (g_4 : 0 ≤ p7) (g_5 : p8 < 0) (g_6 : q1 < 0) : jT xs d 40 2 0 [(0, (4, 0)), (1, (4, 1)), (2, (1, p7 - p8))] [] [jgh, (101, [], [q1, p7, p8, 0, 0, 0])] 0 0 (fun k v hsN => k = 0 ∧ v = (0, 1) ∧ hsN = [jgh, (101, [], [q1, p7, p8, 0, 0, 0])] ++ []) := by
  refine jT_xlload_n (v := (1, p7 - p8)) (pcN := 1) jIQ_40_0 rfl rfl rfl ?_
  refine jT_adv 1 (pcN := 4) (LN := [(0, (4, 0)), (1, (4, 1)), (2, (1, p7 - p8))]) (stN := [(1, 16777216), (1, p7 - p8)]) (hsN := [jgh, (101, [], [q1, p7, p8, 0, 0, 0])]) (c1 := 0) (s1 := 0) (c2 := 0) (s2 := 0) (by exact rfl) ?_ (by omega) (by omega)
  refine jT_lcmp (a := p7 - p8) (b := 16777216) (z := (-1)) (by rfl) (by rfl) (jwl_idd (by omega) (by omega)) (jwl_idd (by omega) (by omega)) (by rw [decide_eq_false (show ¬ ((16777216 : Int) < p7 - p8) by omega), decide_eq_false (show ¬ ((p7 - p8 : Int) = 16777216) by omega)]; rfl) ?_
  refine jT_xifF (t := 25) (pcN := 8) jIQ_40_5 rfl (by decide +kernel) rfl rfl ?_
  refine jT_xaload_n (v := (4, 1)) (pcN := 9) jIQ_40_8 rfl rfl rfl ?_
  refine jT_xiconst (k := 0) (pcN := 10) jIQ_40_9 rfl ?_
  refine jT_lald (x := q1) (a := 1) (j := 0) (fs := []) (X := [q1, p7, p8, 0, 0, 0]) jIQ_40_10 rfl rfl rfl rfl ?_
  refine jT_eq (LN := [(0, (4, 0)), (1, (4, 1)), (2, (1, p7 - p8))]) (stN := [(1, q1)]) (hsN := [jgh, (101, [], [q1, p7, p8, 0, 0, 0])]) rfl rfl rfl ?_
  refine jT_labs (z := -q1) (by rfl) (by rfl) (by rfl) (by rfl) (by rw [show jwl (q1) = q1 from jwl_idd (by omega) (by omega), decide_eq_true (by omega)]; first | (simp only [cond_true, cond_false]; done) | (simp only [cond_true, cond_false]; omega) | rfl) ?_
  refine jT_adv 1 (pcN := 17) (LN := [(0, (4, 0)), (1, (4, 1)), (2, (1, p7 - p8))]) (stN := [(1, 16777216), (1, -q1)]) (hsN := [jgh, (101, [], [q1, p7, p8, 0, 0, 0])]) (c1 := 0) (s1 := 0) (c2 := 0) (s2 := 0) (by exact rfl) ?_ (by omega) (by omega)
  refine jT_lcmp (a := -q1) (b := 16777216) (z := (-1)) (by rfl) (by rfl) (jwl_idd (by omega) (by omega)) (jwl_idd (by omega) (by omega)) (by rw [decide_eq_false (show ¬ ((16777216 : Int) < -q1) by omega), decide_eq_false (show ¬ ((-q1 : Int) = 16777216) by omega)]; rfl) ?_
  refine jT_xifF (t := 25) (pcN := 21) jIQ_40_18 rfl (by decide +kernel) rfl rfl ?_
  refine jT_xiconst (k := 1) (pcN := 22) jIQ_40_21 rfl ?_
  refine jT_xgoto (pcN := 26) jIQ_40_22 rfl ?_
  exact jT_ret rfl (by decide) (by show 2 ≤ 2; omega) (by omega) (by omega) ⟨rfl, rfl, rfl⟩
theorem jQ_41_144 {xs : List Int} {d : Nat} {p7 p8 q1 : Int} (h_p7 : (-20) ≤ p7 ∧ p7 ≤ 20) (h_p8 : (-10) ≤ p8 ∧ p8 ≤ 10) (h_q1 : (-60) ≤ q1 ∧ q1 ≤ 60) (g_0 : 0 ≤ (-108917793694) * p7 - 159561683698 * p8 - 68719476736 * q1 - 1) (g_1 : 0 ≤ (-108917793694) * p7 - 159561683700 * p8 - 68719476736 * q1 - 1) (g_2 : 0 ≤ (-108917793696) * p7 - 159561683698 * p8 - 68719476736 * q1 - 1) (g_3 : 0 ≤ (-108917793696) * p7 - 159561683700 * p8 - 68719476736 * q1 - 1) (g_4 : 0 ≤ p7) (g_5 : p8 < 0) (g_6 : q1 < 0) : jT xs d 41 2 0 [(0, (4, 0)), (1, (4, 1))] [] [jgh, (101, [], [q1, p7, p8, 0, 0, 0])] 0 0 (fun k v hsN => k = 0 ∧ v = (1, 108917793695 * p7 + 159561683699 * p8 + 68719476736 * q1) ∧ hsN = [jgh, (101, [], [q1, p7, p8, 0, 0, 0])] ++ []) := by
  refine jT_xlconst (z := 0) (pcN := 1) jIQ_41_0 rfl rfl ?_
  refine jT_xlstore_n (v := (1, 0)) (LN := [(2, (1, 0)), (0, (4, 0)), (1, (4, 1))]) (pcN := 2) jIQ_41_1 rfl rfl rfl rfl ?_
  refine jT_xiconst (k := 0) (pcN := 3) jIQ_41_2 rfl ?_
  refine jT_xistore (v := (0, 0)) (LN := [(4, (0, 0)), (2, (1, 0)), (0, (4, 0)), (1, (4, 1))]) (pcN := 5) jIQ_41_3 rfl rfl rfl rfl ?_
  refine jT_xiload (v := (0, 0)) (pcN := 7) jIQ_41_5 rfl rfl rfl ?_
  refine jT_xbipush (k := 6) (pcN := 9) jIQ_41_7 (by decide) rfl ?_
  refine jT_xicF (t := 32) (pcN := 12) jIQ_41_9 rfl (by decide +kernel) rfl rfl ?_
  refine jT_xlload_n (v := (1, 0)) (pcN := 13) jIQ_41_12 rfl rfl rfl ?_
  refine jT_xaload_n (v := (4, 1)) (pcN := 14) jIQ_41_13 rfl rfl rfl ?_
  refine jT_xiload (v := (0, 0)) (pcN := 16) jIQ_41_14 rfl rfl rfl ?_
  refine jT_lald (x := q1) (a := 1) (j := 0) (fs := []) (X := [q1, p7, p8, 0, 0, 0]) jIQ_41_16 rfl rfl rfl rfl ?_
  refine jT_eq (LN := [(4, (0, 0)), (2, (1, 0)), (0, (4, 0)), (1, (4, 1))]) (stN := [(1, q1), (1, 0)]) (hsN := [jgh, (101, [], [q1, p7, p8, 0, 0, 0])]) rfl rfl rfl ?_
  refine jT_adv 1 (pcN := 20) (LN := [(4, (0, 0)), (2, (1, 0)), (0, (4, 0)), (1, (4, 1))]) (stN := [(5, 0), (1, q1), (1, 0)]) (hsN := [jgh, (101, [], [q1, p7, p8, 0, 0, 0])]) (c1 := 0) (s1 := 0) (c2 := 0) (s2 := 0) (by exact rfl) ?_ (by omega) (by omega)
  refine jT_xiload (v := (0, 0)) (pcN := 22) jIQ_41_20 rfl rfl rfl ?_
  refine jT_adv 1 (pcN := 23) (LN := [(4, (0, 0)), (2, (1, 0)), (0, (4, 0)), (1, (4, 1))]) (stN := [(1, 68719476736), (1, q1), (1, 0)]) (hsN := [jgh, (101, [], [q1, p7, p8, 0, 0, 0])]) (c1 := 0) (s1 := 0) (c2 := 0) (s2 := 0) (by exact rfl) ?_ (by omega) (by omega)
  refine jT_xlmul (x := q1) (y := 68719476736) (z := 68719476736 * q1) (pcN := 24) jIQ_41_23 rfl (by omega) rfl ?_
  refine jT_xladd (x := 0) (y := 68719476736 * q1) (z := 68719476736 * q1) (pcN := 25) jIQ_41_24 rfl (by omega) rfl ?_
  refine jT_xlstore_n (v := (1, 68719476736 * q1)) (LN := [(2, (1, 68719476736 * q1)), (4, (0, 0)), (0, (4, 0)), (1, (4, 1))]) (pcN := 26) jIQ_41_25 rfl rfl rfl rfl ?_
  refine jT_xiinc (x := 0) (z := 1) (LN := [(4, (0, 1)), (2, (1, 68719476736 * q1)), (0, (4, 0)), (1, (4, 1))]) (pcN := 29) jIQ_41_26 rfl rfl (by decide) rfl rfl ?_
  refine jT_xgoto (pcN := 5) jIQ_41_29 rfl ?_
  refine jT_xiload (v := (0, 1)) (pcN := 7) jIQ_41_5 rfl rfl rfl ?_
  refine jT_xbipush (k := 6) (pcN := 9) jIQ_41_7 (by decide) rfl ?_
  refine jT_xicF (t := 32) (pcN := 12) jIQ_41_9 rfl (by decide +kernel) rfl rfl ?_
  refine jT_xlload_n (v := (1, 68719476736 * q1)) (pcN := 13) jIQ_41_12 rfl rfl rfl ?_
  refine jT_xaload_n (v := (4, 1)) (pcN := 14) jIQ_41_13 rfl rfl rfl ?_
  refine jT_xiload (v := (0, 1)) (pcN := 16) jIQ_41_14 rfl rfl rfl ?_
  refine jT_lald (x := p7) (a := 1) (j := 1) (fs := []) (X := [q1, p7, p8, 0, 0, 0]) jIQ_41_16 rfl rfl rfl rfl ?_
  refine jT_eq (LN := [(4, (0, 1)), (2, (1, 68719476736 * q1)), (0, (4, 0)), (1, (4, 1))]) (stN := [(1, p7), (1, 68719476736 * q1)]) (hsN := [jgh, (101, [], [q1, p7, p8, 0, 0, 0])]) rfl rfl rfl ?_
  refine jT_adv 1 (pcN := 20) (LN := [(4, (0, 1)), (2, (1, 68719476736 * q1)), (0, (4, 0)), (1, (4, 1))]) (stN := [(5, 0), (1, p7), (1, 68719476736 * q1)]) (hsN := [jgh, (101, [], [q1, p7, p8, 0, 0, 0])]) (c1 := 0) (s1 := 0) (c2 := 0) (s2 := 0) (by exact rfl) ?_ (by omega) (by omega)
  refine jT_xiload (v := (0, 1)) (pcN := 22) jIQ_41_20 rfl rfl rfl ?_
  refine jT_adv 1 (pcN := 23) (LN := [(4, (0, 1)), (2, (1, 68719476736 * q1)), (0, (4, 0)), (1, (4, 1))]) (stN := [(1, 108917793695), (1, p7), (1, 68719476736 * q1)]) (hsN := [jgh, (101, [], [q1, p7, p8, 0, 0, 0])]) (c1 := 0) (s1 := 0) (c2 := 0) (s2 := 0) (by exact rfl) ?_ (by omega) (by omega)
  refine jT_xlmul (x := p7) (y := 108917793695) (z := 108917793695 * p7) (pcN := 24) jIQ_41_23 rfl (by omega) rfl ?_
  refine jT_xladd (x := 68719476736 * q1) (y := 108917793695 * p7) (z := 108917793695 * p7 + 68719476736 * q1) (pcN := 25) jIQ_41_24 rfl (by omega) rfl ?_
  refine jT_xlstore_n (v := (1, 108917793695 * p7 + 68719476736 * q1)) (LN := [(2, (1, 108917793695 * p7 + 68719476736 * q1)), (4, (0, 1)), (0, (4, 0)), (1, (4, 1))]) (pcN := 26) jIQ_41_25 rfl rfl rfl rfl ?_
  refine jT_xiinc (x := 1) (z := 2) (LN := [(4, (0, 2)), (2, (1, 108917793695 * p7 + 68719476736 * q1)), (0, (4, 0)), (1, (4, 1))]) (pcN := 29) jIQ_41_26 rfl rfl (by decide) rfl rfl ?_
  refine jT_xgoto (pcN := 5) jIQ_41_29 rfl ?_
  refine jT_xiload (v := (0, 2)) (pcN := 7) jIQ_41_5 rfl rfl rfl ?_
  refine jT_xbipush (k := 6) (pcN := 9) jIQ_41_7 (by decide) rfl ?_
  refine jT_xicF (t := 32) (pcN := 12) jIQ_41_9 rfl (by decide +kernel) rfl rfl ?_
  refine jT_xlload_n (v := (1, 108917793695 * p7 + 68719476736 * q1)) (pcN := 13) jIQ_41_12 rfl rfl rfl ?_
  refine jT_xaload_n (v := (4, 1)) (pcN := 14) jIQ_41_13 rfl rfl rfl ?_
  refine jT_xiload (v := (0, 2)) (pcN := 16) jIQ_41_14 rfl rfl rfl ?_
  refine jT_lald (x := p8) (a := 1) (j := 2) (fs := []) (X := [q1, p7, p8, 0, 0, 0]) jIQ_41_16 rfl rfl rfl rfl ?_
  refine jT_eq (LN := [(4, (0, 2)), (2, (1, 108917793695 * p7 + 68719476736 * q1)), (0, (4, 0)), (1, (4, 1))]) (stN := [(1, p8), (1, 108917793695 * p7 + 68719476736 * q1)]) (hsN := [jgh, (101, [], [q1, p7, p8, 0, 0, 0])]) rfl rfl rfl ?_
  refine jT_adv 1 (pcN := 20) (LN := [(4, (0, 2)), (2, (1, 108917793695 * p7 + 68719476736 * q1)), (0, (4, 0)), (1, (4, 1))]) (stN := [(5, 0), (1, p8), (1, 108917793695 * p7 + 68719476736 * q1)]) (hsN := [jgh, (101, [], [q1, p7, p8, 0, 0, 0])]) (c1 := 0) (s1 := 0) (c2 := 0) (s2 := 0) (by exact rfl) ?_ (by omega) (by omega)
  refine jT_xiload (v := (0, 2)) (pcN := 22) jIQ_41_20 rfl rfl rfl ?_
  refine jT_adv 1 (pcN := 23) (LN := [(4, (0, 2)), (2, (1, 108917793695 * p7 + 68719476736 * q1)), (0, (4, 0)), (1, (4, 1))]) (stN := [(1, 159561683699), (1, p8), (1, 108917793695 * p7 + 68719476736 * q1)]) (hsN := [jgh, (101, [], [q1, p7, p8, 0, 0, 0])]) (c1 := 0) (s1 := 0) (c2 := 0) (s2 := 0) (by exact rfl) ?_ (by omega) (by omega)
  refine jT_xlmul (x := p8) (y := 159561683699) (z := 159561683699 * p8) (pcN := 24) jIQ_41_23 rfl (by omega) rfl ?_
  refine jT_xladd (x := 108917793695 * p7 + 68719476736 * q1) (y := 159561683699 * p8) (z := 108917793695 * p7 + 159561683699 * p8 + 68719476736 * q1) (pcN := 25) jIQ_41_24 rfl (by omega) rfl ?_
  refine jT_xlstore_n (v := (1, 108917793695 * p7 + 159561683699 * p8 + 68719476736 * q1)) (LN := [(2, (1, 108917793695 * p7 + 159561683699 * p8 + 68719476736 * q1)), (4, (0, 2)), (0, (4, 0)), (1, (4, 1))]) (pcN := 26) jIQ_41_25 rfl rfl rfl rfl ?_
  refine jT_xiinc (x := 2) (z := 3) (LN := [(4, (0, 3)), (2, (1, 108917793695 * p7 + 159561683699 * p8 + 68719476736 * q1)), (0, (4, 0)), (1, (4, 1))]) (pcN := 29) jIQ_41_26 rfl rfl (by decide) rfl rfl ?_
  refine jT_xgoto (pcN := 5) jIQ_41_29 rfl ?_
  refine jT_xiload (v := (0, 3)) (pcN := 7) jIQ_41_5 rfl rfl rfl ?_
  refine jT_xbipush (k := 6) (pcN := 9) jIQ_41_7 (by decide) rfl ?_
  refine jT_xicF (t := 32) (pcN := 12) jIQ_41_9 rfl (by decide +kernel) rfl rfl ?_
  refine jT_xlload_n (v := (1, 108917793695 * p7 + 159561683699 * p8 + 68719476736 * q1)) (pcN := 13) jIQ_41_12 rfl rfl rfl ?_
  refine jT_xaload_n (v := (4, 1)) (pcN := 14) jIQ_41_13 rfl rfl rfl ?_
  refine jT_xiload (v := (0, 3)) (pcN := 16) jIQ_41_14 rfl rfl rfl ?_
  refine jT_lald (x := 0) (a := 1) (j := 3) (fs := []) (X := [q1, p7, p8, 0, 0, 0]) jIQ_41_16 rfl rfl rfl rfl ?_
  refine jT_eq (LN := [(4, (0, 3)), (2, (1, 108917793695 * p7 + 159561683699 * p8 + 68719476736 * q1)), (0, (4, 0)), (1, (4, 1))]) (stN := [(1, 0), (1, 108917793695 * p7 + 159561683699 * p8 + 68719476736 * q1)]) (hsN := [jgh, (101, [], [q1, p7, p8, 0, 0, 0])]) rfl rfl rfl ?_
  refine jT_adv 1 (pcN := 20) (LN := [(4, (0, 3)), (2, (1, 108917793695 * p7 + 159561683699 * p8 + 68719476736 * q1)), (0, (4, 0)), (1, (4, 1))]) (stN := [(5, 0), (1, 0), (1, 108917793695 * p7 + 159561683699 * p8 + 68719476736 * q1)]) (hsN := [jgh, (101, [], [q1, p7, p8, 0, 0, 0])]) (c1 := 0) (s1 := 0) (c2 := 0) (s2 := 0) (by exact rfl) ?_ (by omega) (by omega)
  refine jT_xiload (v := (0, 3)) (pcN := 22) jIQ_41_20 rfl rfl rfl ?_
  refine jT_adv 1 (pcN := 23) (LN := [(4, (0, 3)), (2, (1, 108917793695 * p7 + 159561683699 * p8 + 68719476736 * q1)), (0, (4, 0)), (1, (4, 1))]) (stN := [(1, 192919961256), (1, 0), (1, 108917793695 * p7 + 159561683699 * p8 + 68719476736 * q1)]) (hsN := [jgh, (101, [], [q1, p7, p8, 0, 0, 0])]) (c1 := 0) (s1 := 0) (c2 := 0) (s2 := 0) (by exact rfl) ?_ (by omega) (by omega)
  refine jT_xlmul (x := 0) (y := 192919961256) (z := 0) (pcN := 24) jIQ_41_23 rfl (by decide) rfl ?_
  refine jT_xladd (x := 108917793695 * p7 + 159561683699 * p8 + 68719476736 * q1) (y := 0) (z := 108917793695 * p7 + 159561683699 * p8 + 68719476736 * q1) (pcN := 25) jIQ_41_24 rfl (by omega) rfl ?_
  refine jT_xlstore_n (v := (1, 108917793695 * p7 + 159561683699 * p8 + 68719476736 * q1)) (LN := [(2, (1, 108917793695 * p7 + 159561683699 * p8 + 68719476736 * q1)), (4, (0, 3)), (0, (4, 0)), (1, (4, 1))]) (pcN := 26) jIQ_41_25 rfl rfl rfl rfl ?_
  refine jT_xiinc (x := 3) (z := 4) (LN := [(4, (0, 4)), (2, (1, 108917793695 * p7 + 159561683699 * p8 + 68719476736 * q1)), (0, (4, 0)), (1, (4, 1))]) (pcN := 29) jIQ_41_26 rfl rfl (by decide) rfl rfl ?_
  refine jT_xgoto (pcN := 5) jIQ_41_29 rfl ?_
  refine jT_xiload (v := (0, 4)) (pcN := 7) jIQ_41_5 rfl rfl rfl ?_
  refine jT_xbipush (k := 6) (pcN := 9) jIQ_41_7 (by decide) rfl ?_
  refine jT_xicF (t := 32) (pcN := 12) jIQ_41_9 rfl (by decide +kernel) rfl rfl ?_
  refine jT_xlload_n (v := (1, 108917793695 * p7 + 159561683699 * p8 + 68719476736 * q1)) (pcN := 13) jIQ_41_12 rfl rfl rfl ?_
  refine jT_xaload_n (v := (4, 1)) (pcN := 14) jIQ_41_13 rfl rfl rfl ?_
  refine jT_xiload (v := (0, 4)) (pcN := 16) jIQ_41_14 rfl rfl rfl ?_
  refine jT_lald (x := 0) (a := 1) (j := 4) (fs := []) (X := [q1, p7, p8, 0, 0, 0]) jIQ_41_16 rfl rfl rfl rfl ?_
  refine jT_eq (LN := [(4, (0, 4)), (2, (1, 108917793695 * p7 + 159561683699 * p8 + 68719476736 * q1)), (0, (4, 0)), (1, (4, 1))]) (stN := [(1, 0), (1, 108917793695 * p7 + 159561683699 * p8 + 68719476736 * q1)]) (hsN := [jgh, (101, [], [q1, p7, p8, 0, 0, 0])]) rfl rfl rfl ?_
  refine jT_adv 1 (pcN := 20) (LN := [(4, (0, 4)), (2, (1, 108917793695 * p7 + 159561683699 * p8 + 68719476736 * q1)), (0, (4, 0)), (1, (4, 1))]) (stN := [(5, 0), (1, 0), (1, 108917793695 * p7 + 159561683699 * p8 + 68719476736 * q1)]) (hsN := [jgh, (101, [], [q1, p7, p8, 0, 0, 0])]) (c1 := 0) (s1 := 0) (c2 := 0) (s2 := 0) (by exact rfl) ?_ (by omega) (by omega)
  refine jT_xiload (v := (0, 4)) (pcN := 22) jIQ_41_20 rfl rfl rfl ?_
  refine jT_adv 1 (pcN := 23) (LN := [(4, (0, 4)), (2, (1, 108917793695 * p7 + 159561683699 * p8 + 68719476736 * q1)), (0, (4, 0)), (1, (4, 1))]) (stN := [(1, 237730330636), (1, 0), (1, 108917793695 * p7 + 159561683699 * p8 + 68719476736 * q1)]) (hsN := [jgh, (101, [], [q1, p7, p8, 0, 0, 0])]) (c1 := 0) (s1 := 0) (c2 := 0) (s2 := 0) (by exact rfl) ?_ (by omega) (by omega)
  refine jT_xlmul (x := 0) (y := 237730330636) (z := 0) (pcN := 24) jIQ_41_23 rfl (by decide) rfl ?_
  refine jT_xladd (x := 108917793695 * p7 + 159561683699 * p8 + 68719476736 * q1) (y := 0) (z := 108917793695 * p7 + 159561683699 * p8 + 68719476736 * q1) (pcN := 25) jIQ_41_24 rfl (by omega) rfl ?_
  refine jT_xlstore_n (v := (1, 108917793695 * p7 + 159561683699 * p8 + 68719476736 * q1)) (LN := [(2, (1, 108917793695 * p7 + 159561683699 * p8 + 68719476736 * q1)), (4, (0, 4)), (0, (4, 0)), (1, (4, 1))]) (pcN := 26) jIQ_41_25 rfl rfl rfl rfl ?_
  refine jT_xiinc (x := 4) (z := 5) (LN := [(4, (0, 5)), (2, (1, 108917793695 * p7 + 159561683699 * p8 + 68719476736 * q1)), (0, (4, 0)), (1, (4, 1))]) (pcN := 29) jIQ_41_26 rfl rfl (by decide) rfl rfl ?_
  refine jT_xgoto (pcN := 5) jIQ_41_29 rfl ?_
  refine jT_xiload (v := (0, 5)) (pcN := 7) jIQ_41_5 rfl rfl rfl ?_
  refine jT_xbipush (k := 6) (pcN := 9) jIQ_41_7 (by decide) rfl ?_
  refine jT_xicF (t := 32) (pcN := 12) jIQ_41_9 rfl (by decide +kernel) rfl rfl ?_
  refine jT_xlload_n (v := (1, 108917793695 * p7 + 159561683699 * p8 + 68719476736 * q1)) (pcN := 13) jIQ_41_12 rfl rfl rfl ?_
  refine jT_xaload_n (v := (4, 1)) (pcN := 14) jIQ_41_13 rfl rfl rfl ?_
  refine jT_xiload (v := (0, 5)) (pcN := 16) jIQ_41_14 rfl rfl rfl ?_
  refine jT_lald (x := 0) (a := 1) (j := 5) (fs := []) (X := [q1, p7, p8, 0, 0, 0]) jIQ_41_16 rfl rfl rfl rfl ?_
  refine jT_eq (LN := [(4, (0, 5)), (2, (1, 108917793695 * p7 + 159561683699 * p8 + 68719476736 * q1)), (0, (4, 0)), (1, (4, 1))]) (stN := [(1, 0), (1, 108917793695 * p7 + 159561683699 * p8 + 68719476736 * q1)]) (hsN := [jgh, (101, [], [q1, p7, p8, 0, 0, 0])]) rfl rfl rfl ?_
  refine jT_adv 1 (pcN := 20) (LN := [(4, (0, 5)), (2, (1, 108917793695 * p7 + 159561683699 * p8 + 68719476736 * q1)), (0, (4, 0)), (1, (4, 1))]) (stN := [(5, 0), (1, 0), (1, 108917793695 * p7 + 159561683699 * p8 + 68719476736 * q1)]) (hsN := [jgh, (101, [], [q1, p7, p8, 0, 0, 0])]) (c1 := 0) (s1 := 0) (c2 := 0) (s2 := 0) (by exact rfl) ?_ (by omega) (by omega)
  refine jT_xiload (v := (0, 5)) (pcN := 22) jIQ_41_20 rfl rfl rfl ?_
  refine jT_adv 1 (pcN := 23) (LN := [(4, (0, 5)), (2, (1, 108917793695 * p7 + 159561683699 * p8 + 68719476736 * q1)), (0, (4, 0)), (1, (4, 1))]) (stN := [(1, 254292281123), (1, 0), (1, 108917793695 * p7 + 159561683699 * p8 + 68719476736 * q1)]) (hsN := [jgh, (101, [], [q1, p7, p8, 0, 0, 0])]) (c1 := 0) (s1 := 0) (c2 := 0) (s2 := 0) (by exact rfl) ?_ (by omega) (by omega)
  refine jT_xlmul (x := 0) (y := 254292281123) (z := 0) (pcN := 24) jIQ_41_23 rfl (by decide) rfl ?_
  refine jT_xladd (x := 108917793695 * p7 + 159561683699 * p8 + 68719476736 * q1) (y := 0) (z := 108917793695 * p7 + 159561683699 * p8 + 68719476736 * q1) (pcN := 25) jIQ_41_24 rfl (by omega) rfl ?_
  refine jT_xlstore_n (v := (1, 108917793695 * p7 + 159561683699 * p8 + 68719476736 * q1)) (LN := [(2, (1, 108917793695 * p7 + 159561683699 * p8 + 68719476736 * q1)), (4, (0, 5)), (0, (4, 0)), (1, (4, 1))]) (pcN := 26) jIQ_41_25 rfl rfl rfl rfl ?_
  refine jT_xiinc (x := 5) (z := 6) (LN := [(4, (0, 6)), (2, (1, 108917793695 * p7 + 159561683699 * p8 + 68719476736 * q1)), (0, (4, 0)), (1, (4, 1))]) (pcN := 29) jIQ_41_26 rfl rfl (by decide) rfl rfl ?_
  refine jT_xgoto (pcN := 5) jIQ_41_29 rfl ?_
  refine jT_xiload (v := (0, 6)) (pcN := 7) jIQ_41_5 rfl rfl rfl ?_
  refine jT_xbipush (k := 6) (pcN := 9) jIQ_41_7 (by decide) rfl ?_
  refine jT_xicT (pcN := 32) jIQ_41_9 rfl (by decide +kernel) rfl ?_
  refine jT_xlload_n (v := (1, 108917793695 * p7 + 159561683699 * p8 + 68719476736 * q1)) (pcN := 33) jIQ_41_32 rfl rfl rfl ?_
  exact jT_ret rfl (by decide) (by show 2 ≤ 2; omega) (by omega) (by omega) ⟨rfl, rfl, rfl⟩
theorem jQ_39_145 {xs : List Int} {d : Nat} {p7 p8 q1 : Int} (h_p7 : (-20) ≤ p7 ∧ p7 ≤ 20) (h_p8 : (-10) ≤ p8 ∧ p8 ≤ 10) (h_q1 : (-60) ≤ q1 ∧ q1 ≤ 60) (g_0 : 0 ≤ (-108917793694) * p7 - 159561683698 * p8 - 68719476736 * q1 - 1) (g_1 : 0 ≤ (-108917793694) * p7 - 159561683700 * p8 - 68719476736 * q1 - 1) (g_2 : 0 ≤ (-108917793696) * p7 - 159561683698 * p8 - 68719476736 * q1 - 1) (g_3 : 0 ≤ (-108917793696) * p7 - 159561683700 * p8 - 68719476736 * q1 - 1) (g_4 : 0 ≤ p7) (g_5 : p8 < 0) (g_6 : q1 < 0) (g_7 : 108917793695 * p7 + 159561683699 * p8 + 68719476736 * q1 - 1 < 0) : jT xs d 39 2 0 [(0, (4, 0)), (1, (4, 1))] [] [jgh, (101, [], [q1, p7, p8, 0, 0, 0])] 0 0 (fun k v hsN => k = 0 ∧ v = (1, p7 - p8) ∧ hsN = [jgh, (101, [], [q1, p7, p8, 0, 0, 0])] ++ []) := by
  refine jT_xlconst (z := 0) (pcN := 1) jIQ_39_0 rfl rfl ?_
  refine jT_xlstore_n (v := (1, 0)) (LN := [(2, (1, 0)), (0, (4, 0)), (1, (4, 1))]) (pcN := 2) jIQ_39_1 rfl rfl rfl rfl ?_
  refine jT_xiconst (k := 1) (pcN := 3) jIQ_39_2 rfl ?_
  refine jT_xistore (v := (0, 1)) (LN := [(4, (0, 1)), (2, (1, 0)), (0, (4, 0)), (1, (4, 1))]) (pcN := 5) jIQ_39_3 rfl rfl rfl rfl ?_
  refine jT_xiload (v := (0, 1)) (pcN := 7) jIQ_39_5 rfl rfl rfl ?_
  refine jT_xbipush (k := 6) (pcN := 9) jIQ_39_7 (by decide) rfl ?_
  refine jT_xicF (t := 28) (pcN := 12) jIQ_39_9 rfl (by decide +kernel) rfl rfl ?_
  refine jT_xlload_n (v := (1, 0)) (pcN := 13) jIQ_39_12 rfl rfl rfl ?_
  refine jT_xaload_n (v := (4, 1)) (pcN := 14) jIQ_39_13 rfl rfl rfl ?_
  refine jT_xiload (v := (0, 1)) (pcN := 16) jIQ_39_14 rfl rfl rfl ?_
  refine jT_lald (x := p7) (a := 1) (j := 1) (fs := []) (X := [q1, p7, p8, 0, 0, 0]) jIQ_39_16 rfl rfl rfl rfl ?_
  refine jT_eq (LN := [(4, (0, 1)), (2, (1, 0)), (0, (4, 0)), (1, (4, 1))]) (stN := [(1, p7), (1, 0)]) (hsN := [jgh, (101, [], [q1, p7, p8, 0, 0, 0])]) rfl rfl rfl ?_
  refine jT_labs (z := p7) (by rfl) (by rfl) (by rfl) (by rfl) (by rw [show jwl (p7) = p7 from jwl_idd (by omega) (by omega), decide_eq_false (by omega)]; first | (simp only [cond_true, cond_false]; done) | (simp only [cond_true, cond_false]; omega) | rfl) ?_
  refine jT_xladd (x := 0) (y := p7) (z := p7) (pcN := 21) jIQ_39_20 rfl (by omega) rfl ?_
  refine jT_xlstore_n (v := (1, p7)) (LN := [(2, (1, p7)), (4, (0, 1)), (0, (4, 0)), (1, (4, 1))]) (pcN := 22) jIQ_39_21 rfl rfl rfl rfl ?_
  refine jT_xiinc (x := 1) (z := 2) (LN := [(4, (0, 2)), (2, (1, p7)), (0, (4, 0)), (1, (4, 1))]) (pcN := 25) jIQ_39_22 rfl rfl (by decide) rfl rfl ?_
  refine jT_xgoto (pcN := 5) jIQ_39_25 rfl ?_
  refine jT_xiload (v := (0, 2)) (pcN := 7) jIQ_39_5 rfl rfl rfl ?_
  refine jT_xbipush (k := 6) (pcN := 9) jIQ_39_7 (by decide) rfl ?_
  refine jT_xicF (t := 28) (pcN := 12) jIQ_39_9 rfl (by decide +kernel) rfl rfl ?_
  refine jT_xlload_n (v := (1, p7)) (pcN := 13) jIQ_39_12 rfl rfl rfl ?_
  refine jT_xaload_n (v := (4, 1)) (pcN := 14) jIQ_39_13 rfl rfl rfl ?_
  refine jT_xiload (v := (0, 2)) (pcN := 16) jIQ_39_14 rfl rfl rfl ?_
  refine jT_lald (x := p8) (a := 1) (j := 2) (fs := []) (X := [q1, p7, p8, 0, 0, 0]) jIQ_39_16 rfl rfl rfl rfl ?_
  refine jT_eq (LN := [(4, (0, 2)), (2, (1, p7)), (0, (4, 0)), (1, (4, 1))]) (stN := [(1, p8), (1, p7)]) (hsN := [jgh, (101, [], [q1, p7, p8, 0, 0, 0])]) rfl rfl rfl ?_
  refine jT_labs (z := -p8) (by rfl) (by rfl) (by rfl) (by rfl) (by rw [show jwl (p8) = p8 from jwl_idd (by omega) (by omega), decide_eq_true (by omega)]; first | (simp only [cond_true, cond_false]; done) | (simp only [cond_true, cond_false]; omega) | rfl) ?_
  refine jT_xladd (x := p7) (y := -p8) (z := p7 - p8) (pcN := 21) jIQ_39_20 rfl (by omega) rfl ?_
  refine jT_xlstore_n (v := (1, p7 - p8)) (LN := [(2, (1, p7 - p8)), (4, (0, 2)), (0, (4, 0)), (1, (4, 1))]) (pcN := 22) jIQ_39_21 rfl rfl rfl rfl ?_
  refine jT_xiinc (x := 2) (z := 3) (LN := [(4, (0, 3)), (2, (1, p7 - p8)), (0, (4, 0)), (1, (4, 1))]) (pcN := 25) jIQ_39_22 rfl rfl (by decide) rfl rfl ?_
  refine jT_xgoto (pcN := 5) jIQ_39_25 rfl ?_
  refine jT_xiload (v := (0, 3)) (pcN := 7) jIQ_39_5 rfl rfl rfl ?_
  refine jT_xbipush (k := 6) (pcN := 9) jIQ_39_7 (by decide) rfl ?_
  refine jT_xicF (t := 28) (pcN := 12) jIQ_39_9 rfl (by decide +kernel) rfl rfl ?_
  refine jT_xlload_n (v := (1, p7 - p8)) (pcN := 13) jIQ_39_12 rfl rfl rfl ?_
  refine jT_xaload_n (v := (4, 1)) (pcN := 14) jIQ_39_13 rfl rfl rfl ?_
  refine jT_xiload (v := (0, 3)) (pcN := 16) jIQ_39_14 rfl rfl rfl ?_
  refine jT_lald (x := 0) (a := 1) (j := 3) (fs := []) (X := [q1, p7, p8, 0, 0, 0]) jIQ_39_16 rfl rfl rfl rfl ?_
  refine jT_eq (LN := [(4, (0, 3)), (2, (1, p7 - p8)), (0, (4, 0)), (1, (4, 1))]) (stN := [(1, 0), (1, p7 - p8)]) (hsN := [jgh, (101, [], [q1, p7, p8, 0, 0, 0])]) rfl rfl rfl ?_
  refine jT_labs (z := 0) (by rfl) (by rfl) (by rfl) (by rfl) (by decide +kernel) ?_
  refine jT_xladd (x := p7 - p8) (y := 0) (z := p7 - p8) (pcN := 21) jIQ_39_20 rfl (by omega) rfl ?_
  refine jT_xlstore_n (v := (1, p7 - p8)) (LN := [(2, (1, p7 - p8)), (4, (0, 3)), (0, (4, 0)), (1, (4, 1))]) (pcN := 22) jIQ_39_21 rfl rfl rfl rfl ?_
  refine jT_xiinc (x := 3) (z := 4) (LN := [(4, (0, 4)), (2, (1, p7 - p8)), (0, (4, 0)), (1, (4, 1))]) (pcN := 25) jIQ_39_22 rfl rfl (by decide) rfl rfl ?_
  refine jT_xgoto (pcN := 5) jIQ_39_25 rfl ?_
  refine jT_xiload (v := (0, 4)) (pcN := 7) jIQ_39_5 rfl rfl rfl ?_
  refine jT_xbipush (k := 6) (pcN := 9) jIQ_39_7 (by decide) rfl ?_
  refine jT_xicF (t := 28) (pcN := 12) jIQ_39_9 rfl (by decide +kernel) rfl rfl ?_
  refine jT_xlload_n (v := (1, p7 - p8)) (pcN := 13) jIQ_39_12 rfl rfl rfl ?_
  refine jT_xaload_n (v := (4, 1)) (pcN := 14) jIQ_39_13 rfl rfl rfl ?_
  refine jT_xiload (v := (0, 4)) (pcN := 16) jIQ_39_14 rfl rfl rfl ?_
  refine jT_lald (x := 0) (a := 1) (j := 4) (fs := []) (X := [q1, p7, p8, 0, 0, 0]) jIQ_39_16 rfl rfl rfl rfl ?_
  refine jT_eq (LN := [(4, (0, 4)), (2, (1, p7 - p8)), (0, (4, 0)), (1, (4, 1))]) (stN := [(1, 0), (1, p7 - p8)]) (hsN := [jgh, (101, [], [q1, p7, p8, 0, 0, 0])]) rfl rfl rfl ?_
  refine jT_labs (z := 0) (by rfl) (by rfl) (by rfl) (by rfl) (by decide +kernel) ?_
  refine jT_xladd (x := p7 - p8) (y := 0) (z := p7 - p8) (pcN := 21) jIQ_39_20 rfl (by omega) rfl ?_
  refine jT_xlstore_n (v := (1, p7 - p8)) (LN := [(2, (1, p7 - p8)), (4, (0, 4)), (0, (4, 0)), (1, (4, 1))]) (pcN := 22) jIQ_39_21 rfl rfl rfl rfl ?_
  refine jT_xiinc (x := 4) (z := 5) (LN := [(4, (0, 5)), (2, (1, p7 - p8)), (0, (4, 0)), (1, (4, 1))]) (pcN := 25) jIQ_39_22 rfl rfl (by decide) rfl rfl ?_
  refine jT_xgoto (pcN := 5) jIQ_39_25 rfl ?_
  refine jT_xiload (v := (0, 5)) (pcN := 7) jIQ_39_5 rfl rfl rfl ?_
  refine jT_xbipush (k := 6) (pcN := 9) jIQ_39_7 (by decide) rfl ?_
  refine jT_xicF (t := 28) (pcN := 12) jIQ_39_9 rfl (by decide +kernel) rfl rfl ?_
  refine jT_xlload_n (v := (1, p7 - p8)) (pcN := 13) jIQ_39_12 rfl rfl rfl ?_
  refine jT_xaload_n (v := (4, 1)) (pcN := 14) jIQ_39_13 rfl rfl rfl ?_
  refine jT_xiload (v := (0, 5)) (pcN := 16) jIQ_39_14 rfl rfl rfl ?_
  refine jT_lald (x := 0) (a := 1) (j := 5) (fs := []) (X := [q1, p7, p8, 0, 0, 0]) jIQ_39_16 rfl rfl rfl rfl ?_
  refine jT_eq (LN := [(4, (0, 5)), (2, (1, p7 - p8)), (0, (4, 0)), (1, (4, 1))]) (stN := [(1, 0), (1, p7 - p8)]) (hsN := [jgh, (101, [], [q1, p7, p8, 0, 0, 0])]) rfl rfl rfl ?_
  refine jT_labs (z := 0) (by rfl) (by rfl) (by rfl) (by rfl) (by decide +kernel) ?_
  refine jT_xladd (x := p7 - p8) (y := 0) (z := p7 - p8) (pcN := 21) jIQ_39_20 rfl (by omega) rfl ?_
  refine jT_xlstore_n (v := (1, p7 - p8)) (LN := [(2, (1, p7 - p8)), (4, (0, 5)), (0, (4, 0)), (1, (4, 1))]) (pcN := 22) jIQ_39_21 rfl rfl rfl rfl ?_
  refine jT_xiinc (x := 5) (z := 6) (LN := [(4, (0, 6)), (2, (1, p7 - p8)), (0, (4, 0)), (1, (4, 1))]) (pcN := 25) jIQ_39_22 rfl rfl (by decide) rfl rfl ?_
  refine jT_xgoto (pcN := 5) jIQ_39_25 rfl ?_
  refine jT_xiload (v := (0, 6)) (pcN := 7) jIQ_39_5 rfl rfl rfl ?_
  refine jT_xbipush (k := 6) (pcN := 9) jIQ_39_7 (by decide) rfl ?_
  refine jT_xicT (pcN := 28) jIQ_39_9 rfl (by decide +kernel) rfl ?_
  refine jT_xlload_n (v := (1, p7 - p8)) (pcN := 29) jIQ_39_28 rfl rfl rfl ?_
  exact jT_ret rfl (by decide) (by show 2 ≤ 2; omega) (by omega) (by omega) ⟨rfl, rfl, rfl⟩
theorem jQ_40_146 {xs : List Int} {d : Nat} {p7 p8 q1 : Int} (h_p7 : (-20) ≤ p7 ∧ p7 ≤ 20) (h_p8 : (-10) ≤ p8 ∧ p8 ≤ 10) (h_q1 : (-60) ≤ q1 ∧ q1 ≤ 60) (g_0 : 0 ≤ (-108917793694) * p7 - 159561683698 * p8 - 68719476736 * q1 - 1) (g_1 : 0 ≤ (-108917793694) * p7 - 159561683700 * p8 - 68719476736 * q1 - 1) (g_2 : 0 ≤ (-108917793696) * p7 - 159561683698 * p8 - 68719476736 * q1 - 1) (g_3 : 0 ≤ (-108917793696) * p7 - 159561683700 * p8 - 68719476736 * q1 - 1) (g_4 : 0 ≤ p7) (g_5 : p8 < 0) (g_6 : q1 < 0) (g_7 : 108917793695 * p7 + 159561683699 * p8 + 68719476736 * q1 - 1 < 0) : jT xs d 40 2 0 [(0, (4, 0)), (1, (4, 1)), (2, (1, p7 - p8))] [] [jgh, (101, [], [q1, p7, p8, 0, 0, 0])] 0 0 (fun k v hsN => k = 0 ∧ v = (0, 1) ∧ hsN = [jgh, (101, [], [q1, p7, p8, 0, 0, 0])] ++ []) := by
  refine jT_xlload_n (v := (1, p7 - p8)) (pcN := 1) jIQ_40_0 rfl rfl rfl ?_
  refine jT_adv 1 (pcN := 4) (LN := [(0, (4, 0)), (1, (4, 1)), (2, (1, p7 - p8))]) (stN := [(1, 16777216), (1, p7 - p8)]) (hsN := [jgh, (101, [], [q1, p7, p8, 0, 0, 0])]) (c1 := 0) (s1 := 0) (c2 := 0) (s2 := 0) (by exact rfl) ?_ (by omega) (by omega)
  refine jT_lcmp (a := p7 - p8) (b := 16777216) (z := (-1)) (by rfl) (by rfl) (jwl_idd (by omega) (by omega)) (jwl_idd (by omega) (by omega)) (by rw [decide_eq_false (show ¬ ((16777216 : Int) < p7 - p8) by omega), decide_eq_false (show ¬ ((p7 - p8 : Int) = 16777216) by omega)]; rfl) ?_
  refine jT_xifF (t := 25) (pcN := 8) jIQ_40_5 rfl (by decide +kernel) rfl rfl ?_
  refine jT_xaload_n (v := (4, 1)) (pcN := 9) jIQ_40_8 rfl rfl rfl ?_
  refine jT_xiconst (k := 0) (pcN := 10) jIQ_40_9 rfl ?_
  refine jT_lald (x := q1) (a := 1) (j := 0) (fs := []) (X := [q1, p7, p8, 0, 0, 0]) jIQ_40_10 rfl rfl rfl rfl ?_
  refine jT_eq (LN := [(0, (4, 0)), (1, (4, 1)), (2, (1, p7 - p8))]) (stN := [(1, q1)]) (hsN := [jgh, (101, [], [q1, p7, p8, 0, 0, 0])]) rfl rfl rfl ?_
  refine jT_labs (z := -q1) (by rfl) (by rfl) (by rfl) (by rfl) (by rw [show jwl (q1) = q1 from jwl_idd (by omega) (by omega), decide_eq_true (by omega)]; first | (simp only [cond_true, cond_false]; done) | (simp only [cond_true, cond_false]; omega) | rfl) ?_
  refine jT_adv 1 (pcN := 17) (LN := [(0, (4, 0)), (1, (4, 1)), (2, (1, p7 - p8))]) (stN := [(1, 16777216), (1, -q1)]) (hsN := [jgh, (101, [], [q1, p7, p8, 0, 0, 0])]) (c1 := 0) (s1 := 0) (c2 := 0) (s2 := 0) (by exact rfl) ?_ (by omega) (by omega)
  refine jT_lcmp (a := -q1) (b := 16777216) (z := (-1)) (by rfl) (by rfl) (jwl_idd (by omega) (by omega)) (jwl_idd (by omega) (by omega)) (by rw [decide_eq_false (show ¬ ((16777216 : Int) < -q1) by omega), decide_eq_false (show ¬ ((-q1 : Int) = 16777216) by omega)]; rfl) ?_
  refine jT_xifF (t := 25) (pcN := 21) jIQ_40_18 rfl (by decide +kernel) rfl rfl ?_
  refine jT_xiconst (k := 1) (pcN := 22) jIQ_40_21 rfl ?_
  refine jT_xgoto (pcN := 26) jIQ_40_22 rfl ?_
  exact jT_ret rfl (by decide) (by show 2 ≤ 2; omega) (by omega) (by omega) ⟨rfl, rfl, rfl⟩
theorem jQ_41_147 {xs : List Int} {d : Nat} {p7 p8 q1 : Int} (h_p7 : (-20) ≤ p7 ∧ p7 ≤ 20) (h_p8 : (-10) ≤ p8 ∧ p8 ≤ 10) (h_q1 : (-60) ≤ q1 ∧ q1 ≤ 60) (g_0 : 0 ≤ (-108917793694) * p7 - 159561683698 * p8 - 68719476736 * q1 - 1) (g_1 : 0 ≤ (-108917793694) * p7 - 159561683700 * p8 - 68719476736 * q1 - 1) (g_2 : 0 ≤ (-108917793696) * p7 - 159561683698 * p8 - 68719476736 * q1 - 1) (g_3 : 0 ≤ (-108917793696) * p7 - 159561683700 * p8 - 68719476736 * q1 - 1) (g_4 : 0 ≤ p7) (g_5 : p8 < 0) (g_6 : q1 < 0) (g_7 : 108917793695 * p7 + 159561683699 * p8 + 68719476736 * q1 - 1 < 0) : jT xs d 41 2 0 [(0, (4, 0)), (1, (4, 1))] [] [jgh, (101, [], [q1, p7, p8, 0, 0, 0])] 0 0 (fun k v hsN => k = 0 ∧ v = (1, 108917793695 * p7 + 159561683699 * p8 + 68719476736 * q1) ∧ hsN = [jgh, (101, [], [q1, p7, p8, 0, 0, 0])] ++ []) := by
  refine jT_xlconst (z := 0) (pcN := 1) jIQ_41_0 rfl rfl ?_
  refine jT_xlstore_n (v := (1, 0)) (LN := [(2, (1, 0)), (0, (4, 0)), (1, (4, 1))]) (pcN := 2) jIQ_41_1 rfl rfl rfl rfl ?_
  refine jT_xiconst (k := 0) (pcN := 3) jIQ_41_2 rfl ?_
  refine jT_xistore (v := (0, 0)) (LN := [(4, (0, 0)), (2, (1, 0)), (0, (4, 0)), (1, (4, 1))]) (pcN := 5) jIQ_41_3 rfl rfl rfl rfl ?_
  refine jT_xiload (v := (0, 0)) (pcN := 7) jIQ_41_5 rfl rfl rfl ?_
  refine jT_xbipush (k := 6) (pcN := 9) jIQ_41_7 (by decide) rfl ?_
  refine jT_xicF (t := 32) (pcN := 12) jIQ_41_9 rfl (by decide +kernel) rfl rfl ?_
  refine jT_xlload_n (v := (1, 0)) (pcN := 13) jIQ_41_12 rfl rfl rfl ?_
  refine jT_xaload_n (v := (4, 1)) (pcN := 14) jIQ_41_13 rfl rfl rfl ?_
  refine jT_xiload (v := (0, 0)) (pcN := 16) jIQ_41_14 rfl rfl rfl ?_
  refine jT_lald (x := q1) (a := 1) (j := 0) (fs := []) (X := [q1, p7, p8, 0, 0, 0]) jIQ_41_16 rfl rfl rfl rfl ?_
  refine jT_eq (LN := [(4, (0, 0)), (2, (1, 0)), (0, (4, 0)), (1, (4, 1))]) (stN := [(1, q1), (1, 0)]) (hsN := [jgh, (101, [], [q1, p7, p8, 0, 0, 0])]) rfl rfl rfl ?_
  refine jT_adv 1 (pcN := 20) (LN := [(4, (0, 0)), (2, (1, 0)), (0, (4, 0)), (1, (4, 1))]) (stN := [(5, 0), (1, q1), (1, 0)]) (hsN := [jgh, (101, [], [q1, p7, p8, 0, 0, 0])]) (c1 := 0) (s1 := 0) (c2 := 0) (s2 := 0) (by exact rfl) ?_ (by omega) (by omega)
  refine jT_xiload (v := (0, 0)) (pcN := 22) jIQ_41_20 rfl rfl rfl ?_
  refine jT_adv 1 (pcN := 23) (LN := [(4, (0, 0)), (2, (1, 0)), (0, (4, 0)), (1, (4, 1))]) (stN := [(1, 68719476736), (1, q1), (1, 0)]) (hsN := [jgh, (101, [], [q1, p7, p8, 0, 0, 0])]) (c1 := 0) (s1 := 0) (c2 := 0) (s2 := 0) (by exact rfl) ?_ (by omega) (by omega)
  refine jT_xlmul (x := q1) (y := 68719476736) (z := 68719476736 * q1) (pcN := 24) jIQ_41_23 rfl (by omega) rfl ?_
  refine jT_xladd (x := 0) (y := 68719476736 * q1) (z := 68719476736 * q1) (pcN := 25) jIQ_41_24 rfl (by omega) rfl ?_
  refine jT_xlstore_n (v := (1, 68719476736 * q1)) (LN := [(2, (1, 68719476736 * q1)), (4, (0, 0)), (0, (4, 0)), (1, (4, 1))]) (pcN := 26) jIQ_41_25 rfl rfl rfl rfl ?_
  refine jT_xiinc (x := 0) (z := 1) (LN := [(4, (0, 1)), (2, (1, 68719476736 * q1)), (0, (4, 0)), (1, (4, 1))]) (pcN := 29) jIQ_41_26 rfl rfl (by decide) rfl rfl ?_
  refine jT_xgoto (pcN := 5) jIQ_41_29 rfl ?_
  refine jT_xiload (v := (0, 1)) (pcN := 7) jIQ_41_5 rfl rfl rfl ?_
  refine jT_xbipush (k := 6) (pcN := 9) jIQ_41_7 (by decide) rfl ?_
  refine jT_xicF (t := 32) (pcN := 12) jIQ_41_9 rfl (by decide +kernel) rfl rfl ?_
  refine jT_xlload_n (v := (1, 68719476736 * q1)) (pcN := 13) jIQ_41_12 rfl rfl rfl ?_
  refine jT_xaload_n (v := (4, 1)) (pcN := 14) jIQ_41_13 rfl rfl rfl ?_
  refine jT_xiload (v := (0, 1)) (pcN := 16) jIQ_41_14 rfl rfl rfl ?_
  refine jT_lald (x := p7) (a := 1) (j := 1) (fs := []) (X := [q1, p7, p8, 0, 0, 0]) jIQ_41_16 rfl rfl rfl rfl ?_
  refine jT_eq (LN := [(4, (0, 1)), (2, (1, 68719476736 * q1)), (0, (4, 0)), (1, (4, 1))]) (stN := [(1, p7), (1, 68719476736 * q1)]) (hsN := [jgh, (101, [], [q1, p7, p8, 0, 0, 0])]) rfl rfl rfl ?_
  refine jT_adv 1 (pcN := 20) (LN := [(4, (0, 1)), (2, (1, 68719476736 * q1)), (0, (4, 0)), (1, (4, 1))]) (stN := [(5, 0), (1, p7), (1, 68719476736 * q1)]) (hsN := [jgh, (101, [], [q1, p7, p8, 0, 0, 0])]) (c1 := 0) (s1 := 0) (c2 := 0) (s2 := 0) (by exact rfl) ?_ (by omega) (by omega)
  refine jT_xiload (v := (0, 1)) (pcN := 22) jIQ_41_20 rfl rfl rfl ?_
  refine jT_adv 1 (pcN := 23) (LN := [(4, (0, 1)), (2, (1, 68719476736 * q1)), (0, (4, 0)), (1, (4, 1))]) (stN := [(1, 108917793695), (1, p7), (1, 68719476736 * q1)]) (hsN := [jgh, (101, [], [q1, p7, p8, 0, 0, 0])]) (c1 := 0) (s1 := 0) (c2 := 0) (s2 := 0) (by exact rfl) ?_ (by omega) (by omega)
  refine jT_xlmul (x := p7) (y := 108917793695) (z := 108917793695 * p7) (pcN := 24) jIQ_41_23 rfl (by omega) rfl ?_
  refine jT_xladd (x := 68719476736 * q1) (y := 108917793695 * p7) (z := 108917793695 * p7 + 68719476736 * q1) (pcN := 25) jIQ_41_24 rfl (by omega) rfl ?_
  refine jT_xlstore_n (v := (1, 108917793695 * p7 + 68719476736 * q1)) (LN := [(2, (1, 108917793695 * p7 + 68719476736 * q1)), (4, (0, 1)), (0, (4, 0)), (1, (4, 1))]) (pcN := 26) jIQ_41_25 rfl rfl rfl rfl ?_
  refine jT_xiinc (x := 1) (z := 2) (LN := [(4, (0, 2)), (2, (1, 108917793695 * p7 + 68719476736 * q1)), (0, (4, 0)), (1, (4, 1))]) (pcN := 29) jIQ_41_26 rfl rfl (by decide) rfl rfl ?_
  refine jT_xgoto (pcN := 5) jIQ_41_29 rfl ?_
  refine jT_xiload (v := (0, 2)) (pcN := 7) jIQ_41_5 rfl rfl rfl ?_
  refine jT_xbipush (k := 6) (pcN := 9) jIQ_41_7 (by decide) rfl ?_
  refine jT_xicF (t := 32) (pcN := 12) jIQ_41_9 rfl (by decide +kernel) rfl rfl ?_
  refine jT_xlload_n (v := (1, 108917793695 * p7 + 68719476736 * q1)) (pcN := 13) jIQ_41_12 rfl rfl rfl ?_
  refine jT_xaload_n (v := (4, 1)) (pcN := 14) jIQ_41_13 rfl rfl rfl ?_
  refine jT_xiload (v := (0, 2)) (pcN := 16) jIQ_41_14 rfl rfl rfl ?_
  refine jT_lald (x := p8) (a := 1) (j := 2) (fs := []) (X := [q1, p7, p8, 0, 0, 0]) jIQ_41_16 rfl rfl rfl rfl ?_
  refine jT_eq (LN := [(4, (0, 2)), (2, (1, 108917793695 * p7 + 68719476736 * q1)), (0, (4, 0)), (1, (4, 1))]) (stN := [(1, p8), (1, 108917793695 * p7 + 68719476736 * q1)]) (hsN := [jgh, (101, [], [q1, p7, p8, 0, 0, 0])]) rfl rfl rfl ?_
  refine jT_adv 1 (pcN := 20) (LN := [(4, (0, 2)), (2, (1, 108917793695 * p7 + 68719476736 * q1)), (0, (4, 0)), (1, (4, 1))]) (stN := [(5, 0), (1, p8), (1, 108917793695 * p7 + 68719476736 * q1)]) (hsN := [jgh, (101, [], [q1, p7, p8, 0, 0, 0])]) (c1 := 0) (s1 := 0) (c2 := 0) (s2 := 0) (by exact rfl) ?_ (by omega) (by omega)
  refine jT_xiload (v := (0, 2)) (pcN := 22) jIQ_41_20 rfl rfl rfl ?_
  refine jT_adv 1 (pcN := 23) (LN := [(4, (0, 2)), (2, (1, 108917793695 * p7 + 68719476736 * q1)), (0, (4, 0)), (1, (4, 1))]) (stN := [(1, 159561683699), (1, p8), (1, 108917793695 * p7 + 68719476736 * q1)]) (hsN := [jgh, (101, [], [q1, p7, p8, 0, 0, 0])]) (c1 := 0) (s1 := 0) (c2 := 0) (s2 := 0) (by exact rfl) ?_ (by omega) (by omega)
  refine jT_xlmul (x := p8) (y := 159561683699) (z := 159561683699 * p8) (pcN := 24) jIQ_41_23 rfl (by omega) rfl ?_
  refine jT_xladd (x := 108917793695 * p7 + 68719476736 * q1) (y := 159561683699 * p8) (z := 108917793695 * p7 + 159561683699 * p8 + 68719476736 * q1) (pcN := 25) jIQ_41_24 rfl (by omega) rfl ?_
  refine jT_xlstore_n (v := (1, 108917793695 * p7 + 159561683699 * p8 + 68719476736 * q1)) (LN := [(2, (1, 108917793695 * p7 + 159561683699 * p8 + 68719476736 * q1)), (4, (0, 2)), (0, (4, 0)), (1, (4, 1))]) (pcN := 26) jIQ_41_25 rfl rfl rfl rfl ?_
  refine jT_xiinc (x := 2) (z := 3) (LN := [(4, (0, 3)), (2, (1, 108917793695 * p7 + 159561683699 * p8 + 68719476736 * q1)), (0, (4, 0)), (1, (4, 1))]) (pcN := 29) jIQ_41_26 rfl rfl (by decide) rfl rfl ?_
  refine jT_xgoto (pcN := 5) jIQ_41_29 rfl ?_
  refine jT_xiload (v := (0, 3)) (pcN := 7) jIQ_41_5 rfl rfl rfl ?_
  refine jT_xbipush (k := 6) (pcN := 9) jIQ_41_7 (by decide) rfl ?_
  refine jT_xicF (t := 32) (pcN := 12) jIQ_41_9 rfl (by decide +kernel) rfl rfl ?_
  refine jT_xlload_n (v := (1, 108917793695 * p7 + 159561683699 * p8 + 68719476736 * q1)) (pcN := 13) jIQ_41_12 rfl rfl rfl ?_
  refine jT_xaload_n (v := (4, 1)) (pcN := 14) jIQ_41_13 rfl rfl rfl ?_
  refine jT_xiload (v := (0, 3)) (pcN := 16) jIQ_41_14 rfl rfl rfl ?_
  refine jT_lald (x := 0) (a := 1) (j := 3) (fs := []) (X := [q1, p7, p8, 0, 0, 0]) jIQ_41_16 rfl rfl rfl rfl ?_
  refine jT_eq (LN := [(4, (0, 3)), (2, (1, 108917793695 * p7 + 159561683699 * p8 + 68719476736 * q1)), (0, (4, 0)), (1, (4, 1))]) (stN := [(1, 0), (1, 108917793695 * p7 + 159561683699 * p8 + 68719476736 * q1)]) (hsN := [jgh, (101, [], [q1, p7, p8, 0, 0, 0])]) rfl rfl rfl ?_
  refine jT_adv 1 (pcN := 20) (LN := [(4, (0, 3)), (2, (1, 108917793695 * p7 + 159561683699 * p8 + 68719476736 * q1)), (0, (4, 0)), (1, (4, 1))]) (stN := [(5, 0), (1, 0), (1, 108917793695 * p7 + 159561683699 * p8 + 68719476736 * q1)]) (hsN := [jgh, (101, [], [q1, p7, p8, 0, 0, 0])]) (c1 := 0) (s1 := 0) (c2 := 0) (s2 := 0) (by exact rfl) ?_ (by omega) (by omega)
  refine jT_xiload (v := (0, 3)) (pcN := 22) jIQ_41_20 rfl rfl rfl ?_
  refine jT_adv 1 (pcN := 23) (LN := [(4, (0, 3)), (2, (1, 108917793695 * p7 + 159561683699 * p8 + 68719476736 * q1)), (0, (4, 0)), (1, (4, 1))]) (stN := [(1, 192919961256), (1, 0), (1, 108917793695 * p7 + 159561683699 * p8 + 68719476736 * q1)]) (hsN := [jgh, (101, [], [q1, p7, p8, 0, 0, 0])]) (c1 := 0) (s1 := 0) (c2 := 0) (s2 := 0) (by exact rfl) ?_ (by omega) (by omega)
  refine jT_xlmul (x := 0) (y := 192919961256) (z := 0) (pcN := 24) jIQ_41_23 rfl (by decide) rfl ?_
  refine jT_xladd (x := 108917793695 * p7 + 159561683699 * p8 + 68719476736 * q1) (y := 0) (z := 108917793695 * p7 + 159561683699 * p8 + 68719476736 * q1) (pcN := 25) jIQ_41_24 rfl (by omega) rfl ?_
  refine jT_xlstore_n (v := (1, 108917793695 * p7 + 159561683699 * p8 + 68719476736 * q1)) (LN := [(2, (1, 108917793695 * p7 + 159561683699 * p8 + 68719476736 * q1)), (4, (0, 3)), (0, (4, 0)), (1, (4, 1))]) (pcN := 26) jIQ_41_25 rfl rfl rfl rfl ?_
  refine jT_xiinc (x := 3) (z := 4) (LN := [(4, (0, 4)), (2, (1, 108917793695 * p7 + 159561683699 * p8 + 68719476736 * q1)), (0, (4, 0)), (1, (4, 1))]) (pcN := 29) jIQ_41_26 rfl rfl (by decide) rfl rfl ?_
  refine jT_xgoto (pcN := 5) jIQ_41_29 rfl ?_
  refine jT_xiload (v := (0, 4)) (pcN := 7) jIQ_41_5 rfl rfl rfl ?_
  refine jT_xbipush (k := 6) (pcN := 9) jIQ_41_7 (by decide) rfl ?_
  refine jT_xicF (t := 32) (pcN := 12) jIQ_41_9 rfl (by decide +kernel) rfl rfl ?_
  refine jT_xlload_n (v := (1, 108917793695 * p7 + 159561683699 * p8 + 68719476736 * q1)) (pcN := 13) jIQ_41_12 rfl rfl rfl ?_
  refine jT_xaload_n (v := (4, 1)) (pcN := 14) jIQ_41_13 rfl rfl rfl ?_
  refine jT_xiload (v := (0, 4)) (pcN := 16) jIQ_41_14 rfl rfl rfl ?_
  refine jT_lald (x := 0) (a := 1) (j := 4) (fs := []) (X := [q1, p7, p8, 0, 0, 0]) jIQ_41_16 rfl rfl rfl rfl ?_
  refine jT_eq (LN := [(4, (0, 4)), (2, (1, 108917793695 * p7 + 159561683699 * p8 + 68719476736 * q1)), (0, (4, 0)), (1, (4, 1))]) (stN := [(1, 0), (1, 108917793695 * p7 + 159561683699 * p8 + 68719476736 * q1)]) (hsN := [jgh, (101, [], [q1, p7, p8, 0, 0, 0])]) rfl rfl rfl ?_
  refine jT_adv 1 (pcN := 20) (LN := [(4, (0, 4)), (2, (1, 108917793695 * p7 + 159561683699 * p8 + 68719476736 * q1)), (0, (4, 0)), (1, (4, 1))]) (stN := [(5, 0), (1, 0), (1, 108917793695 * p7 + 159561683699 * p8 + 68719476736 * q1)]) (hsN := [jgh, (101, [], [q1, p7, p8, 0, 0, 0])]) (c1 := 0) (s1 := 0) (c2 := 0) (s2 := 0) (by exact rfl) ?_ (by omega) (by omega)
  refine jT_xiload (v := (0, 4)) (pcN := 22) jIQ_41_20 rfl rfl rfl ?_
  refine jT_adv 1 (pcN := 23) (LN := [(4, (0, 4)), (2, (1, 108917793695 * p7 + 159561683699 * p8 + 68719476736 * q1)), (0, (4, 0)), (1, (4, 1))]) (stN := [(1, 237730330636), (1, 0), (1, 108917793695 * p7 + 159561683699 * p8 + 68719476736 * q1)]) (hsN := [jgh, (101, [], [q1, p7, p8, 0, 0, 0])]) (c1 := 0) (s1 := 0) (c2 := 0) (s2 := 0) (by exact rfl) ?_ (by omega) (by omega)
  refine jT_xlmul (x := 0) (y := 237730330636) (z := 0) (pcN := 24) jIQ_41_23 rfl (by decide) rfl ?_
  refine jT_xladd (x := 108917793695 * p7 + 159561683699 * p8 + 68719476736 * q1) (y := 0) (z := 108917793695 * p7 + 159561683699 * p8 + 68719476736 * q1) (pcN := 25) jIQ_41_24 rfl (by omega) rfl ?_
  refine jT_xlstore_n (v := (1, 108917793695 * p7 + 159561683699 * p8 + 68719476736 * q1)) (LN := [(2, (1, 108917793695 * p7 + 159561683699 * p8 + 68719476736 * q1)), (4, (0, 4)), (0, (4, 0)), (1, (4, 1))]) (pcN := 26) jIQ_41_25 rfl rfl rfl rfl ?_
  refine jT_xiinc (x := 4) (z := 5) (LN := [(4, (0, 5)), (2, (1, 108917793695 * p7 + 159561683699 * p8 + 68719476736 * q1)), (0, (4, 0)), (1, (4, 1))]) (pcN := 29) jIQ_41_26 rfl rfl (by decide) rfl rfl ?_
  refine jT_xgoto (pcN := 5) jIQ_41_29 rfl ?_
  refine jT_xiload (v := (0, 5)) (pcN := 7) jIQ_41_5 rfl rfl rfl ?_
  refine jT_xbipush (k := 6) (pcN := 9) jIQ_41_7 (by decide) rfl ?_
  refine jT_xicF (t := 32) (pcN := 12) jIQ_41_9 rfl (by decide +kernel) rfl rfl ?_
  refine jT_xlload_n (v := (1, 108917793695 * p7 + 159561683699 * p8 + 68719476736 * q1)) (pcN := 13) jIQ_41_12 rfl rfl rfl ?_
  refine jT_xaload_n (v := (4, 1)) (pcN := 14) jIQ_41_13 rfl rfl rfl ?_
  refine jT_xiload (v := (0, 5)) (pcN := 16) jIQ_41_14 rfl rfl rfl ?_
  refine jT_lald (x := 0) (a := 1) (j := 5) (fs := []) (X := [q1, p7, p8, 0, 0, 0]) jIQ_41_16 rfl rfl rfl rfl ?_
  refine jT_eq (LN := [(4, (0, 5)), (2, (1, 108917793695 * p7 + 159561683699 * p8 + 68719476736 * q1)), (0, (4, 0)), (1, (4, 1))]) (stN := [(1, 0), (1, 108917793695 * p7 + 159561683699 * p8 + 68719476736 * q1)]) (hsN := [jgh, (101, [], [q1, p7, p8, 0, 0, 0])]) rfl rfl rfl ?_
  refine jT_adv 1 (pcN := 20) (LN := [(4, (0, 5)), (2, (1, 108917793695 * p7 + 159561683699 * p8 + 68719476736 * q1)), (0, (4, 0)), (1, (4, 1))]) (stN := [(5, 0), (1, 0), (1, 108917793695 * p7 + 159561683699 * p8 + 68719476736 * q1)]) (hsN := [jgh, (101, [], [q1, p7, p8, 0, 0, 0])]) (c1 := 0) (s1 := 0) (c2 := 0) (s2 := 0) (by exact rfl) ?_ (by omega) (by omega)
  refine jT_xiload (v := (0, 5)) (pcN := 22) jIQ_41_20 rfl rfl rfl ?_
  refine jT_adv 1 (pcN := 23) (LN := [(4, (0, 5)), (2, (1, 108917793695 * p7 + 159561683699 * p8 + 68719476736 * q1)), (0, (4, 0)), (1, (4, 1))]) (stN := [(1, 254292281123), (1, 0), (1, 108917793695 * p7 + 159561683699 * p8 + 68719476736 * q1)]) (hsN := [jgh, (101, [], [q1, p7, p8, 0, 0, 0])]) (c1 := 0) (s1 := 0) (c2 := 0) (s2 := 0) (by exact rfl) ?_ (by omega) (by omega)
  refine jT_xlmul (x := 0) (y := 254292281123) (z := 0) (pcN := 24) jIQ_41_23 rfl (by decide) rfl ?_
  refine jT_xladd (x := 108917793695 * p7 + 159561683699 * p8 + 68719476736 * q1) (y := 0) (z := 108917793695 * p7 + 159561683699 * p8 + 68719476736 * q1) (pcN := 25) jIQ_41_24 rfl (by omega) rfl ?_
  refine jT_xlstore_n (v := (1, 108917793695 * p7 + 159561683699 * p8 + 68719476736 * q1)) (LN := [(2, (1, 108917793695 * p7 + 159561683699 * p8 + 68719476736 * q1)), (4, (0, 5)), (0, (4, 0)), (1, (4, 1))]) (pcN := 26) jIQ_41_25 rfl rfl rfl rfl ?_
  refine jT_xiinc (x := 5) (z := 6) (LN := [(4, (0, 6)), (2, (1, 108917793695 * p7 + 159561683699 * p8 + 68719476736 * q1)), (0, (4, 0)), (1, (4, 1))]) (pcN := 29) jIQ_41_26 rfl rfl (by decide) rfl rfl ?_
  refine jT_xgoto (pcN := 5) jIQ_41_29 rfl ?_
  refine jT_xiload (v := (0, 6)) (pcN := 7) jIQ_41_5 rfl rfl rfl ?_
  refine jT_xbipush (k := 6) (pcN := 9) jIQ_41_7 (by decide) rfl ?_
  refine jT_xicT (pcN := 32) jIQ_41_9 rfl (by decide +kernel) rfl ?_
  refine jT_xlload_n (v := (1, 108917793695 * p7 + 159561683699 * p8 + 68719476736 * q1)) (pcN := 33) jIQ_41_32 rfl rfl rfl ?_
  exact jT_ret rfl (by decide) (by show 2 ≤ 2; omega) (by omega) (by omega) ⟨rfl, rfl, rfl⟩
theorem jQ_39_148 {xs : List Int} {d : Nat} {p7 p8 q1 : Int} (h_p7 : (-20) ≤ p7 ∧ p7 ≤ 20) (h_p8 : (-10) ≤ p8 ∧ p8 ≤ 10) (h_q1 : (-60) ≤ q1 ∧ q1 ≤ 60) (g_0 : 0 ≤ (-108917793694) * p7 - 159561683698 * p8 - 68719476736 * q1 - 1) (g_1 : 0 ≤ (-108917793694) * p7 - 159561683700 * p8 - 68719476736 * q1 - 1) (g_2 : 0 ≤ (-108917793696) * p7 - 159561683698 * p8 - 68719476736 * q1 - 1) (g_3 : 0 ≤ (-108917793696) * p7 - 159561683700 * p8 - 68719476736 * q1 - 1) (g_4 : 0 ≤ p7) (g_5 : p8 < 0) (g_6 : q1 < 0) (g_7 : 108917793695 * p7 + 159561683699 * p8 + 68719476736 * q1 - 1 < 0) (g_8 : 108917793695 * p7 + 159561683699 * p8 + 68719476736 * q1 < 0) : jT xs d 39 2 0 [(0, (4, 0)), (1, (4, 1))] [] [jgh, (101, [], [q1, p7, p8, 0, 0, 0])] 0 0 (fun k v hsN => k = 0 ∧ v = (1, p7 - p8) ∧ hsN = [jgh, (101, [], [q1, p7, p8, 0, 0, 0])] ++ []) := by
  refine jT_xlconst (z := 0) (pcN := 1) jIQ_39_0 rfl rfl ?_
  refine jT_xlstore_n (v := (1, 0)) (LN := [(2, (1, 0)), (0, (4, 0)), (1, (4, 1))]) (pcN := 2) jIQ_39_1 rfl rfl rfl rfl ?_
  refine jT_xiconst (k := 1) (pcN := 3) jIQ_39_2 rfl ?_
  refine jT_xistore (v := (0, 1)) (LN := [(4, (0, 1)), (2, (1, 0)), (0, (4, 0)), (1, (4, 1))]) (pcN := 5) jIQ_39_3 rfl rfl rfl rfl ?_
  refine jT_xiload (v := (0, 1)) (pcN := 7) jIQ_39_5 rfl rfl rfl ?_
  refine jT_xbipush (k := 6) (pcN := 9) jIQ_39_7 (by decide) rfl ?_
  refine jT_xicF (t := 28) (pcN := 12) jIQ_39_9 rfl (by decide +kernel) rfl rfl ?_
  refine jT_xlload_n (v := (1, 0)) (pcN := 13) jIQ_39_12 rfl rfl rfl ?_
  refine jT_xaload_n (v := (4, 1)) (pcN := 14) jIQ_39_13 rfl rfl rfl ?_
  refine jT_xiload (v := (0, 1)) (pcN := 16) jIQ_39_14 rfl rfl rfl ?_
  refine jT_lald (x := p7) (a := 1) (j := 1) (fs := []) (X := [q1, p7, p8, 0, 0, 0]) jIQ_39_16 rfl rfl rfl rfl ?_
  refine jT_eq (LN := [(4, (0, 1)), (2, (1, 0)), (0, (4, 0)), (1, (4, 1))]) (stN := [(1, p7), (1, 0)]) (hsN := [jgh, (101, [], [q1, p7, p8, 0, 0, 0])]) rfl rfl rfl ?_
  refine jT_labs (z := p7) (by rfl) (by rfl) (by rfl) (by rfl) (by rw [show jwl (p7) = p7 from jwl_idd (by omega) (by omega), decide_eq_false (by omega)]; first | (simp only [cond_true, cond_false]; done) | (simp only [cond_true, cond_false]; omega) | rfl) ?_
  refine jT_xladd (x := 0) (y := p7) (z := p7) (pcN := 21) jIQ_39_20 rfl (by omega) rfl ?_
  refine jT_xlstore_n (v := (1, p7)) (LN := [(2, (1, p7)), (4, (0, 1)), (0, (4, 0)), (1, (4, 1))]) (pcN := 22) jIQ_39_21 rfl rfl rfl rfl ?_
  refine jT_xiinc (x := 1) (z := 2) (LN := [(4, (0, 2)), (2, (1, p7)), (0, (4, 0)), (1, (4, 1))]) (pcN := 25) jIQ_39_22 rfl rfl (by decide) rfl rfl ?_
  refine jT_xgoto (pcN := 5) jIQ_39_25 rfl ?_
  refine jT_xiload (v := (0, 2)) (pcN := 7) jIQ_39_5 rfl rfl rfl ?_
  refine jT_xbipush (k := 6) (pcN := 9) jIQ_39_7 (by decide) rfl ?_
  refine jT_xicF (t := 28) (pcN := 12) jIQ_39_9 rfl (by decide +kernel) rfl rfl ?_
  refine jT_xlload_n (v := (1, p7)) (pcN := 13) jIQ_39_12 rfl rfl rfl ?_
  refine jT_xaload_n (v := (4, 1)) (pcN := 14) jIQ_39_13 rfl rfl rfl ?_
  refine jT_xiload (v := (0, 2)) (pcN := 16) jIQ_39_14 rfl rfl rfl ?_
  refine jT_lald (x := p8) (a := 1) (j := 2) (fs := []) (X := [q1, p7, p8, 0, 0, 0]) jIQ_39_16 rfl rfl rfl rfl ?_
  refine jT_eq (LN := [(4, (0, 2)), (2, (1, p7)), (0, (4, 0)), (1, (4, 1))]) (stN := [(1, p8), (1, p7)]) (hsN := [jgh, (101, [], [q1, p7, p8, 0, 0, 0])]) rfl rfl rfl ?_
  refine jT_labs (z := -p8) (by rfl) (by rfl) (by rfl) (by rfl) (by rw [show jwl (p8) = p8 from jwl_idd (by omega) (by omega), decide_eq_true (by omega)]; first | (simp only [cond_true, cond_false]; done) | (simp only [cond_true, cond_false]; omega) | rfl) ?_
  refine jT_xladd (x := p7) (y := -p8) (z := p7 - p8) (pcN := 21) jIQ_39_20 rfl (by omega) rfl ?_
  refine jT_xlstore_n (v := (1, p7 - p8)) (LN := [(2, (1, p7 - p8)), (4, (0, 2)), (0, (4, 0)), (1, (4, 1))]) (pcN := 22) jIQ_39_21 rfl rfl rfl rfl ?_
  refine jT_xiinc (x := 2) (z := 3) (LN := [(4, (0, 3)), (2, (1, p7 - p8)), (0, (4, 0)), (1, (4, 1))]) (pcN := 25) jIQ_39_22 rfl rfl (by decide) rfl rfl ?_
  refine jT_xgoto (pcN := 5) jIQ_39_25 rfl ?_
  refine jT_xiload (v := (0, 3)) (pcN := 7) jIQ_39_5 rfl rfl rfl ?_
  refine jT_xbipush (k := 6) (pcN := 9) jIQ_39_7 (by decide) rfl ?_
  refine jT_xicF (t := 28) (pcN := 12) jIQ_39_9 rfl (by decide +kernel) rfl rfl ?_
  refine jT_xlload_n (v := (1, p7 - p8)) (pcN := 13) jIQ_39_12 rfl rfl rfl ?_
  refine jT_xaload_n (v := (4, 1)) (pcN := 14) jIQ_39_13 rfl rfl rfl ?_
  refine jT_xiload (v := (0, 3)) (pcN := 16) jIQ_39_14 rfl rfl rfl ?_
  refine jT_lald (x := 0) (a := 1) (j := 3) (fs := []) (X := [q1, p7, p8, 0, 0, 0]) jIQ_39_16 rfl rfl rfl rfl ?_
  refine jT_eq (LN := [(4, (0, 3)), (2, (1, p7 - p8)), (0, (4, 0)), (1, (4, 1))]) (stN := [(1, 0), (1, p7 - p8)]) (hsN := [jgh, (101, [], [q1, p7, p8, 0, 0, 0])]) rfl rfl rfl ?_
  refine jT_labs (z := 0) (by rfl) (by rfl) (by rfl) (by rfl) (by decide +kernel) ?_
  refine jT_xladd (x := p7 - p8) (y := 0) (z := p7 - p8) (pcN := 21) jIQ_39_20 rfl (by omega) rfl ?_
  refine jT_xlstore_n (v := (1, p7 - p8)) (LN := [(2, (1, p7 - p8)), (4, (0, 3)), (0, (4, 0)), (1, (4, 1))]) (pcN := 22) jIQ_39_21 rfl rfl rfl rfl ?_
  refine jT_xiinc (x := 3) (z := 4) (LN := [(4, (0, 4)), (2, (1, p7 - p8)), (0, (4, 0)), (1, (4, 1))]) (pcN := 25) jIQ_39_22 rfl rfl (by decide) rfl rfl ?_
  refine jT_xgoto (pcN := 5) jIQ_39_25 rfl ?_
  refine jT_xiload (v := (0, 4)) (pcN := 7) jIQ_39_5 rfl rfl rfl ?_
  refine jT_xbipush (k := 6) (pcN := 9) jIQ_39_7 (by decide) rfl ?_
  refine jT_xicF (t := 28) (pcN := 12) jIQ_39_9 rfl (by decide +kernel) rfl rfl ?_
  refine jT_xlload_n (v := (1, p7 - p8)) (pcN := 13) jIQ_39_12 rfl rfl rfl ?_
  refine jT_xaload_n (v := (4, 1)) (pcN := 14) jIQ_39_13 rfl rfl rfl ?_
  refine jT_xiload (v := (0, 4)) (pcN := 16) jIQ_39_14 rfl rfl rfl ?_
  refine jT_lald (x := 0) (a := 1) (j := 4) (fs := []) (X := [q1, p7, p8, 0, 0, 0]) jIQ_39_16 rfl rfl rfl rfl ?_
  refine jT_eq (LN := [(4, (0, 4)), (2, (1, p7 - p8)), (0, (4, 0)), (1, (4, 1))]) (stN := [(1, 0), (1, p7 - p8)]) (hsN := [jgh, (101, [], [q1, p7, p8, 0, 0, 0])]) rfl rfl rfl ?_
  refine jT_labs (z := 0) (by rfl) (by rfl) (by rfl) (by rfl) (by decide +kernel) ?_
  refine jT_xladd (x := p7 - p8) (y := 0) (z := p7 - p8) (pcN := 21) jIQ_39_20 rfl (by omega) rfl ?_
  refine jT_xlstore_n (v := (1, p7 - p8)) (LN := [(2, (1, p7 - p8)), (4, (0, 4)), (0, (4, 0)), (1, (4, 1))]) (pcN := 22) jIQ_39_21 rfl rfl rfl rfl ?_
  refine jT_xiinc (x := 4) (z := 5) (LN := [(4, (0, 5)), (2, (1, p7 - p8)), (0, (4, 0)), (1, (4, 1))]) (pcN := 25) jIQ_39_22 rfl rfl (by decide) rfl rfl ?_
  refine jT_xgoto (pcN := 5) jIQ_39_25 rfl ?_
  refine jT_xiload (v := (0, 5)) (pcN := 7) jIQ_39_5 rfl rfl rfl ?_
  refine jT_xbipush (k := 6) (pcN := 9) jIQ_39_7 (by decide) rfl ?_
  refine jT_xicF (t := 28) (pcN := 12) jIQ_39_9 rfl (by decide +kernel) rfl rfl ?_
  refine jT_xlload_n (v := (1, p7 - p8)) (pcN := 13) jIQ_39_12 rfl rfl rfl ?_
  refine jT_xaload_n (v := (4, 1)) (pcN := 14) jIQ_39_13 rfl rfl rfl ?_
  refine jT_xiload (v := (0, 5)) (pcN := 16) jIQ_39_14 rfl rfl rfl ?_
  refine jT_lald (x := 0) (a := 1) (j := 5) (fs := []) (X := [q1, p7, p8, 0, 0, 0]) jIQ_39_16 rfl rfl rfl rfl ?_
  refine jT_eq (LN := [(4, (0, 5)), (2, (1, p7 - p8)), (0, (4, 0)), (1, (4, 1))]) (stN := [(1, 0), (1, p7 - p8)]) (hsN := [jgh, (101, [], [q1, p7, p8, 0, 0, 0])]) rfl rfl rfl ?_
  refine jT_labs (z := 0) (by rfl) (by rfl) (by rfl) (by rfl) (by decide +kernel) ?_
  refine jT_xladd (x := p7 - p8) (y := 0) (z := p7 - p8) (pcN := 21) jIQ_39_20 rfl (by omega) rfl ?_
  refine jT_xlstore_n (v := (1, p7 - p8)) (LN := [(2, (1, p7 - p8)), (4, (0, 5)), (0, (4, 0)), (1, (4, 1))]) (pcN := 22) jIQ_39_21 rfl rfl rfl rfl ?_
  refine jT_xiinc (x := 5) (z := 6) (LN := [(4, (0, 6)), (2, (1, p7 - p8)), (0, (4, 0)), (1, (4, 1))]) (pcN := 25) jIQ_39_22 rfl rfl (by decide) rfl rfl ?_
  refine jT_xgoto (pcN := 5) jIQ_39_25 rfl ?_
  refine jT_xiload (v := (0, 6)) (pcN := 7) jIQ_39_5 rfl rfl rfl ?_
  refine jT_xbipush (k := 6) (pcN := 9) jIQ_39_7 (by decide) rfl ?_
  refine jT_xicT (pcN := 28) jIQ_39_9 rfl (by decide +kernel) rfl ?_
  refine jT_xlload_n (v := (1, p7 - p8)) (pcN := 29) jIQ_39_28 rfl rfl rfl ?_
  exact jT_ret rfl (by decide) (by show 2 ≤ 2; omega) (by omega) (by omega) ⟨rfl, rfl, rfl⟩
theorem jQ_40_149 {xs : List Int} {d : Nat} {p7 p8 q1 : Int} (h_p7 : (-20) ≤ p7 ∧ p7 ≤ 20) (h_p8 : (-10) ≤ p8 ∧ p8 ≤ 10) (h_q1 : (-60) ≤ q1 ∧ q1 ≤ 60) (g_0 : 0 ≤ (-108917793694) * p7 - 159561683698 * p8 - 68719476736 * q1 - 1) (g_1 : 0 ≤ (-108917793694) * p7 - 159561683700 * p8 - 68719476736 * q1 - 1) (g_2 : 0 ≤ (-108917793696) * p7 - 159561683698 * p8 - 68719476736 * q1 - 1) (g_3 : 0 ≤ (-108917793696) * p7 - 159561683700 * p8 - 68719476736 * q1 - 1) (g_4 : 0 ≤ p7) (g_5 : p8 < 0) (g_6 : q1 < 0) (g_7 : 108917793695 * p7 + 159561683699 * p8 + 68719476736 * q1 - 1 < 0) (g_8 : 108917793695 * p7 + 159561683699 * p8 + 68719476736 * q1 < 0) : jT xs d 40 2 0 [(0, (4, 0)), (1, (4, 1)), (2, (1, p7 - p8))] [] [jgh, (101, [], [q1, p7, p8, 0, 0, 0])] 0 0 (fun k v hsN => k = 0 ∧ v = (0, 1) ∧ hsN = [jgh, (101, [], [q1, p7, p8, 0, 0, 0])] ++ []) := by
  refine jT_xlload_n (v := (1, p7 - p8)) (pcN := 1) jIQ_40_0 rfl rfl rfl ?_
  refine jT_adv 1 (pcN := 4) (LN := [(0, (4, 0)), (1, (4, 1)), (2, (1, p7 - p8))]) (stN := [(1, 16777216), (1, p7 - p8)]) (hsN := [jgh, (101, [], [q1, p7, p8, 0, 0, 0])]) (c1 := 0) (s1 := 0) (c2 := 0) (s2 := 0) (by exact rfl) ?_ (by omega) (by omega)
  refine jT_lcmp (a := p7 - p8) (b := 16777216) (z := (-1)) (by rfl) (by rfl) (jwl_idd (by omega) (by omega)) (jwl_idd (by omega) (by omega)) (by rw [decide_eq_false (show ¬ ((16777216 : Int) < p7 - p8) by omega), decide_eq_false (show ¬ ((p7 - p8 : Int) = 16777216) by omega)]; rfl) ?_
  refine jT_xifF (t := 25) (pcN := 8) jIQ_40_5 rfl (by decide +kernel) rfl rfl ?_
  refine jT_xaload_n (v := (4, 1)) (pcN := 9) jIQ_40_8 rfl rfl rfl ?_
  refine jT_xiconst (k := 0) (pcN := 10) jIQ_40_9 rfl ?_
  refine jT_lald (x := q1) (a := 1) (j := 0) (fs := []) (X := [q1, p7, p8, 0, 0, 0]) jIQ_40_10 rfl rfl rfl rfl ?_
  refine jT_eq (LN := [(0, (4, 0)), (1, (4, 1)), (2, (1, p7 - p8))]) (stN := [(1, q1)]) (hsN := [jgh, (101, [], [q1, p7, p8, 0, 0, 0])]) rfl rfl rfl ?_
  refine jT_labs (z := -q1) (by rfl) (by rfl) (by rfl) (by rfl) (by rw [show jwl (q1) = q1 from jwl_idd (by omega) (by omega), decide_eq_true (by omega)]; first | (simp only [cond_true, cond_false]; done) | (simp only [cond_true, cond_false]; omega) | rfl) ?_
  refine jT_adv 1 (pcN := 17) (LN := [(0, (4, 0)), (1, (4, 1)), (2, (1, p7 - p8))]) (stN := [(1, 16777216), (1, -q1)]) (hsN := [jgh, (101, [], [q1, p7, p8, 0, 0, 0])]) (c1 := 0) (s1 := 0) (c2 := 0) (s2 := 0) (by exact rfl) ?_ (by omega) (by omega)
  refine jT_lcmp (a := -q1) (b := 16777216) (z := (-1)) (by rfl) (by rfl) (jwl_idd (by omega) (by omega)) (jwl_idd (by omega) (by omega)) (by rw [decide_eq_false (show ¬ ((16777216 : Int) < -q1) by omega), decide_eq_false (show ¬ ((-q1 : Int) = 16777216) by omega)]; rfl) ?_
  refine jT_xifF (t := 25) (pcN := 21) jIQ_40_18 rfl (by decide +kernel) rfl rfl ?_
  refine jT_xiconst (k := 1) (pcN := 22) jIQ_40_21 rfl ?_
  refine jT_xgoto (pcN := 26) jIQ_40_22 rfl ?_
  exact jT_ret rfl (by decide) (by show 2 ≤ 2; omega) (by omega) (by omega) ⟨rfl, rfl, rfl⟩
theorem jQ_41_150 {xs : List Int} {d : Nat} {p7 p8 q1 : Int} (h_p7 : (-20) ≤ p7 ∧ p7 ≤ 20) (h_p8 : (-10) ≤ p8 ∧ p8 ≤ 10) (h_q1 : (-60) ≤ q1 ∧ q1 ≤ 60) (g_0 : 0 ≤ (-108917793694) * p7 - 159561683698 * p8 - 68719476736 * q1 - 1) (g_1 : 0 ≤ (-108917793694) * p7 - 159561683700 * p8 - 68719476736 * q1 - 1) (g_2 : 0 ≤ (-108917793696) * p7 - 159561683698 * p8 - 68719476736 * q1 - 1) (g_3 : 0 ≤ (-108917793696) * p7 - 159561683700 * p8 - 68719476736 * q1 - 1) (g_4 : 0 ≤ p7) (g_5 : p8 < 0) (g_6 : q1 < 0) (g_7 : 108917793695 * p7 + 159561683699 * p8 + 68719476736 * q1 - 1 < 0) (g_8 : 108917793695 * p7 + 159561683699 * p8 + 68719476736 * q1 < 0) : jT xs d 41 2 0 [(0, (4, 0)), (1, (4, 1))] [] [jgh, (101, [], [q1, p7, p8, 0, 0, 0])] 0 0 (fun k v hsN => k = 0 ∧ v = (1, 108917793695 * p7 + 159561683699 * p8 + 68719476736 * q1) ∧ hsN = [jgh, (101, [], [q1, p7, p8, 0, 0, 0])] ++ []) := by
  refine jT_xlconst (z := 0) (pcN := 1) jIQ_41_0 rfl rfl ?_
  refine jT_xlstore_n (v := (1, 0)) (LN := [(2, (1, 0)), (0, (4, 0)), (1, (4, 1))]) (pcN := 2) jIQ_41_1 rfl rfl rfl rfl ?_
  refine jT_xiconst (k := 0) (pcN := 3) jIQ_41_2 rfl ?_
  refine jT_xistore (v := (0, 0)) (LN := [(4, (0, 0)), (2, (1, 0)), (0, (4, 0)), (1, (4, 1))]) (pcN := 5) jIQ_41_3 rfl rfl rfl rfl ?_
  refine jT_xiload (v := (0, 0)) (pcN := 7) jIQ_41_5 rfl rfl rfl ?_
  refine jT_xbipush (k := 6) (pcN := 9) jIQ_41_7 (by decide) rfl ?_
  refine jT_xicF (t := 32) (pcN := 12) jIQ_41_9 rfl (by decide +kernel) rfl rfl ?_
  refine jT_xlload_n (v := (1, 0)) (pcN := 13) jIQ_41_12 rfl rfl rfl ?_
  refine jT_xaload_n (v := (4, 1)) (pcN := 14) jIQ_41_13 rfl rfl rfl ?_
  refine jT_xiload (v := (0, 0)) (pcN := 16) jIQ_41_14 rfl rfl rfl ?_
  refine jT_lald (x := q1) (a := 1) (j := 0) (fs := []) (X := [q1, p7, p8, 0, 0, 0]) jIQ_41_16 rfl rfl rfl rfl ?_
  refine jT_eq (LN := [(4, (0, 0)), (2, (1, 0)), (0, (4, 0)), (1, (4, 1))]) (stN := [(1, q1), (1, 0)]) (hsN := [jgh, (101, [], [q1, p7, p8, 0, 0, 0])]) rfl rfl rfl ?_
  refine jT_adv 1 (pcN := 20) (LN := [(4, (0, 0)), (2, (1, 0)), (0, (4, 0)), (1, (4, 1))]) (stN := [(5, 0), (1, q1), (1, 0)]) (hsN := [jgh, (101, [], [q1, p7, p8, 0, 0, 0])]) (c1 := 0) (s1 := 0) (c2 := 0) (s2 := 0) (by exact rfl) ?_ (by omega) (by omega)
  refine jT_xiload (v := (0, 0)) (pcN := 22) jIQ_41_20 rfl rfl rfl ?_
  refine jT_adv 1 (pcN := 23) (LN := [(4, (0, 0)), (2, (1, 0)), (0, (4, 0)), (1, (4, 1))]) (stN := [(1, 68719476736), (1, q1), (1, 0)]) (hsN := [jgh, (101, [], [q1, p7, p8, 0, 0, 0])]) (c1 := 0) (s1 := 0) (c2 := 0) (s2 := 0) (by exact rfl) ?_ (by omega) (by omega)
  refine jT_xlmul (x := q1) (y := 68719476736) (z := 68719476736 * q1) (pcN := 24) jIQ_41_23 rfl (by omega) rfl ?_
  refine jT_xladd (x := 0) (y := 68719476736 * q1) (z := 68719476736 * q1) (pcN := 25) jIQ_41_24 rfl (by omega) rfl ?_
  refine jT_xlstore_n (v := (1, 68719476736 * q1)) (LN := [(2, (1, 68719476736 * q1)), (4, (0, 0)), (0, (4, 0)), (1, (4, 1))]) (pcN := 26) jIQ_41_25 rfl rfl rfl rfl ?_
  refine jT_xiinc (x := 0) (z := 1) (LN := [(4, (0, 1)), (2, (1, 68719476736 * q1)), (0, (4, 0)), (1, (4, 1))]) (pcN := 29) jIQ_41_26 rfl rfl (by decide) rfl rfl ?_
  refine jT_xgoto (pcN := 5) jIQ_41_29 rfl ?_
  refine jT_xiload (v := (0, 1)) (pcN := 7) jIQ_41_5 rfl rfl rfl ?_
  refine jT_xbipush (k := 6) (pcN := 9) jIQ_41_7 (by decide) rfl ?_
  refine jT_xicF (t := 32) (pcN := 12) jIQ_41_9 rfl (by decide +kernel) rfl rfl ?_
  refine jT_xlload_n (v := (1, 68719476736 * q1)) (pcN := 13) jIQ_41_12 rfl rfl rfl ?_
  refine jT_xaload_n (v := (4, 1)) (pcN := 14) jIQ_41_13 rfl rfl rfl ?_
  refine jT_xiload (v := (0, 1)) (pcN := 16) jIQ_41_14 rfl rfl rfl ?_
  refine jT_lald (x := p7) (a := 1) (j := 1) (fs := []) (X := [q1, p7, p8, 0, 0, 0]) jIQ_41_16 rfl rfl rfl rfl ?_
  refine jT_eq (LN := [(4, (0, 1)), (2, (1, 68719476736 * q1)), (0, (4, 0)), (1, (4, 1))]) (stN := [(1, p7), (1, 68719476736 * q1)]) (hsN := [jgh, (101, [], [q1, p7, p8, 0, 0, 0])]) rfl rfl rfl ?_
  refine jT_adv 1 (pcN := 20) (LN := [(4, (0, 1)), (2, (1, 68719476736 * q1)), (0, (4, 0)), (1, (4, 1))]) (stN := [(5, 0), (1, p7), (1, 68719476736 * q1)]) (hsN := [jgh, (101, [], [q1, p7, p8, 0, 0, 0])]) (c1 := 0) (s1 := 0) (c2 := 0) (s2 := 0) (by exact rfl) ?_ (by omega) (by omega)
  refine jT_xiload (v := (0, 1)) (pcN := 22) jIQ_41_20 rfl rfl rfl ?_
  refine jT_adv 1 (pcN := 23) (LN := [(4, (0, 1)), (2, (1, 68719476736 * q1)), (0, (4, 0)), (1, (4, 1))]) (stN := [(1, 108917793695), (1, p7), (1, 68719476736 * q1)]) (hsN := [jgh, (101, [], [q1, p7, p8, 0, 0, 0])]) (c1 := 0) (s1 := 0) (c2 := 0) (s2 := 0) (by exact rfl) ?_ (by omega) (by omega)
  refine jT_xlmul (x := p7) (y := 108917793695) (z := 108917793695 * p7) (pcN := 24) jIQ_41_23 rfl (by omega) rfl ?_
  refine jT_xladd (x := 68719476736 * q1) (y := 108917793695 * p7) (z := 108917793695 * p7 + 68719476736 * q1) (pcN := 25) jIQ_41_24 rfl (by omega) rfl ?_
  refine jT_xlstore_n (v := (1, 108917793695 * p7 + 68719476736 * q1)) (LN := [(2, (1, 108917793695 * p7 + 68719476736 * q1)), (4, (0, 1)), (0, (4, 0)), (1, (4, 1))]) (pcN := 26) jIQ_41_25 rfl rfl rfl rfl ?_
  refine jT_xiinc (x := 1) (z := 2) (LN := [(4, (0, 2)), (2, (1, 108917793695 * p7 + 68719476736 * q1)), (0, (4, 0)), (1, (4, 1))]) (pcN := 29) jIQ_41_26 rfl rfl (by decide) rfl rfl ?_
  refine jT_xgoto (pcN := 5) jIQ_41_29 rfl ?_
  refine jT_xiload (v := (0, 2)) (pcN := 7) jIQ_41_5 rfl rfl rfl ?_
  refine jT_xbipush (k := 6) (pcN := 9) jIQ_41_7 (by decide) rfl ?_
  refine jT_xicF (t := 32) (pcN := 12) jIQ_41_9 rfl (by decide +kernel) rfl rfl ?_
  refine jT_xlload_n (v := (1, 108917793695 * p7 + 68719476736 * q1)) (pcN := 13) jIQ_41_12 rfl rfl rfl ?_
  refine jT_xaload_n (v := (4, 1)) (pcN := 14) jIQ_41_13 rfl rfl rfl ?_
  refine jT_xiload (v := (0, 2)) (pcN := 16) jIQ_41_14 rfl rfl rfl ?_
  refine jT_lald (x := p8) (a := 1) (j := 2) (fs := []) (X := [q1, p7, p8, 0, 0, 0]) jIQ_41_16 rfl rfl rfl rfl ?_
  refine jT_eq (LN := [(4, (0, 2)), (2, (1, 108917793695 * p7 + 68719476736 * q1)), (0, (4, 0)), (1, (4, 1))]) (stN := [(1, p8), (1, 108917793695 * p7 + 68719476736 * q1)]) (hsN := [jgh, (101, [], [q1, p7, p8, 0, 0, 0])]) rfl rfl rfl ?_
  refine jT_adv 1 (pcN := 20) (LN := [(4, (0, 2)), (2, (1, 108917793695 * p7 + 68719476736 * q1)), (0, (4, 0)), (1, (4, 1))]) (stN := [(5, 0), (1, p8), (1, 108917793695 * p7 + 68719476736 * q1)]) (hsN := [jgh, (101, [], [q1, p7, p8, 0, 0, 0])]) (c1 := 0) (s1 := 0) (c2 := 0) (s2 := 0) (by exact rfl) ?_ (by omega) (by omega)
  refine jT_xiload (v := (0, 2)) (pcN := 22) jIQ_41_20 rfl rfl rfl ?_
  refine jT_adv 1 (pcN := 23) (LN := [(4, (0, 2)), (2, (1, 108917793695 * p7 + 68719476736 * q1)), (0, (4, 0)), (1, (4, 1))]) (stN := [(1, 159561683699), (1, p8), (1, 108917793695 * p7 + 68719476736 * q1)]) (hsN := [jgh, (101, [], [q1, p7, p8, 0, 0, 0])]) (c1 := 0) (s1 := 0) (c2 := 0) (s2 := 0) (by exact rfl) ?_ (by omega) (by omega)
  refine jT_xlmul (x := p8) (y := 159561683699) (z := 159561683699 * p8) (pcN := 24) jIQ_41_23 rfl (by omega) rfl ?_
  refine jT_xladd (x := 108917793695 * p7 + 68719476736 * q1) (y := 159561683699 * p8) (z := 108917793695 * p7 + 159561683699 * p8 + 68719476736 * q1) (pcN := 25) jIQ_41_24 rfl (by omega) rfl ?_
  refine jT_xlstore_n (v := (1, 108917793695 * p7 + 159561683699 * p8 + 68719476736 * q1)) (LN := [(2, (1, 108917793695 * p7 + 159561683699 * p8 + 68719476736 * q1)), (4, (0, 2)), (0, (4, 0)), (1, (4, 1))]) (pcN := 26) jIQ_41_25 rfl rfl rfl rfl ?_
  refine jT_xiinc (x := 2) (z := 3) (LN := [(4, (0, 3)), (2, (1, 108917793695 * p7 + 159561683699 * p8 + 68719476736 * q1)), (0, (4, 0)), (1, (4, 1))]) (pcN := 29) jIQ_41_26 rfl rfl (by decide) rfl rfl ?_
  refine jT_xgoto (pcN := 5) jIQ_41_29 rfl ?_
  refine jT_xiload (v := (0, 3)) (pcN := 7) jIQ_41_5 rfl rfl rfl ?_
  refine jT_xbipush (k := 6) (pcN := 9) jIQ_41_7 (by decide) rfl ?_
  refine jT_xicF (t := 32) (pcN := 12) jIQ_41_9 rfl (by decide +kernel) rfl rfl ?_
  refine jT_xlload_n (v := (1, 108917793695 * p7 + 159561683699 * p8 + 68719476736 * q1)) (pcN := 13) jIQ_41_12 rfl rfl rfl ?_
  refine jT_xaload_n (v := (4, 1)) (pcN := 14) jIQ_41_13 rfl rfl rfl ?_
  refine jT_xiload (v := (0, 3)) (pcN := 16) jIQ_41_14 rfl rfl rfl ?_
  refine jT_lald (x := 0) (a := 1) (j := 3) (fs := []) (X := [q1, p7, p8, 0, 0, 0]) jIQ_41_16 rfl rfl rfl rfl ?_
  refine jT_eq (LN := [(4, (0, 3)), (2, (1, 108917793695 * p7 + 159561683699 * p8 + 68719476736 * q1)), (0, (4, 0)), (1, (4, 1))]) (stN := [(1, 0), (1, 108917793695 * p7 + 159561683699 * p8 + 68719476736 * q1)]) (hsN := [jgh, (101, [], [q1, p7, p8, 0, 0, 0])]) rfl rfl rfl ?_
  refine jT_adv 1 (pcN := 20) (LN := [(4, (0, 3)), (2, (1, 108917793695 * p7 + 159561683699 * p8 + 68719476736 * q1)), (0, (4, 0)), (1, (4, 1))]) (stN := [(5, 0), (1, 0), (1, 108917793695 * p7 + 159561683699 * p8 + 68719476736 * q1)]) (hsN := [jgh, (101, [], [q1, p7, p8, 0, 0, 0])]) (c1 := 0) (s1 := 0) (c2 := 0) (s2 := 0) (by exact rfl) ?_ (by omega) (by omega)
  refine jT_xiload (v := (0, 3)) (pcN := 22) jIQ_41_20 rfl rfl rfl ?_
  refine jT_adv 1 (pcN := 23) (LN := [(4, (0, 3)), (2, (1, 108917793695 * p7 + 159561683699 * p8 + 68719476736 * q1)), (0, (4, 0)), (1, (4, 1))]) (stN := [(1, 192919961256), (1, 0), (1, 108917793695 * p7 + 159561683699 * p8 + 68719476736 * q1)]) (hsN := [jgh, (101, [], [q1, p7, p8, 0, 0, 0])]) (c1 := 0) (s1 := 0) (c2 := 0) (s2 := 0) (by exact rfl) ?_ (by omega) (by omega)
  refine jT_xlmul (x := 0) (y := 192919961256) (z := 0) (pcN := 24) jIQ_41_23 rfl (by decide) rfl ?_
  refine jT_xladd (x := 108917793695 * p7 + 159561683699 * p8 + 68719476736 * q1) (y := 0) (z := 108917793695 * p7 + 159561683699 * p8 + 68719476736 * q1) (pcN := 25) jIQ_41_24 rfl (by omega) rfl ?_
  refine jT_xlstore_n (v := (1, 108917793695 * p7 + 159561683699 * p8 + 68719476736 * q1)) (LN := [(2, (1, 108917793695 * p7 + 159561683699 * p8 + 68719476736 * q1)), (4, (0, 3)), (0, (4, 0)), (1, (4, 1))]) (pcN := 26) jIQ_41_25 rfl rfl rfl rfl ?_
  refine jT_xiinc (x := 3) (z := 4) (LN := [(4, (0, 4)), (2, (1, 108917793695 * p7 + 159561683699 * p8 + 68719476736 * q1)), (0, (4, 0)), (1, (4, 1))]) (pcN := 29) jIQ_41_26 rfl rfl (by decide) rfl rfl ?_
  refine jT_xgoto (pcN := 5) jIQ_41_29 rfl ?_
  refine jT_xiload (v := (0, 4)) (pcN := 7) jIQ_41_5 rfl rfl rfl ?_
  refine jT_xbipush (k := 6) (pcN := 9) jIQ_41_7 (by decide) rfl ?_
  refine jT_xicF (t := 32) (pcN := 12) jIQ_41_9 rfl (by decide +kernel) rfl rfl ?_
  refine jT_xlload_n (v := (1, 108917793695 * p7 + 159561683699 * p8 + 68719476736 * q1)) (pcN := 13) jIQ_41_12 rfl rfl rfl ?_
  refine jT_xaload_n (v := (4, 1)) (pcN := 14) jIQ_41_13 rfl rfl rfl ?_
  refine jT_xiload (v := (0, 4)) (pcN := 16) jIQ_41_14 rfl rfl rfl ?_
  refine jT_lald (x := 0) (a := 1) (j := 4) (fs := []) (X := [q1, p7, p8, 0, 0, 0]) jIQ_41_16 rfl rfl rfl rfl ?_
  refine jT_eq (LN := [(4, (0, 4)), (2, (1, 108917793695 * p7 + 159561683699 * p8 + 68719476736 * q1)), (0, (4, 0)), (1, (4, 1))]) (stN := [(1, 0), (1, 108917793695 * p7 + 159561683699 * p8 + 68719476736 * q1)]) (hsN := [jgh, (101, [], [q1, p7, p8, 0, 0, 0])]) rfl rfl rfl ?_
  refine jT_adv 1 (pcN := 20) (LN := [(4, (0, 4)), (2, (1, 108917793695 * p7 + 159561683699 * p8 + 68719476736 * q1)), (0, (4, 0)), (1, (4, 1))]) (stN := [(5, 0), (1, 0), (1, 108917793695 * p7 + 159561683699 * p8 + 68719476736 * q1)]) (hsN := [jgh, (101, [], [q1, p7, p8, 0, 0, 0])]) (c1 := 0) (s1 := 0) (c2 := 0) (s2 := 0) (by exact rfl) ?_ (by omega) (by omega)
  refine jT_xiload (v := (0, 4)) (pcN := 22) jIQ_41_20 rfl rfl rfl ?_
  refine jT_adv 1 (pcN := 23) (LN := [(4, (0, 4)), (2, (1, 108917793695 * p7 + 159561683699 * p8 + 68719476736 * q1)), (0, (4, 0)), (1, (4, 1))]) (stN := [(1, 237730330636), (1, 0), (1, 108917793695 * p7 + 159561683699 * p8 + 68719476736 * q1)]) (hsN := [jgh, (101, [], [q1, p7, p8, 0, 0, 0])]) (c1 := 0) (s1 := 0) (c2 := 0) (s2 := 0) (by exact rfl) ?_ (by omega) (by omega)
  refine jT_xlmul (x := 0) (y := 237730330636) (z := 0) (pcN := 24) jIQ_41_23 rfl (by decide) rfl ?_
  refine jT_xladd (x := 108917793695 * p7 + 159561683699 * p8 + 68719476736 * q1) (y := 0) (z := 108917793695 * p7 + 159561683699 * p8 + 68719476736 * q1) (pcN := 25) jIQ_41_24 rfl (by omega) rfl ?_
  refine jT_xlstore_n (v := (1, 108917793695 * p7 + 159561683699 * p8 + 68719476736 * q1)) (LN := [(2, (1, 108917793695 * p7 + 159561683699 * p8 + 68719476736 * q1)), (4, (0, 4)), (0, (4, 0)), (1, (4, 1))]) (pcN := 26) jIQ_41_25 rfl rfl rfl rfl ?_
  refine jT_xiinc (x := 4) (z := 5) (LN := [(4, (0, 5)), (2, (1, 108917793695 * p7 + 159561683699 * p8 + 68719476736 * q1)), (0, (4, 0)), (1, (4, 1))]) (pcN := 29) jIQ_41_26 rfl rfl (by decide) rfl rfl ?_
  refine jT_xgoto (pcN := 5) jIQ_41_29 rfl ?_
  refine jT_xiload (v := (0, 5)) (pcN := 7) jIQ_41_5 rfl rfl rfl ?_
  refine jT_xbipush (k := 6) (pcN := 9) jIQ_41_7 (by decide) rfl ?_
  refine jT_xicF (t := 32) (pcN := 12) jIQ_41_9 rfl (by decide +kernel) rfl rfl ?_
  refine jT_xlload_n (v := (1, 108917793695 * p7 + 159561683699 * p8 + 68719476736 * q1)) (pcN := 13) jIQ_41_12 rfl rfl rfl ?_
  refine jT_xaload_n (v := (4, 1)) (pcN := 14) jIQ_41_13 rfl rfl rfl ?_
  refine jT_xiload (v := (0, 5)) (pcN := 16) jIQ_41_14 rfl rfl rfl ?_
  refine jT_lald (x := 0) (a := 1) (j := 5) (fs := []) (X := [q1, p7, p8, 0, 0, 0]) jIQ_41_16 rfl rfl rfl rfl ?_
  refine jT_eq (LN := [(4, (0, 5)), (2, (1, 108917793695 * p7 + 159561683699 * p8 + 68719476736 * q1)), (0, (4, 0)), (1, (4, 1))]) (stN := [(1, 0), (1, 108917793695 * p7 + 159561683699 * p8 + 68719476736 * q1)]) (hsN := [jgh, (101, [], [q1, p7, p8, 0, 0, 0])]) rfl rfl rfl ?_
  refine jT_adv 1 (pcN := 20) (LN := [(4, (0, 5)), (2, (1, 108917793695 * p7 + 159561683699 * p8 + 68719476736 * q1)), (0, (4, 0)), (1, (4, 1))]) (stN := [(5, 0), (1, 0), (1, 108917793695 * p7 + 159561683699 * p8 + 68719476736 * q1)]) (hsN := [jgh, (101, [], [q1, p7, p8, 0, 0, 0])]) (c1 := 0) (s1 := 0) (c2 := 0) (s2 := 0) (by exact rfl) ?_ (by omega) (by omega)
  refine jT_xiload (v := (0, 5)) (pcN := 22) jIQ_41_20 rfl rfl rfl ?_
  refine jT_adv 1 (pcN := 23) (LN := [(4, (0, 5)), (2, (1, 108917793695 * p7 + 159561683699 * p8 + 68719476736 * q1)), (0, (4, 0)), (1, (4, 1))]) (stN := [(1, 254292281123), (1, 0), (1, 108917793695 * p7 + 159561683699 * p8 + 68719476736 * q1)]) (hsN := [jgh, (101, [], [q1, p7, p8, 0, 0, 0])]) (c1 := 0) (s1 := 0) (c2 := 0) (s2 := 0) (by exact rfl) ?_ (by omega) (by omega)
  refine jT_xlmul (x := 0) (y := 254292281123) (z := 0) (pcN := 24) jIQ_41_23 rfl (by decide) rfl ?_
  refine jT_xladd (x := 108917793695 * p7 + 159561683699 * p8 + 68719476736 * q1) (y := 0) (z := 108917793695 * p7 + 159561683699 * p8 + 68719476736 * q1) (pcN := 25) jIQ_41_24 rfl (by omega) rfl ?_
  refine jT_xlstore_n (v := (1, 108917793695 * p7 + 159561683699 * p8 + 68719476736 * q1)) (LN := [(2, (1, 108917793695 * p7 + 159561683699 * p8 + 68719476736 * q1)), (4, (0, 5)), (0, (4, 0)), (1, (4, 1))]) (pcN := 26) jIQ_41_25 rfl rfl rfl rfl ?_
  refine jT_xiinc (x := 5) (z := 6) (LN := [(4, (0, 6)), (2, (1, 108917793695 * p7 + 159561683699 * p8 + 68719476736 * q1)), (0, (4, 0)), (1, (4, 1))]) (pcN := 29) jIQ_41_26 rfl rfl (by decide) rfl rfl ?_
  refine jT_xgoto (pcN := 5) jIQ_41_29 rfl ?_
  refine jT_xiload (v := (0, 6)) (pcN := 7) jIQ_41_5 rfl rfl rfl ?_
  refine jT_xbipush (k := 6) (pcN := 9) jIQ_41_7 (by decide) rfl ?_
  refine jT_xicT (pcN := 32) jIQ_41_9 rfl (by decide +kernel) rfl ?_
  refine jT_xlload_n (v := (1, 108917793695 * p7 + 159561683699 * p8 + 68719476736 * q1)) (pcN := 33) jIQ_41_32 rfl rfl rfl ?_
  exact jT_ret rfl (by decide) (by show 2 ≤ 2; omega) (by omega) (by omega) ⟨rfl, rfl, rfl⟩
theorem jQ_39_151 {xs : List Int} {d : Nat} {p7 p8 q1 : Int} (h_p7 : (-20) ≤ p7 ∧ p7 ≤ 20) (h_p8 : (-10) ≤ p8 ∧ p8 ≤ 10) (h_q1 : (-60) ≤ q1 ∧ q1 ≤ 60) (g_0 : 0 ≤ (-108917793694) * p7 - 159561683698 * p8 - 68719476736 * q1 - 1) (g_1 : 0 ≤ (-108917793694) * p7 - 159561683700 * p8 - 68719476736 * q1 - 1) (g_2 : 0 ≤ (-108917793696) * p7 - 159561683698 * p8 - 68719476736 * q1 - 1) (g_3 : 0 ≤ (-108917793696) * p7 - 159561683700 * p8 - 68719476736 * q1 - 1) (g_4 : 0 ≤ p7) (g_5 : p8 < 0) (g_6 : q1 < 0) (g_7 : 108917793695 * p7 + 159561683699 * p8 + 68719476736 * q1 - 1 < 0) (g_8 : 0 ≤ 108917793695 * p7 + 159561683699 * p8 + 68719476736 * q1) : jT xs d 39 2 0 [(0, (4, 0)), (1, (4, 1))] [] [jgh, (101, [], [q1, p7, p8, 0, 0, 0])] 0 0 (fun k v hsN => k = 0 ∧ v = (1, p7 - p8) ∧ hsN = [jgh, (101, [], [q1, p7, p8, 0, 0, 0])] ++ []) := by
  refine jT_xlconst (z := 0) (pcN := 1) jIQ_39_0 rfl rfl ?_
  refine jT_xlstore_n (v := (1, 0)) (LN := [(2, (1, 0)), (0, (4, 0)), (1, (4, 1))]) (pcN := 2) jIQ_39_1 rfl rfl rfl rfl ?_
  refine jT_xiconst (k := 1) (pcN := 3) jIQ_39_2 rfl ?_
  refine jT_xistore (v := (0, 1)) (LN := [(4, (0, 1)), (2, (1, 0)), (0, (4, 0)), (1, (4, 1))]) (pcN := 5) jIQ_39_3 rfl rfl rfl rfl ?_
  refine jT_xiload (v := (0, 1)) (pcN := 7) jIQ_39_5 rfl rfl rfl ?_
  refine jT_xbipush (k := 6) (pcN := 9) jIQ_39_7 (by decide) rfl ?_
  refine jT_xicF (t := 28) (pcN := 12) jIQ_39_9 rfl (by decide +kernel) rfl rfl ?_
  refine jT_xlload_n (v := (1, 0)) (pcN := 13) jIQ_39_12 rfl rfl rfl ?_
  refine jT_xaload_n (v := (4, 1)) (pcN := 14) jIQ_39_13 rfl rfl rfl ?_
  refine jT_xiload (v := (0, 1)) (pcN := 16) jIQ_39_14 rfl rfl rfl ?_
  refine jT_lald (x := p7) (a := 1) (j := 1) (fs := []) (X := [q1, p7, p8, 0, 0, 0]) jIQ_39_16 rfl rfl rfl rfl ?_
  refine jT_eq (LN := [(4, (0, 1)), (2, (1, 0)), (0, (4, 0)), (1, (4, 1))]) (stN := [(1, p7), (1, 0)]) (hsN := [jgh, (101, [], [q1, p7, p8, 0, 0, 0])]) rfl rfl rfl ?_
  refine jT_labs (z := p7) (by rfl) (by rfl) (by rfl) (by rfl) (by rw [show jwl (p7) = p7 from jwl_idd (by omega) (by omega), decide_eq_false (by omega)]; first | (simp only [cond_true, cond_false]; done) | (simp only [cond_true, cond_false]; omega) | rfl) ?_
  refine jT_xladd (x := 0) (y := p7) (z := p7) (pcN := 21) jIQ_39_20 rfl (by omega) rfl ?_
  refine jT_xlstore_n (v := (1, p7)) (LN := [(2, (1, p7)), (4, (0, 1)), (0, (4, 0)), (1, (4, 1))]) (pcN := 22) jIQ_39_21 rfl rfl rfl rfl ?_
  refine jT_xiinc (x := 1) (z := 2) (LN := [(4, (0, 2)), (2, (1, p7)), (0, (4, 0)), (1, (4, 1))]) (pcN := 25) jIQ_39_22 rfl rfl (by decide) rfl rfl ?_
  refine jT_xgoto (pcN := 5) jIQ_39_25 rfl ?_
  refine jT_xiload (v := (0, 2)) (pcN := 7) jIQ_39_5 rfl rfl rfl ?_
  refine jT_xbipush (k := 6) (pcN := 9) jIQ_39_7 (by decide) rfl ?_
  refine jT_xicF (t := 28) (pcN := 12) jIQ_39_9 rfl (by decide +kernel) rfl rfl ?_
  refine jT_xlload_n (v := (1, p7)) (pcN := 13) jIQ_39_12 rfl rfl rfl ?_
  refine jT_xaload_n (v := (4, 1)) (pcN := 14) jIQ_39_13 rfl rfl rfl ?_
  refine jT_xiload (v := (0, 2)) (pcN := 16) jIQ_39_14 rfl rfl rfl ?_
  refine jT_lald (x := p8) (a := 1) (j := 2) (fs := []) (X := [q1, p7, p8, 0, 0, 0]) jIQ_39_16 rfl rfl rfl rfl ?_
  refine jT_eq (LN := [(4, (0, 2)), (2, (1, p7)), (0, (4, 0)), (1, (4, 1))]) (stN := [(1, p8), (1, p7)]) (hsN := [jgh, (101, [], [q1, p7, p8, 0, 0, 0])]) rfl rfl rfl ?_
  refine jT_labs (z := -p8) (by rfl) (by rfl) (by rfl) (by rfl) (by rw [show jwl (p8) = p8 from jwl_idd (by omega) (by omega), decide_eq_true (by omega)]; first | (simp only [cond_true, cond_false]; done) | (simp only [cond_true, cond_false]; omega) | rfl) ?_
  refine jT_xladd (x := p7) (y := -p8) (z := p7 - p8) (pcN := 21) jIQ_39_20 rfl (by omega) rfl ?_
  refine jT_xlstore_n (v := (1, p7 - p8)) (LN := [(2, (1, p7 - p8)), (4, (0, 2)), (0, (4, 0)), (1, (4, 1))]) (pcN := 22) jIQ_39_21 rfl rfl rfl rfl ?_
  refine jT_xiinc (x := 2) (z := 3) (LN := [(4, (0, 3)), (2, (1, p7 - p8)), (0, (4, 0)), (1, (4, 1))]) (pcN := 25) jIQ_39_22 rfl rfl (by decide) rfl rfl ?_
  refine jT_xgoto (pcN := 5) jIQ_39_25 rfl ?_
  refine jT_xiload (v := (0, 3)) (pcN := 7) jIQ_39_5 rfl rfl rfl ?_
  refine jT_xbipush (k := 6) (pcN := 9) jIQ_39_7 (by decide) rfl ?_
  refine jT_xicF (t := 28) (pcN := 12) jIQ_39_9 rfl (by decide +kernel) rfl rfl ?_
  refine jT_xlload_n (v := (1, p7 - p8)) (pcN := 13) jIQ_39_12 rfl rfl rfl ?_
  refine jT_xaload_n (v := (4, 1)) (pcN := 14) jIQ_39_13 rfl rfl rfl ?_
  refine jT_xiload (v := (0, 3)) (pcN := 16) jIQ_39_14 rfl rfl rfl ?_
  refine jT_lald (x := 0) (a := 1) (j := 3) (fs := []) (X := [q1, p7, p8, 0, 0, 0]) jIQ_39_16 rfl rfl rfl rfl ?_
  refine jT_eq (LN := [(4, (0, 3)), (2, (1, p7 - p8)), (0, (4, 0)), (1, (4, 1))]) (stN := [(1, 0), (1, p7 - p8)]) (hsN := [jgh, (101, [], [q1, p7, p8, 0, 0, 0])]) rfl rfl rfl ?_
  refine jT_labs (z := 0) (by rfl) (by rfl) (by rfl) (by rfl) (by decide +kernel) ?_
  refine jT_xladd (x := p7 - p8) (y := 0) (z := p7 - p8) (pcN := 21) jIQ_39_20 rfl (by omega) rfl ?_
  refine jT_xlstore_n (v := (1, p7 - p8)) (LN := [(2, (1, p7 - p8)), (4, (0, 3)), (0, (4, 0)), (1, (4, 1))]) (pcN := 22) jIQ_39_21 rfl rfl rfl rfl ?_
  refine jT_xiinc (x := 3) (z := 4) (LN := [(4, (0, 4)), (2, (1, p7 - p8)), (0, (4, 0)), (1, (4, 1))]) (pcN := 25) jIQ_39_22 rfl rfl (by decide) rfl rfl ?_
  refine jT_xgoto (pcN := 5) jIQ_39_25 rfl ?_
  refine jT_xiload (v := (0, 4)) (pcN := 7) jIQ_39_5 rfl rfl rfl ?_
  refine jT_xbipush (k := 6) (pcN := 9) jIQ_39_7 (by decide) rfl ?_
  refine jT_xicF (t := 28) (pcN := 12) jIQ_39_9 rfl (by decide +kernel) rfl rfl ?_
  refine jT_xlload_n (v := (1, p7 - p8)) (pcN := 13) jIQ_39_12 rfl rfl rfl ?_
  refine jT_xaload_n (v := (4, 1)) (pcN := 14) jIQ_39_13 rfl rfl rfl ?_
  refine jT_xiload (v := (0, 4)) (pcN := 16) jIQ_39_14 rfl rfl rfl ?_
  refine jT_lald (x := 0) (a := 1) (j := 4) (fs := []) (X := [q1, p7, p8, 0, 0, 0]) jIQ_39_16 rfl rfl rfl rfl ?_
  refine jT_eq (LN := [(4, (0, 4)), (2, (1, p7 - p8)), (0, (4, 0)), (1, (4, 1))]) (stN := [(1, 0), (1, p7 - p8)]) (hsN := [jgh, (101, [], [q1, p7, p8, 0, 0, 0])]) rfl rfl rfl ?_
  refine jT_labs (z := 0) (by rfl) (by rfl) (by rfl) (by rfl) (by decide +kernel) ?_
  refine jT_xladd (x := p7 - p8) (y := 0) (z := p7 - p8) (pcN := 21) jIQ_39_20 rfl (by omega) rfl ?_
  refine jT_xlstore_n (v := (1, p7 - p8)) (LN := [(2, (1, p7 - p8)), (4, (0, 4)), (0, (4, 0)), (1, (4, 1))]) (pcN := 22) jIQ_39_21 rfl rfl rfl rfl ?_
  refine jT_xiinc (x := 4) (z := 5) (LN := [(4, (0, 5)), (2, (1, p7 - p8)), (0, (4, 0)), (1, (4, 1))]) (pcN := 25) jIQ_39_22 rfl rfl (by decide) rfl rfl ?_
  refine jT_xgoto (pcN := 5) jIQ_39_25 rfl ?_
  refine jT_xiload (v := (0, 5)) (pcN := 7) jIQ_39_5 rfl rfl rfl ?_
  refine jT_xbipush (k := 6) (pcN := 9) jIQ_39_7 (by decide) rfl ?_
  refine jT_xicF (t := 28) (pcN := 12) jIQ_39_9 rfl (by decide +kernel) rfl rfl ?_
  refine jT_xlload_n (v := (1, p7 - p8)) (pcN := 13) jIQ_39_12 rfl rfl rfl ?_
  refine jT_xaload_n (v := (4, 1)) (pcN := 14) jIQ_39_13 rfl rfl rfl ?_
  refine jT_xiload (v := (0, 5)) (pcN := 16) jIQ_39_14 rfl rfl rfl ?_
  refine jT_lald (x := 0) (a := 1) (j := 5) (fs := []) (X := [q1, p7, p8, 0, 0, 0]) jIQ_39_16 rfl rfl rfl rfl ?_
  refine jT_eq (LN := [(4, (0, 5)), (2, (1, p7 - p8)), (0, (4, 0)), (1, (4, 1))]) (stN := [(1, 0), (1, p7 - p8)]) (hsN := [jgh, (101, [], [q1, p7, p8, 0, 0, 0])]) rfl rfl rfl ?_
  refine jT_labs (z := 0) (by rfl) (by rfl) (by rfl) (by rfl) (by decide +kernel) ?_
  refine jT_xladd (x := p7 - p8) (y := 0) (z := p7 - p8) (pcN := 21) jIQ_39_20 rfl (by omega) rfl ?_
  refine jT_xlstore_n (v := (1, p7 - p8)) (LN := [(2, (1, p7 - p8)), (4, (0, 5)), (0, (4, 0)), (1, (4, 1))]) (pcN := 22) jIQ_39_21 rfl rfl rfl rfl ?_
  refine jT_xiinc (x := 5) (z := 6) (LN := [(4, (0, 6)), (2, (1, p7 - p8)), (0, (4, 0)), (1, (4, 1))]) (pcN := 25) jIQ_39_22 rfl rfl (by decide) rfl rfl ?_
  refine jT_xgoto (pcN := 5) jIQ_39_25 rfl ?_
  refine jT_xiload (v := (0, 6)) (pcN := 7) jIQ_39_5 rfl rfl rfl ?_
  refine jT_xbipush (k := 6) (pcN := 9) jIQ_39_7 (by decide) rfl ?_
  refine jT_xicT (pcN := 28) jIQ_39_9 rfl (by decide +kernel) rfl ?_
  refine jT_xlload_n (v := (1, p7 - p8)) (pcN := 29) jIQ_39_28 rfl rfl rfl ?_
  exact jT_ret rfl (by decide) (by show 2 ≤ 2; omega) (by omega) (by omega) ⟨rfl, rfl, rfl⟩
theorem jQ_40_152 {xs : List Int} {d : Nat} {p7 p8 q1 : Int} (h_p7 : (-20) ≤ p7 ∧ p7 ≤ 20) (h_p8 : (-10) ≤ p8 ∧ p8 ≤ 10) (h_q1 : (-60) ≤ q1 ∧ q1 ≤ 60) (g_0 : 0 ≤ (-108917793694) * p7 - 159561683698 * p8 - 68719476736 * q1 - 1) (g_1 : 0 ≤ (-108917793694) * p7 - 159561683700 * p8 - 68719476736 * q1 - 1) (g_2 : 0 ≤ (-108917793696) * p7 - 159561683698 * p8 - 68719476736 * q1 - 1) (g_3 : 0 ≤ (-108917793696) * p7 - 159561683700 * p8 - 68719476736 * q1 - 1) (g_4 : 0 ≤ p7) (g_5 : p8 < 0) (g_6 : q1 < 0) (g_7 : 108917793695 * p7 + 159561683699 * p8 + 68719476736 * q1 - 1 < 0) (g_8 : 0 ≤ 108917793695 * p7 + 159561683699 * p8 + 68719476736 * q1) : jT xs d 40 2 0 [(0, (4, 0)), (1, (4, 1)), (2, (1, p7 - p8))] [] [jgh, (101, [], [q1, p7, p8, 0, 0, 0])] 0 0 (fun k v hsN => k = 0 ∧ v = (0, 1) ∧ hsN = [jgh, (101, [], [q1, p7, p8, 0, 0, 0])] ++ []) := by
  refine jT_xlload_n (v := (1, p7 - p8)) (pcN := 1) jIQ_40_0 rfl rfl rfl ?_
  refine jT_adv 1 (pcN := 4) (LN := [(0, (4, 0)), (1, (4, 1)), (2, (1, p7 - p8))]) (stN := [(1, 16777216), (1, p7 - p8)]) (hsN := [jgh, (101, [], [q1, p7, p8, 0, 0, 0])]) (c1 := 0) (s1 := 0) (c2 := 0) (s2 := 0) (by exact rfl) ?_ (by omega) (by omega)
  refine jT_lcmp (a := p7 - p8) (b := 16777216) (z := (-1)) (by rfl) (by rfl) (jwl_idd (by omega) (by omega)) (jwl_idd (by omega) (by omega)) (by rw [decide_eq_false (show ¬ ((16777216 : Int) < p7 - p8) by omega), decide_eq_false (show ¬ ((p7 - p8 : Int) = 16777216) by omega)]; rfl) ?_
  refine jT_xifF (t := 25) (pcN := 8) jIQ_40_5 rfl (by decide +kernel) rfl rfl ?_
  refine jT_xaload_n (v := (4, 1)) (pcN := 9) jIQ_40_8 rfl rfl rfl ?_
  refine jT_xiconst (k := 0) (pcN := 10) jIQ_40_9 rfl ?_
  refine jT_lald (x := q1) (a := 1) (j := 0) (fs := []) (X := [q1, p7, p8, 0, 0, 0]) jIQ_40_10 rfl rfl rfl rfl ?_
  refine jT_eq (LN := [(0, (4, 0)), (1, (4, 1)), (2, (1, p7 - p8))]) (stN := [(1, q1)]) (hsN := [jgh, (101, [], [q1, p7, p8, 0, 0, 0])]) rfl rfl rfl ?_
  refine jT_labs (z := -q1) (by rfl) (by rfl) (by rfl) (by rfl) (by rw [show jwl (q1) = q1 from jwl_idd (by omega) (by omega), decide_eq_true (by omega)]; first | (simp only [cond_true, cond_false]; done) | (simp only [cond_true, cond_false]; omega) | rfl) ?_
  refine jT_adv 1 (pcN := 17) (LN := [(0, (4, 0)), (1, (4, 1)), (2, (1, p7 - p8))]) (stN := [(1, 16777216), (1, -q1)]) (hsN := [jgh, (101, [], [q1, p7, p8, 0, 0, 0])]) (c1 := 0) (s1 := 0) (c2 := 0) (s2 := 0) (by exact rfl) ?_ (by omega) (by omega)
  refine jT_lcmp (a := -q1) (b := 16777216) (z := (-1)) (by rfl) (by rfl) (jwl_idd (by omega) (by omega)) (jwl_idd (by omega) (by omega)) (by rw [decide_eq_false (show ¬ ((16777216 : Int) < -q1) by omega), decide_eq_false (show ¬ ((-q1 : Int) = 16777216) by omega)]; rfl) ?_
  refine jT_xifF (t := 25) (pcN := 21) jIQ_40_18 rfl (by decide +kernel) rfl rfl ?_
  refine jT_xiconst (k := 1) (pcN := 22) jIQ_40_21 rfl ?_
  refine jT_xgoto (pcN := 26) jIQ_40_22 rfl ?_
  exact jT_ret rfl (by decide) (by show 2 ≤ 2; omega) (by omega) (by omega) ⟨rfl, rfl, rfl⟩
theorem jQ_41_153 {xs : List Int} {d : Nat} {p7 p8 q1 : Int} (h_p7 : (-20) ≤ p7 ∧ p7 ≤ 20) (h_p8 : (-10) ≤ p8 ∧ p8 ≤ 10) (h_q1 : (-60) ≤ q1 ∧ q1 ≤ 60) (g_0 : 0 ≤ (-108917793694) * p7 - 159561683698 * p8 - 68719476736 * q1 - 1) (g_1 : 0 ≤ (-108917793694) * p7 - 159561683700 * p8 - 68719476736 * q1 - 1) (g_2 : 0 ≤ (-108917793696) * p7 - 159561683698 * p8 - 68719476736 * q1 - 1) (g_3 : 0 ≤ (-108917793696) * p7 - 159561683700 * p8 - 68719476736 * q1 - 1) (g_4 : 0 ≤ p7) (g_5 : p8 < 0) (g_6 : q1 < 0) (g_7 : 108917793695 * p7 + 159561683699 * p8 + 68719476736 * q1 - 1 < 0) (g_8 : 0 ≤ 108917793695 * p7 + 159561683699 * p8 + 68719476736 * q1) : jT xs d 41 2 0 [(0, (4, 0)), (1, (4, 1))] [] [jgh, (101, [], [q1, p7, p8, 0, 0, 0])] 0 0 (fun k v hsN => k = 0 ∧ v = (1, 108917793695 * p7 + 159561683699 * p8 + 68719476736 * q1) ∧ hsN = [jgh, (101, [], [q1, p7, p8, 0, 0, 0])] ++ []) := by
  refine jT_xlconst (z := 0) (pcN := 1) jIQ_41_0 rfl rfl ?_
  refine jT_xlstore_n (v := (1, 0)) (LN := [(2, (1, 0)), (0, (4, 0)), (1, (4, 1))]) (pcN := 2) jIQ_41_1 rfl rfl rfl rfl ?_
  refine jT_xiconst (k := 0) (pcN := 3) jIQ_41_2 rfl ?_
  refine jT_xistore (v := (0, 0)) (LN := [(4, (0, 0)), (2, (1, 0)), (0, (4, 0)), (1, (4, 1))]) (pcN := 5) jIQ_41_3 rfl rfl rfl rfl ?_
  refine jT_xiload (v := (0, 0)) (pcN := 7) jIQ_41_5 rfl rfl rfl ?_
  refine jT_xbipush (k := 6) (pcN := 9) jIQ_41_7 (by decide) rfl ?_
  refine jT_xicF (t := 32) (pcN := 12) jIQ_41_9 rfl (by decide +kernel) rfl rfl ?_
  refine jT_xlload_n (v := (1, 0)) (pcN := 13) jIQ_41_12 rfl rfl rfl ?_
  refine jT_xaload_n (v := (4, 1)) (pcN := 14) jIQ_41_13 rfl rfl rfl ?_
  refine jT_xiload (v := (0, 0)) (pcN := 16) jIQ_41_14 rfl rfl rfl ?_
  refine jT_lald (x := q1) (a := 1) (j := 0) (fs := []) (X := [q1, p7, p8, 0, 0, 0]) jIQ_41_16 rfl rfl rfl rfl ?_
  refine jT_eq (LN := [(4, (0, 0)), (2, (1, 0)), (0, (4, 0)), (1, (4, 1))]) (stN := [(1, q1), (1, 0)]) (hsN := [jgh, (101, [], [q1, p7, p8, 0, 0, 0])]) rfl rfl rfl ?_
  refine jT_adv 1 (pcN := 20) (LN := [(4, (0, 0)), (2, (1, 0)), (0, (4, 0)), (1, (4, 1))]) (stN := [(5, 0), (1, q1), (1, 0)]) (hsN := [jgh, (101, [], [q1, p7, p8, 0, 0, 0])]) (c1 := 0) (s1 := 0) (c2 := 0) (s2 := 0) (by exact rfl) ?_ (by omega) (by omega)
  refine jT_xiload (v := (0, 0)) (pcN := 22) jIQ_41_20 rfl rfl rfl ?_
  refine jT_adv 1 (pcN := 23) (LN := [(4, (0, 0)), (2, (1, 0)), (0, (4, 0)), (1, (4, 1))]) (stN := [(1, 68719476736), (1, q1), (1, 0)]) (hsN := [jgh, (101, [], [q1, p7, p8, 0, 0, 0])]) (c1 := 0) (s1 := 0) (c2 := 0) (s2 := 0) (by exact rfl) ?_ (by omega) (by omega)
  refine jT_xlmul (x := q1) (y := 68719476736) (z := 68719476736 * q1) (pcN := 24) jIQ_41_23 rfl (by omega) rfl ?_
  refine jT_xladd (x := 0) (y := 68719476736 * q1) (z := 68719476736 * q1) (pcN := 25) jIQ_41_24 rfl (by omega) rfl ?_
  refine jT_xlstore_n (v := (1, 68719476736 * q1)) (LN := [(2, (1, 68719476736 * q1)), (4, (0, 0)), (0, (4, 0)), (1, (4, 1))]) (pcN := 26) jIQ_41_25 rfl rfl rfl rfl ?_
  refine jT_xiinc (x := 0) (z := 1) (LN := [(4, (0, 1)), (2, (1, 68719476736 * q1)), (0, (4, 0)), (1, (4, 1))]) (pcN := 29) jIQ_41_26 rfl rfl (by decide) rfl rfl ?_
  refine jT_xgoto (pcN := 5) jIQ_41_29 rfl ?_
  refine jT_xiload (v := (0, 1)) (pcN := 7) jIQ_41_5 rfl rfl rfl ?_
  refine jT_xbipush (k := 6) (pcN := 9) jIQ_41_7 (by decide) rfl ?_
  refine jT_xicF (t := 32) (pcN := 12) jIQ_41_9 rfl (by decide +kernel) rfl rfl ?_
  refine jT_xlload_n (v := (1, 68719476736 * q1)) (pcN := 13) jIQ_41_12 rfl rfl rfl ?_
  refine jT_xaload_n (v := (4, 1)) (pcN := 14) jIQ_41_13 rfl rfl rfl ?_
  refine jT_xiload (v := (0, 1)) (pcN := 16) jIQ_41_14 rfl rfl rfl ?_
  refine jT_lald (x := p7) (a := 1) (j := 1) (fs := []) (X := [q1, p7, p8, 0, 0, 0]) jIQ_41_16 rfl rfl rfl rfl ?_
  refine jT_eq (LN := [(4, (0, 1)), (2, (1, 68719476736 * q1)), (0, (4, 0)), (1, (4, 1))]) (stN := [(1, p7), (1, 68719476736 * q1)]) (hsN := [jgh, (101, [], [q1, p7, p8, 0, 0, 0])]) rfl rfl rfl ?_
  refine jT_adv 1 (pcN := 20) (LN := [(4, (0, 1)), (2, (1, 68719476736 * q1)), (0, (4, 0)), (1, (4, 1))]) (stN := [(5, 0), (1, p7), (1, 68719476736 * q1)]) (hsN := [jgh, (101, [], [q1, p7, p8, 0, 0, 0])]) (c1 := 0) (s1 := 0) (c2 := 0) (s2 := 0) (by exact rfl) ?_ (by omega) (by omega)
  refine jT_xiload (v := (0, 1)) (pcN := 22) jIQ_41_20 rfl rfl rfl ?_
  refine jT_adv 1 (pcN := 23) (LN := [(4, (0, 1)), (2, (1, 68719476736 * q1)), (0, (4, 0)), (1, (4, 1))]) (stN := [(1, 108917793695), (1, p7), (1, 68719476736 * q1)]) (hsN := [jgh, (101, [], [q1, p7, p8, 0, 0, 0])]) (c1 := 0) (s1 := 0) (c2 := 0) (s2 := 0) (by exact rfl) ?_ (by omega) (by omega)
  refine jT_xlmul (x := p7) (y := 108917793695) (z := 108917793695 * p7) (pcN := 24) jIQ_41_23 rfl (by omega) rfl ?_
  refine jT_xladd (x := 68719476736 * q1) (y := 108917793695 * p7) (z := 108917793695 * p7 + 68719476736 * q1) (pcN := 25) jIQ_41_24 rfl (by omega) rfl ?_
  refine jT_xlstore_n (v := (1, 108917793695 * p7 + 68719476736 * q1)) (LN := [(2, (1, 108917793695 * p7 + 68719476736 * q1)), (4, (0, 1)), (0, (4, 0)), (1, (4, 1))]) (pcN := 26) jIQ_41_25 rfl rfl rfl rfl ?_
  refine jT_xiinc (x := 1) (z := 2) (LN := [(4, (0, 2)), (2, (1, 108917793695 * p7 + 68719476736 * q1)), (0, (4, 0)), (1, (4, 1))]) (pcN := 29) jIQ_41_26 rfl rfl (by decide) rfl rfl ?_
  refine jT_xgoto (pcN := 5) jIQ_41_29 rfl ?_
  refine jT_xiload (v := (0, 2)) (pcN := 7) jIQ_41_5 rfl rfl rfl ?_
  refine jT_xbipush (k := 6) (pcN := 9) jIQ_41_7 (by decide) rfl ?_
  refine jT_xicF (t := 32) (pcN := 12) jIQ_41_9 rfl (by decide +kernel) rfl rfl ?_
  refine jT_xlload_n (v := (1, 108917793695 * p7 + 68719476736 * q1)) (pcN := 13) jIQ_41_12 rfl rfl rfl ?_
  refine jT_xaload_n (v := (4, 1)) (pcN := 14) jIQ_41_13 rfl rfl rfl ?_
  refine jT_xiload (v := (0, 2)) (pcN := 16) jIQ_41_14 rfl rfl rfl ?_
  refine jT_lald (x := p8) (a := 1) (j := 2) (fs := []) (X := [q1, p7, p8, 0, 0, 0]) jIQ_41_16 rfl rfl rfl rfl ?_
  refine jT_eq (LN := [(4, (0, 2)), (2, (1, 108917793695 * p7 + 68719476736 * q1)), (0, (4, 0)), (1, (4, 1))]) (stN := [(1, p8), (1, 108917793695 * p7 + 68719476736 * q1)]) (hsN := [jgh, (101, [], [q1, p7, p8, 0, 0, 0])]) rfl rfl rfl ?_
  refine jT_adv 1 (pcN := 20) (LN := [(4, (0, 2)), (2, (1, 108917793695 * p7 + 68719476736 * q1)), (0, (4, 0)), (1, (4, 1))]) (stN := [(5, 0), (1, p8), (1, 108917793695 * p7 + 68719476736 * q1)]) (hsN := [jgh, (101, [], [q1, p7, p8, 0, 0, 0])]) (c1 := 0) (s1 := 0) (c2 := 0) (s2 := 0) (by exact rfl) ?_ (by omega) (by omega)
  refine jT_xiload (v := (0, 2)) (pcN := 22) jIQ_41_20 rfl rfl rfl ?_
  refine jT_adv 1 (pcN := 23) (LN := [(4, (0, 2)), (2, (1, 108917793695 * p7 + 68719476736 * q1)), (0, (4, 0)), (1, (4, 1))]) (stN := [(1, 159561683699), (1, p8), (1, 108917793695 * p7 + 68719476736 * q1)]) (hsN := [jgh, (101, [], [q1, p7, p8, 0, 0, 0])]) (c1 := 0) (s1 := 0) (c2 := 0) (s2 := 0) (by exact rfl) ?_ (by omega) (by omega)
  refine jT_xlmul (x := p8) (y := 159561683699) (z := 159561683699 * p8) (pcN := 24) jIQ_41_23 rfl (by omega) rfl ?_
  refine jT_xladd (x := 108917793695 * p7 + 68719476736 * q1) (y := 159561683699 * p8) (z := 108917793695 * p7 + 159561683699 * p8 + 68719476736 * q1) (pcN := 25) jIQ_41_24 rfl (by omega) rfl ?_
  refine jT_xlstore_n (v := (1, 108917793695 * p7 + 159561683699 * p8 + 68719476736 * q1)) (LN := [(2, (1, 108917793695 * p7 + 159561683699 * p8 + 68719476736 * q1)), (4, (0, 2)), (0, (4, 0)), (1, (4, 1))]) (pcN := 26) jIQ_41_25 rfl rfl rfl rfl ?_
  refine jT_xiinc (x := 2) (z := 3) (LN := [(4, (0, 3)), (2, (1, 108917793695 * p7 + 159561683699 * p8 + 68719476736 * q1)), (0, (4, 0)), (1, (4, 1))]) (pcN := 29) jIQ_41_26 rfl rfl (by decide) rfl rfl ?_
  refine jT_xgoto (pcN := 5) jIQ_41_29 rfl ?_
  refine jT_xiload (v := (0, 3)) (pcN := 7) jIQ_41_5 rfl rfl rfl ?_
  refine jT_xbipush (k := 6) (pcN := 9) jIQ_41_7 (by decide) rfl ?_
  refine jT_xicF (t := 32) (pcN := 12) jIQ_41_9 rfl (by decide +kernel) rfl rfl ?_
  refine jT_xlload_n (v := (1, 108917793695 * p7 + 159561683699 * p8 + 68719476736 * q1)) (pcN := 13) jIQ_41_12 rfl rfl rfl ?_
  refine jT_xaload_n (v := (4, 1)) (pcN := 14) jIQ_41_13 rfl rfl rfl ?_
  refine jT_xiload (v := (0, 3)) (pcN := 16) jIQ_41_14 rfl rfl rfl ?_
  refine jT_lald (x := 0) (a := 1) (j := 3) (fs := []) (X := [q1, p7, p8, 0, 0, 0]) jIQ_41_16 rfl rfl rfl rfl ?_
  refine jT_eq (LN := [(4, (0, 3)), (2, (1, 108917793695 * p7 + 159561683699 * p8 + 68719476736 * q1)), (0, (4, 0)), (1, (4, 1))]) (stN := [(1, 0), (1, 108917793695 * p7 + 159561683699 * p8 + 68719476736 * q1)]) (hsN := [jgh, (101, [], [q1, p7, p8, 0, 0, 0])]) rfl rfl rfl ?_
  refine jT_adv 1 (pcN := 20) (LN := [(4, (0, 3)), (2, (1, 108917793695 * p7 + 159561683699 * p8 + 68719476736 * q1)), (0, (4, 0)), (1, (4, 1))]) (stN := [(5, 0), (1, 0), (1, 108917793695 * p7 + 159561683699 * p8 + 68719476736 * q1)]) (hsN := [jgh, (101, [], [q1, p7, p8, 0, 0, 0])]) (c1 := 0) (s1 := 0) (c2 := 0) (s2 := 0) (by exact rfl) ?_ (by omega) (by omega)
  refine jT_xiload (v := (0, 3)) (pcN := 22) jIQ_41_20 rfl rfl rfl ?_
  refine jT_adv 1 (pcN := 23) (LN := [(4, (0, 3)), (2, (1, 108917793695 * p7 + 159561683699 * p8 + 68719476736 * q1)), (0, (4, 0)), (1, (4, 1))]) (stN := [(1, 192919961256), (1, 0), (1, 108917793695 * p7 + 159561683699 * p8 + 68719476736 * q1)]) (hsN := [jgh, (101, [], [q1, p7, p8, 0, 0, 0])]) (c1 := 0) (s1 := 0) (c2 := 0) (s2 := 0) (by exact rfl) ?_ (by omega) (by omega)
  refine jT_xlmul (x := 0) (y := 192919961256) (z := 0) (pcN := 24) jIQ_41_23 rfl (by decide) rfl ?_
  refine jT_xladd (x := 108917793695 * p7 + 159561683699 * p8 + 68719476736 * q1) (y := 0) (z := 108917793695 * p7 + 159561683699 * p8 + 68719476736 * q1) (pcN := 25) jIQ_41_24 rfl (by omega) rfl ?_
  refine jT_xlstore_n (v := (1, 108917793695 * p7 + 159561683699 * p8 + 68719476736 * q1)) (LN := [(2, (1, 108917793695 * p7 + 159561683699 * p8 + 68719476736 * q1)), (4, (0, 3)), (0, (4, 0)), (1, (4, 1))]) (pcN := 26) jIQ_41_25 rfl rfl rfl rfl ?_
  refine jT_xiinc (x := 3) (z := 4) (LN := [(4, (0, 4)), (2, (1, 108917793695 * p7 + 159561683699 * p8 + 68719476736 * q1)), (0, (4, 0)), (1, (4, 1))]) (pcN := 29) jIQ_41_26 rfl rfl (by decide) rfl rfl ?_
  refine jT_xgoto (pcN := 5) jIQ_41_29 rfl ?_
  refine jT_xiload (v := (0, 4)) (pcN := 7) jIQ_41_5 rfl rfl rfl ?_
  refine jT_xbipush (k := 6) (pcN := 9) jIQ_41_7 (by decide) rfl ?_
  refine jT_xicF (t := 32) (pcN := 12) jIQ_41_9 rfl (by decide +kernel) rfl rfl ?_
  refine jT_xlload_n (v := (1, 108917793695 * p7 + 159561683699 * p8 + 68719476736 * q1)) (pcN := 13) jIQ_41_12 rfl rfl rfl ?_
  refine jT_xaload_n (v := (4, 1)) (pcN := 14) jIQ_41_13 rfl rfl rfl ?_
  refine jT_xiload (v := (0, 4)) (pcN := 16) jIQ_41_14 rfl rfl rfl ?_
  refine jT_lald (x := 0) (a := 1) (j := 4) (fs := []) (X := [q1, p7, p8, 0, 0, 0]) jIQ_41_16 rfl rfl rfl rfl ?_
  refine jT_eq (LN := [(4, (0, 4)), (2, (1, 108917793695 * p7 + 159561683699 * p8 + 68719476736 * q1)), (0, (4, 0)), (1, (4, 1))]) (stN := [(1, 0), (1, 108917793695 * p7 + 159561683699 * p8 + 68719476736 * q1)]) (hsN := [jgh, (101, [], [q1, p7, p8, 0, 0, 0])]) rfl rfl rfl ?_
  refine jT_adv 1 (pcN := 20) (LN := [(4, (0, 4)), (2, (1, 108917793695 * p7 + 159561683699 * p8 + 68719476736 * q1)), (0, (4, 0)), (1, (4, 1))]) (stN := [(5, 0), (1, 0), (1, 108917793695 * p7 + 159561683699 * p8 + 68719476736 * q1)]) (hsN := [jgh, (101, [], [q1, p7, p8, 0, 0, 0])]) (c1 := 0) (s1 := 0) (c2 := 0) (s2 := 0) (by exact rfl) ?_ (by omega) (by omega)
  refine jT_xiload (v := (0, 4)) (pcN := 22) jIQ_41_20 rfl rfl rfl ?_
  refine jT_adv 1 (pcN := 23) (LN := [(4, (0, 4)), (2, (1, 108917793695 * p7 + 159561683699 * p8 + 68719476736 * q1)), (0, (4, 0)), (1, (4, 1))]) (stN := [(1, 237730330636), (1, 0), (1, 108917793695 * p7 + 159561683699 * p8 + 68719476736 * q1)]) (hsN := [jgh, (101, [], [q1, p7, p8, 0, 0, 0])]) (c1 := 0) (s1 := 0) (c2 := 0) (s2 := 0) (by exact rfl) ?_ (by omega) (by omega)
  refine jT_xlmul (x := 0) (y := 237730330636) (z := 0) (pcN := 24) jIQ_41_23 rfl (by decide) rfl ?_
  refine jT_xladd (x := 108917793695 * p7 + 159561683699 * p8 + 68719476736 * q1) (y := 0) (z := 108917793695 * p7 + 159561683699 * p8 + 68719476736 * q1) (pcN := 25) jIQ_41_24 rfl (by omega) rfl ?_
  refine jT_xlstore_n (v := (1, 108917793695 * p7 + 159561683699 * p8 + 68719476736 * q1)) (LN := [(2, (1, 108917793695 * p7 + 159561683699 * p8 + 68719476736 * q1)), (4, (0, 4)), (0, (4, 0)), (1, (4, 1))]) (pcN := 26) jIQ_41_25 rfl rfl rfl rfl ?_
  refine jT_xiinc (x := 4) (z := 5) (LN := [(4, (0, 5)), (2, (1, 108917793695 * p7 + 159561683699 * p8 + 68719476736 * q1)), (0, (4, 0)), (1, (4, 1))]) (pcN := 29) jIQ_41_26 rfl rfl (by decide) rfl rfl ?_
  refine jT_xgoto (pcN := 5) jIQ_41_29 rfl ?_
  refine jT_xiload (v := (0, 5)) (pcN := 7) jIQ_41_5 rfl rfl rfl ?_
  refine jT_xbipush (k := 6) (pcN := 9) jIQ_41_7 (by decide) rfl ?_
  refine jT_xicF (t := 32) (pcN := 12) jIQ_41_9 rfl (by decide +kernel) rfl rfl ?_
  refine jT_xlload_n (v := (1, 108917793695 * p7 + 159561683699 * p8 + 68719476736 * q1)) (pcN := 13) jIQ_41_12 rfl rfl rfl ?_
  refine jT_xaload_n (v := (4, 1)) (pcN := 14) jIQ_41_13 rfl rfl rfl ?_
  refine jT_xiload (v := (0, 5)) (pcN := 16) jIQ_41_14 rfl rfl rfl ?_
  refine jT_lald (x := 0) (a := 1) (j := 5) (fs := []) (X := [q1, p7, p8, 0, 0, 0]) jIQ_41_16 rfl rfl rfl rfl ?_
  refine jT_eq (LN := [(4, (0, 5)), (2, (1, 108917793695 * p7 + 159561683699 * p8 + 68719476736 * q1)), (0, (4, 0)), (1, (4, 1))]) (stN := [(1, 0), (1, 108917793695 * p7 + 159561683699 * p8 + 68719476736 * q1)]) (hsN := [jgh, (101, [], [q1, p7, p8, 0, 0, 0])]) rfl rfl rfl ?_
  refine jT_adv 1 (pcN := 20) (LN := [(4, (0, 5)), (2, (1, 108917793695 * p7 + 159561683699 * p8 + 68719476736 * q1)), (0, (4, 0)), (1, (4, 1))]) (stN := [(5, 0), (1, 0), (1, 108917793695 * p7 + 159561683699 * p8 + 68719476736 * q1)]) (hsN := [jgh, (101, [], [q1, p7, p8, 0, 0, 0])]) (c1 := 0) (s1 := 0) (c2 := 0) (s2 := 0) (by exact rfl) ?_ (by omega) (by omega)
  refine jT_xiload (v := (0, 5)) (pcN := 22) jIQ_41_20 rfl rfl rfl ?_
  refine jT_adv 1 (pcN := 23) (LN := [(4, (0, 5)), (2, (1, 108917793695 * p7 + 159561683699 * p8 + 68719476736 * q1)), (0, (4, 0)), (1, (4, 1))]) (stN := [(1, 254292281123), (1, 0), (1, 108917793695 * p7 + 159561683699 * p8 + 68719476736 * q1)]) (hsN := [jgh, (101, [], [q1, p7, p8, 0, 0, 0])]) (c1 := 0) (s1 := 0) (c2 := 0) (s2 := 0) (by exact rfl) ?_ (by omega) (by omega)
  refine jT_xlmul (x := 0) (y := 254292281123) (z := 0) (pcN := 24) jIQ_41_23 rfl (by decide) rfl ?_
  refine jT_xladd (x := 108917793695 * p7 + 159561683699 * p8 + 68719476736 * q1) (y := 0) (z := 108917793695 * p7 + 159561683699 * p8 + 68719476736 * q1) (pcN := 25) jIQ_41_24 rfl (by omega) rfl ?_
  refine jT_xlstore_n (v := (1, 108917793695 * p7 + 159561683699 * p8 + 68719476736 * q1)) (LN := [(2, (1, 108917793695 * p7 + 159561683699 * p8 + 68719476736 * q1)), (4, (0, 5)), (0, (4, 0)), (1, (4, 1))]) (pcN := 26) jIQ_41_25 rfl rfl rfl rfl ?_
  refine jT_xiinc (x := 5) (z := 6) (LN := [(4, (0, 6)), (2, (1, 108917793695 * p7 + 159561683699 * p8 + 68719476736 * q1)), (0, (4, 0)), (1, (4, 1))]) (pcN := 29) jIQ_41_26 rfl rfl (by decide) rfl rfl ?_
  refine jT_xgoto (pcN := 5) jIQ_41_29 rfl ?_
  refine jT_xiload (v := (0, 6)) (pcN := 7) jIQ_41_5 rfl rfl rfl ?_
  refine jT_xbipush (k := 6) (pcN := 9) jIQ_41_7 (by decide) rfl ?_
  refine jT_xicT (pcN := 32) jIQ_41_9 rfl (by decide +kernel) rfl ?_
  refine jT_xlload_n (v := (1, 108917793695 * p7 + 159561683699 * p8 + 68719476736 * q1)) (pcN := 33) jIQ_41_32 rfl rfl rfl ?_
  exact jT_ret rfl (by decide) (by show 2 ≤ 2; omega) (by omega) (by omega) ⟨rfl, rfl, rfl⟩
theorem jQ_39_154 {xs : List Int} {d : Nat} {p7 p8 q1 : Int} (h_p7 : (-20) ≤ p7 ∧ p7 ≤ 20) (h_p8 : (-10) ≤ p8 ∧ p8 ≤ 10) (h_q1 : (-60) ≤ q1 ∧ q1 ≤ 60) (g_0 : 0 ≤ (-108917793694) * p7 - 159561683698 * p8 - 68719476736 * q1 - 1) (g_1 : 0 ≤ (-108917793694) * p7 - 159561683700 * p8 - 68719476736 * q1 - 1) (g_2 : 0 ≤ (-108917793696) * p7 - 159561683698 * p8 - 68719476736 * q1 - 1) (g_3 : 0 ≤ (-108917793696) * p7 - 159561683700 * p8 - 68719476736 * q1 - 1) (g_4 : 0 ≤ p7) (g_5 : p8 < 0) (g_6 : q1 < 0) (g_7 : 0 ≤ 108917793695 * p7 + 159561683699 * p8 + 68719476736 * q1 - 1) : jT xs d 39 2 0 [(0, (4, 0)), (1, (4, 1))] [] [jgh, (101, [], [q1, p7, p8, 0, 0, 0])] 0 0 (fun k v hsN => k = 0 ∧ v = (1, p7 - p8) ∧ hsN = [jgh, (101, [], [q1, p7, p8, 0, 0, 0])] ++ []) := by
  refine jT_xlconst (z := 0) (pcN := 1) jIQ_39_0 rfl rfl ?_
  refine jT_xlstore_n (v := (1, 0)) (LN := [(2, (1, 0)), (0, (4, 0)), (1, (4, 1))]) (pcN := 2) jIQ_39_1 rfl rfl rfl rfl ?_
  refine jT_xiconst (k := 1) (pcN := 3) jIQ_39_2 rfl ?_
  refine jT_xistore (v := (0, 1)) (LN := [(4, (0, 1)), (2, (1, 0)), (0, (4, 0)), (1, (4, 1))]) (pcN := 5) jIQ_39_3 rfl rfl rfl rfl ?_
  refine jT_xiload (v := (0, 1)) (pcN := 7) jIQ_39_5 rfl rfl rfl ?_
  refine jT_xbipush (k := 6) (pcN := 9) jIQ_39_7 (by decide) rfl ?_
  refine jT_xicF (t := 28) (pcN := 12) jIQ_39_9 rfl (by decide +kernel) rfl rfl ?_
  refine jT_xlload_n (v := (1, 0)) (pcN := 13) jIQ_39_12 rfl rfl rfl ?_
  refine jT_xaload_n (v := (4, 1)) (pcN := 14) jIQ_39_13 rfl rfl rfl ?_
  refine jT_xiload (v := (0, 1)) (pcN := 16) jIQ_39_14 rfl rfl rfl ?_
  refine jT_lald (x := p7) (a := 1) (j := 1) (fs := []) (X := [q1, p7, p8, 0, 0, 0]) jIQ_39_16 rfl rfl rfl rfl ?_
  refine jT_eq (LN := [(4, (0, 1)), (2, (1, 0)), (0, (4, 0)), (1, (4, 1))]) (stN := [(1, p7), (1, 0)]) (hsN := [jgh, (101, [], [q1, p7, p8, 0, 0, 0])]) rfl rfl rfl ?_
  refine jT_labs (z := p7) (by rfl) (by rfl) (by rfl) (by rfl) (by rw [show jwl (p7) = p7 from jwl_idd (by omega) (by omega), decide_eq_false (by omega)]; first | (simp only [cond_true, cond_false]; done) | (simp only [cond_true, cond_false]; omega) | rfl) ?_
  refine jT_xladd (x := 0) (y := p7) (z := p7) (pcN := 21) jIQ_39_20 rfl (by omega) rfl ?_
  refine jT_xlstore_n (v := (1, p7)) (LN := [(2, (1, p7)), (4, (0, 1)), (0, (4, 0)), (1, (4, 1))]) (pcN := 22) jIQ_39_21 rfl rfl rfl rfl ?_
  refine jT_xiinc (x := 1) (z := 2) (LN := [(4, (0, 2)), (2, (1, p7)), (0, (4, 0)), (1, (4, 1))]) (pcN := 25) jIQ_39_22 rfl rfl (by decide) rfl rfl ?_
  refine jT_xgoto (pcN := 5) jIQ_39_25 rfl ?_
  refine jT_xiload (v := (0, 2)) (pcN := 7) jIQ_39_5 rfl rfl rfl ?_
  refine jT_xbipush (k := 6) (pcN := 9) jIQ_39_7 (by decide) rfl ?_
  refine jT_xicF (t := 28) (pcN := 12) jIQ_39_9 rfl (by decide +kernel) rfl rfl ?_
  refine jT_xlload_n (v := (1, p7)) (pcN := 13) jIQ_39_12 rfl rfl rfl ?_
  refine jT_xaload_n (v := (4, 1)) (pcN := 14) jIQ_39_13 rfl rfl rfl ?_
  refine jT_xiload (v := (0, 2)) (pcN := 16) jIQ_39_14 rfl rfl rfl ?_
  refine jT_lald (x := p8) (a := 1) (j := 2) (fs := []) (X := [q1, p7, p8, 0, 0, 0]) jIQ_39_16 rfl rfl rfl rfl ?_
  refine jT_eq (LN := [(4, (0, 2)), (2, (1, p7)), (0, (4, 0)), (1, (4, 1))]) (stN := [(1, p8), (1, p7)]) (hsN := [jgh, (101, [], [q1, p7, p8, 0, 0, 0])]) rfl rfl rfl ?_
  refine jT_labs (z := -p8) (by rfl) (by rfl) (by rfl) (by rfl) (by rw [show jwl (p8) = p8 from jwl_idd (by omega) (by omega), decide_eq_true (by omega)]; first | (simp only [cond_true, cond_false]; done) | (simp only [cond_true, cond_false]; omega) | rfl) ?_
  refine jT_xladd (x := p7) (y := -p8) (z := p7 - p8) (pcN := 21) jIQ_39_20 rfl (by omega) rfl ?_
  refine jT_xlstore_n (v := (1, p7 - p8)) (LN := [(2, (1, p7 - p8)), (4, (0, 2)), (0, (4, 0)), (1, (4, 1))]) (pcN := 22) jIQ_39_21 rfl rfl rfl rfl ?_
  refine jT_xiinc (x := 2) (z := 3) (LN := [(4, (0, 3)), (2, (1, p7 - p8)), (0, (4, 0)), (1, (4, 1))]) (pcN := 25) jIQ_39_22 rfl rfl (by decide) rfl rfl ?_
  refine jT_xgoto (pcN := 5) jIQ_39_25 rfl ?_
  refine jT_xiload (v := (0, 3)) (pcN := 7) jIQ_39_5 rfl rfl rfl ?_
  refine jT_xbipush (k := 6) (pcN := 9) jIQ_39_7 (by decide) rfl ?_
  refine jT_xicF (t := 28) (pcN := 12) jIQ_39_9 rfl (by decide +kernel) rfl rfl ?_
  refine jT_xlload_n (v := (1, p7 - p8)) (pcN := 13) jIQ_39_12 rfl rfl rfl ?_
  refine jT_xaload_n (v := (4, 1)) (pcN := 14) jIQ_39_13 rfl rfl rfl ?_
  refine jT_xiload (v := (0, 3)) (pcN := 16) jIQ_39_14 rfl rfl rfl ?_
  refine jT_lald (x := 0) (a := 1) (j := 3) (fs := []) (X := [q1, p7, p8, 0, 0, 0]) jIQ_39_16 rfl rfl rfl rfl ?_
  refine jT_eq (LN := [(4, (0, 3)), (2, (1, p7 - p8)), (0, (4, 0)), (1, (4, 1))]) (stN := [(1, 0), (1, p7 - p8)]) (hsN := [jgh, (101, [], [q1, p7, p8, 0, 0, 0])]) rfl rfl rfl ?_
  refine jT_labs (z := 0) (by rfl) (by rfl) (by rfl) (by rfl) (by decide +kernel) ?_
  refine jT_xladd (x := p7 - p8) (y := 0) (z := p7 - p8) (pcN := 21) jIQ_39_20 rfl (by omega) rfl ?_
  refine jT_xlstore_n (v := (1, p7 - p8)) (LN := [(2, (1, p7 - p8)), (4, (0, 3)), (0, (4, 0)), (1, (4, 1))]) (pcN := 22) jIQ_39_21 rfl rfl rfl rfl ?_
  refine jT_xiinc (x := 3) (z := 4) (LN := [(4, (0, 4)), (2, (1, p7 - p8)), (0, (4, 0)), (1, (4, 1))]) (pcN := 25) jIQ_39_22 rfl rfl (by decide) rfl rfl ?_
  refine jT_xgoto (pcN := 5) jIQ_39_25 rfl ?_
  refine jT_xiload (v := (0, 4)) (pcN := 7) jIQ_39_5 rfl rfl rfl ?_
  refine jT_xbipush (k := 6) (pcN := 9) jIQ_39_7 (by decide) rfl ?_
  refine jT_xicF (t := 28) (pcN := 12) jIQ_39_9 rfl (by decide +kernel) rfl rfl ?_
  refine jT_xlload_n (v := (1, p7 - p8)) (pcN := 13) jIQ_39_12 rfl rfl rfl ?_
  refine jT_xaload_n (v := (4, 1)) (pcN := 14) jIQ_39_13 rfl rfl rfl ?_
  refine jT_xiload (v := (0, 4)) (pcN := 16) jIQ_39_14 rfl rfl rfl ?_
  refine jT_lald (x := 0) (a := 1) (j := 4) (fs := []) (X := [q1, p7, p8, 0, 0, 0]) jIQ_39_16 rfl rfl rfl rfl ?_
  refine jT_eq (LN := [(4, (0, 4)), (2, (1, p7 - p8)), (0, (4, 0)), (1, (4, 1))]) (stN := [(1, 0), (1, p7 - p8)]) (hsN := [jgh, (101, [], [q1, p7, p8, 0, 0, 0])]) rfl rfl rfl ?_
  refine jT_labs (z := 0) (by rfl) (by rfl) (by rfl) (by rfl) (by decide +kernel) ?_
  refine jT_xladd (x := p7 - p8) (y := 0) (z := p7 - p8) (pcN := 21) jIQ_39_20 rfl (by omega) rfl ?_
  refine jT_xlstore_n (v := (1, p7 - p8)) (LN := [(2, (1, p7 - p8)), (4, (0, 4)), (0, (4, 0)), (1, (4, 1))]) (pcN := 22) jIQ_39_21 rfl rfl rfl rfl ?_
  refine jT_xiinc (x := 4) (z := 5) (LN := [(4, (0, 5)), (2, (1, p7 - p8)), (0, (4, 0)), (1, (4, 1))]) (pcN := 25) jIQ_39_22 rfl rfl (by decide) rfl rfl ?_
  refine jT_xgoto (pcN := 5) jIQ_39_25 rfl ?_
  refine jT_xiload (v := (0, 5)) (pcN := 7) jIQ_39_5 rfl rfl rfl ?_
  refine jT_xbipush (k := 6) (pcN := 9) jIQ_39_7 (by decide) rfl ?_
  refine jT_xicF (t := 28) (pcN := 12) jIQ_39_9 rfl (by decide +kernel) rfl rfl ?_
  refine jT_xlload_n (v := (1, p7 - p8)) (pcN := 13) jIQ_39_12 rfl rfl rfl ?_
  refine jT_xaload_n (v := (4, 1)) (pcN := 14) jIQ_39_13 rfl rfl rfl ?_
  refine jT_xiload (v := (0, 5)) (pcN := 16) jIQ_39_14 rfl rfl rfl ?_
  refine jT_lald (x := 0) (a := 1) (j := 5) (fs := []) (X := [q1, p7, p8, 0, 0, 0]) jIQ_39_16 rfl rfl rfl rfl ?_
  refine jT_eq (LN := [(4, (0, 5)), (2, (1, p7 - p8)), (0, (4, 0)), (1, (4, 1))]) (stN := [(1, 0), (1, p7 - p8)]) (hsN := [jgh, (101, [], [q1, p7, p8, 0, 0, 0])]) rfl rfl rfl ?_
  refine jT_labs (z := 0) (by rfl) (by rfl) (by rfl) (by rfl) (by decide +kernel) ?_
  refine jT_xladd (x := p7 - p8) (y := 0) (z := p7 - p8) (pcN := 21) jIQ_39_20 rfl (by omega) rfl ?_
  refine jT_xlstore_n (v := (1, p7 - p8)) (LN := [(2, (1, p7 - p8)), (4, (0, 5)), (0, (4, 0)), (1, (4, 1))]) (pcN := 22) jIQ_39_21 rfl rfl rfl rfl ?_
  refine jT_xiinc (x := 5) (z := 6) (LN := [(4, (0, 6)), (2, (1, p7 - p8)), (0, (4, 0)), (1, (4, 1))]) (pcN := 25) jIQ_39_22 rfl rfl (by decide) rfl rfl ?_
  refine jT_xgoto (pcN := 5) jIQ_39_25 rfl ?_
  refine jT_xiload (v := (0, 6)) (pcN := 7) jIQ_39_5 rfl rfl rfl ?_
  refine jT_xbipush (k := 6) (pcN := 9) jIQ_39_7 (by decide) rfl ?_
  refine jT_xicT (pcN := 28) jIQ_39_9 rfl (by decide +kernel) rfl ?_
  refine jT_xlload_n (v := (1, p7 - p8)) (pcN := 29) jIQ_39_28 rfl rfl rfl ?_
  exact jT_ret rfl (by decide) (by show 2 ≤ 2; omega) (by omega) (by omega) ⟨rfl, rfl, rfl⟩
theorem jQ_40_155 {xs : List Int} {d : Nat} {p7 p8 q1 : Int} (h_p7 : (-20) ≤ p7 ∧ p7 ≤ 20) (h_p8 : (-10) ≤ p8 ∧ p8 ≤ 10) (h_q1 : (-60) ≤ q1 ∧ q1 ≤ 60) (g_0 : 0 ≤ (-108917793694) * p7 - 159561683698 * p8 - 68719476736 * q1 - 1) (g_1 : 0 ≤ (-108917793694) * p7 - 159561683700 * p8 - 68719476736 * q1 - 1) (g_2 : 0 ≤ (-108917793696) * p7 - 159561683698 * p8 - 68719476736 * q1 - 1) (g_3 : 0 ≤ (-108917793696) * p7 - 159561683700 * p8 - 68719476736 * q1 - 1) (g_4 : 0 ≤ p7) (g_5 : p8 < 0) (g_6 : q1 < 0) (g_7 : 0 ≤ 108917793695 * p7 + 159561683699 * p8 + 68719476736 * q1 - 1) : jT xs d 40 2 0 [(0, (4, 0)), (1, (4, 1)), (2, (1, p7 - p8))] [] [jgh, (101, [], [q1, p7, p8, 0, 0, 0])] 0 0 (fun k v hsN => k = 0 ∧ v = (0, 1) ∧ hsN = [jgh, (101, [], [q1, p7, p8, 0, 0, 0])] ++ []) := by
  refine jT_xlload_n (v := (1, p7 - p8)) (pcN := 1) jIQ_40_0 rfl rfl rfl ?_
  refine jT_adv 1 (pcN := 4) (LN := [(0, (4, 0)), (1, (4, 1)), (2, (1, p7 - p8))]) (stN := [(1, 16777216), (1, p7 - p8)]) (hsN := [jgh, (101, [], [q1, p7, p8, 0, 0, 0])]) (c1 := 0) (s1 := 0) (c2 := 0) (s2 := 0) (by exact rfl) ?_ (by omega) (by omega)
  refine jT_lcmp (a := p7 - p8) (b := 16777216) (z := (-1)) (by rfl) (by rfl) (jwl_idd (by omega) (by omega)) (jwl_idd (by omega) (by omega)) (by rw [decide_eq_false (show ¬ ((16777216 : Int) < p7 - p8) by omega), decide_eq_false (show ¬ ((p7 - p8 : Int) = 16777216) by omega)]; rfl) ?_
  refine jT_xifF (t := 25) (pcN := 8) jIQ_40_5 rfl (by decide +kernel) rfl rfl ?_
  refine jT_xaload_n (v := (4, 1)) (pcN := 9) jIQ_40_8 rfl rfl rfl ?_
  refine jT_xiconst (k := 0) (pcN := 10) jIQ_40_9 rfl ?_
  refine jT_lald (x := q1) (a := 1) (j := 0) (fs := []) (X := [q1, p7, p8, 0, 0, 0]) jIQ_40_10 rfl rfl rfl rfl ?_
  refine jT_eq (LN := [(0, (4, 0)), (1, (4, 1)), (2, (1, p7 - p8))]) (stN := [(1, q1)]) (hsN := [jgh, (101, [], [q1, p7, p8, 0, 0, 0])]) rfl rfl rfl ?_
  refine jT_labs (z := -q1) (by rfl) (by rfl) (by rfl) (by rfl) (by rw [show jwl (q1) = q1 from jwl_idd (by omega) (by omega), decide_eq_true (by omega)]; first | (simp only [cond_true, cond_false]; done) | (simp only [cond_true, cond_false]; omega) | rfl) ?_
  refine jT_adv 1 (pcN := 17) (LN := [(0, (4, 0)), (1, (4, 1)), (2, (1, p7 - p8))]) (stN := [(1, 16777216), (1, -q1)]) (hsN := [jgh, (101, [], [q1, p7, p8, 0, 0, 0])]) (c1 := 0) (s1 := 0) (c2 := 0) (s2 := 0) (by exact rfl) ?_ (by omega) (by omega)
  refine jT_lcmp (a := -q1) (b := 16777216) (z := (-1)) (by rfl) (by rfl) (jwl_idd (by omega) (by omega)) (jwl_idd (by omega) (by omega)) (by rw [decide_eq_false (show ¬ ((16777216 : Int) < -q1) by omega), decide_eq_false (show ¬ ((-q1 : Int) = 16777216) by omega)]; rfl) ?_
  refine jT_xifF (t := 25) (pcN := 21) jIQ_40_18 rfl (by decide +kernel) rfl rfl ?_
  refine jT_xiconst (k := 1) (pcN := 22) jIQ_40_21 rfl ?_
  refine jT_xgoto (pcN := 26) jIQ_40_22 rfl ?_
  exact jT_ret rfl (by decide) (by show 2 ≤ 2; omega) (by omega) (by omega) ⟨rfl, rfl, rfl⟩
theorem jQ_41_156 {xs : List Int} {d : Nat} {p7 p8 q1 : Int} (h_p7 : (-20) ≤ p7 ∧ p7 ≤ 20) (h_p8 : (-10) ≤ p8 ∧ p8 ≤ 10) (h_q1 : (-60) ≤ q1 ∧ q1 ≤ 60) (g_0 : 0 ≤ (-108917793694) * p7 - 159561683698 * p8 - 68719476736 * q1 - 1) (g_1 : 0 ≤ (-108917793694) * p7 - 159561683700 * p8 - 68719476736 * q1 - 1) (g_2 : 0 ≤ (-108917793696) * p7 - 159561683698 * p8 - 68719476736 * q1 - 1) (g_3 : 0 ≤ (-108917793696) * p7 - 159561683700 * p8 - 68719476736 * q1 - 1) (g_4 : 0 ≤ p7) (g_5 : p8 < 0) (g_6 : q1 < 0) (g_7 : 0 ≤ 108917793695 * p7 + 159561683699 * p8 + 68719476736 * q1 - 1) : jT xs d 41 2 0 [(0, (4, 0)), (1, (4, 1))] [] [jgh, (101, [], [q1, p7, p8, 0, 0, 0])] 0 0 (fun k v hsN => k = 0 ∧ v = (1, 108917793695 * p7 + 159561683699 * p8 + 68719476736 * q1) ∧ hsN = [jgh, (101, [], [q1, p7, p8, 0, 0, 0])] ++ []) := by
  refine jT_xlconst (z := 0) (pcN := 1) jIQ_41_0 rfl rfl ?_
  refine jT_xlstore_n (v := (1, 0)) (LN := [(2, (1, 0)), (0, (4, 0)), (1, (4, 1))]) (pcN := 2) jIQ_41_1 rfl rfl rfl rfl ?_
  refine jT_xiconst (k := 0) (pcN := 3) jIQ_41_2 rfl ?_
  refine jT_xistore (v := (0, 0)) (LN := [(4, (0, 0)), (2, (1, 0)), (0, (4, 0)), (1, (4, 1))]) (pcN := 5) jIQ_41_3 rfl rfl rfl rfl ?_
  refine jT_xiload (v := (0, 0)) (pcN := 7) jIQ_41_5 rfl rfl rfl ?_
  refine jT_xbipush (k := 6) (pcN := 9) jIQ_41_7 (by decide) rfl ?_
  refine jT_xicF (t := 32) (pcN := 12) jIQ_41_9 rfl (by decide +kernel) rfl rfl ?_
  refine jT_xlload_n (v := (1, 0)) (pcN := 13) jIQ_41_12 rfl rfl rfl ?_
  refine jT_xaload_n (v := (4, 1)) (pcN := 14) jIQ_41_13 rfl rfl rfl ?_
  refine jT_xiload (v := (0, 0)) (pcN := 16) jIQ_41_14 rfl rfl rfl ?_
  refine jT_lald (x := q1) (a := 1) (j := 0) (fs := []) (X := [q1, p7, p8, 0, 0, 0]) jIQ_41_16 rfl rfl rfl rfl ?_
  refine jT_eq (LN := [(4, (0, 0)), (2, (1, 0)), (0, (4, 0)), (1, (4, 1))]) (stN := [(1, q1), (1, 0)]) (hsN := [jgh, (101, [], [q1, p7, p8, 0, 0, 0])]) rfl rfl rfl ?_
  refine jT_adv 1 (pcN := 20) (LN := [(4, (0, 0)), (2, (1, 0)), (0, (4, 0)), (1, (4, 1))]) (stN := [(5, 0), (1, q1), (1, 0)]) (hsN := [jgh, (101, [], [q1, p7, p8, 0, 0, 0])]) (c1 := 0) (s1 := 0) (c2 := 0) (s2 := 0) (by exact rfl) ?_ (by omega) (by omega)
  refine jT_xiload (v := (0, 0)) (pcN := 22) jIQ_41_20 rfl rfl rfl ?_
  refine jT_adv 1 (pcN := 23) (LN := [(4, (0, 0)), (2, (1, 0)), (0, (4, 0)), (1, (4, 1))]) (stN := [(1, 68719476736), (1, q1), (1, 0)]) (hsN := [jgh, (101, [], [q1, p7, p8, 0, 0, 0])]) (c1 := 0) (s1 := 0) (c2 := 0) (s2 := 0) (by exact rfl) ?_ (by omega) (by omega)
  refine jT_xlmul (x := q1) (y := 68719476736) (z := 68719476736 * q1) (pcN := 24) jIQ_41_23 rfl (by omega) rfl ?_
  refine jT_xladd (x := 0) (y := 68719476736 * q1) (z := 68719476736 * q1) (pcN := 25) jIQ_41_24 rfl (by omega) rfl ?_
  refine jT_xlstore_n (v := (1, 68719476736 * q1)) (LN := [(2, (1, 68719476736 * q1)), (4, (0, 0)), (0, (4, 0)), (1, (4, 1))]) (pcN := 26) jIQ_41_25 rfl rfl rfl rfl ?_
  refine jT_xiinc (x := 0) (z := 1) (LN := [(4, (0, 1)), (2, (1, 68719476736 * q1)), (0, (4, 0)), (1, (4, 1))]) (pcN := 29) jIQ_41_26 rfl rfl (by decide) rfl rfl ?_
  refine jT_xgoto (pcN := 5) jIQ_41_29 rfl ?_
  refine jT_xiload (v := (0, 1)) (pcN := 7) jIQ_41_5 rfl rfl rfl ?_
  refine jT_xbipush (k := 6) (pcN := 9) jIQ_41_7 (by decide) rfl ?_
  refine jT_xicF (t := 32) (pcN := 12) jIQ_41_9 rfl (by decide +kernel) rfl rfl ?_
  refine jT_xlload_n (v := (1, 68719476736 * q1)) (pcN := 13) jIQ_41_12 rfl rfl rfl ?_
  refine jT_xaload_n (v := (4, 1)) (pcN := 14) jIQ_41_13 rfl rfl rfl ?_
  refine jT_xiload (v := (0, 1)) (pcN := 16) jIQ_41_14 rfl rfl rfl ?_
  refine jT_lald (x := p7) (a := 1) (j := 1) (fs := []) (X := [q1, p7, p8, 0, 0, 0]) jIQ_41_16 rfl rfl rfl rfl ?_
  refine jT_eq (LN := [(4, (0, 1)), (2, (1, 68719476736 * q1)), (0, (4, 0)), (1, (4, 1))]) (stN := [(1, p7), (1, 68719476736 * q1)]) (hsN := [jgh, (101, [], [q1, p7, p8, 0, 0, 0])]) rfl rfl rfl ?_
  refine jT_adv 1 (pcN := 20) (LN := [(4, (0, 1)), (2, (1, 68719476736 * q1)), (0, (4, 0)), (1, (4, 1))]) (stN := [(5, 0), (1, p7), (1, 68719476736 * q1)]) (hsN := [jgh, (101, [], [q1, p7, p8, 0, 0, 0])]) (c1 := 0) (s1 := 0) (c2 := 0) (s2 := 0) (by exact rfl) ?_ (by omega) (by omega)
  refine jT_xiload (v := (0, 1)) (pcN := 22) jIQ_41_20 rfl rfl rfl ?_
  refine jT_adv 1 (pcN := 23) (LN := [(4, (0, 1)), (2, (1, 68719476736 * q1)), (0, (4, 0)), (1, (4, 1))]) (stN := [(1, 108917793695), (1, p7), (1, 68719476736 * q1)]) (hsN := [jgh, (101, [], [q1, p7, p8, 0, 0, 0])]) (c1 := 0) (s1 := 0) (c2 := 0) (s2 := 0) (by exact rfl) ?_ (by omega) (by omega)
  refine jT_xlmul (x := p7) (y := 108917793695) (z := 108917793695 * p7) (pcN := 24) jIQ_41_23 rfl (by omega) rfl ?_
  refine jT_xladd (x := 68719476736 * q1) (y := 108917793695 * p7) (z := 108917793695 * p7 + 68719476736 * q1) (pcN := 25) jIQ_41_24 rfl (by omega) rfl ?_
  refine jT_xlstore_n (v := (1, 108917793695 * p7 + 68719476736 * q1)) (LN := [(2, (1, 108917793695 * p7 + 68719476736 * q1)), (4, (0, 1)), (0, (4, 0)), (1, (4, 1))]) (pcN := 26) jIQ_41_25 rfl rfl rfl rfl ?_
  refine jT_xiinc (x := 1) (z := 2) (LN := [(4, (0, 2)), (2, (1, 108917793695 * p7 + 68719476736 * q1)), (0, (4, 0)), (1, (4, 1))]) (pcN := 29) jIQ_41_26 rfl rfl (by decide) rfl rfl ?_
  refine jT_xgoto (pcN := 5) jIQ_41_29 rfl ?_
  refine jT_xiload (v := (0, 2)) (pcN := 7) jIQ_41_5 rfl rfl rfl ?_
  refine jT_xbipush (k := 6) (pcN := 9) jIQ_41_7 (by decide) rfl ?_
  refine jT_xicF (t := 32) (pcN := 12) jIQ_41_9 rfl (by decide +kernel) rfl rfl ?_
  refine jT_xlload_n (v := (1, 108917793695 * p7 + 68719476736 * q1)) (pcN := 13) jIQ_41_12 rfl rfl rfl ?_
  refine jT_xaload_n (v := (4, 1)) (pcN := 14) jIQ_41_13 rfl rfl rfl ?_
  refine jT_xiload (v := (0, 2)) (pcN := 16) jIQ_41_14 rfl rfl rfl ?_
  refine jT_lald (x := p8) (a := 1) (j := 2) (fs := []) (X := [q1, p7, p8, 0, 0, 0]) jIQ_41_16 rfl rfl rfl rfl ?_
  refine jT_eq (LN := [(4, (0, 2)), (2, (1, 108917793695 * p7 + 68719476736 * q1)), (0, (4, 0)), (1, (4, 1))]) (stN := [(1, p8), (1, 108917793695 * p7 + 68719476736 * q1)]) (hsN := [jgh, (101, [], [q1, p7, p8, 0, 0, 0])]) rfl rfl rfl ?_
  refine jT_adv 1 (pcN := 20) (LN := [(4, (0, 2)), (2, (1, 108917793695 * p7 + 68719476736 * q1)), (0, (4, 0)), (1, (4, 1))]) (stN := [(5, 0), (1, p8), (1, 108917793695 * p7 + 68719476736 * q1)]) (hsN := [jgh, (101, [], [q1, p7, p8, 0, 0, 0])]) (c1 := 0) (s1 := 0) (c2 := 0) (s2 := 0) (by exact rfl) ?_ (by omega) (by omega)
  refine jT_xiload (v := (0, 2)) (pcN := 22) jIQ_41_20 rfl rfl rfl ?_
  refine jT_adv 1 (pcN := 23) (LN := [(4, (0, 2)), (2, (1, 108917793695 * p7 + 68719476736 * q1)), (0, (4, 0)), (1, (4, 1))]) (stN := [(1, 159561683699), (1, p8), (1, 108917793695 * p7 + 68719476736 * q1)]) (hsN := [jgh, (101, [], [q1, p7, p8, 0, 0, 0])]) (c1 := 0) (s1 := 0) (c2 := 0) (s2 := 0) (by exact rfl) ?_ (by omega) (by omega)
  refine jT_xlmul (x := p8) (y := 159561683699) (z := 159561683699 * p8) (pcN := 24) jIQ_41_23 rfl (by omega) rfl ?_
  refine jT_xladd (x := 108917793695 * p7 + 68719476736 * q1) (y := 159561683699 * p8) (z := 108917793695 * p7 + 159561683699 * p8 + 68719476736 * q1) (pcN := 25) jIQ_41_24 rfl (by omega) rfl ?_
  refine jT_xlstore_n (v := (1, 108917793695 * p7 + 159561683699 * p8 + 68719476736 * q1)) (LN := [(2, (1, 108917793695 * p7 + 159561683699 * p8 + 68719476736 * q1)), (4, (0, 2)), (0, (4, 0)), (1, (4, 1))]) (pcN := 26) jIQ_41_25 rfl rfl rfl rfl ?_
  refine jT_xiinc (x := 2) (z := 3) (LN := [(4, (0, 3)), (2, (1, 108917793695 * p7 + 159561683699 * p8 + 68719476736 * q1)), (0, (4, 0)), (1, (4, 1))]) (pcN := 29) jIQ_41_26 rfl rfl (by decide) rfl rfl ?_
  refine jT_xgoto (pcN := 5) jIQ_41_29 rfl ?_
  refine jT_xiload (v := (0, 3)) (pcN := 7) jIQ_41_5 rfl rfl rfl ?_
  refine jT_xbipush (k := 6) (pcN := 9) jIQ_41_7 (by decide) rfl ?_
  refine jT_xicF (t := 32) (pcN := 12) jIQ_41_9 rfl (by decide +kernel) rfl rfl ?_
  refine jT_xlload_n (v := (1, 108917793695 * p7 + 159561683699 * p8 + 68719476736 * q1)) (pcN := 13) jIQ_41_12 rfl rfl rfl ?_
  refine jT_xaload_n (v := (4, 1)) (pcN := 14) jIQ_41_13 rfl rfl rfl ?_
  refine jT_xiload (v := (0, 3)) (pcN := 16) jIQ_41_14 rfl rfl rfl ?_
  refine jT_lald (x := 0) (a := 1) (j := 3) (fs := []) (X := [q1, p7, p8, 0, 0, 0]) jIQ_41_16 rfl rfl rfl rfl ?_
  refine jT_eq (LN := [(4, (0, 3)), (2, (1, 108917793695 * p7 + 159561683699 * p8 + 68719476736 * q1)), (0, (4, 0)), (1, (4, 1))]) (stN := [(1, 0), (1, 108917793695 * p7 + 159561683699 * p8 + 68719476736 * q1)]) (hsN := [jgh, (101, [], [q1, p7, p8, 0, 0, 0])]) rfl rfl rfl ?_
  refine jT_adv 1 (pcN := 20) (LN := [(4, (0, 3)), (2, (1, 108917793695 * p7 + 159561683699 * p8 + 68719476736 * q1)), (0, (4, 0)), (1, (4, 1))]) (stN := [(5, 0), (1, 0), (1, 108917793695 * p7 + 159561683699 * p8 + 68719476736 * q1)]) (hsN := [jgh, (101, [], [q1, p7, p8, 0, 0, 0])]) (c1 := 0) (s1 := 0) (c2 := 0) (s2 := 0) (by exact rfl) ?_ (by omega) (by omega)
  refine jT_xiload (v := (0, 3)) (pcN := 22) jIQ_41_20 rfl rfl rfl ?_
  refine jT_adv 1 (pcN := 23) (LN := [(4, (0, 3)), (2, (1, 108917793695 * p7 + 159561683699 * p8 + 68719476736 * q1)), (0, (4, 0)), (1, (4, 1))]) (stN := [(1, 192919961256), (1, 0), (1, 108917793695 * p7 + 159561683699 * p8 + 68719476736 * q1)]) (hsN := [jgh, (101, [], [q1, p7, p8, 0, 0, 0])]) (c1 := 0) (s1 := 0) (c2 := 0) (s2 := 0) (by exact rfl) ?_ (by omega) (by omega)
  refine jT_xlmul (x := 0) (y := 192919961256) (z := 0) (pcN := 24) jIQ_41_23 rfl (by decide) rfl ?_
  refine jT_xladd (x := 108917793695 * p7 + 159561683699 * p8 + 68719476736 * q1) (y := 0) (z := 108917793695 * p7 + 159561683699 * p8 + 68719476736 * q1) (pcN := 25) jIQ_41_24 rfl (by omega) rfl ?_
  refine jT_xlstore_n (v := (1, 108917793695 * p7 + 159561683699 * p8 + 68719476736 * q1)) (LN := [(2, (1, 108917793695 * p7 + 159561683699 * p8 + 68719476736 * q1)), (4, (0, 3)), (0, (4, 0)), (1, (4, 1))]) (pcN := 26) jIQ_41_25 rfl rfl rfl rfl ?_
  refine jT_xiinc (x := 3) (z := 4) (LN := [(4, (0, 4)), (2, (1, 108917793695 * p7 + 159561683699 * p8 + 68719476736 * q1)), (0, (4, 0)), (1, (4, 1))]) (pcN := 29) jIQ_41_26 rfl rfl (by decide) rfl rfl ?_
  refine jT_xgoto (pcN := 5) jIQ_41_29 rfl ?_
  refine jT_xiload (v := (0, 4)) (pcN := 7) jIQ_41_5 rfl rfl rfl ?_
  refine jT_xbipush (k := 6) (pcN := 9) jIQ_41_7 (by decide) rfl ?_
  refine jT_xicF (t := 32) (pcN := 12) jIQ_41_9 rfl (by decide +kernel) rfl rfl ?_
  refine jT_xlload_n (v := (1, 108917793695 * p7 + 159561683699 * p8 + 68719476736 * q1)) (pcN := 13) jIQ_41_12 rfl rfl rfl ?_
  refine jT_xaload_n (v := (4, 1)) (pcN := 14) jIQ_41_13 rfl rfl rfl ?_
  refine jT_xiload (v := (0, 4)) (pcN := 16) jIQ_41_14 rfl rfl rfl ?_
  refine jT_lald (x := 0) (a := 1) (j := 4) (fs := []) (X := [q1, p7, p8, 0, 0, 0]) jIQ_41_16 rfl rfl rfl rfl ?_
  refine jT_eq (LN := [(4, (0, 4)), (2, (1, 108917793695 * p7 + 159561683699 * p8 + 68719476736 * q1)), (0, (4, 0)), (1, (4, 1))]) (stN := [(1, 0), (1, 108917793695 * p7 + 159561683699 * p8 + 68719476736 * q1)]) (hsN := [jgh, (101, [], [q1, p7, p8, 0, 0, 0])]) rfl rfl rfl ?_
  refine jT_adv 1 (pcN := 20) (LN := [(4, (0, 4)), (2, (1, 108917793695 * p7 + 159561683699 * p8 + 68719476736 * q1)), (0, (4, 0)), (1, (4, 1))]) (stN := [(5, 0), (1, 0), (1, 108917793695 * p7 + 159561683699 * p8 + 68719476736 * q1)]) (hsN := [jgh, (101, [], [q1, p7, p8, 0, 0, 0])]) (c1 := 0) (s1 := 0) (c2 := 0) (s2 := 0) (by exact rfl) ?_ (by omega) (by omega)
  refine jT_xiload (v := (0, 4)) (pcN := 22) jIQ_41_20 rfl rfl rfl ?_
  refine jT_adv 1 (pcN := 23) (LN := [(4, (0, 4)), (2, (1, 108917793695 * p7 + 159561683699 * p8 + 68719476736 * q1)), (0, (4, 0)), (1, (4, 1))]) (stN := [(1, 237730330636), (1, 0), (1, 108917793695 * p7 + 159561683699 * p8 + 68719476736 * q1)]) (hsN := [jgh, (101, [], [q1, p7, p8, 0, 0, 0])]) (c1 := 0) (s1 := 0) (c2 := 0) (s2 := 0) (by exact rfl) ?_ (by omega) (by omega)
  refine jT_xlmul (x := 0) (y := 237730330636) (z := 0) (pcN := 24) jIQ_41_23 rfl (by decide) rfl ?_
  refine jT_xladd (x := 108917793695 * p7 + 159561683699 * p8 + 68719476736 * q1) (y := 0) (z := 108917793695 * p7 + 159561683699 * p8 + 68719476736 * q1) (pcN := 25) jIQ_41_24 rfl (by omega) rfl ?_
  refine jT_xlstore_n (v := (1, 108917793695 * p7 + 159561683699 * p8 + 68719476736 * q1)) (LN := [(2, (1, 108917793695 * p7 + 159561683699 * p8 + 68719476736 * q1)), (4, (0, 4)), (0, (4, 0)), (1, (4, 1))]) (pcN := 26) jIQ_41_25 rfl rfl rfl rfl ?_
  refine jT_xiinc (x := 4) (z := 5) (LN := [(4, (0, 5)), (2, (1, 108917793695 * p7 + 159561683699 * p8 + 68719476736 * q1)), (0, (4, 0)), (1, (4, 1))]) (pcN := 29) jIQ_41_26 rfl rfl (by decide) rfl rfl ?_
  refine jT_xgoto (pcN := 5) jIQ_41_29 rfl ?_
  refine jT_xiload (v := (0, 5)) (pcN := 7) jIQ_41_5 rfl rfl rfl ?_
  refine jT_xbipush (k := 6) (pcN := 9) jIQ_41_7 (by decide) rfl ?_
  refine jT_xicF (t := 32) (pcN := 12) jIQ_41_9 rfl (by decide +kernel) rfl rfl ?_
  refine jT_xlload_n (v := (1, 108917793695 * p7 + 159561683699 * p8 + 68719476736 * q1)) (pcN := 13) jIQ_41_12 rfl rfl rfl ?_
  refine jT_xaload_n (v := (4, 1)) (pcN := 14) jIQ_41_13 rfl rfl rfl ?_
  refine jT_xiload (v := (0, 5)) (pcN := 16) jIQ_41_14 rfl rfl rfl ?_
  refine jT_lald (x := 0) (a := 1) (j := 5) (fs := []) (X := [q1, p7, p8, 0, 0, 0]) jIQ_41_16 rfl rfl rfl rfl ?_
  refine jT_eq (LN := [(4, (0, 5)), (2, (1, 108917793695 * p7 + 159561683699 * p8 + 68719476736 * q1)), (0, (4, 0)), (1, (4, 1))]) (stN := [(1, 0), (1, 108917793695 * p7 + 159561683699 * p8 + 68719476736 * q1)]) (hsN := [jgh, (101, [], [q1, p7, p8, 0, 0, 0])]) rfl rfl rfl ?_
  refine jT_adv 1 (pcN := 20) (LN := [(4, (0, 5)), (2, (1, 108917793695 * p7 + 159561683699 * p8 + 68719476736 * q1)), (0, (4, 0)), (1, (4, 1))]) (stN := [(5, 0), (1, 0), (1, 108917793695 * p7 + 159561683699 * p8 + 68719476736 * q1)]) (hsN := [jgh, (101, [], [q1, p7, p8, 0, 0, 0])]) (c1 := 0) (s1 := 0) (c2 := 0) (s2 := 0) (by exact rfl) ?_ (by omega) (by omega)
  refine jT_xiload (v := (0, 5)) (pcN := 22) jIQ_41_20 rfl rfl rfl ?_
  refine jT_adv 1 (pcN := 23) (LN := [(4, (0, 5)), (2, (1, 108917793695 * p7 + 159561683699 * p8 + 68719476736 * q1)), (0, (4, 0)), (1, (4, 1))]) (stN := [(1, 254292281123), (1, 0), (1, 108917793695 * p7 + 159561683699 * p8 + 68719476736 * q1)]) (hsN := [jgh, (101, [], [q1, p7, p8, 0, 0, 0])]) (c1 := 0) (s1 := 0) (c2 := 0) (s2 := 0) (by exact rfl) ?_ (by omega) (by omega)
  refine jT_xlmul (x := 0) (y := 254292281123) (z := 0) (pcN := 24) jIQ_41_23 rfl (by decide) rfl ?_
  refine jT_xladd (x := 108917793695 * p7 + 159561683699 * p8 + 68719476736 * q1) (y := 0) (z := 108917793695 * p7 + 159561683699 * p8 + 68719476736 * q1) (pcN := 25) jIQ_41_24 rfl (by omega) rfl ?_
  refine jT_xlstore_n (v := (1, 108917793695 * p7 + 159561683699 * p8 + 68719476736 * q1)) (LN := [(2, (1, 108917793695 * p7 + 159561683699 * p8 + 68719476736 * q1)), (4, (0, 5)), (0, (4, 0)), (1, (4, 1))]) (pcN := 26) jIQ_41_25 rfl rfl rfl rfl ?_
  refine jT_xiinc (x := 5) (z := 6) (LN := [(4, (0, 6)), (2, (1, 108917793695 * p7 + 159561683699 * p8 + 68719476736 * q1)), (0, (4, 0)), (1, (4, 1))]) (pcN := 29) jIQ_41_26 rfl rfl (by decide) rfl rfl ?_
  refine jT_xgoto (pcN := 5) jIQ_41_29 rfl ?_
  refine jT_xiload (v := (0, 6)) (pcN := 7) jIQ_41_5 rfl rfl rfl ?_
  refine jT_xbipush (k := 6) (pcN := 9) jIQ_41_7 (by decide) rfl ?_
  refine jT_xicT (pcN := 32) jIQ_41_9 rfl (by decide +kernel) rfl ?_
  refine jT_xlload_n (v := (1, 108917793695 * p7 + 159561683699 * p8 + 68719476736 * q1)) (pcN := 33) jIQ_41_32 rfl rfl rfl ?_
  exact jT_ret rfl (by decide) (by show 2 ≤ 2; omega) (by omega) (by omega) ⟨rfl, rfl, rfl⟩
theorem jQ_39_157 {xs : List Int} {d : Nat} {p7 p8 q1 : Int} (h_p7 : (-20) ≤ p7 ∧ p7 ≤ 20) (h_p8 : (-10) ≤ p8 ∧ p8 ≤ 10) (h_q1 : (-60) ≤ q1 ∧ q1 ≤ 60) (g_0 : 0 ≤ (-108917793694) * p7 - 159561683698 * p8 - 68719476736 * q1 - 1) (g_1 : 0 ≤ (-108917793694) * p7 - 159561683700 * p8 - 68719476736 * q1 - 1) (g_2 : 0 ≤ (-108917793696) * p7 - 159561683698 * p8 - 68719476736 * q1 - 1) (g_3 : 0 ≤ (-108917793696) * p7 - 159561683700 * p8 - 68719476736 * q1 - 1) (g_4 : 0 ≤ p7) (g_5 : p8 < 0) (g_6 : 0 ≤ q1) : jT xs d 39 2 0 [(0, (4, 0)), (1, (4, 1))] [] [jgh, (101, [], [q1, p7, p8, 0, 0, 0])] 0 0 (fun k v hsN => k = 0 ∧ v = (1, p7 - p8) ∧ hsN = [jgh, (101, [], [q1, p7, p8, 0, 0, 0])] ++ []) := by
  refine jT_xlconst (z := 0) (pcN := 1) jIQ_39_0 rfl rfl ?_
  refine jT_xlstore_n (v := (1, 0)) (LN := [(2, (1, 0)), (0, (4, 0)), (1, (4, 1))]) (pcN := 2) jIQ_39_1 rfl rfl rfl rfl ?_
  refine jT_xiconst (k := 1) (pcN := 3) jIQ_39_2 rfl ?_
  refine jT_xistore (v := (0, 1)) (LN := [(4, (0, 1)), (2, (1, 0)), (0, (4, 0)), (1, (4, 1))]) (pcN := 5) jIQ_39_3 rfl rfl rfl rfl ?_
  refine jT_xiload (v := (0, 1)) (pcN := 7) jIQ_39_5 rfl rfl rfl ?_
  refine jT_xbipush (k := 6) (pcN := 9) jIQ_39_7 (by decide) rfl ?_
  refine jT_xicF (t := 28) (pcN := 12) jIQ_39_9 rfl (by decide +kernel) rfl rfl ?_
  refine jT_xlload_n (v := (1, 0)) (pcN := 13) jIQ_39_12 rfl rfl rfl ?_
  refine jT_xaload_n (v := (4, 1)) (pcN := 14) jIQ_39_13 rfl rfl rfl ?_
  refine jT_xiload (v := (0, 1)) (pcN := 16) jIQ_39_14 rfl rfl rfl ?_
  refine jT_lald (x := p7) (a := 1) (j := 1) (fs := []) (X := [q1, p7, p8, 0, 0, 0]) jIQ_39_16 rfl rfl rfl rfl ?_
  refine jT_eq (LN := [(4, (0, 1)), (2, (1, 0)), (0, (4, 0)), (1, (4, 1))]) (stN := [(1, p7), (1, 0)]) (hsN := [jgh, (101, [], [q1, p7, p8, 0, 0, 0])]) rfl rfl rfl ?_
  refine jT_labs (z := p7) (by rfl) (by rfl) (by rfl) (by rfl) (by rw [show jwl (p7) = p7 from jwl_idd (by omega) (by omega), decide_eq_false (by omega)]; first | (simp only [cond_true, cond_false]; done) | (simp only [cond_true, cond_false]; omega) | rfl) ?_
  refine jT_xladd (x := 0) (y := p7) (z := p7) (pcN := 21) jIQ_39_20 rfl (by omega) rfl ?_
  refine jT_xlstore_n (v := (1, p7)) (LN := [(2, (1, p7)), (4, (0, 1)), (0, (4, 0)), (1, (4, 1))]) (pcN := 22) jIQ_39_21 rfl rfl rfl rfl ?_
  refine jT_xiinc (x := 1) (z := 2) (LN := [(4, (0, 2)), (2, (1, p7)), (0, (4, 0)), (1, (4, 1))]) (pcN := 25) jIQ_39_22 rfl rfl (by decide) rfl rfl ?_
  refine jT_xgoto (pcN := 5) jIQ_39_25 rfl ?_
  refine jT_xiload (v := (0, 2)) (pcN := 7) jIQ_39_5 rfl rfl rfl ?_
  refine jT_xbipush (k := 6) (pcN := 9) jIQ_39_7 (by decide) rfl ?_
  refine jT_xicF (t := 28) (pcN := 12) jIQ_39_9 rfl (by decide +kernel) rfl rfl ?_
  refine jT_xlload_n (v := (1, p7)) (pcN := 13) jIQ_39_12 rfl rfl rfl ?_
  refine jT_xaload_n (v := (4, 1)) (pcN := 14) jIQ_39_13 rfl rfl rfl ?_
  refine jT_xiload (v := (0, 2)) (pcN := 16) jIQ_39_14 rfl rfl rfl ?_
  refine jT_lald (x := p8) (a := 1) (j := 2) (fs := []) (X := [q1, p7, p8, 0, 0, 0]) jIQ_39_16 rfl rfl rfl rfl ?_
  refine jT_eq (LN := [(4, (0, 2)), (2, (1, p7)), (0, (4, 0)), (1, (4, 1))]) (stN := [(1, p8), (1, p7)]) (hsN := [jgh, (101, [], [q1, p7, p8, 0, 0, 0])]) rfl rfl rfl ?_
  refine jT_labs (z := -p8) (by rfl) (by rfl) (by rfl) (by rfl) (by rw [show jwl (p8) = p8 from jwl_idd (by omega) (by omega), decide_eq_true (by omega)]; first | (simp only [cond_true, cond_false]; done) | (simp only [cond_true, cond_false]; omega) | rfl) ?_
  refine jT_xladd (x := p7) (y := -p8) (z := p7 - p8) (pcN := 21) jIQ_39_20 rfl (by omega) rfl ?_
  refine jT_xlstore_n (v := (1, p7 - p8)) (LN := [(2, (1, p7 - p8)), (4, (0, 2)), (0, (4, 0)), (1, (4, 1))]) (pcN := 22) jIQ_39_21 rfl rfl rfl rfl ?_
  refine jT_xiinc (x := 2) (z := 3) (LN := [(4, (0, 3)), (2, (1, p7 - p8)), (0, (4, 0)), (1, (4, 1))]) (pcN := 25) jIQ_39_22 rfl rfl (by decide) rfl rfl ?_
  refine jT_xgoto (pcN := 5) jIQ_39_25 rfl ?_
  refine jT_xiload (v := (0, 3)) (pcN := 7) jIQ_39_5 rfl rfl rfl ?_
  refine jT_xbipush (k := 6) (pcN := 9) jIQ_39_7 (by decide) rfl ?_
  refine jT_xicF (t := 28) (pcN := 12) jIQ_39_9 rfl (by decide +kernel) rfl rfl ?_
  refine jT_xlload_n (v := (1, p7 - p8)) (pcN := 13) jIQ_39_12 rfl rfl rfl ?_
  refine jT_xaload_n (v := (4, 1)) (pcN := 14) jIQ_39_13 rfl rfl rfl ?_
  refine jT_xiload (v := (0, 3)) (pcN := 16) jIQ_39_14 rfl rfl rfl ?_
  refine jT_lald (x := 0) (a := 1) (j := 3) (fs := []) (X := [q1, p7, p8, 0, 0, 0]) jIQ_39_16 rfl rfl rfl rfl ?_
  refine jT_eq (LN := [(4, (0, 3)), (2, (1, p7 - p8)), (0, (4, 0)), (1, (4, 1))]) (stN := [(1, 0), (1, p7 - p8)]) (hsN := [jgh, (101, [], [q1, p7, p8, 0, 0, 0])]) rfl rfl rfl ?_
  refine jT_labs (z := 0) (by rfl) (by rfl) (by rfl) (by rfl) (by decide +kernel) ?_
  refine jT_xladd (x := p7 - p8) (y := 0) (z := p7 - p8) (pcN := 21) jIQ_39_20 rfl (by omega) rfl ?_
  refine jT_xlstore_n (v := (1, p7 - p8)) (LN := [(2, (1, p7 - p8)), (4, (0, 3)), (0, (4, 0)), (1, (4, 1))]) (pcN := 22) jIQ_39_21 rfl rfl rfl rfl ?_
  refine jT_xiinc (x := 3) (z := 4) (LN := [(4, (0, 4)), (2, (1, p7 - p8)), (0, (4, 0)), (1, (4, 1))]) (pcN := 25) jIQ_39_22 rfl rfl (by decide) rfl rfl ?_
  refine jT_xgoto (pcN := 5) jIQ_39_25 rfl ?_
  refine jT_xiload (v := (0, 4)) (pcN := 7) jIQ_39_5 rfl rfl rfl ?_
  refine jT_xbipush (k := 6) (pcN := 9) jIQ_39_7 (by decide) rfl ?_
  refine jT_xicF (t := 28) (pcN := 12) jIQ_39_9 rfl (by decide +kernel) rfl rfl ?_
  refine jT_xlload_n (v := (1, p7 - p8)) (pcN := 13) jIQ_39_12 rfl rfl rfl ?_
  refine jT_xaload_n (v := (4, 1)) (pcN := 14) jIQ_39_13 rfl rfl rfl ?_
  refine jT_xiload (v := (0, 4)) (pcN := 16) jIQ_39_14 rfl rfl rfl ?_
  refine jT_lald (x := 0) (a := 1) (j := 4) (fs := []) (X := [q1, p7, p8, 0, 0, 0]) jIQ_39_16 rfl rfl rfl rfl ?_
  refine jT_eq (LN := [(4, (0, 4)), (2, (1, p7 - p8)), (0, (4, 0)), (1, (4, 1))]) (stN := [(1, 0), (1, p7 - p8)]) (hsN := [jgh, (101, [], [q1, p7, p8, 0, 0, 0])]) rfl rfl rfl ?_
  refine jT_labs (z := 0) (by rfl) (by rfl) (by rfl) (by rfl) (by decide +kernel) ?_
  refine jT_xladd (x := p7 - p8) (y := 0) (z := p7 - p8) (pcN := 21) jIQ_39_20 rfl (by omega) rfl ?_
  refine jT_xlstore_n (v := (1, p7 - p8)) (LN := [(2, (1, p7 - p8)), (4, (0, 4)), (0, (4, 0)), (1, (4, 1))]) (pcN := 22) jIQ_39_21 rfl rfl rfl rfl ?_
  refine jT_xiinc (x := 4) (z := 5) (LN := [(4, (0, 5)), (2, (1, p7 - p8)), (0, (4, 0)), (1, (4, 1))]) (pcN := 25) jIQ_39_22 rfl rfl (by decide) rfl rfl ?_
  refine jT_xgoto (pcN := 5) jIQ_39_25 rfl ?_
  refine jT_xiload (v := (0, 5)) (pcN := 7) jIQ_39_5 rfl rfl rfl ?_
  refine jT_xbipush (k := 6) (pcN := 9) jIQ_39_7 (by decide) rfl ?_
  refine jT_xicF (t := 28) (pcN := 12) jIQ_39_9 rfl (by decide +kernel) rfl rfl ?_
  refine jT_xlload_n (v := (1, p7 - p8)) (pcN := 13) jIQ_39_12 rfl rfl rfl ?_
  refine jT_xaload_n (v := (4, 1)) (pcN := 14) jIQ_39_13 rfl rfl rfl ?_
  refine jT_xiload (v := (0, 5)) (pcN := 16) jIQ_39_14 rfl rfl rfl ?_
  refine jT_lald (x := 0) (a := 1) (j := 5) (fs := []) (X := [q1, p7, p8, 0, 0, 0]) jIQ_39_16 rfl rfl rfl rfl ?_
  refine jT_eq (LN := [(4, (0, 5)), (2, (1, p7 - p8)), (0, (4, 0)), (1, (4, 1))]) (stN := [(1, 0), (1, p7 - p8)]) (hsN := [jgh, (101, [], [q1, p7, p8, 0, 0, 0])]) rfl rfl rfl ?_
  refine jT_labs (z := 0) (by rfl) (by rfl) (by rfl) (by rfl) (by decide +kernel) ?_
  refine jT_xladd (x := p7 - p8) (y := 0) (z := p7 - p8) (pcN := 21) jIQ_39_20 rfl (by omega) rfl ?_
  refine jT_xlstore_n (v := (1, p7 - p8)) (LN := [(2, (1, p7 - p8)), (4, (0, 5)), (0, (4, 0)), (1, (4, 1))]) (pcN := 22) jIQ_39_21 rfl rfl rfl rfl ?_
  refine jT_xiinc (x := 5) (z := 6) (LN := [(4, (0, 6)), (2, (1, p7 - p8)), (0, (4, 0)), (1, (4, 1))]) (pcN := 25) jIQ_39_22 rfl rfl (by decide) rfl rfl ?_
  refine jT_xgoto (pcN := 5) jIQ_39_25 rfl ?_
  refine jT_xiload (v := (0, 6)) (pcN := 7) jIQ_39_5 rfl rfl rfl ?_
  refine jT_xbipush (k := 6) (pcN := 9) jIQ_39_7 (by decide) rfl ?_
  refine jT_xicT (pcN := 28) jIQ_39_9 rfl (by decide +kernel) rfl ?_
  refine jT_xlload_n (v := (1, p7 - p8)) (pcN := 29) jIQ_39_28 rfl rfl rfl ?_
  exact jT_ret rfl (by decide) (by show 2 ≤ 2; omega) (by omega) (by omega) ⟨rfl, rfl, rfl⟩
theorem jQ_40_158 {xs : List Int} {d : Nat} {p7 p8 q1 : Int} (h_p7 : (-20) ≤ p7 ∧ p7 ≤ 20) (h_p8 : (-10) ≤ p8 ∧ p8 ≤ 10) (h_q1 : (-60) ≤ q1 ∧ q1 ≤ 60) (g_0 : 0 ≤ (-108917793694) * p7 - 159561683698 * p8 - 68719476736 * q1 - 1) (g_1 : 0 ≤ (-108917793694) * p7 - 159561683700 * p8 - 68719476736 * q1 - 1) (g_2 : 0 ≤ (-108917793696) * p7 - 159561683698 * p8 - 68719476736 * q1 - 1) (g_3 : 0 ≤ (-108917793696) * p7 - 159561683700 * p8 - 68719476736 * q1 - 1) (g_4 : 0 ≤ p7) (g_5 : p8 < 0) (g_6 : 0 ≤ q1) : jT xs d 40 2 0 [(0, (4, 0)), (1, (4, 1)), (2, (1, p7 - p8))] [] [jgh, (101, [], [q1, p7, p8, 0, 0, 0])] 0 0 (fun k v hsN => k = 0 ∧ v = (0, 1) ∧ hsN = [jgh, (101, [], [q1, p7, p8, 0, 0, 0])] ++ []) := by
  refine jT_xlload_n (v := (1, p7 - p8)) (pcN := 1) jIQ_40_0 rfl rfl rfl ?_
  refine jT_adv 1 (pcN := 4) (LN := [(0, (4, 0)), (1, (4, 1)), (2, (1, p7 - p8))]) (stN := [(1, 16777216), (1, p7 - p8)]) (hsN := [jgh, (101, [], [q1, p7, p8, 0, 0, 0])]) (c1 := 0) (s1 := 0) (c2 := 0) (s2 := 0) (by exact rfl) ?_ (by omega) (by omega)
  refine jT_lcmp (a := p7 - p8) (b := 16777216) (z := (-1)) (by rfl) (by rfl) (jwl_idd (by omega) (by omega)) (jwl_idd (by omega) (by omega)) (by rw [decide_eq_false (show ¬ ((16777216 : Int) < p7 - p8) by omega), decide_eq_false (show ¬ ((p7 - p8 : Int) = 16777216) by omega)]; rfl) ?_
  refine jT_xifF (t := 25) (pcN := 8) jIQ_40_5 rfl (by decide +kernel) rfl rfl ?_
  refine jT_xaload_n (v := (4, 1)) (pcN := 9) jIQ_40_8 rfl rfl rfl ?_
  refine jT_xiconst (k := 0) (pcN := 10) jIQ_40_9 rfl ?_
  refine jT_lald (x := q1) (a := 1) (j := 0) (fs := []) (X := [q1, p7, p8, 0, 0, 0]) jIQ_40_10 rfl rfl rfl rfl ?_
  refine jT_eq (LN := [(0, (4, 0)), (1, (4, 1)), (2, (1, p7 - p8))]) (stN := [(1, q1)]) (hsN := [jgh, (101, [], [q1, p7, p8, 0, 0, 0])]) rfl rfl rfl ?_
  refine jT_labs (z := q1) (by rfl) (by rfl) (by rfl) (by rfl) (by rw [show jwl (q1) = q1 from jwl_idd (by omega) (by omega), decide_eq_false (by omega)]; first | (simp only [cond_true, cond_false]; done) | (simp only [cond_true, cond_false]; omega) | rfl) ?_
  refine jT_adv 1 (pcN := 17) (LN := [(0, (4, 0)), (1, (4, 1)), (2, (1, p7 - p8))]) (stN := [(1, 16777216), (1, q1)]) (hsN := [jgh, (101, [], [q1, p7, p8, 0, 0, 0])]) (c1 := 0) (s1 := 0) (c2 := 0) (s2 := 0) (by exact rfl) ?_ (by omega) (by omega)
  refine jT_lcmp (a := q1) (b := 16777216) (z := (-1)) (by rfl) (by rfl) (jwl_idd (by omega) (by omega)) (jwl_idd (by omega) (by omega)) (by rw [decide_eq_false (show ¬ ((16777216 : Int) < q1) by omega), decide_eq_false (show ¬ ((q1 : Int) = 16777216) by omega)]; rfl) ?_
  refine jT_xifF (t := 25) (pcN := 21) jIQ_40_18 rfl (by decide +kernel) rfl rfl ?_
  refine jT_xiconst (k := 1) (pcN := 22) jIQ_40_21 rfl ?_
  refine jT_xgoto (pcN := 26) jIQ_40_22 rfl ?_
  exact jT_ret rfl (by decide) (by show 2 ≤ 2; omega) (by omega) (by omega) ⟨rfl, rfl, rfl⟩
theorem jQ_41_159 {xs : List Int} {d : Nat} {p7 p8 q1 : Int} (h_p7 : (-20) ≤ p7 ∧ p7 ≤ 20) (h_p8 : (-10) ≤ p8 ∧ p8 ≤ 10) (h_q1 : (-60) ≤ q1 ∧ q1 ≤ 60) (g_0 : 0 ≤ (-108917793694) * p7 - 159561683698 * p8 - 68719476736 * q1 - 1) (g_1 : 0 ≤ (-108917793694) * p7 - 159561683700 * p8 - 68719476736 * q1 - 1) (g_2 : 0 ≤ (-108917793696) * p7 - 159561683698 * p8 - 68719476736 * q1 - 1) (g_3 : 0 ≤ (-108917793696) * p7 - 159561683700 * p8 - 68719476736 * q1 - 1) (g_4 : 0 ≤ p7) (g_5 : p8 < 0) (g_6 : 0 ≤ q1) : jT xs d 41 2 0 [(0, (4, 0)), (1, (4, 1))] [] [jgh, (101, [], [q1, p7, p8, 0, 0, 0])] 0 0 (fun k v hsN => k = 0 ∧ v = (1, 108917793695 * p7 + 159561683699 * p8 + 68719476736 * q1) ∧ hsN = [jgh, (101, [], [q1, p7, p8, 0, 0, 0])] ++ []) := by
  refine jT_xlconst (z := 0) (pcN := 1) jIQ_41_0 rfl rfl ?_
  refine jT_xlstore_n (v := (1, 0)) (LN := [(2, (1, 0)), (0, (4, 0)), (1, (4, 1))]) (pcN := 2) jIQ_41_1 rfl rfl rfl rfl ?_
  refine jT_xiconst (k := 0) (pcN := 3) jIQ_41_2 rfl ?_
  refine jT_xistore (v := (0, 0)) (LN := [(4, (0, 0)), (2, (1, 0)), (0, (4, 0)), (1, (4, 1))]) (pcN := 5) jIQ_41_3 rfl rfl rfl rfl ?_
  refine jT_xiload (v := (0, 0)) (pcN := 7) jIQ_41_5 rfl rfl rfl ?_
  refine jT_xbipush (k := 6) (pcN := 9) jIQ_41_7 (by decide) rfl ?_
  refine jT_xicF (t := 32) (pcN := 12) jIQ_41_9 rfl (by decide +kernel) rfl rfl ?_
  refine jT_xlload_n (v := (1, 0)) (pcN := 13) jIQ_41_12 rfl rfl rfl ?_
  refine jT_xaload_n (v := (4, 1)) (pcN := 14) jIQ_41_13 rfl rfl rfl ?_
  refine jT_xiload (v := (0, 0)) (pcN := 16) jIQ_41_14 rfl rfl rfl ?_
  refine jT_lald (x := q1) (a := 1) (j := 0) (fs := []) (X := [q1, p7, p8, 0, 0, 0]) jIQ_41_16 rfl rfl rfl rfl ?_
  refine jT_eq (LN := [(4, (0, 0)), (2, (1, 0)), (0, (4, 0)), (1, (4, 1))]) (stN := [(1, q1), (1, 0)]) (hsN := [jgh, (101, [], [q1, p7, p8, 0, 0, 0])]) rfl rfl rfl ?_
  refine jT_adv 1 (pcN := 20) (LN := [(4, (0, 0)), (2, (1, 0)), (0, (4, 0)), (1, (4, 1))]) (stN := [(5, 0), (1, q1), (1, 0)]) (hsN := [jgh, (101, [], [q1, p7, p8, 0, 0, 0])]) (c1 := 0) (s1 := 0) (c2 := 0) (s2 := 0) (by exact rfl) ?_ (by omega) (by omega)
  refine jT_xiload (v := (0, 0)) (pcN := 22) jIQ_41_20 rfl rfl rfl ?_
  refine jT_adv 1 (pcN := 23) (LN := [(4, (0, 0)), (2, (1, 0)), (0, (4, 0)), (1, (4, 1))]) (stN := [(1, 68719476736), (1, q1), (1, 0)]) (hsN := [jgh, (101, [], [q1, p7, p8, 0, 0, 0])]) (c1 := 0) (s1 := 0) (c2 := 0) (s2 := 0) (by exact rfl) ?_ (by omega) (by omega)
  refine jT_xlmul (x := q1) (y := 68719476736) (z := 68719476736 * q1) (pcN := 24) jIQ_41_23 rfl (by omega) rfl ?_
  refine jT_xladd (x := 0) (y := 68719476736 * q1) (z := 68719476736 * q1) (pcN := 25) jIQ_41_24 rfl (by omega) rfl ?_
  refine jT_xlstore_n (v := (1, 68719476736 * q1)) (LN := [(2, (1, 68719476736 * q1)), (4, (0, 0)), (0, (4, 0)), (1, (4, 1))]) (pcN := 26) jIQ_41_25 rfl rfl rfl rfl ?_
  refine jT_xiinc (x := 0) (z := 1) (LN := [(4, (0, 1)), (2, (1, 68719476736 * q1)), (0, (4, 0)), (1, (4, 1))]) (pcN := 29) jIQ_41_26 rfl rfl (by decide) rfl rfl ?_
  refine jT_xgoto (pcN := 5) jIQ_41_29 rfl ?_
  refine jT_xiload (v := (0, 1)) (pcN := 7) jIQ_41_5 rfl rfl rfl ?_
  refine jT_xbipush (k := 6) (pcN := 9) jIQ_41_7 (by decide) rfl ?_
  refine jT_xicF (t := 32) (pcN := 12) jIQ_41_9 rfl (by decide +kernel) rfl rfl ?_
  refine jT_xlload_n (v := (1, 68719476736 * q1)) (pcN := 13) jIQ_41_12 rfl rfl rfl ?_
  refine jT_xaload_n (v := (4, 1)) (pcN := 14) jIQ_41_13 rfl rfl rfl ?_
  refine jT_xiload (v := (0, 1)) (pcN := 16) jIQ_41_14 rfl rfl rfl ?_
  refine jT_lald (x := p7) (a := 1) (j := 1) (fs := []) (X := [q1, p7, p8, 0, 0, 0]) jIQ_41_16 rfl rfl rfl rfl ?_
  refine jT_eq (LN := [(4, (0, 1)), (2, (1, 68719476736 * q1)), (0, (4, 0)), (1, (4, 1))]) (stN := [(1, p7), (1, 68719476736 * q1)]) (hsN := [jgh, (101, [], [q1, p7, p8, 0, 0, 0])]) rfl rfl rfl ?_
  refine jT_adv 1 (pcN := 20) (LN := [(4, (0, 1)), (2, (1, 68719476736 * q1)), (0, (4, 0)), (1, (4, 1))]) (stN := [(5, 0), (1, p7), (1, 68719476736 * q1)]) (hsN := [jgh, (101, [], [q1, p7, p8, 0, 0, 0])]) (c1 := 0) (s1 := 0) (c2 := 0) (s2 := 0) (by exact rfl) ?_ (by omega) (by omega)
  refine jT_xiload (v := (0, 1)) (pcN := 22) jIQ_41_20 rfl rfl rfl ?_
  refine jT_adv 1 (pcN := 23) (LN := [(4, (0, 1)), (2, (1, 68719476736 * q1)), (0, (4, 0)), (1, (4, 1))]) (stN := [(1, 108917793695), (1, p7), (1, 68719476736 * q1)]) (hsN := [jgh, (101, [], [q1, p7, p8, 0, 0, 0])]) (c1 := 0) (s1 := 0) (c2 := 0) (s2 := 0) (by exact rfl) ?_ (by omega) (by omega)
  refine jT_xlmul (x := p7) (y := 108917793695) (z := 108917793695 * p7) (pcN := 24) jIQ_41_23 rfl (by omega) rfl ?_
  refine jT_xladd (x := 68719476736 * q1) (y := 108917793695 * p7) (z := 108917793695 * p7 + 68719476736 * q1) (pcN := 25) jIQ_41_24 rfl (by omega) rfl ?_
  refine jT_xlstore_n (v := (1, 108917793695 * p7 + 68719476736 * q1)) (LN := [(2, (1, 108917793695 * p7 + 68719476736 * q1)), (4, (0, 1)), (0, (4, 0)), (1, (4, 1))]) (pcN := 26) jIQ_41_25 rfl rfl rfl rfl ?_
  refine jT_xiinc (x := 1) (z := 2) (LN := [(4, (0, 2)), (2, (1, 108917793695 * p7 + 68719476736 * q1)), (0, (4, 0)), (1, (4, 1))]) (pcN := 29) jIQ_41_26 rfl rfl (by decide) rfl rfl ?_
  refine jT_xgoto (pcN := 5) jIQ_41_29 rfl ?_
  refine jT_xiload (v := (0, 2)) (pcN := 7) jIQ_41_5 rfl rfl rfl ?_
  refine jT_xbipush (k := 6) (pcN := 9) jIQ_41_7 (by decide) rfl ?_
  refine jT_xicF (t := 32) (pcN := 12) jIQ_41_9 rfl (by decide +kernel) rfl rfl ?_
  refine jT_xlload_n (v := (1, 108917793695 * p7 + 68719476736 * q1)) (pcN := 13) jIQ_41_12 rfl rfl rfl ?_
  refine jT_xaload_n (v := (4, 1)) (pcN := 14) jIQ_41_13 rfl rfl rfl ?_
  refine jT_xiload (v := (0, 2)) (pcN := 16) jIQ_41_14 rfl rfl rfl ?_
  refine jT_lald (x := p8) (a := 1) (j := 2) (fs := []) (X := [q1, p7, p8, 0, 0, 0]) jIQ_41_16 rfl rfl rfl rfl ?_
  refine jT_eq (LN := [(4, (0, 2)), (2, (1, 108917793695 * p7 + 68719476736 * q1)), (0, (4, 0)), (1, (4, 1))]) (stN := [(1, p8), (1, 108917793695 * p7 + 68719476736 * q1)]) (hsN := [jgh, (101, [], [q1, p7, p8, 0, 0, 0])]) rfl rfl rfl ?_
  refine jT_adv 1 (pcN := 20) (LN := [(4, (0, 2)), (2, (1, 108917793695 * p7 + 68719476736 * q1)), (0, (4, 0)), (1, (4, 1))]) (stN := [(5, 0), (1, p8), (1, 108917793695 * p7 + 68719476736 * q1)]) (hsN := [jgh, (101, [], [q1, p7, p8, 0, 0, 0])]) (c1 := 0) (s1 := 0) (c2 := 0) (s2 := 0) (by exact rfl) ?_ (by omega) (by omega)
  refine jT_xiload (v := (0, 2)) (pcN := 22) jIQ_41_20 rfl rfl rfl ?_
  refine jT_adv 1 (pcN := 23) (LN := [(4, (0, 2)), (2, (1, 108917793695 * p7 + 68719476736 * q1)), (0, (4, 0)), (1, (4, 1))]) (stN := [(1, 159561683699), (1, p8), (1, 108917793695 * p7 + 68719476736 * q1)]) (hsN := [jgh, (101, [], [q1, p7, p8, 0, 0, 0])]) (c1 := 0) (s1 := 0) (c2 := 0) (s2 := 0) (by exact rfl) ?_ (by omega) (by omega)
  refine jT_xlmul (x := p8) (y := 159561683699) (z := 159561683699 * p8) (pcN := 24) jIQ_41_23 rfl (by omega) rfl ?_
  refine jT_xladd (x := 108917793695 * p7 + 68719476736 * q1) (y := 159561683699 * p8) (z := 108917793695 * p7 + 159561683699 * p8 + 68719476736 * q1) (pcN := 25) jIQ_41_24 rfl (by omega) rfl ?_
  refine jT_xlstore_n (v := (1, 108917793695 * p7 + 159561683699 * p8 + 68719476736 * q1)) (LN := [(2, (1, 108917793695 * p7 + 159561683699 * p8 + 68719476736 * q1)), (4, (0, 2)), (0, (4, 0)), (1, (4, 1))]) (pcN := 26) jIQ_41_25 rfl rfl rfl rfl ?_
  refine jT_xiinc (x := 2) (z := 3) (LN := [(4, (0, 3)), (2, (1, 108917793695 * p7 + 159561683699 * p8 + 68719476736 * q1)), (0, (4, 0)), (1, (4, 1))]) (pcN := 29) jIQ_41_26 rfl rfl (by decide) rfl rfl ?_
  refine jT_xgoto (pcN := 5) jIQ_41_29 rfl ?_
  refine jT_xiload (v := (0, 3)) (pcN := 7) jIQ_41_5 rfl rfl rfl ?_
  refine jT_xbipush (k := 6) (pcN := 9) jIQ_41_7 (by decide) rfl ?_
  refine jT_xicF (t := 32) (pcN := 12) jIQ_41_9 rfl (by decide +kernel) rfl rfl ?_
  refine jT_xlload_n (v := (1, 108917793695 * p7 + 159561683699 * p8 + 68719476736 * q1)) (pcN := 13) jIQ_41_12 rfl rfl rfl ?_
  refine jT_xaload_n (v := (4, 1)) (pcN := 14) jIQ_41_13 rfl rfl rfl ?_
  refine jT_xiload (v := (0, 3)) (pcN := 16) jIQ_41_14 rfl rfl rfl ?_
  refine jT_lald (x := 0) (a := 1) (j := 3) (fs := []) (X := [q1, p7, p8, 0, 0, 0]) jIQ_41_16 rfl rfl rfl rfl ?_
  refine jT_eq (LN := [(4, (0, 3)), (2, (1, 108917793695 * p7 + 159561683699 * p8 + 68719476736 * q1)), (0, (4, 0)), (1, (4, 1))]) (stN := [(1, 0), (1, 108917793695 * p7 + 159561683699 * p8 + 68719476736 * q1)]) (hsN := [jgh, (101, [], [q1, p7, p8, 0, 0, 0])]) rfl rfl rfl ?_
  refine jT_adv 1 (pcN := 20) (LN := [(4, (0, 3)), (2, (1, 108917793695 * p7 + 159561683699 * p8 + 68719476736 * q1)), (0, (4, 0)), (1, (4, 1))]) (stN := [(5, 0), (1, 0), (1, 108917793695 * p7 + 159561683699 * p8 + 68719476736 * q1)]) (hsN := [jgh, (101, [], [q1, p7, p8, 0, 0, 0])]) (c1 := 0) (s1 := 0) (c2 := 0) (s2 := 0) (by exact rfl) ?_ (by omega) (by omega)
  refine jT_xiload (v := (0, 3)) (pcN := 22) jIQ_41_20 rfl rfl rfl ?_
  refine jT_adv 1 (pcN := 23) (LN := [(4, (0, 3)), (2, (1, 108917793695 * p7 + 159561683699 * p8 + 68719476736 * q1)), (0, (4, 0)), (1, (4, 1))]) (stN := [(1, 192919961256), (1, 0), (1, 108917793695 * p7 + 159561683699 * p8 + 68719476736 * q1)]) (hsN := [jgh, (101, [], [q1, p7, p8, 0, 0, 0])]) (c1 := 0) (s1 := 0) (c2 := 0) (s2 := 0) (by exact rfl) ?_ (by omega) (by omega)
  refine jT_xlmul (x := 0) (y := 192919961256) (z := 0) (pcN := 24) jIQ_41_23 rfl (by decide) rfl ?_
  refine jT_xladd (x := 108917793695 * p7 + 159561683699 * p8 + 68719476736 * q1) (y := 0) (z := 108917793695 * p7 + 159561683699 * p8 + 68719476736 * q1) (pcN := 25) jIQ_41_24 rfl (by omega) rfl ?_
  refine jT_xlstore_n (v := (1, 108917793695 * p7 + 159561683699 * p8 + 68719476736 * q1)) (LN := [(2, (1, 108917793695 * p7 + 159561683699 * p8 + 68719476736 * q1)), (4, (0, 3)), (0, (4, 0)), (1, (4, 1))]) (pcN := 26) jIQ_41_25 rfl rfl rfl rfl ?_
  refine jT_xiinc (x := 3) (z := 4) (LN := [(4, (0, 4)), (2, (1, 108917793695 * p7 + 159561683699 * p8 + 68719476736 * q1)), (0, (4, 0)), (1, (4, 1))]) (pcN := 29) jIQ_41_26 rfl rfl (by decide) rfl rfl ?_
  refine jT_xgoto (pcN := 5) jIQ_41_29 rfl ?_
  refine jT_xiload (v := (0, 4)) (pcN := 7) jIQ_41_5 rfl rfl rfl ?_
  refine jT_xbipush (k := 6) (pcN := 9) jIQ_41_7 (by decide) rfl ?_
  refine jT_xicF (t := 32) (pcN := 12) jIQ_41_9 rfl (by decide +kernel) rfl rfl ?_
  refine jT_xlload_n (v := (1, 108917793695 * p7 + 159561683699 * p8 + 68719476736 * q1)) (pcN := 13) jIQ_41_12 rfl rfl rfl ?_
  refine jT_xaload_n (v := (4, 1)) (pcN := 14) jIQ_41_13 rfl rfl rfl ?_
  refine jT_xiload (v := (0, 4)) (pcN := 16) jIQ_41_14 rfl rfl rfl ?_
  refine jT_lald (x := 0) (a := 1) (j := 4) (fs := []) (X := [q1, p7, p8, 0, 0, 0]) jIQ_41_16 rfl rfl rfl rfl ?_
  refine jT_eq (LN := [(4, (0, 4)), (2, (1, 108917793695 * p7 + 159561683699 * p8 + 68719476736 * q1)), (0, (4, 0)), (1, (4, 1))]) (stN := [(1, 0), (1, 108917793695 * p7 + 159561683699 * p8 + 68719476736 * q1)]) (hsN := [jgh, (101, [], [q1, p7, p8, 0, 0, 0])]) rfl rfl rfl ?_
  refine jT_adv 1 (pcN := 20) (LN := [(4, (0, 4)), (2, (1, 108917793695 * p7 + 159561683699 * p8 + 68719476736 * q1)), (0, (4, 0)), (1, (4, 1))]) (stN := [(5, 0), (1, 0), (1, 108917793695 * p7 + 159561683699 * p8 + 68719476736 * q1)]) (hsN := [jgh, (101, [], [q1, p7, p8, 0, 0, 0])]) (c1 := 0) (s1 := 0) (c2 := 0) (s2 := 0) (by exact rfl) ?_ (by omega) (by omega)
  refine jT_xiload (v := (0, 4)) (pcN := 22) jIQ_41_20 rfl rfl rfl ?_
  refine jT_adv 1 (pcN := 23) (LN := [(4, (0, 4)), (2, (1, 108917793695 * p7 + 159561683699 * p8 + 68719476736 * q1)), (0, (4, 0)), (1, (4, 1))]) (stN := [(1, 237730330636), (1, 0), (1, 108917793695 * p7 + 159561683699 * p8 + 68719476736 * q1)]) (hsN := [jgh, (101, [], [q1, p7, p8, 0, 0, 0])]) (c1 := 0) (s1 := 0) (c2 := 0) (s2 := 0) (by exact rfl) ?_ (by omega) (by omega)
  refine jT_xlmul (x := 0) (y := 237730330636) (z := 0) (pcN := 24) jIQ_41_23 rfl (by decide) rfl ?_
  refine jT_xladd (x := 108917793695 * p7 + 159561683699 * p8 + 68719476736 * q1) (y := 0) (z := 108917793695 * p7 + 159561683699 * p8 + 68719476736 * q1) (pcN := 25) jIQ_41_24 rfl (by omega) rfl ?_
  refine jT_xlstore_n (v := (1, 108917793695 * p7 + 159561683699 * p8 + 68719476736 * q1)) (LN := [(2, (1, 108917793695 * p7 + 159561683699 * p8 + 68719476736 * q1)), (4, (0, 4)), (0, (4, 0)), (1, (4, 1))]) (pcN := 26) jIQ_41_25 rfl rfl rfl rfl ?_
  refine jT_xiinc (x := 4) (z := 5) (LN := [(4, (0, 5)), (2, (1, 108917793695 * p7 + 159561683699 * p8 + 68719476736 * q1)), (0, (4, 0)), (1, (4, 1))]) (pcN := 29) jIQ_41_26 rfl rfl (by decide) rfl rfl ?_
  refine jT_xgoto (pcN := 5) jIQ_41_29 rfl ?_
  refine jT_xiload (v := (0, 5)) (pcN := 7) jIQ_41_5 rfl rfl rfl ?_
  refine jT_xbipush (k := 6) (pcN := 9) jIQ_41_7 (by decide) rfl ?_
  refine jT_xicF (t := 32) (pcN := 12) jIQ_41_9 rfl (by decide +kernel) rfl rfl ?_
  refine jT_xlload_n (v := (1, 108917793695 * p7 + 159561683699 * p8 + 68719476736 * q1)) (pcN := 13) jIQ_41_12 rfl rfl rfl ?_
  refine jT_xaload_n (v := (4, 1)) (pcN := 14) jIQ_41_13 rfl rfl rfl ?_
  refine jT_xiload (v := (0, 5)) (pcN := 16) jIQ_41_14 rfl rfl rfl ?_
  refine jT_lald (x := 0) (a := 1) (j := 5) (fs := []) (X := [q1, p7, p8, 0, 0, 0]) jIQ_41_16 rfl rfl rfl rfl ?_
  refine jT_eq (LN := [(4, (0, 5)), (2, (1, 108917793695 * p7 + 159561683699 * p8 + 68719476736 * q1)), (0, (4, 0)), (1, (4, 1))]) (stN := [(1, 0), (1, 108917793695 * p7 + 159561683699 * p8 + 68719476736 * q1)]) (hsN := [jgh, (101, [], [q1, p7, p8, 0, 0, 0])]) rfl rfl rfl ?_
  refine jT_adv 1 (pcN := 20) (LN := [(4, (0, 5)), (2, (1, 108917793695 * p7 + 159561683699 * p8 + 68719476736 * q1)), (0, (4, 0)), (1, (4, 1))]) (stN := [(5, 0), (1, 0), (1, 108917793695 * p7 + 159561683699 * p8 + 68719476736 * q1)]) (hsN := [jgh, (101, [], [q1, p7, p8, 0, 0, 0])]) (c1 := 0) (s1 := 0) (c2 := 0) (s2 := 0) (by exact rfl) ?_ (by omega) (by omega)
  refine jT_xiload (v := (0, 5)) (pcN := 22) jIQ_41_20 rfl rfl rfl ?_
  refine jT_adv 1 (pcN := 23) (LN := [(4, (0, 5)), (2, (1, 108917793695 * p7 + 159561683699 * p8 + 68719476736 * q1)), (0, (4, 0)), (1, (4, 1))]) (stN := [(1, 254292281123), (1, 0), (1, 108917793695 * p7 + 159561683699 * p8 + 68719476736 * q1)]) (hsN := [jgh, (101, [], [q1, p7, p8, 0, 0, 0])]) (c1 := 0) (s1 := 0) (c2 := 0) (s2 := 0) (by exact rfl) ?_ (by omega) (by omega)
  refine jT_xlmul (x := 0) (y := 254292281123) (z := 0) (pcN := 24) jIQ_41_23 rfl (by decide) rfl ?_
  refine jT_xladd (x := 108917793695 * p7 + 159561683699 * p8 + 68719476736 * q1) (y := 0) (z := 108917793695 * p7 + 159561683699 * p8 + 68719476736 * q1) (pcN := 25) jIQ_41_24 rfl (by omega) rfl ?_
  refine jT_xlstore_n (v := (1, 108917793695 * p7 + 159561683699 * p8 + 68719476736 * q1)) (LN := [(2, (1, 108917793695 * p7 + 159561683699 * p8 + 68719476736 * q1)), (4, (0, 5)), (0, (4, 0)), (1, (4, 1))]) (pcN := 26) jIQ_41_25 rfl rfl rfl rfl ?_
  refine jT_xiinc (x := 5) (z := 6) (LN := [(4, (0, 6)), (2, (1, 108917793695 * p7 + 159561683699 * p8 + 68719476736 * q1)), (0, (4, 0)), (1, (4, 1))]) (pcN := 29) jIQ_41_26 rfl rfl (by decide) rfl rfl ?_
  refine jT_xgoto (pcN := 5) jIQ_41_29 rfl ?_
  refine jT_xiload (v := (0, 6)) (pcN := 7) jIQ_41_5 rfl rfl rfl ?_
  refine jT_xbipush (k := 6) (pcN := 9) jIQ_41_7 (by decide) rfl ?_
  refine jT_xicT (pcN := 32) jIQ_41_9 rfl (by decide +kernel) rfl ?_
  refine jT_xlload_n (v := (1, 108917793695 * p7 + 159561683699 * p8 + 68719476736 * q1)) (pcN := 33) jIQ_41_32 rfl rfl rfl ?_
  exact jT_ret rfl (by decide) (by show 2 ≤ 2; omega) (by omega) (by omega) ⟨rfl, rfl, rfl⟩
theorem jQ_39_160 {xs : List Int} {d : Nat} {p7 p8 q1 : Int} (h_p7 : (-20) ≤ p7 ∧ p7 ≤ 20) (h_p8 : (-10) ≤ p8 ∧ p8 ≤ 10) (h_q1 : (-60) ≤ q1 ∧ q1 ≤ 60) (g_0 : 0 ≤ (-108917793694) * p7 - 159561683698 * p8 - 68719476736 * q1 - 1) (g_1 : 0 ≤ (-108917793694) * p7 - 159561683700 * p8 - 68719476736 * q1 - 1) (g_2 : 0 ≤ (-108917793696) * p7 - 159561683698 * p8 - 68719476736 * q1 - 1) (g_3 : 0 ≤ (-108917793696) * p7 - 159561683700 * p8 - 68719476736 * q1 - 1) (g_4 : 0 ≤ p7) (g_5 : p8 < 0) (g_6 : 0 ≤ q1) (g_7 : 108917793695 * p7 + 159561683699 * p8 + 68719476736 * q1 - 1 < 0) : jT xs d 39 2 0 [(0, (4, 0)), (1, (4, 1))] [] [jgh, (101, [], [q1, p7, p8, 0, 0, 0])] 0 0 (fun k v hsN => k = 0 ∧ v = (1, p7 - p8) ∧ hsN = [jgh, (101, [], [q1, p7, p8, 0, 0, 0])] ++ []) := by
  refine jT_xlconst (z := 0) (pcN := 1) jIQ_39_0 rfl rfl ?_
  refine jT_xlstore_n (v := (1, 0)) (LN := [(2, (1, 0)), (0, (4, 0)), (1, (4, 1))]) (pcN := 2) jIQ_39_1 rfl rfl rfl rfl ?_
  refine jT_xiconst (k := 1) (pcN := 3) jIQ_39_2 rfl ?_
  refine jT_xistore (v := (0, 1)) (LN := [(4, (0, 1)), (2, (1, 0)), (0, (4, 0)), (1, (4, 1))]) (pcN := 5) jIQ_39_3 rfl rfl rfl rfl ?_
  refine jT_xiload (v := (0, 1)) (pcN := 7) jIQ_39_5 rfl rfl rfl ?_
  refine jT_xbipush (k := 6) (pcN := 9) jIQ_39_7 (by decide) rfl ?_
  refine jT_xicF (t := 28) (pcN := 12) jIQ_39_9 rfl (by decide +kernel) rfl rfl ?_
  refine jT_xlload_n (v := (1, 0)) (pcN := 13) jIQ_39_12 rfl rfl rfl ?_
  refine jT_xaload_n (v := (4, 1)) (pcN := 14) jIQ_39_13 rfl rfl rfl ?_
  refine jT_xiload (v := (0, 1)) (pcN := 16) jIQ_39_14 rfl rfl rfl ?_
  refine jT_lald (x := p7) (a := 1) (j := 1) (fs := []) (X := [q1, p7, p8, 0, 0, 0]) jIQ_39_16 rfl rfl rfl rfl ?_
  refine jT_eq (LN := [(4, (0, 1)), (2, (1, 0)), (0, (4, 0)), (1, (4, 1))]) (stN := [(1, p7), (1, 0)]) (hsN := [jgh, (101, [], [q1, p7, p8, 0, 0, 0])]) rfl rfl rfl ?_
  refine jT_labs (z := p7) (by rfl) (by rfl) (by rfl) (by rfl) (by rw [show jwl (p7) = p7 from jwl_idd (by omega) (by omega), decide_eq_false (by omega)]; first | (simp only [cond_true, cond_false]; done) | (simp only [cond_true, cond_false]; omega) | rfl) ?_
  refine jT_xladd (x := 0) (y := p7) (z := p7) (pcN := 21) jIQ_39_20 rfl (by omega) rfl ?_
  refine jT_xlstore_n (v := (1, p7)) (LN := [(2, (1, p7)), (4, (0, 1)), (0, (4, 0)), (1, (4, 1))]) (pcN := 22) jIQ_39_21 rfl rfl rfl rfl ?_
  refine jT_xiinc (x := 1) (z := 2) (LN := [(4, (0, 2)), (2, (1, p7)), (0, (4, 0)), (1, (4, 1))]) (pcN := 25) jIQ_39_22 rfl rfl (by decide) rfl rfl ?_
  refine jT_xgoto (pcN := 5) jIQ_39_25 rfl ?_
  refine jT_xiload (v := (0, 2)) (pcN := 7) jIQ_39_5 rfl rfl rfl ?_
  refine jT_xbipush (k := 6) (pcN := 9) jIQ_39_7 (by decide) rfl ?_
  refine jT_xicF (t := 28) (pcN := 12) jIQ_39_9 rfl (by decide +kernel) rfl rfl ?_
  refine jT_xlload_n (v := (1, p7)) (pcN := 13) jIQ_39_12 rfl rfl rfl ?_
  refine jT_xaload_n (v := (4, 1)) (pcN := 14) jIQ_39_13 rfl rfl rfl ?_
  refine jT_xiload (v := (0, 2)) (pcN := 16) jIQ_39_14 rfl rfl rfl ?_
  refine jT_lald (x := p8) (a := 1) (j := 2) (fs := []) (X := [q1, p7, p8, 0, 0, 0]) jIQ_39_16 rfl rfl rfl rfl ?_
  refine jT_eq (LN := [(4, (0, 2)), (2, (1, p7)), (0, (4, 0)), (1, (4, 1))]) (stN := [(1, p8), (1, p7)]) (hsN := [jgh, (101, [], [q1, p7, p8, 0, 0, 0])]) rfl rfl rfl ?_
  refine jT_labs (z := -p8) (by rfl) (by rfl) (by rfl) (by rfl) (by rw [show jwl (p8) = p8 from jwl_idd (by omega) (by omega), decide_eq_true (by omega)]; first | (simp only [cond_true, cond_false]; done) | (simp only [cond_true, cond_false]; omega) | rfl) ?_
  refine jT_xladd (x := p7) (y := -p8) (z := p7 - p8) (pcN := 21) jIQ_39_20 rfl (by omega) rfl ?_
  refine jT_xlstore_n (v := (1, p7 - p8)) (LN := [(2, (1, p7 - p8)), (4, (0, 2)), (0, (4, 0)), (1, (4, 1))]) (pcN := 22) jIQ_39_21 rfl rfl rfl rfl ?_
  refine jT_xiinc (x := 2) (z := 3) (LN := [(4, (0, 3)), (2, (1, p7 - p8)), (0, (4, 0)), (1, (4, 1))]) (pcN := 25) jIQ_39_22 rfl rfl (by decide) rfl rfl ?_
  refine jT_xgoto (pcN := 5) jIQ_39_25 rfl ?_
  refine jT_xiload (v := (0, 3)) (pcN := 7) jIQ_39_5 rfl rfl rfl ?_
  refine jT_xbipush (k := 6) (pcN := 9) jIQ_39_7 (by decide) rfl ?_
  refine jT_xicF (t := 28) (pcN := 12) jIQ_39_9 rfl (by decide +kernel) rfl rfl ?_
  refine jT_xlload_n (v := (1, p7 - p8)) (pcN := 13) jIQ_39_12 rfl rfl rfl ?_
  refine jT_xaload_n (v := (4, 1)) (pcN := 14) jIQ_39_13 rfl rfl rfl ?_
  refine jT_xiload (v := (0, 3)) (pcN := 16) jIQ_39_14 rfl rfl rfl ?_
  refine jT_lald (x := 0) (a := 1) (j := 3) (fs := []) (X := [q1, p7, p8, 0, 0, 0]) jIQ_39_16 rfl rfl rfl rfl ?_
  refine jT_eq (LN := [(4, (0, 3)), (2, (1, p7 - p8)), (0, (4, 0)), (1, (4, 1))]) (stN := [(1, 0), (1, p7 - p8)]) (hsN := [jgh, (101, [], [q1, p7, p8, 0, 0, 0])]) rfl rfl rfl ?_
  refine jT_labs (z := 0) (by rfl) (by rfl) (by rfl) (by rfl) (by decide +kernel) ?_
  refine jT_xladd (x := p7 - p8) (y := 0) (z := p7 - p8) (pcN := 21) jIQ_39_20 rfl (by omega) rfl ?_
  refine jT_xlstore_n (v := (1, p7 - p8)) (LN := [(2, (1, p7 - p8)), (4, (0, 3)), (0, (4, 0)), (1, (4, 1))]) (pcN := 22) jIQ_39_21 rfl rfl rfl rfl ?_
  refine jT_xiinc (x := 3) (z := 4) (LN := [(4, (0, 4)), (2, (1, p7 - p8)), (0, (4, 0)), (1, (4, 1))]) (pcN := 25) jIQ_39_22 rfl rfl (by decide) rfl rfl ?_
  refine jT_xgoto (pcN := 5) jIQ_39_25 rfl ?_
  refine jT_xiload (v := (0, 4)) (pcN := 7) jIQ_39_5 rfl rfl rfl ?_
  refine jT_xbipush (k := 6) (pcN := 9) jIQ_39_7 (by decide) rfl ?_
  refine jT_xicF (t := 28) (pcN := 12) jIQ_39_9 rfl (by decide +kernel) rfl rfl ?_
  refine jT_xlload_n (v := (1, p7 - p8)) (pcN := 13) jIQ_39_12 rfl rfl rfl ?_
  refine jT_xaload_n (v := (4, 1)) (pcN := 14) jIQ_39_13 rfl rfl rfl ?_
  refine jT_xiload (v := (0, 4)) (pcN := 16) jIQ_39_14 rfl rfl rfl ?_
  refine jT_lald (x := 0) (a := 1) (j := 4) (fs := []) (X := [q1, p7, p8, 0, 0, 0]) jIQ_39_16 rfl rfl rfl rfl ?_
  refine jT_eq (LN := [(4, (0, 4)), (2, (1, p7 - p8)), (0, (4, 0)), (1, (4, 1))]) (stN := [(1, 0), (1, p7 - p8)]) (hsN := [jgh, (101, [], [q1, p7, p8, 0, 0, 0])]) rfl rfl rfl ?_
  refine jT_labs (z := 0) (by rfl) (by rfl) (by rfl) (by rfl) (by decide +kernel) ?_
  refine jT_xladd (x := p7 - p8) (y := 0) (z := p7 - p8) (pcN := 21) jIQ_39_20 rfl (by omega) rfl ?_
  refine jT_xlstore_n (v := (1, p7 - p8)) (LN := [(2, (1, p7 - p8)), (4, (0, 4)), (0, (4, 0)), (1, (4, 1))]) (pcN := 22) jIQ_39_21 rfl rfl rfl rfl ?_
  refine jT_xiinc (x := 4) (z := 5) (LN := [(4, (0, 5)), (2, (1, p7 - p8)), (0, (4, 0)), (1, (4, 1))]) (pcN := 25) jIQ_39_22 rfl rfl (by decide) rfl rfl ?_
  refine jT_xgoto (pcN := 5) jIQ_39_25 rfl ?_
  refine jT_xiload (v := (0, 5)) (pcN := 7) jIQ_39_5 rfl rfl rfl ?_
  refine jT_xbipush (k := 6) (pcN := 9) jIQ_39_7 (by decide) rfl ?_
  refine jT_xicF (t := 28) (pcN := 12) jIQ_39_9 rfl (by decide +kernel) rfl rfl ?_
  refine jT_xlload_n (v := (1, p7 - p8)) (pcN := 13) jIQ_39_12 rfl rfl rfl ?_
  refine jT_xaload_n (v := (4, 1)) (pcN := 14) jIQ_39_13 rfl rfl rfl ?_
  refine jT_xiload (v := (0, 5)) (pcN := 16) jIQ_39_14 rfl rfl rfl ?_
  refine jT_lald (x := 0) (a := 1) (j := 5) (fs := []) (X := [q1, p7, p8, 0, 0, 0]) jIQ_39_16 rfl rfl rfl rfl ?_
  refine jT_eq (LN := [(4, (0, 5)), (2, (1, p7 - p8)), (0, (4, 0)), (1, (4, 1))]) (stN := [(1, 0), (1, p7 - p8)]) (hsN := [jgh, (101, [], [q1, p7, p8, 0, 0, 0])]) rfl rfl rfl ?_
  refine jT_labs (z := 0) (by rfl) (by rfl) (by rfl) (by rfl) (by decide +kernel) ?_
  refine jT_xladd (x := p7 - p8) (y := 0) (z := p7 - p8) (pcN := 21) jIQ_39_20 rfl (by omega) rfl ?_
  refine jT_xlstore_n (v := (1, p7 - p8)) (LN := [(2, (1, p7 - p8)), (4, (0, 5)), (0, (4, 0)), (1, (4, 1))]) (pcN := 22) jIQ_39_21 rfl rfl rfl rfl ?_
  refine jT_xiinc (x := 5) (z := 6) (LN := [(4, (0, 6)), (2, (1, p7 - p8)), (0, (4, 0)), (1, (4, 1))]) (pcN := 25) jIQ_39_22 rfl rfl (by decide) rfl rfl ?_
  refine jT_xgoto (pcN := 5) jIQ_39_25 rfl ?_
  refine jT_xiload (v := (0, 6)) (pcN := 7) jIQ_39_5 rfl rfl rfl ?_
  refine jT_xbipush (k := 6) (pcN := 9) jIQ_39_7 (by decide) rfl ?_
  refine jT_xicT (pcN := 28) jIQ_39_9 rfl (by decide +kernel) rfl ?_
  refine jT_xlload_n (v := (1, p7 - p8)) (pcN := 29) jIQ_39_28 rfl rfl rfl ?_
  exact jT_ret rfl (by decide) (by show 2 ≤ 2; omega) (by omega) (by omega) ⟨rfl, rfl, rfl⟩
theorem jQ_40_161 {xs : List Int} {d : Nat} {p7 p8 q1 : Int} (h_p7 : (-20) ≤ p7 ∧ p7 ≤ 20) (h_p8 : (-10) ≤ p8 ∧ p8 ≤ 10) (h_q1 : (-60) ≤ q1 ∧ q1 ≤ 60) (g_0 : 0 ≤ (-108917793694) * p7 - 159561683698 * p8 - 68719476736 * q1 - 1) (g_1 : 0 ≤ (-108917793694) * p7 - 159561683700 * p8 - 68719476736 * q1 - 1) (g_2 : 0 ≤ (-108917793696) * p7 - 159561683698 * p8 - 68719476736 * q1 - 1) (g_3 : 0 ≤ (-108917793696) * p7 - 159561683700 * p8 - 68719476736 * q1 - 1) (g_4 : 0 ≤ p7) (g_5 : p8 < 0) (g_6 : 0 ≤ q1) (g_7 : 108917793695 * p7 + 159561683699 * p8 + 68719476736 * q1 - 1 < 0) : jT xs d 40 2 0 [(0, (4, 0)), (1, (4, 1)), (2, (1, p7 - p8))] [] [jgh, (101, [], [q1, p7, p8, 0, 0, 0])] 0 0 (fun k v hsN => k = 0 ∧ v = (0, 1) ∧ hsN = [jgh, (101, [], [q1, p7, p8, 0, 0, 0])] ++ []) := by
  refine jT_xlload_n (v := (1, p7 - p8)) (pcN := 1) jIQ_40_0 rfl rfl rfl ?_
  refine jT_adv 1 (pcN := 4) (LN := [(0, (4, 0)), (1, (4, 1)), (2, (1, p7 - p8))]) (stN := [(1, 16777216), (1, p7 - p8)]) (hsN := [jgh, (101, [], [q1, p7, p8, 0, 0, 0])]) (c1 := 0) (s1 := 0) (c2 := 0) (s2 := 0) (by exact rfl) ?_ (by omega) (by omega)
  refine jT_lcmp (a := p7 - p8) (b := 16777216) (z := (-1)) (by rfl) (by rfl) (jwl_idd (by omega) (by omega)) (jwl_idd (by omega) (by omega)) (by rw [decide_eq_false (show ¬ ((16777216 : Int) < p7 - p8) by omega), decide_eq_false (show ¬ ((p7 - p8 : Int) = 16777216) by omega)]; rfl) ?_
  refine jT_xifF (t := 25) (pcN := 8) jIQ_40_5 rfl (by decide +kernel) rfl rfl ?_
  refine jT_xaload_n (v := (4, 1)) (pcN := 9) jIQ_40_8 rfl rfl rfl ?_
  refine jT_xiconst (k := 0) (pcN := 10) jIQ_40_9 rfl ?_
  refine jT_lald (x := q1) (a := 1) (j := 0) (fs := []) (X := [q1, p7, p8, 0, 0, 0]) jIQ_40_10 rfl rfl rfl rfl ?_
  refine jT_eq (LN := [(0, (4, 0)), (1, (4, 1)), (2, (1, p7 - p8))]) (stN := [(1, q1)]) (hsN := [jgh, (101, [], [q1, p7, p8, 0, 0, 0])]) rfl rfl rfl ?_
  refine jT_labs (z := q1) (by rfl) (by rfl) (by rfl) (by rfl) (by rw [show jwl (q1) = q1 from jwl_idd (by omega) (by omega), decide_eq_false (by omega)]; first | (simp only [cond_true, cond_false]; done) | (simp only [cond_true, cond_false]; omega) | rfl) ?_
  refine jT_adv 1 (pcN := 17) (LN := [(0, (4, 0)), (1, (4, 1)), (2, (1, p7 - p8))]) (stN := [(1, 16777216), (1, q1)]) (hsN := [jgh, (101, [], [q1, p7, p8, 0, 0, 0])]) (c1 := 0) (s1 := 0) (c2 := 0) (s2 := 0) (by exact rfl) ?_ (by omega) (by omega)
  refine jT_lcmp (a := q1) (b := 16777216) (z := (-1)) (by rfl) (by rfl) (jwl_idd (by omega) (by omega)) (jwl_idd (by omega) (by omega)) (by rw [decide_eq_false (show ¬ ((16777216 : Int) < q1) by omega), decide_eq_false (show ¬ ((q1 : Int) = 16777216) by omega)]; rfl) ?_
  refine jT_xifF (t := 25) (pcN := 21) jIQ_40_18 rfl (by decide +kernel) rfl rfl ?_
  refine jT_xiconst (k := 1) (pcN := 22) jIQ_40_21 rfl ?_
  refine jT_xgoto (pcN := 26) jIQ_40_22 rfl ?_
  exact jT_ret rfl (by decide) (by show 2 ≤ 2; omega) (by omega) (by omega) ⟨rfl, rfl, rfl⟩
theorem jQ_41_162 {xs : List Int} {d : Nat} {p7 p8 q1 : Int} (h_p7 : (-20) ≤ p7 ∧ p7 ≤ 20) (h_p8 : (-10) ≤ p8 ∧ p8 ≤ 10) (h_q1 : (-60) ≤ q1 ∧ q1 ≤ 60) (g_0 : 0 ≤ (-108917793694) * p7 - 159561683698 * p8 - 68719476736 * q1 - 1) (g_1 : 0 ≤ (-108917793694) * p7 - 159561683700 * p8 - 68719476736 * q1 - 1) (g_2 : 0 ≤ (-108917793696) * p7 - 159561683698 * p8 - 68719476736 * q1 - 1) (g_3 : 0 ≤ (-108917793696) * p7 - 159561683700 * p8 - 68719476736 * q1 - 1) (g_4 : 0 ≤ p7) (g_5 : p8 < 0) (g_6 : 0 ≤ q1) (g_7 : 108917793695 * p7 + 159561683699 * p8 + 68719476736 * q1 - 1 < 0) : jT xs d 41 2 0 [(0, (4, 0)), (1, (4, 1))] [] [jgh, (101, [], [q1, p7, p8, 0, 0, 0])] 0 0 (fun k v hsN => k = 0 ∧ v = (1, 108917793695 * p7 + 159561683699 * p8 + 68719476736 * q1) ∧ hsN = [jgh, (101, [], [q1, p7, p8, 0, 0, 0])] ++ []) := by
  refine jT_xlconst (z := 0) (pcN := 1) jIQ_41_0 rfl rfl ?_
  refine jT_xlstore_n (v := (1, 0)) (LN := [(2, (1, 0)), (0, (4, 0)), (1, (4, 1))]) (pcN := 2) jIQ_41_1 rfl rfl rfl rfl ?_
  refine jT_xiconst (k := 0) (pcN := 3) jIQ_41_2 rfl ?_
  refine jT_xistore (v := (0, 0)) (LN := [(4, (0, 0)), (2, (1, 0)), (0, (4, 0)), (1, (4, 1))]) (pcN := 5) jIQ_41_3 rfl rfl rfl rfl ?_
  refine jT_xiload (v := (0, 0)) (pcN := 7) jIQ_41_5 rfl rfl rfl ?_
  refine jT_xbipush (k := 6) (pcN := 9) jIQ_41_7 (by decide) rfl ?_
  refine jT_xicF (t := 32) (pcN := 12) jIQ_41_9 rfl (by decide +kernel) rfl rfl ?_
  refine jT_xlload_n (v := (1, 0)) (pcN := 13) jIQ_41_12 rfl rfl rfl ?_
  refine jT_xaload_n (v := (4, 1)) (pcN := 14) jIQ_41_13 rfl rfl rfl ?_
  refine jT_xiload (v := (0, 0)) (pcN := 16) jIQ_41_14 rfl rfl rfl ?_
  refine jT_lald (x := q1) (a := 1) (j := 0) (fs := []) (X := [q1, p7, p8, 0, 0, 0]) jIQ_41_16 rfl rfl rfl rfl ?_
  refine jT_eq (LN := [(4, (0, 0)), (2, (1, 0)), (0, (4, 0)), (1, (4, 1))]) (stN := [(1, q1), (1, 0)]) (hsN := [jgh, (101, [], [q1, p7, p8, 0, 0, 0])]) rfl rfl rfl ?_
  refine jT_adv 1 (pcN := 20) (LN := [(4, (0, 0)), (2, (1, 0)), (0, (4, 0)), (1, (4, 1))]) (stN := [(5, 0), (1, q1), (1, 0)]) (hsN := [jgh, (101, [], [q1, p7, p8, 0, 0, 0])]) (c1 := 0) (s1 := 0) (c2 := 0) (s2 := 0) (by exact rfl) ?_ (by omega) (by omega)
  refine jT_xiload (v := (0, 0)) (pcN := 22) jIQ_41_20 rfl rfl rfl ?_
  refine jT_adv 1 (pcN := 23) (LN := [(4, (0, 0)), (2, (1, 0)), (0, (4, 0)), (1, (4, 1))]) (stN := [(1, 68719476736), (1, q1), (1, 0)]) (hsN := [jgh, (101, [], [q1, p7, p8, 0, 0, 0])]) (c1 := 0) (s1 := 0) (c2 := 0) (s2 := 0) (by exact rfl) ?_ (by omega) (by omega)
  refine jT_xlmul (x := q1) (y := 68719476736) (z := 68719476736 * q1) (pcN := 24) jIQ_41_23 rfl (by omega) rfl ?_
  refine jT_xladd (x := 0) (y := 68719476736 * q1) (z := 68719476736 * q1) (pcN := 25) jIQ_41_24 rfl (by omega) rfl ?_
  refine jT_xlstore_n (v := (1, 68719476736 * q1)) (LN := [(2, (1, 68719476736 * q1)), (4, (0, 0)), (0, (4, 0)), (1, (4, 1))]) (pcN := 26) jIQ_41_25 rfl rfl rfl rfl ?_
  refine jT_xiinc (x := 0) (z := 1) (LN := [(4, (0, 1)), (2, (1, 68719476736 * q1)), (0, (4, 0)), (1, (4, 1))]) (pcN := 29) jIQ_41_26 rfl rfl (by decide) rfl rfl ?_
  refine jT_xgoto (pcN := 5) jIQ_41_29 rfl ?_
  refine jT_xiload (v := (0, 1)) (pcN := 7) jIQ_41_5 rfl rfl rfl ?_
  refine jT_xbipush (k := 6) (pcN := 9) jIQ_41_7 (by decide) rfl ?_
  refine jT_xicF (t := 32) (pcN := 12) jIQ_41_9 rfl (by decide +kernel) rfl rfl ?_
  refine jT_xlload_n (v := (1, 68719476736 * q1)) (pcN := 13) jIQ_41_12 rfl rfl rfl ?_
  refine jT_xaload_n (v := (4, 1)) (pcN := 14) jIQ_41_13 rfl rfl rfl ?_
  refine jT_xiload (v := (0, 1)) (pcN := 16) jIQ_41_14 rfl rfl rfl ?_
  refine jT_lald (x := p7) (a := 1) (j := 1) (fs := []) (X := [q1, p7, p8, 0, 0, 0]) jIQ_41_16 rfl rfl rfl rfl ?_
  refine jT_eq (LN := [(4, (0, 1)), (2, (1, 68719476736 * q1)), (0, (4, 0)), (1, (4, 1))]) (stN := [(1, p7), (1, 68719476736 * q1)]) (hsN := [jgh, (101, [], [q1, p7, p8, 0, 0, 0])]) rfl rfl rfl ?_
  refine jT_adv 1 (pcN := 20) (LN := [(4, (0, 1)), (2, (1, 68719476736 * q1)), (0, (4, 0)), (1, (4, 1))]) (stN := [(5, 0), (1, p7), (1, 68719476736 * q1)]) (hsN := [jgh, (101, [], [q1, p7, p8, 0, 0, 0])]) (c1 := 0) (s1 := 0) (c2 := 0) (s2 := 0) (by exact rfl) ?_ (by omega) (by omega)
  refine jT_xiload (v := (0, 1)) (pcN := 22) jIQ_41_20 rfl rfl rfl ?_
  refine jT_adv 1 (pcN := 23) (LN := [(4, (0, 1)), (2, (1, 68719476736 * q1)), (0, (4, 0)), (1, (4, 1))]) (stN := [(1, 108917793695), (1, p7), (1, 68719476736 * q1)]) (hsN := [jgh, (101, [], [q1, p7, p8, 0, 0, 0])]) (c1 := 0) (s1 := 0) (c2 := 0) (s2 := 0) (by exact rfl) ?_ (by omega) (by omega)
  refine jT_xlmul (x := p7) (y := 108917793695) (z := 108917793695 * p7) (pcN := 24) jIQ_41_23 rfl (by omega) rfl ?_
  refine jT_xladd (x := 68719476736 * q1) (y := 108917793695 * p7) (z := 108917793695 * p7 + 68719476736 * q1) (pcN := 25) jIQ_41_24 rfl (by omega) rfl ?_
  refine jT_xlstore_n (v := (1, 108917793695 * p7 + 68719476736 * q1)) (LN := [(2, (1, 108917793695 * p7 + 68719476736 * q1)), (4, (0, 1)), (0, (4, 0)), (1, (4, 1))]) (pcN := 26) jIQ_41_25 rfl rfl rfl rfl ?_
  refine jT_xiinc (x := 1) (z := 2) (LN := [(4, (0, 2)), (2, (1, 108917793695 * p7 + 68719476736 * q1)), (0, (4, 0)), (1, (4, 1))]) (pcN := 29) jIQ_41_26 rfl rfl (by decide) rfl rfl ?_
  refine jT_xgoto (pcN := 5) jIQ_41_29 rfl ?_
  refine jT_xiload (v := (0, 2)) (pcN := 7) jIQ_41_5 rfl rfl rfl ?_
  refine jT_xbipush (k := 6) (pcN := 9) jIQ_41_7 (by decide) rfl ?_
  refine jT_xicF (t := 32) (pcN := 12) jIQ_41_9 rfl (by decide +kernel) rfl rfl ?_
  refine jT_xlload_n (v := (1, 108917793695 * p7 + 68719476736 * q1)) (pcN := 13) jIQ_41_12 rfl rfl rfl ?_
  refine jT_xaload_n (v := (4, 1)) (pcN := 14) jIQ_41_13 rfl rfl rfl ?_
  refine jT_xiload (v := (0, 2)) (pcN := 16) jIQ_41_14 rfl rfl rfl ?_
  refine jT_lald (x := p8) (a := 1) (j := 2) (fs := []) (X := [q1, p7, p8, 0, 0, 0]) jIQ_41_16 rfl rfl rfl rfl ?_
  refine jT_eq (LN := [(4, (0, 2)), (2, (1, 108917793695 * p7 + 68719476736 * q1)), (0, (4, 0)), (1, (4, 1))]) (stN := [(1, p8), (1, 108917793695 * p7 + 68719476736 * q1)]) (hsN := [jgh, (101, [], [q1, p7, p8, 0, 0, 0])]) rfl rfl rfl ?_
  refine jT_adv 1 (pcN := 20) (LN := [(4, (0, 2)), (2, (1, 108917793695 * p7 + 68719476736 * q1)), (0, (4, 0)), (1, (4, 1))]) (stN := [(5, 0), (1, p8), (1, 108917793695 * p7 + 68719476736 * q1)]) (hsN := [jgh, (101, [], [q1, p7, p8, 0, 0, 0])]) (c1 := 0) (s1 := 0) (c2 := 0) (s2 := 0) (by exact rfl) ?_ (by omega) (by omega)
  refine jT_xiload (v := (0, 2)) (pcN := 22) jIQ_41_20 rfl rfl rfl ?_
  refine jT_adv 1 (pcN := 23) (LN := [(4, (0, 2)), (2, (1, 108917793695 * p7 + 68719476736 * q1)), (0, (4, 0)), (1, (4, 1))]) (stN := [(1, 159561683699), (1, p8), (1, 108917793695 * p7 + 68719476736 * q1)]) (hsN := [jgh, (101, [], [q1, p7, p8, 0, 0, 0])]) (c1 := 0) (s1 := 0) (c2 := 0) (s2 := 0) (by exact rfl) ?_ (by omega) (by omega)
  refine jT_xlmul (x := p8) (y := 159561683699) (z := 159561683699 * p8) (pcN := 24) jIQ_41_23 rfl (by omega) rfl ?_
  refine jT_xladd (x := 108917793695 * p7 + 68719476736 * q1) (y := 159561683699 * p8) (z := 108917793695 * p7 + 159561683699 * p8 + 68719476736 * q1) (pcN := 25) jIQ_41_24 rfl (by omega) rfl ?_
  refine jT_xlstore_n (v := (1, 108917793695 * p7 + 159561683699 * p8 + 68719476736 * q1)) (LN := [(2, (1, 108917793695 * p7 + 159561683699 * p8 + 68719476736 * q1)), (4, (0, 2)), (0, (4, 0)), (1, (4, 1))]) (pcN := 26) jIQ_41_25 rfl rfl rfl rfl ?_
  refine jT_xiinc (x := 2) (z := 3) (LN := [(4, (0, 3)), (2, (1, 108917793695 * p7 + 159561683699 * p8 + 68719476736 * q1)), (0, (4, 0)), (1, (4, 1))]) (pcN := 29) jIQ_41_26 rfl rfl (by decide) rfl rfl ?_
  refine jT_xgoto (pcN := 5) jIQ_41_29 rfl ?_
  refine jT_xiload (v := (0, 3)) (pcN := 7) jIQ_41_5 rfl rfl rfl ?_
  refine jT_xbipush (k := 6) (pcN := 9) jIQ_41_7 (by decide) rfl ?_
  refine jT_xicF (t := 32) (pcN := 12) jIQ_41_9 rfl (by decide +kernel) rfl rfl ?_
  refine jT_xlload_n (v := (1, 108917793695 * p7 + 159561683699 * p8 + 68719476736 * q1)) (pcN := 13) jIQ_41_12 rfl rfl rfl ?_
  refine jT_xaload_n (v := (4, 1)) (pcN := 14) jIQ_41_13 rfl rfl rfl ?_
  refine jT_xiload (v := (0, 3)) (pcN := 16) jIQ_41_14 rfl rfl rfl ?_
  refine jT_lald (x := 0) (a := 1) (j := 3) (fs := []) (X := [q1, p7, p8, 0, 0, 0]) jIQ_41_16 rfl rfl rfl rfl ?_
  refine jT_eq (LN := [(4, (0, 3)), (2, (1, 108917793695 * p7 + 159561683699 * p8 + 68719476736 * q1)), (0, (4, 0)), (1, (4, 1))]) (stN := [(1, 0), (1, 108917793695 * p7 + 159561683699 * p8 + 68719476736 * q1)]) (hsN := [jgh, (101, [], [q1, p7, p8, 0, 0, 0])]) rfl rfl rfl ?_
  refine jT_adv 1 (pcN := 20) (LN := [(4, (0, 3)), (2, (1, 108917793695 * p7 + 159561683699 * p8 + 68719476736 * q1)), (0, (4, 0)), (1, (4, 1))]) (stN := [(5, 0), (1, 0), (1, 108917793695 * p7 + 159561683699 * p8 + 68719476736 * q1)]) (hsN := [jgh, (101, [], [q1, p7, p8, 0, 0, 0])]) (c1 := 0) (s1 := 0) (c2 := 0) (s2 := 0) (by exact rfl) ?_ (by omega) (by omega)
  refine jT_xiload (v := (0, 3)) (pcN := 22) jIQ_41_20 rfl rfl rfl ?_
  refine jT_adv 1 (pcN := 23) (LN := [(4, (0, 3)), (2, (1, 108917793695 * p7 + 159561683699 * p8 + 68719476736 * q1)), (0, (4, 0)), (1, (4, 1))]) (stN := [(1, 192919961256), (1, 0), (1, 108917793695 * p7 + 159561683699 * p8 + 68719476736 * q1)]) (hsN := [jgh, (101, [], [q1, p7, p8, 0, 0, 0])]) (c1 := 0) (s1 := 0) (c2 := 0) (s2 := 0) (by exact rfl) ?_ (by omega) (by omega)
  refine jT_xlmul (x := 0) (y := 192919961256) (z := 0) (pcN := 24) jIQ_41_23 rfl (by decide) rfl ?_
  refine jT_xladd (x := 108917793695 * p7 + 159561683699 * p8 + 68719476736 * q1) (y := 0) (z := 108917793695 * p7 + 159561683699 * p8 + 68719476736 * q1) (pcN := 25) jIQ_41_24 rfl (by omega) rfl ?_
  refine jT_xlstore_n (v := (1, 108917793695 * p7 + 159561683699 * p8 + 68719476736 * q1)) (LN := [(2, (1, 108917793695 * p7 + 159561683699 * p8 + 68719476736 * q1)), (4, (0, 3)), (0, (4, 0)), (1, (4, 1))]) (pcN := 26) jIQ_41_25 rfl rfl rfl rfl ?_
  refine jT_xiinc (x := 3) (z := 4) (LN := [(4, (0, 4)), (2, (1, 108917793695 * p7 + 159561683699 * p8 + 68719476736 * q1)), (0, (4, 0)), (1, (4, 1))]) (pcN := 29) jIQ_41_26 rfl rfl (by decide) rfl rfl ?_
  refine jT_xgoto (pcN := 5) jIQ_41_29 rfl ?_
  refine jT_xiload (v := (0, 4)) (pcN := 7) jIQ_41_5 rfl rfl rfl ?_
  refine jT_xbipush (k := 6) (pcN := 9) jIQ_41_7 (by decide) rfl ?_
  refine jT_xicF (t := 32) (pcN := 12) jIQ_41_9 rfl (by decide +kernel) rfl rfl ?_
  refine jT_xlload_n (v := (1, 108917793695 * p7 + 159561683699 * p8 + 68719476736 * q1)) (pcN := 13) jIQ_41_12 rfl rfl rfl ?_
  refine jT_xaload_n (v := (4, 1)) (pcN := 14) jIQ_41_13 rfl rfl rfl ?_
  refine jT_xiload (v := (0, 4)) (pcN := 16) jIQ_41_14 rfl rfl rfl ?_
  refine jT_lald (x := 0) (a := 1) (j := 4) (fs := []) (X := [q1, p7, p8, 0, 0, 0]) jIQ_41_16 rfl rfl rfl rfl ?_
  refine jT_eq (LN := [(4, (0, 4)), (2, (1, 108917793695 * p7 + 159561683699 * p8 + 68719476736 * q1)), (0, (4, 0)), (1, (4, 1))]) (stN := [(1, 0), (1, 108917793695 * p7 + 159561683699 * p8 + 68719476736 * q1)]) (hsN := [jgh, (101, [], [q1, p7, p8, 0, 0, 0])]) rfl rfl rfl ?_
  refine jT_adv 1 (pcN := 20) (LN := [(4, (0, 4)), (2, (1, 108917793695 * p7 + 159561683699 * p8 + 68719476736 * q1)), (0, (4, 0)), (1, (4, 1))]) (stN := [(5, 0), (1, 0), (1, 108917793695 * p7 + 159561683699 * p8 + 68719476736 * q1)]) (hsN := [jgh, (101, [], [q1, p7, p8, 0, 0, 0])]) (c1 := 0) (s1 := 0) (c2 := 0) (s2 := 0) (by exact rfl) ?_ (by omega) (by omega)
  refine jT_xiload (v := (0, 4)) (pcN := 22) jIQ_41_20 rfl rfl rfl ?_
  refine jT_adv 1 (pcN := 23) (LN := [(4, (0, 4)), (2, (1, 108917793695 * p7 + 159561683699 * p8 + 68719476736 * q1)), (0, (4, 0)), (1, (4, 1))]) (stN := [(1, 237730330636), (1, 0), (1, 108917793695 * p7 + 159561683699 * p8 + 68719476736 * q1)]) (hsN := [jgh, (101, [], [q1, p7, p8, 0, 0, 0])]) (c1 := 0) (s1 := 0) (c2 := 0) (s2 := 0) (by exact rfl) ?_ (by omega) (by omega)
  refine jT_xlmul (x := 0) (y := 237730330636) (z := 0) (pcN := 24) jIQ_41_23 rfl (by decide) rfl ?_
  refine jT_xladd (x := 108917793695 * p7 + 159561683699 * p8 + 68719476736 * q1) (y := 0) (z := 108917793695 * p7 + 159561683699 * p8 + 68719476736 * q1) (pcN := 25) jIQ_41_24 rfl (by omega) rfl ?_
  refine jT_xlstore_n (v := (1, 108917793695 * p7 + 159561683699 * p8 + 68719476736 * q1)) (LN := [(2, (1, 108917793695 * p7 + 159561683699 * p8 + 68719476736 * q1)), (4, (0, 4)), (0, (4, 0)), (1, (4, 1))]) (pcN := 26) jIQ_41_25 rfl rfl rfl rfl ?_
  refine jT_xiinc (x := 4) (z := 5) (LN := [(4, (0, 5)), (2, (1, 108917793695 * p7 + 159561683699 * p8 + 68719476736 * q1)), (0, (4, 0)), (1, (4, 1))]) (pcN := 29) jIQ_41_26 rfl rfl (by decide) rfl rfl ?_
  refine jT_xgoto (pcN := 5) jIQ_41_29 rfl ?_
  refine jT_xiload (v := (0, 5)) (pcN := 7) jIQ_41_5 rfl rfl rfl ?_
  refine jT_xbipush (k := 6) (pcN := 9) jIQ_41_7 (by decide) rfl ?_
  refine jT_xicF (t := 32) (pcN := 12) jIQ_41_9 rfl (by decide +kernel) rfl rfl ?_
  refine jT_xlload_n (v := (1, 108917793695 * p7 + 159561683699 * p8 + 68719476736 * q1)) (pcN := 13) jIQ_41_12 rfl rfl rfl ?_
  refine jT_xaload_n (v := (4, 1)) (pcN := 14) jIQ_41_13 rfl rfl rfl ?_
  refine jT_xiload (v := (0, 5)) (pcN := 16) jIQ_41_14 rfl rfl rfl ?_
  refine jT_lald (x := 0) (a := 1) (j := 5) (fs := []) (X := [q1, p7, p8, 0, 0, 0]) jIQ_41_16 rfl rfl rfl rfl ?_
  refine jT_eq (LN := [(4, (0, 5)), (2, (1, 108917793695 * p7 + 159561683699 * p8 + 68719476736 * q1)), (0, (4, 0)), (1, (4, 1))]) (stN := [(1, 0), (1, 108917793695 * p7 + 159561683699 * p8 + 68719476736 * q1)]) (hsN := [jgh, (101, [], [q1, p7, p8, 0, 0, 0])]) rfl rfl rfl ?_
  refine jT_adv 1 (pcN := 20) (LN := [(4, (0, 5)), (2, (1, 108917793695 * p7 + 159561683699 * p8 + 68719476736 * q1)), (0, (4, 0)), (1, (4, 1))]) (stN := [(5, 0), (1, 0), (1, 108917793695 * p7 + 159561683699 * p8 + 68719476736 * q1)]) (hsN := [jgh, (101, [], [q1, p7, p8, 0, 0, 0])]) (c1 := 0) (s1 := 0) (c2 := 0) (s2 := 0) (by exact rfl) ?_ (by omega) (by omega)
  refine jT_xiload (v := (0, 5)) (pcN := 22) jIQ_41_20 rfl rfl rfl ?_
  refine jT_adv 1 (pcN := 23) (LN := [(4, (0, 5)), (2, (1, 108917793695 * p7 + 159561683699 * p8 + 68719476736 * q1)), (0, (4, 0)), (1, (4, 1))]) (stN := [(1, 254292281123), (1, 0), (1, 108917793695 * p7 + 159561683699 * p8 + 68719476736 * q1)]) (hsN := [jgh, (101, [], [q1, p7, p8, 0, 0, 0])]) (c1 := 0) (s1 := 0) (c2 := 0) (s2 := 0) (by exact rfl) ?_ (by omega) (by omega)
  refine jT_xlmul (x := 0) (y := 254292281123) (z := 0) (pcN := 24) jIQ_41_23 rfl (by decide) rfl ?_
  refine jT_xladd (x := 108917793695 * p7 + 159561683699 * p8 + 68719476736 * q1) (y := 0) (z := 108917793695 * p7 + 159561683699 * p8 + 68719476736 * q1) (pcN := 25) jIQ_41_24 rfl (by omega) rfl ?_
  refine jT_xlstore_n (v := (1, 108917793695 * p7 + 159561683699 * p8 + 68719476736 * q1)) (LN := [(2, (1, 108917793695 * p7 + 159561683699 * p8 + 68719476736 * q1)), (4, (0, 5)), (0, (4, 0)), (1, (4, 1))]) (pcN := 26) jIQ_41_25 rfl rfl rfl rfl ?_
  refine jT_xiinc (x := 5) (z := 6) (LN := [(4, (0, 6)), (2, (1, 108917793695 * p7 + 159561683699 * p8 + 68719476736 * q1)), (0, (4, 0)), (1, (4, 1))]) (pcN := 29) jIQ_41_26 rfl rfl (by decide) rfl rfl ?_
  refine jT_xgoto (pcN := 5) jIQ_41_29 rfl ?_
  refine jT_xiload (v := (0, 6)) (pcN := 7) jIQ_41_5 rfl rfl rfl ?_
  refine jT_xbipush (k := 6) (pcN := 9) jIQ_41_7 (by decide) rfl ?_
  refine jT_xicT (pcN := 32) jIQ_41_9 rfl (by decide +kernel) rfl ?_
  refine jT_xlload_n (v := (1, 108917793695 * p7 + 159561683699 * p8 + 68719476736 * q1)) (pcN := 33) jIQ_41_32 rfl rfl rfl ?_
  exact jT_ret rfl (by decide) (by show 2 ≤ 2; omega) (by omega) (by omega) ⟨rfl, rfl, rfl⟩
theorem jQ_39_163 {xs : List Int} {d : Nat} {p7 p8 q1 : Int} (h_p7 : (-20) ≤ p7 ∧ p7 ≤ 20) (h_p8 : (-10) ≤ p8 ∧ p8 ≤ 10) (h_q1 : (-60) ≤ q1 ∧ q1 ≤ 60) (g_0 : 0 ≤ (-108917793694) * p7 - 159561683698 * p8 - 68719476736 * q1 - 1) (g_1 : 0 ≤ (-108917793694) * p7 - 159561683700 * p8 - 68719476736 * q1 - 1) (g_2 : 0 ≤ (-108917793696) * p7 - 159561683698 * p8 - 68719476736 * q1 - 1) (g_3 : 0 ≤ (-108917793696) * p7 - 159561683700 * p8 - 68719476736 * q1 - 1) (g_4 : 0 ≤ p7) (g_5 : p8 < 0) (g_6 : 0 ≤ q1) (g_7 : 108917793695 * p7 + 159561683699 * p8 + 68719476736 * q1 - 1 < 0) (g_8 : 108917793695 * p7 + 159561683699 * p8 + 68719476736 * q1 < 0) : jT xs d 39 2 0 [(0, (4, 0)), (1, (4, 1))] [] [jgh, (101, [], [q1, p7, p8, 0, 0, 0])] 0 0 (fun k v hsN => k = 0 ∧ v = (1, p7 - p8) ∧ hsN = [jgh, (101, [], [q1, p7, p8, 0, 0, 0])] ++ []) := by
  refine jT_xlconst (z := 0) (pcN := 1) jIQ_39_0 rfl rfl ?_
  refine jT_xlstore_n (v := (1, 0)) (LN := [(2, (1, 0)), (0, (4, 0)), (1, (4, 1))]) (pcN := 2) jIQ_39_1 rfl rfl rfl rfl ?_
  refine jT_xiconst (k := 1) (pcN := 3) jIQ_39_2 rfl ?_
  refine jT_xistore (v := (0, 1)) (LN := [(4, (0, 1)), (2, (1, 0)), (0, (4, 0)), (1, (4, 1))]) (pcN := 5) jIQ_39_3 rfl rfl rfl rfl ?_
  refine jT_xiload (v := (0, 1)) (pcN := 7) jIQ_39_5 rfl rfl rfl ?_
  refine jT_xbipush (k := 6) (pcN := 9) jIQ_39_7 (by decide) rfl ?_
  refine jT_xicF (t := 28) (pcN := 12) jIQ_39_9 rfl (by decide +kernel) rfl rfl ?_
  refine jT_xlload_n (v := (1, 0)) (pcN := 13) jIQ_39_12 rfl rfl rfl ?_
  refine jT_xaload_n (v := (4, 1)) (pcN := 14) jIQ_39_13 rfl rfl rfl ?_
  refine jT_xiload (v := (0, 1)) (pcN := 16) jIQ_39_14 rfl rfl rfl ?_
  refine jT_lald (x := p7) (a := 1) (j := 1) (fs := []) (X := [q1, p7, p8, 0, 0, 0]) jIQ_39_16 rfl rfl rfl rfl ?_
  refine jT_eq (LN := [(4, (0, 1)), (2, (1, 0)), (0, (4, 0)), (1, (4, 1))]) (stN := [(1, p7), (1, 0)]) (hsN := [jgh, (101, [], [q1, p7, p8, 0, 0, 0])]) rfl rfl rfl ?_
  refine jT_labs (z := p7) (by rfl) (by rfl) (by rfl) (by rfl) (by rw [show jwl (p7) = p7 from jwl_idd (by omega) (by omega), decide_eq_false (by omega)]; first | (simp only [cond_true, cond_false]; done) | (simp only [cond_true, cond_false]; omega) | rfl) ?_
  refine jT_xladd (x := 0) (y := p7) (z := p7) (pcN := 21) jIQ_39_20 rfl (by omega) rfl ?_
  refine jT_xlstore_n (v := (1, p7)) (LN := [(2, (1, p7)), (4, (0, 1)), (0, (4, 0)), (1, (4, 1))]) (pcN := 22) jIQ_39_21 rfl rfl rfl rfl ?_
  refine jT_xiinc (x := 1) (z := 2) (LN := [(4, (0, 2)), (2, (1, p7)), (0, (4, 0)), (1, (4, 1))]) (pcN := 25) jIQ_39_22 rfl rfl (by decide) rfl rfl ?_
  refine jT_xgoto (pcN := 5) jIQ_39_25 rfl ?_
  refine jT_xiload (v := (0, 2)) (pcN := 7) jIQ_39_5 rfl rfl rfl ?_
  refine jT_xbipush (k := 6) (pcN := 9) jIQ_39_7 (by decide) rfl ?_
  refine jT_xicF (t := 28) (pcN := 12) jIQ_39_9 rfl (by decide +kernel) rfl rfl ?_
  refine jT_xlload_n (v := (1, p7)) (pcN := 13) jIQ_39_12 rfl rfl rfl ?_
  refine jT_xaload_n (v := (4, 1)) (pcN := 14) jIQ_39_13 rfl rfl rfl ?_
  refine jT_xiload (v := (0, 2)) (pcN := 16) jIQ_39_14 rfl rfl rfl ?_
  refine jT_lald (x := p8) (a := 1) (j := 2) (fs := []) (X := [q1, p7, p8, 0, 0, 0]) jIQ_39_16 rfl rfl rfl rfl ?_
  refine jT_eq (LN := [(4, (0, 2)), (2, (1, p7)), (0, (4, 0)), (1, (4, 1))]) (stN := [(1, p8), (1, p7)]) (hsN := [jgh, (101, [], [q1, p7, p8, 0, 0, 0])]) rfl rfl rfl ?_
  refine jT_labs (z := -p8) (by rfl) (by rfl) (by rfl) (by rfl) (by rw [show jwl (p8) = p8 from jwl_idd (by omega) (by omega), decide_eq_true (by omega)]; first | (simp only [cond_true, cond_false]; done) | (simp only [cond_true, cond_false]; omega) | rfl) ?_
  refine jT_xladd (x := p7) (y := -p8) (z := p7 - p8) (pcN := 21) jIQ_39_20 rfl (by omega) rfl ?_
  refine jT_xlstore_n (v := (1, p7 - p8)) (LN := [(2, (1, p7 - p8)), (4, (0, 2)), (0, (4, 0)), (1, (4, 1))]) (pcN := 22) jIQ_39_21 rfl rfl rfl rfl ?_
  refine jT_xiinc (x := 2) (z := 3) (LN := [(4, (0, 3)), (2, (1, p7 - p8)), (0, (4, 0)), (1, (4, 1))]) (pcN := 25) jIQ_39_22 rfl rfl (by decide) rfl rfl ?_
  refine jT_xgoto (pcN := 5) jIQ_39_25 rfl ?_
  refine jT_xiload (v := (0, 3)) (pcN := 7) jIQ_39_5 rfl rfl rfl ?_
  refine jT_xbipush (k := 6) (pcN := 9) jIQ_39_7 (by decide) rfl ?_
  refine jT_xicF (t := 28) (pcN := 12) jIQ_39_9 rfl (by decide +kernel) rfl rfl ?_
  refine jT_xlload_n (v := (1, p7 - p8)) (pcN := 13) jIQ_39_12 rfl rfl rfl ?_
  refine jT_xaload_n (v := (4, 1)) (pcN := 14) jIQ_39_13 rfl rfl rfl ?_
  refine jT_xiload (v := (0, 3)) (pcN := 16) jIQ_39_14 rfl rfl rfl ?_
  refine jT_lald (x := 0) (a := 1) (j := 3) (fs := []) (X := [q1, p7, p8, 0, 0, 0]) jIQ_39_16 rfl rfl rfl rfl ?_
  refine jT_eq (LN := [(4, (0, 3)), (2, (1, p7 - p8)), (0, (4, 0)), (1, (4, 1))]) (stN := [(1, 0), (1, p7 - p8)]) (hsN := [jgh, (101, [], [q1, p7, p8, 0, 0, 0])]) rfl rfl rfl ?_
  refine jT_labs (z := 0) (by rfl) (by rfl) (by rfl) (by rfl) (by decide +kernel) ?_
  refine jT_xladd (x := p7 - p8) (y := 0) (z := p7 - p8) (pcN := 21) jIQ_39_20 rfl (by omega) rfl ?_
  refine jT_xlstore_n (v := (1, p7 - p8)) (LN := [(2, (1, p7 - p8)), (4, (0, 3)), (0, (4, 0)), (1, (4, 1))]) (pcN := 22) jIQ_39_21 rfl rfl rfl rfl ?_
  refine jT_xiinc (x := 3) (z := 4) (LN := [(4, (0, 4)), (2, (1, p7 - p8)), (0, (4, 0)), (1, (4, 1))]) (pcN := 25) jIQ_39_22 rfl rfl (by decide) rfl rfl ?_
  refine jT_xgoto (pcN := 5) jIQ_39_25 rfl ?_
  refine jT_xiload (v := (0, 4)) (pcN := 7) jIQ_39_5 rfl rfl rfl ?_
  refine jT_xbipush (k := 6) (pcN := 9) jIQ_39_7 (by decide) rfl ?_
  refine jT_xicF (t := 28) (pcN := 12) jIQ_39_9 rfl (by decide +kernel) rfl rfl ?_
  refine jT_xlload_n (v := (1, p7 - p8)) (pcN := 13) jIQ_39_12 rfl rfl rfl ?_
  refine jT_xaload_n (v := (4, 1)) (pcN := 14) jIQ_39_13 rfl rfl rfl ?_
  refine jT_xiload (v := (0, 4)) (pcN := 16) jIQ_39_14 rfl rfl rfl ?_
  refine jT_lald (x := 0) (a := 1) (j := 4) (fs := []) (X := [q1, p7, p8, 0, 0, 0]) jIQ_39_16 rfl rfl rfl rfl ?_
  refine jT_eq (LN := [(4, (0, 4)), (2, (1, p7 - p8)), (0, (4, 0)), (1, (4, 1))]) (stN := [(1, 0), (1, p7 - p8)]) (hsN := [jgh, (101, [], [q1, p7, p8, 0, 0, 0])]) rfl rfl rfl ?_
  refine jT_labs (z := 0) (by rfl) (by rfl) (by rfl) (by rfl) (by decide +kernel) ?_
  refine jT_xladd (x := p7 - p8) (y := 0) (z := p7 - p8) (pcN := 21) jIQ_39_20 rfl (by omega) rfl ?_
  refine jT_xlstore_n (v := (1, p7 - p8)) (LN := [(2, (1, p7 - p8)), (4, (0, 4)), (0, (4, 0)), (1, (4, 1))]) (pcN := 22) jIQ_39_21 rfl rfl rfl rfl ?_
  refine jT_xiinc (x := 4) (z := 5) (LN := [(4, (0, 5)), (2, (1, p7 - p8)), (0, (4, 0)), (1, (4, 1))]) (pcN := 25) jIQ_39_22 rfl rfl (by decide) rfl rfl ?_
  refine jT_xgoto (pcN := 5) jIQ_39_25 rfl ?_
  refine jT_xiload (v := (0, 5)) (pcN := 7) jIQ_39_5 rfl rfl rfl ?_
  refine jT_xbipush (k := 6) (pcN := 9) jIQ_39_7 (by decide) rfl ?_
  refine jT_xicF (t := 28) (pcN := 12) jIQ_39_9 rfl (by decide +kernel) rfl rfl ?_
  refine jT_xlload_n (v := (1, p7 - p8)) (pcN := 13) jIQ_39_12 rfl rfl rfl ?_
  refine jT_xaload_n (v := (4, 1)) (pcN := 14) jIQ_39_13 rfl rfl rfl ?_
  refine jT_xiload (v := (0, 5)) (pcN := 16) jIQ_39_14 rfl rfl rfl ?_
  refine jT_lald (x := 0) (a := 1) (j := 5) (fs := []) (X := [q1, p7, p8, 0, 0, 0]) jIQ_39_16 rfl rfl rfl rfl ?_
  refine jT_eq (LN := [(4, (0, 5)), (2, (1, p7 - p8)), (0, (4, 0)), (1, (4, 1))]) (stN := [(1, 0), (1, p7 - p8)]) (hsN := [jgh, (101, [], [q1, p7, p8, 0, 0, 0])]) rfl rfl rfl ?_
  refine jT_labs (z := 0) (by rfl) (by rfl) (by rfl) (by rfl) (by decide +kernel) ?_
  refine jT_xladd (x := p7 - p8) (y := 0) (z := p7 - p8) (pcN := 21) jIQ_39_20 rfl (by omega) rfl ?_
  refine jT_xlstore_n (v := (1, p7 - p8)) (LN := [(2, (1, p7 - p8)), (4, (0, 5)), (0, (4, 0)), (1, (4, 1))]) (pcN := 22) jIQ_39_21 rfl rfl rfl rfl ?_
  refine jT_xiinc (x := 5) (z := 6) (LN := [(4, (0, 6)), (2, (1, p7 - p8)), (0, (4, 0)), (1, (4, 1))]) (pcN := 25) jIQ_39_22 rfl rfl (by decide) rfl rfl ?_
  refine jT_xgoto (pcN := 5) jIQ_39_25 rfl ?_
  refine jT_xiload (v := (0, 6)) (pcN := 7) jIQ_39_5 rfl rfl rfl ?_
  refine jT_xbipush (k := 6) (pcN := 9) jIQ_39_7 (by decide) rfl ?_
  refine jT_xicT (pcN := 28) jIQ_39_9 rfl (by decide +kernel) rfl ?_
  refine jT_xlload_n (v := (1, p7 - p8)) (pcN := 29) jIQ_39_28 rfl rfl rfl ?_
  exact jT_ret rfl (by decide) (by show 2 ≤ 2; omega) (by omega) (by omega) ⟨rfl, rfl, rfl⟩
theorem jQ_40_164 {xs : List Int} {d : Nat} {p7 p8 q1 : Int} (h_p7 : (-20) ≤ p7 ∧ p7 ≤ 20) (h_p8 : (-10) ≤ p8 ∧ p8 ≤ 10) (h_q1 : (-60) ≤ q1 ∧ q1 ≤ 60) (g_0 : 0 ≤ (-108917793694) * p7 - 159561683698 * p8 - 68719476736 * q1 - 1) (g_1 : 0 ≤ (-108917793694) * p7 - 159561683700 * p8 - 68719476736 * q1 - 1) (g_2 : 0 ≤ (-108917793696) * p7 - 159561683698 * p8 - 68719476736 * q1 - 1) (g_3 : 0 ≤ (-108917793696) * p7 - 159561683700 * p8 - 68719476736 * q1 - 1) (g_4 : 0 ≤ p7) (g_5 : p8 < 0) (g_6 : 0 ≤ q1) (g_7 : 108917793695 * p7 + 159561683699 * p8 + 68719476736 * q1 - 1 < 0) (g_8 : 108917793695 * p7 + 159561683699 * p8 + 68719476736 * q1 < 0) : jT xs d 40 2 0 [(0, (4, 0)), (1, (4, 1)), (2, (1, p7 - p8))] [] [jgh, (101, [], [q1, p7, p8, 0, 0, 0])] 0 0 (fun k v hsN => k = 0 ∧ v = (0, 1) ∧ hsN = [jgh, (101, [], [q1, p7, p8, 0, 0, 0])] ++ []) := by
  refine jT_xlload_n (v := (1, p7 - p8)) (pcN := 1) jIQ_40_0 rfl rfl rfl ?_
  refine jT_adv 1 (pcN := 4) (LN := [(0, (4, 0)), (1, (4, 1)), (2, (1, p7 - p8))]) (stN := [(1, 16777216), (1, p7 - p8)]) (hsN := [jgh, (101, [], [q1, p7, p8, 0, 0, 0])]) (c1 := 0) (s1 := 0) (c2 := 0) (s2 := 0) (by exact rfl) ?_ (by omega) (by omega)
  refine jT_lcmp (a := p7 - p8) (b := 16777216) (z := (-1)) (by rfl) (by rfl) (jwl_idd (by omega) (by omega)) (jwl_idd (by omega) (by omega)) (by rw [decide_eq_false (show ¬ ((16777216 : Int) < p7 - p8) by omega), decide_eq_false (show ¬ ((p7 - p8 : Int) = 16777216) by omega)]; rfl) ?_
  refine jT_xifF (t := 25) (pcN := 8) jIQ_40_5 rfl (by decide +kernel) rfl rfl ?_
  refine jT_xaload_n (v := (4, 1)) (pcN := 9) jIQ_40_8 rfl rfl rfl ?_
  refine jT_xiconst (k := 0) (pcN := 10) jIQ_40_9 rfl ?_
  refine jT_lald (x := q1) (a := 1) (j := 0) (fs := []) (X := [q1, p7, p8, 0, 0, 0]) jIQ_40_10 rfl rfl rfl rfl ?_
  refine jT_eq (LN := [(0, (4, 0)), (1, (4, 1)), (2, (1, p7 - p8))]) (stN := [(1, q1)]) (hsN := [jgh, (101, [], [q1, p7, p8, 0, 0, 0])]) rfl rfl rfl ?_
  refine jT_labs (z := q1) (by rfl) (by rfl) (by rfl) (by rfl) (by rw [show jwl (q1) = q1 from jwl_idd (by omega) (by omega), decide_eq_false (by omega)]; first | (simp only [cond_true, cond_false]; done) | (simp only [cond_true, cond_false]; omega) | rfl) ?_
  refine jT_adv 1 (pcN := 17) (LN := [(0, (4, 0)), (1, (4, 1)), (2, (1, p7 - p8))]) (stN := [(1, 16777216), (1, q1)]) (hsN := [jgh, (101, [], [q1, p7, p8, 0, 0, 0])]) (c1 := 0) (s1 := 0) (c2 := 0) (s2 := 0) (by exact rfl) ?_ (by omega) (by omega)
  refine jT_lcmp (a := q1) (b := 16777216) (z := (-1)) (by rfl) (by rfl) (jwl_idd (by omega) (by omega)) (jwl_idd (by omega) (by omega)) (by rw [decide_eq_false (show ¬ ((16777216 : Int) < q1) by omega), decide_eq_false (show ¬ ((q1 : Int) = 16777216) by omega)]; rfl) ?_
  refine jT_xifF (t := 25) (pcN := 21) jIQ_40_18 rfl (by decide +kernel) rfl rfl ?_
  refine jT_xiconst (k := 1) (pcN := 22) jIQ_40_21 rfl ?_
  refine jT_xgoto (pcN := 26) jIQ_40_22 rfl ?_
  exact jT_ret rfl (by decide) (by show 2 ≤ 2; omega) (by omega) (by omega) ⟨rfl, rfl, rfl⟩
theorem jQ_41_165 {xs : List Int} {d : Nat} {p7 p8 q1 : Int} (h_p7 : (-20) ≤ p7 ∧ p7 ≤ 20) (h_p8 : (-10) ≤ p8 ∧ p8 ≤ 10) (h_q1 : (-60) ≤ q1 ∧ q1 ≤ 60) (g_0 : 0 ≤ (-108917793694) * p7 - 159561683698 * p8 - 68719476736 * q1 - 1) (g_1 : 0 ≤ (-108917793694) * p7 - 159561683700 * p8 - 68719476736 * q1 - 1) (g_2 : 0 ≤ (-108917793696) * p7 - 159561683698 * p8 - 68719476736 * q1 - 1) (g_3 : 0 ≤ (-108917793696) * p7 - 159561683700 * p8 - 68719476736 * q1 - 1) (g_4 : 0 ≤ p7) (g_5 : p8 < 0) (g_6 : 0 ≤ q1) (g_7 : 108917793695 * p7 + 159561683699 * p8 + 68719476736 * q1 - 1 < 0) (g_8 : 108917793695 * p7 + 159561683699 * p8 + 68719476736 * q1 < 0) : jT xs d 41 2 0 [(0, (4, 0)), (1, (4, 1))] [] [jgh, (101, [], [q1, p7, p8, 0, 0, 0])] 0 0 (fun k v hsN => k = 0 ∧ v = (1, 108917793695 * p7 + 159561683699 * p8 + 68719476736 * q1) ∧ hsN = [jgh, (101, [], [q1, p7, p8, 0, 0, 0])] ++ []) := by
  refine jT_xlconst (z := 0) (pcN := 1) jIQ_41_0 rfl rfl ?_
  refine jT_xlstore_n (v := (1, 0)) (LN := [(2, (1, 0)), (0, (4, 0)), (1, (4, 1))]) (pcN := 2) jIQ_41_1 rfl rfl rfl rfl ?_
  refine jT_xiconst (k := 0) (pcN := 3) jIQ_41_2 rfl ?_
  refine jT_xistore (v := (0, 0)) (LN := [(4, (0, 0)), (2, (1, 0)), (0, (4, 0)), (1, (4, 1))]) (pcN := 5) jIQ_41_3 rfl rfl rfl rfl ?_
  refine jT_xiload (v := (0, 0)) (pcN := 7) jIQ_41_5 rfl rfl rfl ?_
  refine jT_xbipush (k := 6) (pcN := 9) jIQ_41_7 (by decide) rfl ?_
  refine jT_xicF (t := 32) (pcN := 12) jIQ_41_9 rfl (by decide +kernel) rfl rfl ?_
  refine jT_xlload_n (v := (1, 0)) (pcN := 13) jIQ_41_12 rfl rfl rfl ?_
  refine jT_xaload_n (v := (4, 1)) (pcN := 14) jIQ_41_13 rfl rfl rfl ?_
  refine jT_xiload (v := (0, 0)) (pcN := 16) jIQ_41_14 rfl rfl rfl ?_
  refine jT_lald (x := q1) (a := 1) (j := 0) (fs := []) (X := [q1, p7, p8, 0, 0, 0]) jIQ_41_16 rfl rfl rfl rfl ?_
  refine jT_eq (LN := [(4, (0, 0)), (2, (1, 0)), (0, (4, 0)), (1, (4, 1))]) (stN := [(1, q1), (1, 0)]) (hsN := [jgh, (101, [], [q1, p7, p8, 0, 0, 0])]) rfl rfl rfl ?_
  refine jT_adv 1 (pcN := 20) (LN := [(4, (0, 0)), (2, (1, 0)), (0, (4, 0)), (1, (4, 1))]) (stN := [(5, 0), (1, q1), (1, 0)]) (hsN := [jgh, (101, [], [q1, p7, p8, 0, 0, 0])]) (c1 := 0) (s1 := 0) (c2 := 0) (s2 := 0) (by exact rfl) ?_ (by omega) (by omega)
  refine jT_xiload (v := (0, 0)) (pcN := 22) jIQ_41_20 rfl rfl rfl ?_
  refine jT_adv 1 (pcN := 23) (LN := [(4, (0, 0)), (2, (1, 0)), (0, (4, 0)), (1, (4, 1))]) (stN := [(1, 68719476736), (1, q1), (1, 0)]) (hsN := [jgh, (101, [], [q1, p7, p8, 0, 0, 0])]) (c1 := 0) (s1 := 0) (c2 := 0) (s2 := 0) (by exact rfl) ?_ (by omega) (by omega)
  refine jT_xlmul (x := q1) (y := 68719476736) (z := 68719476736 * q1) (pcN := 24) jIQ_41_23 rfl (by omega) rfl ?_
  refine jT_xladd (x := 0) (y := 68719476736 * q1) (z := 68719476736 * q1) (pcN := 25) jIQ_41_24 rfl (by omega) rfl ?_
  refine jT_xlstore_n (v := (1, 68719476736 * q1)) (LN := [(2, (1, 68719476736 * q1)), (4, (0, 0)), (0, (4, 0)), (1, (4, 1))]) (pcN := 26) jIQ_41_25 rfl rfl rfl rfl ?_
  refine jT_xiinc (x := 0) (z := 1) (LN := [(4, (0, 1)), (2, (1, 68719476736 * q1)), (0, (4, 0)), (1, (4, 1))]) (pcN := 29) jIQ_41_26 rfl rfl (by decide) rfl rfl ?_
  refine jT_xgoto (pcN := 5) jIQ_41_29 rfl ?_
  refine jT_xiload (v := (0, 1)) (pcN := 7) jIQ_41_5 rfl rfl rfl ?_
  refine jT_xbipush (k := 6) (pcN := 9) jIQ_41_7 (by decide) rfl ?_
  refine jT_xicF (t := 32) (pcN := 12) jIQ_41_9 rfl (by decide +kernel) rfl rfl ?_
  refine jT_xlload_n (v := (1, 68719476736 * q1)) (pcN := 13) jIQ_41_12 rfl rfl rfl ?_
  refine jT_xaload_n (v := (4, 1)) (pcN := 14) jIQ_41_13 rfl rfl rfl ?_
  refine jT_xiload (v := (0, 1)) (pcN := 16) jIQ_41_14 rfl rfl rfl ?_
  refine jT_lald (x := p7) (a := 1) (j := 1) (fs := []) (X := [q1, p7, p8, 0, 0, 0]) jIQ_41_16 rfl rfl rfl rfl ?_
  refine jT_eq (LN := [(4, (0, 1)), (2, (1, 68719476736 * q1)), (0, (4, 0)), (1, (4, 1))]) (stN := [(1, p7), (1, 68719476736 * q1)]) (hsN := [jgh, (101, [], [q1, p7, p8, 0, 0, 0])]) rfl rfl rfl ?_
  refine jT_adv 1 (pcN := 20) (LN := [(4, (0, 1)), (2, (1, 68719476736 * q1)), (0, (4, 0)), (1, (4, 1))]) (stN := [(5, 0), (1, p7), (1, 68719476736 * q1)]) (hsN := [jgh, (101, [], [q1, p7, p8, 0, 0, 0])]) (c1 := 0) (s1 := 0) (c2 := 0) (s2 := 0) (by exact rfl) ?_ (by omega) (by omega)
  refine jT_xiload (v := (0, 1)) (pcN := 22) jIQ_41_20 rfl rfl rfl ?_
  refine jT_adv 1 (pcN := 23) (LN := [(4, (0, 1)), (2, (1, 68719476736 * q1)), (0, (4, 0)), (1, (4, 1))]) (stN := [(1, 108917793695), (1, p7), (1, 68719476736 * q1)]) (hsN := [jgh, (101, [], [q1, p7, p8, 0, 0, 0])]) (c1 := 0) (s1 := 0) (c2 := 0) (s2 := 0) (by exact rfl) ?_ (by omega) (by omega)
  refine jT_xlmul (x := p7) (y := 108917793695) (z := 108917793695 * p7) (pcN := 24) jIQ_41_23 rfl (by omega) rfl ?_
  refine jT_xladd (x := 68719476736 * q1) (y := 108917793695 * p7) (z := 108917793695 * p7 + 68719476736 * q1) (pcN := 25) jIQ_41_24 rfl (by omega) rfl ?_
  refine jT_xlstore_n (v := (1, 108917793695 * p7 + 68719476736 * q1)) (LN := [(2, (1, 108917793695 * p7 + 68719476736 * q1)), (4, (0, 1)), (0, (4, 0)), (1, (4, 1))]) (pcN := 26) jIQ_41_25 rfl rfl rfl rfl ?_
  refine jT_xiinc (x := 1) (z := 2) (LN := [(4, (0, 2)), (2, (1, 108917793695 * p7 + 68719476736 * q1)), (0, (4, 0)), (1, (4, 1))]) (pcN := 29) jIQ_41_26 rfl rfl (by decide) rfl rfl ?_
  refine jT_xgoto (pcN := 5) jIQ_41_29 rfl ?_
  refine jT_xiload (v := (0, 2)) (pcN := 7) jIQ_41_5 rfl rfl rfl ?_
  refine jT_xbipush (k := 6) (pcN := 9) jIQ_41_7 (by decide) rfl ?_
  refine jT_xicF (t := 32) (pcN := 12) jIQ_41_9 rfl (by decide +kernel) rfl rfl ?_
  refine jT_xlload_n (v := (1, 108917793695 * p7 + 68719476736 * q1)) (pcN := 13) jIQ_41_12 rfl rfl rfl ?_
  refine jT_xaload_n (v := (4, 1)) (pcN := 14) jIQ_41_13 rfl rfl rfl ?_
  refine jT_xiload (v := (0, 2)) (pcN := 16) jIQ_41_14 rfl rfl rfl ?_
  refine jT_lald (x := p8) (a := 1) (j := 2) (fs := []) (X := [q1, p7, p8, 0, 0, 0]) jIQ_41_16 rfl rfl rfl rfl ?_
  refine jT_eq (LN := [(4, (0, 2)), (2, (1, 108917793695 * p7 + 68719476736 * q1)), (0, (4, 0)), (1, (4, 1))]) (stN := [(1, p8), (1, 108917793695 * p7 + 68719476736 * q1)]) (hsN := [jgh, (101, [], [q1, p7, p8, 0, 0, 0])]) rfl rfl rfl ?_
  refine jT_adv 1 (pcN := 20) (LN := [(4, (0, 2)), (2, (1, 108917793695 * p7 + 68719476736 * q1)), (0, (4, 0)), (1, (4, 1))]) (stN := [(5, 0), (1, p8), (1, 108917793695 * p7 + 68719476736 * q1)]) (hsN := [jgh, (101, [], [q1, p7, p8, 0, 0, 0])]) (c1 := 0) (s1 := 0) (c2 := 0) (s2 := 0) (by exact rfl) ?_ (by omega) (by omega)
  refine jT_xiload (v := (0, 2)) (pcN := 22) jIQ_41_20 rfl rfl rfl ?_
  refine jT_adv 1 (pcN := 23) (LN := [(4, (0, 2)), (2, (1, 108917793695 * p7 + 68719476736 * q1)), (0, (4, 0)), (1, (4, 1))]) (stN := [(1, 159561683699), (1, p8), (1, 108917793695 * p7 + 68719476736 * q1)]) (hsN := [jgh, (101, [], [q1, p7, p8, 0, 0, 0])]) (c1 := 0) (s1 := 0) (c2 := 0) (s2 := 0) (by exact rfl) ?_ (by omega) (by omega)
  refine jT_xlmul (x := p8) (y := 159561683699) (z := 159561683699 * p8) (pcN := 24) jIQ_41_23 rfl (by omega) rfl ?_
  refine jT_xladd (x := 108917793695 * p7 + 68719476736 * q1) (y := 159561683699 * p8) (z := 108917793695 * p7 + 159561683699 * p8 + 68719476736 * q1) (pcN := 25) jIQ_41_24 rfl (by omega) rfl ?_
  refine jT_xlstore_n (v := (1, 108917793695 * p7 + 159561683699 * p8 + 68719476736 * q1)) (LN := [(2, (1, 108917793695 * p7 + 159561683699 * p8 + 68719476736 * q1)), (4, (0, 2)), (0, (4, 0)), (1, (4, 1))]) (pcN := 26) jIQ_41_25 rfl rfl rfl rfl ?_
  refine jT_xiinc (x := 2) (z := 3) (LN := [(4, (0, 3)), (2, (1, 108917793695 * p7 + 159561683699 * p8 + 68719476736 * q1)), (0, (4, 0)), (1, (4, 1))]) (pcN := 29) jIQ_41_26 rfl rfl (by decide) rfl rfl ?_
  refine jT_xgoto (pcN := 5) jIQ_41_29 rfl ?_
  refine jT_xiload (v := (0, 3)) (pcN := 7) jIQ_41_5 rfl rfl rfl ?_
  refine jT_xbipush (k := 6) (pcN := 9) jIQ_41_7 (by decide) rfl ?_
  refine jT_xicF (t := 32) (pcN := 12) jIQ_41_9 rfl (by decide +kernel) rfl rfl ?_
  refine jT_xlload_n (v := (1, 108917793695 * p7 + 159561683699 * p8 + 68719476736 * q1)) (pcN := 13) jIQ_41_12 rfl rfl rfl ?_
  refine jT_xaload_n (v := (4, 1)) (pcN := 14) jIQ_41_13 rfl rfl rfl ?_
  refine jT_xiload (v := (0, 3)) (pcN := 16) jIQ_41_14 rfl rfl rfl ?_
  refine jT_lald (x := 0) (a := 1) (j := 3) (fs := []) (X := [q1, p7, p8, 0, 0, 0]) jIQ_41_16 rfl rfl rfl rfl ?_
  refine jT_eq (LN := [(4, (0, 3)), (2, (1, 108917793695 * p7 + 159561683699 * p8 + 68719476736 * q1)), (0, (4, 0)), (1, (4, 1))]) (stN := [(1, 0), (1, 108917793695 * p7 + 159561683699 * p8 + 68719476736 * q1)]) (hsN := [jgh, (101, [], [q1, p7, p8, 0, 0, 0])]) rfl rfl rfl ?_
  refine jT_adv 1 (pcN := 20) (LN := [(4, (0, 3)), (2, (1, 108917793695 * p7 + 159561683699 * p8 + 68719476736 * q1)), (0, (4, 0)), (1, (4, 1))]) (stN := [(5, 0), (1, 0), (1, 108917793695 * p7 + 159561683699 * p8 + 68719476736 * q1)]) (hsN := [jgh, (101, [], [q1, p7, p8, 0, 0, 0])]) (c1 := 0) (s1 := 0) (c2 := 0) (s2 := 0) (by exact rfl) ?_ (by omega) (by omega)
  refine jT_xiload (v := (0, 3)) (pcN := 22) jIQ_41_20 rfl rfl rfl ?_
  refine jT_adv 1 (pcN := 23) (LN := [(4, (0, 3)), (2, (1, 108917793695 * p7 + 159561683699 * p8 + 68719476736 * q1)), (0, (4, 0)), (1, (4, 1))]) (stN := [(1, 192919961256), (1, 0), (1, 108917793695 * p7 + 159561683699 * p8 + 68719476736 * q1)]) (hsN := [jgh, (101, [], [q1, p7, p8, 0, 0, 0])]) (c1 := 0) (s1 := 0) (c2 := 0) (s2 := 0) (by exact rfl) ?_ (by omega) (by omega)
  refine jT_xlmul (x := 0) (y := 192919961256) (z := 0) (pcN := 24) jIQ_41_23 rfl (by decide) rfl ?_
  refine jT_xladd (x := 108917793695 * p7 + 159561683699 * p8 + 68719476736 * q1) (y := 0) (z := 108917793695 * p7 + 159561683699 * p8 + 68719476736 * q1) (pcN := 25) jIQ_41_24 rfl (by omega) rfl ?_
  refine jT_xlstore_n (v := (1, 108917793695 * p7 + 159561683699 * p8 + 68719476736 * q1)) (LN := [(2, (1, 108917793695 * p7 + 159561683699 * p8 + 68719476736 * q1)), (4, (0, 3)), (0, (4, 0)), (1, (4, 1))]) (pcN := 26) jIQ_41_25 rfl rfl rfl rfl ?_
  refine jT_xiinc (x := 3) (z := 4) (LN := [(4, (0, 4)), (2, (1, 108917793695 * p7 + 159561683699 * p8 + 68719476736 * q1)), (0, (4, 0)), (1, (4, 1))]) (pcN := 29) jIQ_41_26 rfl rfl (by decide) rfl rfl ?_
  refine jT_xgoto (pcN := 5) jIQ_41_29 rfl ?_
  refine jT_xiload (v := (0, 4)) (pcN := 7) jIQ_41_5 rfl rfl rfl ?_
  refine jT_xbipush (k := 6) (pcN := 9) jIQ_41_7 (by decide) rfl ?_
  refine jT_xicF (t := 32) (pcN := 12) jIQ_41_9 rfl (by decide +kernel) rfl rfl ?_
  refine jT_xlload_n (v := (1, 108917793695 * p7 + 159561683699 * p8 + 68719476736 * q1)) (pcN := 13) jIQ_41_12 rfl rfl rfl ?_
  refine jT_xaload_n (v := (4, 1)) (pcN := 14) jIQ_41_13 rfl rfl rfl ?_
  refine jT_xiload (v := (0, 4)) (pcN := 16) jIQ_41_14 rfl rfl rfl ?_
  refine jT_lald (x := 0) (a := 1) (j := 4) (fs := []) (X := [q1, p7, p8, 0, 0, 0]) jIQ_41_16 rfl rfl rfl rfl ?_
  refine jT_eq (LN := [(4, (0, 4)), (2, (1, 108917793695 * p7 + 159561683699 * p8 + 68719476736 * q1)), (0, (4, 0)), (1, (4, 1))]) (stN := [(1, 0), (1, 108917793695 * p7 + 159561683699 * p8 + 68719476736 * q1)]) (hsN := [jgh, (101, [], [q1, p7, p8, 0, 0, 0])]) rfl rfl rfl ?_
  refine jT_adv 1 (pcN := 20) (LN := [(4, (0, 4)), (2, (1, 108917793695 * p7 + 159561683699 * p8 + 68719476736 * q1)), (0, (4, 0)), (1, (4, 1))]) (stN := [(5, 0), (1, 0), (1, 108917793695 * p7 + 159561683699 * p8 + 68719476736 * q1)]) (hsN := [jgh, (101, [], [q1, p7, p8, 0, 0, 0])]) (c1 := 0) (s1 := 0) (c2 := 0) (s2 := 0) (by exact rfl) ?_ (by omega) (by omega)
  refine jT_xiload (v := (0, 4)) (pcN := 22) jIQ_41_20 rfl rfl rfl ?_
  refine jT_adv 1 (pcN := 23) (LN := [(4, (0, 4)), (2, (1, 108917793695 * p7 + 159561683699 * p8 + 68719476736 * q1)), (0, (4, 0)), (1, (4, 1))]) (stN := [(1, 237730330636), (1, 0), (1, 108917793695 * p7 + 159561683699 * p8 + 68719476736 * q1)]) (hsN := [jgh, (101, [], [q1, p7, p8, 0, 0, 0])]) (c1 := 0) (s1 := 0) (c2 := 0) (s2 := 0) (by exact rfl) ?_ (by omega) (by omega)
  refine jT_xlmul (x := 0) (y := 237730330636) (z := 0) (pcN := 24) jIQ_41_23 rfl (by decide) rfl ?_
  refine jT_xladd (x := 108917793695 * p7 + 159561683699 * p8 + 68719476736 * q1) (y := 0) (z := 108917793695 * p7 + 159561683699 * p8 + 68719476736 * q1) (pcN := 25) jIQ_41_24 rfl (by omega) rfl ?_
  refine jT_xlstore_n (v := (1, 108917793695 * p7 + 159561683699 * p8 + 68719476736 * q1)) (LN := [(2, (1, 108917793695 * p7 + 159561683699 * p8 + 68719476736 * q1)), (4, (0, 4)), (0, (4, 0)), (1, (4, 1))]) (pcN := 26) jIQ_41_25 rfl rfl rfl rfl ?_
  refine jT_xiinc (x := 4) (z := 5) (LN := [(4, (0, 5)), (2, (1, 108917793695 * p7 + 159561683699 * p8 + 68719476736 * q1)), (0, (4, 0)), (1, (4, 1))]) (pcN := 29) jIQ_41_26 rfl rfl (by decide) rfl rfl ?_
  refine jT_xgoto (pcN := 5) jIQ_41_29 rfl ?_
  refine jT_xiload (v := (0, 5)) (pcN := 7) jIQ_41_5 rfl rfl rfl ?_
  refine jT_xbipush (k := 6) (pcN := 9) jIQ_41_7 (by decide) rfl ?_
  refine jT_xicF (t := 32) (pcN := 12) jIQ_41_9 rfl (by decide +kernel) rfl rfl ?_
  refine jT_xlload_n (v := (1, 108917793695 * p7 + 159561683699 * p8 + 68719476736 * q1)) (pcN := 13) jIQ_41_12 rfl rfl rfl ?_
  refine jT_xaload_n (v := (4, 1)) (pcN := 14) jIQ_41_13 rfl rfl rfl ?_
  refine jT_xiload (v := (0, 5)) (pcN := 16) jIQ_41_14 rfl rfl rfl ?_
  refine jT_lald (x := 0) (a := 1) (j := 5) (fs := []) (X := [q1, p7, p8, 0, 0, 0]) jIQ_41_16 rfl rfl rfl rfl ?_
  refine jT_eq (LN := [(4, (0, 5)), (2, (1, 108917793695 * p7 + 159561683699 * p8 + 68719476736 * q1)), (0, (4, 0)), (1, (4, 1))]) (stN := [(1, 0), (1, 108917793695 * p7 + 159561683699 * p8 + 68719476736 * q1)]) (hsN := [jgh, (101, [], [q1, p7, p8, 0, 0, 0])]) rfl rfl rfl ?_
  refine jT_adv 1 (pcN := 20) (LN := [(4, (0, 5)), (2, (1, 108917793695 * p7 + 159561683699 * p8 + 68719476736 * q1)), (0, (4, 0)), (1, (4, 1))]) (stN := [(5, 0), (1, 0), (1, 108917793695 * p7 + 159561683699 * p8 + 68719476736 * q1)]) (hsN := [jgh, (101, [], [q1, p7, p8, 0, 0, 0])]) (c1 := 0) (s1 := 0) (c2 := 0) (s2 := 0) (by exact rfl) ?_ (by omega) (by omega)
  refine jT_xiload (v := (0, 5)) (pcN := 22) jIQ_41_20 rfl rfl rfl ?_
  refine jT_adv 1 (pcN := 23) (LN := [(4, (0, 5)), (2, (1, 108917793695 * p7 + 159561683699 * p8 + 68719476736 * q1)), (0, (4, 0)), (1, (4, 1))]) (stN := [(1, 254292281123), (1, 0), (1, 108917793695 * p7 + 159561683699 * p8 + 68719476736 * q1)]) (hsN := [jgh, (101, [], [q1, p7, p8, 0, 0, 0])]) (c1 := 0) (s1 := 0) (c2 := 0) (s2 := 0) (by exact rfl) ?_ (by omega) (by omega)
  refine jT_xlmul (x := 0) (y := 254292281123) (z := 0) (pcN := 24) jIQ_41_23 rfl (by decide) rfl ?_
  refine jT_xladd (x := 108917793695 * p7 + 159561683699 * p8 + 68719476736 * q1) (y := 0) (z := 108917793695 * p7 + 159561683699 * p8 + 68719476736 * q1) (pcN := 25) jIQ_41_24 rfl (by omega) rfl ?_
  refine jT_xlstore_n (v := (1, 108917793695 * p7 + 159561683699 * p8 + 68719476736 * q1)) (LN := [(2, (1, 108917793695 * p7 + 159561683699 * p8 + 68719476736 * q1)), (4, (0, 5)), (0, (4, 0)), (1, (4, 1))]) (pcN := 26) jIQ_41_25 rfl rfl rfl rfl ?_
  refine jT_xiinc (x := 5) (z := 6) (LN := [(4, (0, 6)), (2, (1, 108917793695 * p7 + 159561683699 * p8 + 68719476736 * q1)), (0, (4, 0)), (1, (4, 1))]) (pcN := 29) jIQ_41_26 rfl rfl (by decide) rfl rfl ?_
  refine jT_xgoto (pcN := 5) jIQ_41_29 rfl ?_
  refine jT_xiload (v := (0, 6)) (pcN := 7) jIQ_41_5 rfl rfl rfl ?_
  refine jT_xbipush (k := 6) (pcN := 9) jIQ_41_7 (by decide) rfl ?_
  refine jT_xicT (pcN := 32) jIQ_41_9 rfl (by decide +kernel) rfl ?_
  refine jT_xlload_n (v := (1, 108917793695 * p7 + 159561683699 * p8 + 68719476736 * q1)) (pcN := 33) jIQ_41_32 rfl rfl rfl ?_
  exact jT_ret rfl (by decide) (by show 2 ≤ 2; omega) (by omega) (by omega) ⟨rfl, rfl, rfl⟩
theorem jQ_39_166 {xs : List Int} {d : Nat} {p7 p8 q1 : Int} (h_p7 : (-20) ≤ p7 ∧ p7 ≤ 20) (h_p8 : (-10) ≤ p8 ∧ p8 ≤ 10) (h_q1 : (-60) ≤ q1 ∧ q1 ≤ 60) (g_0 : 0 ≤ (-108917793694) * p7 - 159561683698 * p8 - 68719476736 * q1 - 1) (g_1 : 0 ≤ (-108917793694) * p7 - 159561683700 * p8 - 68719476736 * q1 - 1) (g_2 : 0 ≤ (-108917793696) * p7 - 159561683698 * p8 - 68719476736 * q1 - 1) (g_3 : 0 ≤ (-108917793696) * p7 - 159561683700 * p8 - 68719476736 * q1 - 1) (g_4 : 0 ≤ p7) (g_5 : p8 < 0) (g_6 : 0 ≤ q1) (g_7 : 108917793695 * p7 + 159561683699 * p8 + 68719476736 * q1 - 1 < 0) (g_8 : 0 ≤ 108917793695 * p7 + 159561683699 * p8 + 68719476736 * q1) : jT xs d 39 2 0 [(0, (4, 0)), (1, (4, 1))] [] [jgh, (101, [], [q1, p7, p8, 0, 0, 0])] 0 0 (fun k v hsN => k = 0 ∧ v = (1, p7 - p8) ∧ hsN = [jgh, (101, [], [q1, p7, p8, 0, 0, 0])] ++ []) := by
  refine jT_xlconst (z := 0) (pcN := 1) jIQ_39_0 rfl rfl ?_
  refine jT_xlstore_n (v := (1, 0)) (LN := [(2, (1, 0)), (0, (4, 0)), (1, (4, 1))]) (pcN := 2) jIQ_39_1 rfl rfl rfl rfl ?_
  refine jT_xiconst (k := 1) (pcN := 3) jIQ_39_2 rfl ?_
  refine jT_xistore (v := (0, 1)) (LN := [(4, (0, 1)), (2, (1, 0)), (0, (4, 0)), (1, (4, 1))]) (pcN := 5) jIQ_39_3 rfl rfl rfl rfl ?_
  refine jT_xiload (v := (0, 1)) (pcN := 7) jIQ_39_5 rfl rfl rfl ?_
  refine jT_xbipush (k := 6) (pcN := 9) jIQ_39_7 (by decide) rfl ?_
  refine jT_xicF (t := 28) (pcN := 12) jIQ_39_9 rfl (by decide +kernel) rfl rfl ?_
  refine jT_xlload_n (v := (1, 0)) (pcN := 13) jIQ_39_12 rfl rfl rfl ?_
  refine jT_xaload_n (v := (4, 1)) (pcN := 14) jIQ_39_13 rfl rfl rfl ?_
  refine jT_xiload (v := (0, 1)) (pcN := 16) jIQ_39_14 rfl rfl rfl ?_
  refine jT_lald (x := p7) (a := 1) (j := 1) (fs := []) (X := [q1, p7, p8, 0, 0, 0]) jIQ_39_16 rfl rfl rfl rfl ?_
  refine jT_eq (LN := [(4, (0, 1)), (2, (1, 0)), (0, (4, 0)), (1, (4, 1))]) (stN := [(1, p7), (1, 0)]) (hsN := [jgh, (101, [], [q1, p7, p8, 0, 0, 0])]) rfl rfl rfl ?_
  refine jT_labs (z := p7) (by rfl) (by rfl) (by rfl) (by rfl) (by rw [show jwl (p7) = p7 from jwl_idd (by omega) (by omega), decide_eq_false (by omega)]; first | (simp only [cond_true, cond_false]; done) | (simp only [cond_true, cond_false]; omega) | rfl) ?_
  refine jT_xladd (x := 0) (y := p7) (z := p7) (pcN := 21) jIQ_39_20 rfl (by omega) rfl ?_
  refine jT_xlstore_n (v := (1, p7)) (LN := [(2, (1, p7)), (4, (0, 1)), (0, (4, 0)), (1, (4, 1))]) (pcN := 22) jIQ_39_21 rfl rfl rfl rfl ?_
  refine jT_xiinc (x := 1) (z := 2) (LN := [(4, (0, 2)), (2, (1, p7)), (0, (4, 0)), (1, (4, 1))]) (pcN := 25) jIQ_39_22 rfl rfl (by decide) rfl rfl ?_
  refine jT_xgoto (pcN := 5) jIQ_39_25 rfl ?_
  refine jT_xiload (v := (0, 2)) (pcN := 7) jIQ_39_5 rfl rfl rfl ?_
  refine jT_xbipush (k := 6) (pcN := 9) jIQ_39_7 (by decide) rfl ?_
  refine jT_xicF (t := 28) (pcN := 12) jIQ_39_9 rfl (by decide +kernel) rfl rfl ?_
  refine jT_xlload_n (v := (1, p7)) (pcN := 13) jIQ_39_12 rfl rfl rfl ?_
  refine jT_xaload_n (v := (4, 1)) (pcN := 14) jIQ_39_13 rfl rfl rfl ?_
  refine jT_xiload (v := (0, 2)) (pcN := 16) jIQ_39_14 rfl rfl rfl ?_
  refine jT_lald (x := p8) (a := 1) (j := 2) (fs := []) (X := [q1, p7, p8, 0, 0, 0]) jIQ_39_16 rfl rfl rfl rfl ?_
  refine jT_eq (LN := [(4, (0, 2)), (2, (1, p7)), (0, (4, 0)), (1, (4, 1))]) (stN := [(1, p8), (1, p7)]) (hsN := [jgh, (101, [], [q1, p7, p8, 0, 0, 0])]) rfl rfl rfl ?_
  refine jT_labs (z := -p8) (by rfl) (by rfl) (by rfl) (by rfl) (by rw [show jwl (p8) = p8 from jwl_idd (by omega) (by omega), decide_eq_true (by omega)]; first | (simp only [cond_true, cond_false]; done) | (simp only [cond_true, cond_false]; omega) | rfl) ?_
  refine jT_xladd (x := p7) (y := -p8) (z := p7 - p8) (pcN := 21) jIQ_39_20 rfl (by omega) rfl ?_
  refine jT_xlstore_n (v := (1, p7 - p8)) (LN := [(2, (1, p7 - p8)), (4, (0, 2)), (0, (4, 0)), (1, (4, 1))]) (pcN := 22) jIQ_39_21 rfl rfl rfl rfl ?_
  refine jT_xiinc (x := 2) (z := 3) (LN := [(4, (0, 3)), (2, (1, p7 - p8)), (0, (4, 0)), (1, (4, 1))]) (pcN := 25) jIQ_39_22 rfl rfl (by decide) rfl rfl ?_
  refine jT_xgoto (pcN := 5) jIQ_39_25 rfl ?_
  refine jT_xiload (v := (0, 3)) (pcN := 7) jIQ_39_5 rfl rfl rfl ?_
  refine jT_xbipush (k := 6) (pcN := 9) jIQ_39_7 (by decide) rfl ?_
  refine jT_xicF (t := 28) (pcN := 12) jIQ_39_9 rfl (by decide +kernel) rfl rfl ?_
  refine jT_xlload_n (v := (1, p7 - p8)) (pcN := 13) jIQ_39_12 rfl rfl rfl ?_
  refine jT_xaload_n (v := (4, 1)) (pcN := 14) jIQ_39_13 rfl rfl rfl ?_
  refine jT_xiload (v := (0, 3)) (pcN := 16) jIQ_39_14 rfl rfl rfl ?_
  refine jT_lald (x := 0) (a := 1) (j := 3) (fs := []) (X := [q1, p7, p8, 0, 0, 0]) jIQ_39_16 rfl rfl rfl rfl ?_
  refine jT_eq (LN := [(4, (0, 3)), (2, (1, p7 - p8)), (0, (4, 0)), (1, (4, 1))]) (stN := [(1, 0), (1, p7 - p8)]) (hsN := [jgh, (101, [], [q1, p7, p8, 0, 0, 0])]) rfl rfl rfl ?_
  refine jT_labs (z := 0) (by rfl) (by rfl) (by rfl) (by rfl) (by decide +kernel) ?_
  refine jT_xladd (x := p7 - p8) (y := 0) (z := p7 - p8) (pcN := 21) jIQ_39_20 rfl (by omega) rfl ?_
  refine jT_xlstore_n (v := (1, p7 - p8)) (LN := [(2, (1, p7 - p8)), (4, (0, 3)), (0, (4, 0)), (1, (4, 1))]) (pcN := 22) jIQ_39_21 rfl rfl rfl rfl ?_
  refine jT_xiinc (x := 3) (z := 4) (LN := [(4, (0, 4)), (2, (1, p7 - p8)), (0, (4, 0)), (1, (4, 1))]) (pcN := 25) jIQ_39_22 rfl rfl (by decide) rfl rfl ?_
  refine jT_xgoto (pcN := 5) jIQ_39_25 rfl ?_
  refine jT_xiload (v := (0, 4)) (pcN := 7) jIQ_39_5 rfl rfl rfl ?_
  refine jT_xbipush (k := 6) (pcN := 9) jIQ_39_7 (by decide) rfl ?_
  refine jT_xicF (t := 28) (pcN := 12) jIQ_39_9 rfl (by decide +kernel) rfl rfl ?_
  refine jT_xlload_n (v := (1, p7 - p8)) (pcN := 13) jIQ_39_12 rfl rfl rfl ?_
  refine jT_xaload_n (v := (4, 1)) (pcN := 14) jIQ_39_13 rfl rfl rfl ?_
  refine jT_xiload (v := (0, 4)) (pcN := 16) jIQ_39_14 rfl rfl rfl ?_
  refine jT_lald (x := 0) (a := 1) (j := 4) (fs := []) (X := [q1, p7, p8, 0, 0, 0]) jIQ_39_16 rfl rfl rfl rfl ?_
  refine jT_eq (LN := [(4, (0, 4)), (2, (1, p7 - p8)), (0, (4, 0)), (1, (4, 1))]) (stN := [(1, 0), (1, p7 - p8)]) (hsN := [jgh, (101, [], [q1, p7, p8, 0, 0, 0])]) rfl rfl rfl ?_
  refine jT_labs (z := 0) (by rfl) (by rfl) (by rfl) (by rfl) (by decide +kernel) ?_
  refine jT_xladd (x := p7 - p8) (y := 0) (z := p7 - p8) (pcN := 21) jIQ_39_20 rfl (by omega) rfl ?_
  refine jT_xlstore_n (v := (1, p7 - p8)) (LN := [(2, (1, p7 - p8)), (4, (0, 4)), (0, (4, 0)), (1, (4, 1))]) (pcN := 22) jIQ_39_21 rfl rfl rfl rfl ?_
  refine jT_xiinc (x := 4) (z := 5) (LN := [(4, (0, 5)), (2, (1, p7 - p8)), (0, (4, 0)), (1, (4, 1))]) (pcN := 25) jIQ_39_22 rfl rfl (by decide) rfl rfl ?_
  refine jT_xgoto (pcN := 5) jIQ_39_25 rfl ?_
  refine jT_xiload (v := (0, 5)) (pcN := 7) jIQ_39_5 rfl rfl rfl ?_
  refine jT_xbipush (k := 6) (pcN := 9) jIQ_39_7 (by decide) rfl ?_
  refine jT_xicF (t := 28) (pcN := 12) jIQ_39_9 rfl (by decide +kernel) rfl rfl ?_
  refine jT_xlload_n (v := (1, p7 - p8)) (pcN := 13) jIQ_39_12 rfl rfl rfl ?_
  refine jT_xaload_n (v := (4, 1)) (pcN := 14) jIQ_39_13 rfl rfl rfl ?_
  refine jT_xiload (v := (0, 5)) (pcN := 16) jIQ_39_14 rfl rfl rfl ?_
  refine jT_lald (x := 0) (a := 1) (j := 5) (fs := []) (X := [q1, p7, p8, 0, 0, 0]) jIQ_39_16 rfl rfl rfl rfl ?_
  refine jT_eq (LN := [(4, (0, 5)), (2, (1, p7 - p8)), (0, (4, 0)), (1, (4, 1))]) (stN := [(1, 0), (1, p7 - p8)]) (hsN := [jgh, (101, [], [q1, p7, p8, 0, 0, 0])]) rfl rfl rfl ?_
  refine jT_labs (z := 0) (by rfl) (by rfl) (by rfl) (by rfl) (by decide +kernel) ?_
  refine jT_xladd (x := p7 - p8) (y := 0) (z := p7 - p8) (pcN := 21) jIQ_39_20 rfl (by omega) rfl ?_
  refine jT_xlstore_n (v := (1, p7 - p8)) (LN := [(2, (1, p7 - p8)), (4, (0, 5)), (0, (4, 0)), (1, (4, 1))]) (pcN := 22) jIQ_39_21 rfl rfl rfl rfl ?_
  refine jT_xiinc (x := 5) (z := 6) (LN := [(4, (0, 6)), (2, (1, p7 - p8)), (0, (4, 0)), (1, (4, 1))]) (pcN := 25) jIQ_39_22 rfl rfl (by decide) rfl rfl ?_
  refine jT_xgoto (pcN := 5) jIQ_39_25 rfl ?_
  refine jT_xiload (v := (0, 6)) (pcN := 7) jIQ_39_5 rfl rfl rfl ?_
  refine jT_xbipush (k := 6) (pcN := 9) jIQ_39_7 (by decide) rfl ?_
  refine jT_xicT (pcN := 28) jIQ_39_9 rfl (by decide +kernel) rfl ?_
  refine jT_xlload_n (v := (1, p7 - p8)) (pcN := 29) jIQ_39_28 rfl rfl rfl ?_
  exact jT_ret rfl (by decide) (by show 2 ≤ 2; omega) (by omega) (by omega) ⟨rfl, rfl, rfl⟩
theorem jQ_40_167 {xs : List Int} {d : Nat} {p7 p8 q1 : Int} (h_p7 : (-20) ≤ p7 ∧ p7 ≤ 20) (h_p8 : (-10) ≤ p8 ∧ p8 ≤ 10) (h_q1 : (-60) ≤ q1 ∧ q1 ≤ 60) (g_0 : 0 ≤ (-108917793694) * p7 - 159561683698 * p8 - 68719476736 * q1 - 1) (g_1 : 0 ≤ (-108917793694) * p7 - 159561683700 * p8 - 68719476736 * q1 - 1) (g_2 : 0 ≤ (-108917793696) * p7 - 159561683698 * p8 - 68719476736 * q1 - 1) (g_3 : 0 ≤ (-108917793696) * p7 - 159561683700 * p8 - 68719476736 * q1 - 1) (g_4 : 0 ≤ p7) (g_5 : p8 < 0) (g_6 : 0 ≤ q1) (g_7 : 108917793695 * p7 + 159561683699 * p8 + 68719476736 * q1 - 1 < 0) (g_8 : 0 ≤ 108917793695 * p7 + 159561683699 * p8 + 68719476736 * q1) : jT xs d 40 2 0 [(0, (4, 0)), (1, (4, 1)), (2, (1, p7 - p8))] [] [jgh, (101, [], [q1, p7, p8, 0, 0, 0])] 0 0 (fun k v hsN => k = 0 ∧ v = (0, 1) ∧ hsN = [jgh, (101, [], [q1, p7, p8, 0, 0, 0])] ++ []) := by
  refine jT_xlload_n (v := (1, p7 - p8)) (pcN := 1) jIQ_40_0 rfl rfl rfl ?_
  refine jT_adv 1 (pcN := 4) (LN := [(0, (4, 0)), (1, (4, 1)), (2, (1, p7 - p8))]) (stN := [(1, 16777216), (1, p7 - p8)]) (hsN := [jgh, (101, [], [q1, p7, p8, 0, 0, 0])]) (c1 := 0) (s1 := 0) (c2 := 0) (s2 := 0) (by exact rfl) ?_ (by omega) (by omega)
  refine jT_lcmp (a := p7 - p8) (b := 16777216) (z := (-1)) (by rfl) (by rfl) (jwl_idd (by omega) (by omega)) (jwl_idd (by omega) (by omega)) (by rw [decide_eq_false (show ¬ ((16777216 : Int) < p7 - p8) by omega), decide_eq_false (show ¬ ((p7 - p8 : Int) = 16777216) by omega)]; rfl) ?_
  refine jT_xifF (t := 25) (pcN := 8) jIQ_40_5 rfl (by decide +kernel) rfl rfl ?_
  refine jT_xaload_n (v := (4, 1)) (pcN := 9) jIQ_40_8 rfl rfl rfl ?_
  refine jT_xiconst (k := 0) (pcN := 10) jIQ_40_9 rfl ?_
  refine jT_lald (x := q1) (a := 1) (j := 0) (fs := []) (X := [q1, p7, p8, 0, 0, 0]) jIQ_40_10 rfl rfl rfl rfl ?_
  refine jT_eq (LN := [(0, (4, 0)), (1, (4, 1)), (2, (1, p7 - p8))]) (stN := [(1, q1)]) (hsN := [jgh, (101, [], [q1, p7, p8, 0, 0, 0])]) rfl rfl rfl ?_
  refine jT_labs (z := q1) (by rfl) (by rfl) (by rfl) (by rfl) (by rw [show jwl (q1) = q1 from jwl_idd (by omega) (by omega), decide_eq_false (by omega)]; first | (simp only [cond_true, cond_false]; done) | (simp only [cond_true, cond_false]; omega) | rfl) ?_
  refine jT_adv 1 (pcN := 17) (LN := [(0, (4, 0)), (1, (4, 1)), (2, (1, p7 - p8))]) (stN := [(1, 16777216), (1, q1)]) (hsN := [jgh, (101, [], [q1, p7, p8, 0, 0, 0])]) (c1 := 0) (s1 := 0) (c2 := 0) (s2 := 0) (by exact rfl) ?_ (by omega) (by omega)
  refine jT_lcmp (a := q1) (b := 16777216) (z := (-1)) (by rfl) (by rfl) (jwl_idd (by omega) (by omega)) (jwl_idd (by omega) (by omega)) (by rw [decide_eq_false (show ¬ ((16777216 : Int) < q1) by omega), decide_eq_false (show ¬ ((q1 : Int) = 16777216) by omega)]; rfl) ?_
  refine jT_xifF (t := 25) (pcN := 21) jIQ_40_18 rfl (by decide +kernel) rfl rfl ?_
  refine jT_xiconst (k := 1) (pcN := 22) jIQ_40_21 rfl ?_
  refine jT_xgoto (pcN := 26) jIQ_40_22 rfl ?_
  exact jT_ret rfl (by decide) (by show 2 ≤ 2; omega) (by omega) (by omega) ⟨rfl, rfl, rfl⟩
theorem jQ_41_168 {xs : List Int} {d : Nat} {p7 p8 q1 : Int} (h_p7 : (-20) ≤ p7 ∧ p7 ≤ 20) (h_p8 : (-10) ≤ p8 ∧ p8 ≤ 10) (h_q1 : (-60) ≤ q1 ∧ q1 ≤ 60) (g_0 : 0 ≤ (-108917793694) * p7 - 159561683698 * p8 - 68719476736 * q1 - 1) (g_1 : 0 ≤ (-108917793694) * p7 - 159561683700 * p8 - 68719476736 * q1 - 1) (g_2 : 0 ≤ (-108917793696) * p7 - 159561683698 * p8 - 68719476736 * q1 - 1) (g_3 : 0 ≤ (-108917793696) * p7 - 159561683700 * p8 - 68719476736 * q1 - 1) (g_4 : 0 ≤ p7) (g_5 : p8 < 0) (g_6 : 0 ≤ q1) (g_7 : 108917793695 * p7 + 159561683699 * p8 + 68719476736 * q1 - 1 < 0) (g_8 : 0 ≤ 108917793695 * p7 + 159561683699 * p8 + 68719476736 * q1) : jT xs d 41 2 0 [(0, (4, 0)), (1, (4, 1))] [] [jgh, (101, [], [q1, p7, p8, 0, 0, 0])] 0 0 (fun k v hsN => k = 0 ∧ v = (1, 108917793695 * p7 + 159561683699 * p8 + 68719476736 * q1) ∧ hsN = [jgh, (101, [], [q1, p7, p8, 0, 0, 0])] ++ []) := by
  refine jT_xlconst (z := 0) (pcN := 1) jIQ_41_0 rfl rfl ?_
  refine jT_xlstore_n (v := (1, 0)) (LN := [(2, (1, 0)), (0, (4, 0)), (1, (4, 1))]) (pcN := 2) jIQ_41_1 rfl rfl rfl rfl ?_
  refine jT_xiconst (k := 0) (pcN := 3) jIQ_41_2 rfl ?_
  refine jT_xistore (v := (0, 0)) (LN := [(4, (0, 0)), (2, (1, 0)), (0, (4, 0)), (1, (4, 1))]) (pcN := 5) jIQ_41_3 rfl rfl rfl rfl ?_
  refine jT_xiload (v := (0, 0)) (pcN := 7) jIQ_41_5 rfl rfl rfl ?_
  refine jT_xbipush (k := 6) (pcN := 9) jIQ_41_7 (by decide) rfl ?_
  refine jT_xicF (t := 32) (pcN := 12) jIQ_41_9 rfl (by decide +kernel) rfl rfl ?_
  refine jT_xlload_n (v := (1, 0)) (pcN := 13) jIQ_41_12 rfl rfl rfl ?_
  refine jT_xaload_n (v := (4, 1)) (pcN := 14) jIQ_41_13 rfl rfl rfl ?_
  refine jT_xiload (v := (0, 0)) (pcN := 16) jIQ_41_14 rfl rfl rfl ?_
  refine jT_lald (x := q1) (a := 1) (j := 0) (fs := []) (X := [q1, p7, p8, 0, 0, 0]) jIQ_41_16 rfl rfl rfl rfl ?_
  refine jT_eq (LN := [(4, (0, 0)), (2, (1, 0)), (0, (4, 0)), (1, (4, 1))]) (stN := [(1, q1), (1, 0)]) (hsN := [jgh, (101, [], [q1, p7, p8, 0, 0, 0])]) rfl rfl rfl ?_
  refine jT_adv 1 (pcN := 20) (LN := [(4, (0, 0)), (2, (1, 0)), (0, (4, 0)), (1, (4, 1))]) (stN := [(5, 0), (1, q1), (1, 0)]) (hsN := [jgh, (101, [], [q1, p7, p8, 0, 0, 0])]) (c1 := 0) (s1 := 0) (c2 := 0) (s2 := 0) (by exact rfl) ?_ (by omega) (by omega)
  refine jT_xiload (v := (0, 0)) (pcN := 22) jIQ_41_20 rfl rfl rfl ?_
  refine jT_adv 1 (pcN := 23) (LN := [(4, (0, 0)), (2, (1, 0)), (0, (4, 0)), (1, (4, 1))]) (stN := [(1, 68719476736), (1, q1), (1, 0)]) (hsN := [jgh, (101, [], [q1, p7, p8, 0, 0, 0])]) (c1 := 0) (s1 := 0) (c2 := 0) (s2 := 0) (by exact rfl) ?_ (by omega) (by omega)
  refine jT_xlmul (x := q1) (y := 68719476736) (z := 68719476736 * q1) (pcN := 24) jIQ_41_23 rfl (by omega) rfl ?_
  refine jT_xladd (x := 0) (y := 68719476736 * q1) (z := 68719476736 * q1) (pcN := 25) jIQ_41_24 rfl (by omega) rfl ?_
  refine jT_xlstore_n (v := (1, 68719476736 * q1)) (LN := [(2, (1, 68719476736 * q1)), (4, (0, 0)), (0, (4, 0)), (1, (4, 1))]) (pcN := 26) jIQ_41_25 rfl rfl rfl rfl ?_
  refine jT_xiinc (x := 0) (z := 1) (LN := [(4, (0, 1)), (2, (1, 68719476736 * q1)), (0, (4, 0)), (1, (4, 1))]) (pcN := 29) jIQ_41_26 rfl rfl (by decide) rfl rfl ?_
  refine jT_xgoto (pcN := 5) jIQ_41_29 rfl ?_
  refine jT_xiload (v := (0, 1)) (pcN := 7) jIQ_41_5 rfl rfl rfl ?_
  refine jT_xbipush (k := 6) (pcN := 9) jIQ_41_7 (by decide) rfl ?_
  refine jT_xicF (t := 32) (pcN := 12) jIQ_41_9 rfl (by decide +kernel) rfl rfl ?_
  refine jT_xlload_n (v := (1, 68719476736 * q1)) (pcN := 13) jIQ_41_12 rfl rfl rfl ?_
  refine jT_xaload_n (v := (4, 1)) (pcN := 14) jIQ_41_13 rfl rfl rfl ?_
  refine jT_xiload (v := (0, 1)) (pcN := 16) jIQ_41_14 rfl rfl rfl ?_
  refine jT_lald (x := p7) (a := 1) (j := 1) (fs := []) (X := [q1, p7, p8, 0, 0, 0]) jIQ_41_16 rfl rfl rfl rfl ?_
  refine jT_eq (LN := [(4, (0, 1)), (2, (1, 68719476736 * q1)), (0, (4, 0)), (1, (4, 1))]) (stN := [(1, p7), (1, 68719476736 * q1)]) (hsN := [jgh, (101, [], [q1, p7, p8, 0, 0, 0])]) rfl rfl rfl ?_
  refine jT_adv 1 (pcN := 20) (LN := [(4, (0, 1)), (2, (1, 68719476736 * q1)), (0, (4, 0)), (1, (4, 1))]) (stN := [(5, 0), (1, p7), (1, 68719476736 * q1)]) (hsN := [jgh, (101, [], [q1, p7, p8, 0, 0, 0])]) (c1 := 0) (s1 := 0) (c2 := 0) (s2 := 0) (by exact rfl) ?_ (by omega) (by omega)
  refine jT_xiload (v := (0, 1)) (pcN := 22) jIQ_41_20 rfl rfl rfl ?_
  refine jT_adv 1 (pcN := 23) (LN := [(4, (0, 1)), (2, (1, 68719476736 * q1)), (0, (4, 0)), (1, (4, 1))]) (stN := [(1, 108917793695), (1, p7), (1, 68719476736 * q1)]) (hsN := [jgh, (101, [], [q1, p7, p8, 0, 0, 0])]) (c1 := 0) (s1 := 0) (c2 := 0) (s2 := 0) (by exact rfl) ?_ (by omega) (by omega)
  refine jT_xlmul (x := p7) (y := 108917793695) (z := 108917793695 * p7) (pcN := 24) jIQ_41_23 rfl (by omega) rfl ?_
  refine jT_xladd (x := 68719476736 * q1) (y := 108917793695 * p7) (z := 108917793695 * p7 + 68719476736 * q1) (pcN := 25) jIQ_41_24 rfl (by omega) rfl ?_
  refine jT_xlstore_n (v := (1, 108917793695 * p7 + 68719476736 * q1)) (LN := [(2, (1, 108917793695 * p7 + 68719476736 * q1)), (4, (0, 1)), (0, (4, 0)), (1, (4, 1))]) (pcN := 26) jIQ_41_25 rfl rfl rfl rfl ?_
  refine jT_xiinc (x := 1) (z := 2) (LN := [(4, (0, 2)), (2, (1, 108917793695 * p7 + 68719476736 * q1)), (0, (4, 0)), (1, (4, 1))]) (pcN := 29) jIQ_41_26 rfl rfl (by decide) rfl rfl ?_
  refine jT_xgoto (pcN := 5) jIQ_41_29 rfl ?_
  refine jT_xiload (v := (0, 2)) (pcN := 7) jIQ_41_5 rfl rfl rfl ?_
  refine jT_xbipush (k := 6) (pcN := 9) jIQ_41_7 (by decide) rfl ?_
  refine jT_xicF (t := 32) (pcN := 12) jIQ_41_9 rfl (by decide +kernel) rfl rfl ?_
  refine jT_xlload_n (v := (1, 108917793695 * p7 + 68719476736 * q1)) (pcN := 13) jIQ_41_12 rfl rfl rfl ?_
  refine jT_xaload_n (v := (4, 1)) (pcN := 14) jIQ_41_13 rfl rfl rfl ?_
  refine jT_xiload (v := (0, 2)) (pcN := 16) jIQ_41_14 rfl rfl rfl ?_
  refine jT_lald (x := p8) (a := 1) (j := 2) (fs := []) (X := [q1, p7, p8, 0, 0, 0]) jIQ_41_16 rfl rfl rfl rfl ?_
  refine jT_eq (LN := [(4, (0, 2)), (2, (1, 108917793695 * p7 + 68719476736 * q1)), (0, (4, 0)), (1, (4, 1))]) (stN := [(1, p8), (1, 108917793695 * p7 + 68719476736 * q1)]) (hsN := [jgh, (101, [], [q1, p7, p8, 0, 0, 0])]) rfl rfl rfl ?_
  refine jT_adv 1 (pcN := 20) (LN := [(4, (0, 2)), (2, (1, 108917793695 * p7 + 68719476736 * q1)), (0, (4, 0)), (1, (4, 1))]) (stN := [(5, 0), (1, p8), (1, 108917793695 * p7 + 68719476736 * q1)]) (hsN := [jgh, (101, [], [q1, p7, p8, 0, 0, 0])]) (c1 := 0) (s1 := 0) (c2 := 0) (s2 := 0) (by exact rfl) ?_ (by omega) (by omega)
  refine jT_xiload (v := (0, 2)) (pcN := 22) jIQ_41_20 rfl rfl rfl ?_
  refine jT_adv 1 (pcN := 23) (LN := [(4, (0, 2)), (2, (1, 108917793695 * p7 + 68719476736 * q1)), (0, (4, 0)), (1, (4, 1))]) (stN := [(1, 159561683699), (1, p8), (1, 108917793695 * p7 + 68719476736 * q1)]) (hsN := [jgh, (101, [], [q1, p7, p8, 0, 0, 0])]) (c1 := 0) (s1 := 0) (c2 := 0) (s2 := 0) (by exact rfl) ?_ (by omega) (by omega)
  refine jT_xlmul (x := p8) (y := 159561683699) (z := 159561683699 * p8) (pcN := 24) jIQ_41_23 rfl (by omega) rfl ?_
  refine jT_xladd (x := 108917793695 * p7 + 68719476736 * q1) (y := 159561683699 * p8) (z := 108917793695 * p7 + 159561683699 * p8 + 68719476736 * q1) (pcN := 25) jIQ_41_24 rfl (by omega) rfl ?_
  refine jT_xlstore_n (v := (1, 108917793695 * p7 + 159561683699 * p8 + 68719476736 * q1)) (LN := [(2, (1, 108917793695 * p7 + 159561683699 * p8 + 68719476736 * q1)), (4, (0, 2)), (0, (4, 0)), (1, (4, 1))]) (pcN := 26) jIQ_41_25 rfl rfl rfl rfl ?_
  refine jT_xiinc (x := 2) (z := 3) (LN := [(4, (0, 3)), (2, (1, 108917793695 * p7 + 159561683699 * p8 + 68719476736 * q1)), (0, (4, 0)), (1, (4, 1))]) (pcN := 29) jIQ_41_26 rfl rfl (by decide) rfl rfl ?_
  refine jT_xgoto (pcN := 5) jIQ_41_29 rfl ?_
  refine jT_xiload (v := (0, 3)) (pcN := 7) jIQ_41_5 rfl rfl rfl ?_
  refine jT_xbipush (k := 6) (pcN := 9) jIQ_41_7 (by decide) rfl ?_
  refine jT_xicF (t := 32) (pcN := 12) jIQ_41_9 rfl (by decide +kernel) rfl rfl ?_
  refine jT_xlload_n (v := (1, 108917793695 * p7 + 159561683699 * p8 + 68719476736 * q1)) (pcN := 13) jIQ_41_12 rfl rfl rfl ?_
  refine jT_xaload_n (v := (4, 1)) (pcN := 14) jIQ_41_13 rfl rfl rfl ?_
  refine jT_xiload (v := (0, 3)) (pcN := 16) jIQ_41_14 rfl rfl rfl ?_
  refine jT_lald (x := 0) (a := 1) (j := 3) (fs := []) (X := [q1, p7, p8, 0, 0, 0]) jIQ_41_16 rfl rfl rfl rfl ?_
  refine jT_eq (LN := [(4, (0, 3)), (2, (1, 108917793695 * p7 + 159561683699 * p8 + 68719476736 * q1)), (0, (4, 0)), (1, (4, 1))]) (stN := [(1, 0), (1, 108917793695 * p7 + 159561683699 * p8 + 68719476736 * q1)]) (hsN := [jgh, (101, [], [q1, p7, p8, 0, 0, 0])]) rfl rfl rfl ?_
  refine jT_adv 1 (pcN := 20) (LN := [(4, (0, 3)), (2, (1, 108917793695 * p7 + 159561683699 * p8 + 68719476736 * q1)), (0, (4, 0)), (1, (4, 1))]) (stN := [(5, 0), (1, 0), (1, 108917793695 * p7 + 159561683699 * p8 + 68719476736 * q1)]) (hsN := [jgh, (101, [], [q1, p7, p8, 0, 0, 0])]) (c1 := 0) (s1 := 0) (c2 := 0) (s2 := 0) (by exact rfl) ?_ (by omega) (by omega)
  refine jT_xiload (v := (0, 3)) (pcN := 22) jIQ_41_20 rfl rfl rfl ?_
  refine jT_adv 1 (pcN := 23) (LN := [(4, (0, 3)), (2, (1, 108917793695 * p7 + 159561683699 * p8 + 68719476736 * q1)), (0, (4, 0)), (1, (4, 1))]) (stN := [(1, 192919961256), (1, 0), (1, 108917793695 * p7 + 159561683699 * p8 + 68719476736 * q1)]) (hsN := [jgh, (101, [], [q1, p7, p8, 0, 0, 0])]) (c1 := 0) (s1 := 0) (c2 := 0) (s2 := 0) (by exact rfl) ?_ (by omega) (by omega)
  refine jT_xlmul (x := 0) (y := 192919961256) (z := 0) (pcN := 24) jIQ_41_23 rfl (by decide) rfl ?_
  refine jT_xladd (x := 108917793695 * p7 + 159561683699 * p8 + 68719476736 * q1) (y := 0) (z := 108917793695 * p7 + 159561683699 * p8 + 68719476736 * q1) (pcN := 25) jIQ_41_24 rfl (by omega) rfl ?_
  refine jT_xlstore_n (v := (1, 108917793695 * p7 + 159561683699 * p8 + 68719476736 * q1)) (LN := [(2, (1, 108917793695 * p7 + 159561683699 * p8 + 68719476736 * q1)), (4, (0, 3)), (0, (4, 0)), (1, (4, 1))]) (pcN := 26) jIQ_41_25 rfl rfl rfl rfl ?_
  refine jT_xiinc (x := 3) (z := 4) (LN := [(4, (0, 4)), (2, (1, 108917793695 * p7 + 159561683699 * p8 + 68719476736 * q1)), (0, (4, 0)), (1, (4, 1))]) (pcN := 29) jIQ_41_26 rfl rfl (by decide) rfl rfl ?_
  refine jT_xgoto (pcN := 5) jIQ_41_29 rfl ?_
  refine jT_xiload (v := (0, 4)) (pcN := 7) jIQ_41_5 rfl rfl rfl ?_
  refine jT_xbipush (k := 6) (pcN := 9) jIQ_41_7 (by decide) rfl ?_
  refine jT_xicF (t := 32) (pcN := 12) jIQ_41_9 rfl (by decide +kernel) rfl rfl ?_
  refine jT_xlload_n (v := (1, 108917793695 * p7 + 159561683699 * p8 + 68719476736 * q1)) (pcN := 13) jIQ_41_12 rfl rfl rfl ?_
  refine jT_xaload_n (v := (4, 1)) (pcN := 14) jIQ_41_13 rfl rfl rfl ?_
  refine jT_xiload (v := (0, 4)) (pcN := 16) jIQ_41_14 rfl rfl rfl ?_
  refine jT_lald (x := 0) (a := 1) (j := 4) (fs := []) (X := [q1, p7, p8, 0, 0, 0]) jIQ_41_16 rfl rfl rfl rfl ?_
  refine jT_eq (LN := [(4, (0, 4)), (2, (1, 108917793695 * p7 + 159561683699 * p8 + 68719476736 * q1)), (0, (4, 0)), (1, (4, 1))]) (stN := [(1, 0), (1, 108917793695 * p7 + 159561683699 * p8 + 68719476736 * q1)]) (hsN := [jgh, (101, [], [q1, p7, p8, 0, 0, 0])]) rfl rfl rfl ?_
  refine jT_adv 1 (pcN := 20) (LN := [(4, (0, 4)), (2, (1, 108917793695 * p7 + 159561683699 * p8 + 68719476736 * q1)), (0, (4, 0)), (1, (4, 1))]) (stN := [(5, 0), (1, 0), (1, 108917793695 * p7 + 159561683699 * p8 + 68719476736 * q1)]) (hsN := [jgh, (101, [], [q1, p7, p8, 0, 0, 0])]) (c1 := 0) (s1 := 0) (c2 := 0) (s2 := 0) (by exact rfl) ?_ (by omega) (by omega)
  refine jT_xiload (v := (0, 4)) (pcN := 22) jIQ_41_20 rfl rfl rfl ?_
  refine jT_adv 1 (pcN := 23) (LN := [(4, (0, 4)), (2, (1, 108917793695 * p7 + 159561683699 * p8 + 68719476736 * q1)), (0, (4, 0)), (1, (4, 1))]) (stN := [(1, 237730330636), (1, 0), (1, 108917793695 * p7 + 159561683699 * p8 + 68719476736 * q1)]) (hsN := [jgh, (101, [], [q1, p7, p8, 0, 0, 0])]) (c1 := 0) (s1 := 0) (c2 := 0) (s2 := 0) (by exact rfl) ?_ (by omega) (by omega)
  refine jT_xlmul (x := 0) (y := 237730330636) (z := 0) (pcN := 24) jIQ_41_23 rfl (by decide) rfl ?_
  refine jT_xladd (x := 108917793695 * p7 + 159561683699 * p8 + 68719476736 * q1) (y := 0) (z := 108917793695 * p7 + 159561683699 * p8 + 68719476736 * q1) (pcN := 25) jIQ_41_24 rfl (by omega) rfl ?_
  refine jT_xlstore_n (v := (1, 108917793695 * p7 + 159561683699 * p8 + 68719476736 * q1)) (LN := [(2, (1, 108917793695 * p7 + 159561683699 * p8 + 68719476736 * q1)), (4, (0, 4)), (0, (4, 0)), (1, (4, 1))]) (pcN := 26) jIQ_41_25 rfl rfl rfl rfl ?_
  refine jT_xiinc (x := 4) (z := 5) (LN := [(4, (0, 5)), (2, (1, 108917793695 * p7 + 159561683699 * p8 + 68719476736 * q1)), (0, (4, 0)), (1, (4, 1))]) (pcN := 29) jIQ_41_26 rfl rfl (by decide) rfl rfl ?_
  refine jT_xgoto (pcN := 5) jIQ_41_29 rfl ?_
  refine jT_xiload (v := (0, 5)) (pcN := 7) jIQ_41_5 rfl rfl rfl ?_
  refine jT_xbipush (k := 6) (pcN := 9) jIQ_41_7 (by decide) rfl ?_
  refine jT_xicF (t := 32) (pcN := 12) jIQ_41_9 rfl (by decide +kernel) rfl rfl ?_
  refine jT_xlload_n (v := (1, 108917793695 * p7 + 159561683699 * p8 + 68719476736 * q1)) (pcN := 13) jIQ_41_12 rfl rfl rfl ?_
  refine jT_xaload_n (v := (4, 1)) (pcN := 14) jIQ_41_13 rfl rfl rfl ?_
  refine jT_xiload (v := (0, 5)) (pcN := 16) jIQ_41_14 rfl rfl rfl ?_
  refine jT_lald (x := 0) (a := 1) (j := 5) (fs := []) (X := [q1, p7, p8, 0, 0, 0]) jIQ_41_16 rfl rfl rfl rfl ?_
  refine jT_eq (LN := [(4, (0, 5)), (2, (1, 108917793695 * p7 + 159561683699 * p8 + 68719476736 * q1)), (0, (4, 0)), (1, (4, 1))]) (stN := [(1, 0), (1, 108917793695 * p7 + 159561683699 * p8 + 68719476736 * q1)]) (hsN := [jgh, (101, [], [q1, p7, p8, 0, 0, 0])]) rfl rfl rfl ?_
  refine jT_adv 1 (pcN := 20) (LN := [(4, (0, 5)), (2, (1, 108917793695 * p7 + 159561683699 * p8 + 68719476736 * q1)), (0, (4, 0)), (1, (4, 1))]) (stN := [(5, 0), (1, 0), (1, 108917793695 * p7 + 159561683699 * p8 + 68719476736 * q1)]) (hsN := [jgh, (101, [], [q1, p7, p8, 0, 0, 0])]) (c1 := 0) (s1 := 0) (c2 := 0) (s2 := 0) (by exact rfl) ?_ (by omega) (by omega)
  refine jT_xiload (v := (0, 5)) (pcN := 22) jIQ_41_20 rfl rfl rfl ?_
  refine jT_adv 1 (pcN := 23) (LN := [(4, (0, 5)), (2, (1, 108917793695 * p7 + 159561683699 * p8 + 68719476736 * q1)), (0, (4, 0)), (1, (4, 1))]) (stN := [(1, 254292281123), (1, 0), (1, 108917793695 * p7 + 159561683699 * p8 + 68719476736 * q1)]) (hsN := [jgh, (101, [], [q1, p7, p8, 0, 0, 0])]) (c1 := 0) (s1 := 0) (c2 := 0) (s2 := 0) (by exact rfl) ?_ (by omega) (by omega)
  refine jT_xlmul (x := 0) (y := 254292281123) (z := 0) (pcN := 24) jIQ_41_23 rfl (by decide) rfl ?_
  refine jT_xladd (x := 108917793695 * p7 + 159561683699 * p8 + 68719476736 * q1) (y := 0) (z := 108917793695 * p7 + 159561683699 * p8 + 68719476736 * q1) (pcN := 25) jIQ_41_24 rfl (by omega) rfl ?_
  refine jT_xlstore_n (v := (1, 108917793695 * p7 + 159561683699 * p8 + 68719476736 * q1)) (LN := [(2, (1, 108917793695 * p7 + 159561683699 * p8 + 68719476736 * q1)), (4, (0, 5)), (0, (4, 0)), (1, (4, 1))]) (pcN := 26) jIQ_41_25 rfl rfl rfl rfl ?_
  refine jT_xiinc (x := 5) (z := 6) (LN := [(4, (0, 6)), (2, (1, 108917793695 * p7 + 159561683699 * p8 + 68719476736 * q1)), (0, (4, 0)), (1, (4, 1))]) (pcN := 29) jIQ_41_26 rfl rfl (by decide) rfl rfl ?_
  refine jT_xgoto (pcN := 5) jIQ_41_29 rfl ?_
  refine jT_xiload (v := (0, 6)) (pcN := 7) jIQ_41_5 rfl rfl rfl ?_
  refine jT_xbipush (k := 6) (pcN := 9) jIQ_41_7 (by decide) rfl ?_
  refine jT_xicT (pcN := 32) jIQ_41_9 rfl (by decide +kernel) rfl ?_
  refine jT_xlload_n (v := (1, 108917793695 * p7 + 159561683699 * p8 + 68719476736 * q1)) (pcN := 33) jIQ_41_32 rfl rfl rfl ?_
  exact jT_ret rfl (by decide) (by show 2 ≤ 2; omega) (by omega) (by omega) ⟨rfl, rfl, rfl⟩
theorem jQ_39_169 {xs : List Int} {d : Nat} {p7 p8 q1 : Int} (h_p7 : (-20) ≤ p7 ∧ p7 ≤ 20) (h_p8 : (-10) ≤ p8 ∧ p8 ≤ 10) (h_q1 : (-60) ≤ q1 ∧ q1 ≤ 60) (g_0 : 0 ≤ (-108917793694) * p7 - 159561683698 * p8 - 68719476736 * q1 - 1) (g_1 : 0 ≤ (-108917793694) * p7 - 159561683700 * p8 - 68719476736 * q1 - 1) (g_2 : 0 ≤ (-108917793696) * p7 - 159561683698 * p8 - 68719476736 * q1 - 1) (g_3 : 0 ≤ (-108917793696) * p7 - 159561683700 * p8 - 68719476736 * q1 - 1) (g_4 : 0 ≤ p7) (g_5 : p8 < 0) (g_6 : 0 ≤ q1) (g_7 : 0 ≤ 108917793695 * p7 + 159561683699 * p8 + 68719476736 * q1 - 1) : jT xs d 39 2 0 [(0, (4, 0)), (1, (4, 1))] [] [jgh, (101, [], [q1, p7, p8, 0, 0, 0])] 0 0 (fun k v hsN => k = 0 ∧ v = (1, p7 - p8) ∧ hsN = [jgh, (101, [], [q1, p7, p8, 0, 0, 0])] ++ []) := by
  refine jT_xlconst (z := 0) (pcN := 1) jIQ_39_0 rfl rfl ?_
  refine jT_xlstore_n (v := (1, 0)) (LN := [(2, (1, 0)), (0, (4, 0)), (1, (4, 1))]) (pcN := 2) jIQ_39_1 rfl rfl rfl rfl ?_
  refine jT_xiconst (k := 1) (pcN := 3) jIQ_39_2 rfl ?_
  refine jT_xistore (v := (0, 1)) (LN := [(4, (0, 1)), (2, (1, 0)), (0, (4, 0)), (1, (4, 1))]) (pcN := 5) jIQ_39_3 rfl rfl rfl rfl ?_
  refine jT_xiload (v := (0, 1)) (pcN := 7) jIQ_39_5 rfl rfl rfl ?_
  refine jT_xbipush (k := 6) (pcN := 9) jIQ_39_7 (by decide) rfl ?_
  refine jT_xicF (t := 28) (pcN := 12) jIQ_39_9 rfl (by decide +kernel) rfl rfl ?_
  refine jT_xlload_n (v := (1, 0)) (pcN := 13) jIQ_39_12 rfl rfl rfl ?_
  refine jT_xaload_n (v := (4, 1)) (pcN := 14) jIQ_39_13 rfl rfl rfl ?_
  refine jT_xiload (v := (0, 1)) (pcN := 16) jIQ_39_14 rfl rfl rfl ?_
  refine jT_lald (x := p7) (a := 1) (j := 1) (fs := []) (X := [q1, p7, p8, 0, 0, 0]) jIQ_39_16 rfl rfl rfl rfl ?_
  refine jT_eq (LN := [(4, (0, 1)), (2, (1, 0)), (0, (4, 0)), (1, (4, 1))]) (stN := [(1, p7), (1, 0)]) (hsN := [jgh, (101, [], [q1, p7, p8, 0, 0, 0])]) rfl rfl rfl ?_
  refine jT_labs (z := p7) (by rfl) (by rfl) (by rfl) (by rfl) (by rw [show jwl (p7) = p7 from jwl_idd (by omega) (by omega), decide_eq_false (by omega)]; first | (simp only [cond_true, cond_false]; done) | (simp only [cond_true, cond_false]; omega) | rfl) ?_
  refine jT_xladd (x := 0) (y := p7) (z := p7) (pcN := 21) jIQ_39_20 rfl (by omega) rfl ?_
  refine jT_xlstore_n (v := (1, p7)) (LN := [(2, (1, p7)), (4, (0, 1)), (0, (4, 0)), (1, (4, 1))]) (pcN := 22) jIQ_39_21 rfl rfl rfl rfl ?_
  refine jT_xiinc (x := 1) (z := 2) (LN := [(4, (0, 2)), (2, (1, p7)), (0, (4, 0)), (1, (4, 1))]) (pcN := 25) jIQ_39_22 rfl rfl (by decide) rfl rfl ?_
  refine jT_xgoto (pcN := 5) jIQ_39_25 rfl ?_
  refine jT_xiload (v := (0, 2)) (pcN := 7) jIQ_39_5 rfl rfl rfl ?_
  refine jT_xbipush (k := 6) (pcN := 9) jIQ_39_7 (by decide) rfl ?_
  refine jT_xicF (t := 28) (pcN := 12) jIQ_39_9 rfl (by decide +kernel) rfl rfl ?_
  refine jT_xlload_n (v := (1, p7)) (pcN := 13) jIQ_39_12 rfl rfl rfl ?_
  refine jT_xaload_n (v := (4, 1)) (pcN := 14) jIQ_39_13 rfl rfl rfl ?_
  refine jT_xiload (v := (0, 2)) (pcN := 16) jIQ_39_14 rfl rfl rfl ?_
  refine jT_lald (x := p8) (a := 1) (j := 2) (fs := []) (X := [q1, p7, p8, 0, 0, 0]) jIQ_39_16 rfl rfl rfl rfl ?_
  refine jT_eq (LN := [(4, (0, 2)), (2, (1, p7)), (0, (4, 0)), (1, (4, 1))]) (stN := [(1, p8), (1, p7)]) (hsN := [jgh, (101, [], [q1, p7, p8, 0, 0, 0])]) rfl rfl rfl ?_
  refine jT_labs (z := -p8) (by rfl) (by rfl) (by rfl) (by rfl) (by rw [show jwl (p8) = p8 from jwl_idd (by omega) (by omega), decide_eq_true (by omega)]; first | (simp only [cond_true, cond_false]; done) | (simp only [cond_true, cond_false]; omega) | rfl) ?_
  refine jT_xladd (x := p7) (y := -p8) (z := p7 - p8) (pcN := 21) jIQ_39_20 rfl (by omega) rfl ?_
  refine jT_xlstore_n (v := (1, p7 - p8)) (LN := [(2, (1, p7 - p8)), (4, (0, 2)), (0, (4, 0)), (1, (4, 1))]) (pcN := 22) jIQ_39_21 rfl rfl rfl rfl ?_
  refine jT_xiinc (x := 2) (z := 3) (LN := [(4, (0, 3)), (2, (1, p7 - p8)), (0, (4, 0)), (1, (4, 1))]) (pcN := 25) jIQ_39_22 rfl rfl (by decide) rfl rfl ?_
  refine jT_xgoto (pcN := 5) jIQ_39_25 rfl ?_
  refine jT_xiload (v := (0, 3)) (pcN := 7) jIQ_39_5 rfl rfl rfl ?_
  refine jT_xbipush (k := 6) (pcN := 9) jIQ_39_7 (by decide) rfl ?_
  refine jT_xicF (t := 28) (pcN := 12) jIQ_39_9 rfl (by decide +kernel) rfl rfl ?_
  refine jT_xlload_n (v := (1, p7 - p8)) (pcN := 13) jIQ_39_12 rfl rfl rfl ?_
  refine jT_xaload_n (v := (4, 1)) (pcN := 14) jIQ_39_13 rfl rfl rfl ?_
  refine jT_xiload (v := (0, 3)) (pcN := 16) jIQ_39_14 rfl rfl rfl ?_
  refine jT_lald (x := 0) (a := 1) (j := 3) (fs := []) (X := [q1, p7, p8, 0, 0, 0]) jIQ_39_16 rfl rfl rfl rfl ?_
  refine jT_eq (LN := [(4, (0, 3)), (2, (1, p7 - p8)), (0, (4, 0)), (1, (4, 1))]) (stN := [(1, 0), (1, p7 - p8)]) (hsN := [jgh, (101, [], [q1, p7, p8, 0, 0, 0])]) rfl rfl rfl ?_
  refine jT_labs (z := 0) (by rfl) (by rfl) (by rfl) (by rfl) (by decide +kernel) ?_
  refine jT_xladd (x := p7 - p8) (y := 0) (z := p7 - p8) (pcN := 21) jIQ_39_20 rfl (by omega) rfl ?_
  refine jT_xlstore_n (v := (1, p7 - p8)) (LN := [(2, (1, p7 - p8)), (4, (0, 3)), (0, (4, 0)), (1, (4, 1))]) (pcN := 22) jIQ_39_21 rfl rfl rfl rfl ?_
  refine jT_xiinc (x := 3) (z := 4) (LN := [(4, (0, 4)), (2, (1, p7 - p8)), (0, (4, 0)), (1, (4, 1))]) (pcN := 25) jIQ_39_22 rfl rfl (by decide) rfl rfl ?_
  refine jT_xgoto (pcN := 5) jIQ_39_25 rfl ?_
  refine jT_xiload (v := (0, 4)) (pcN := 7) jIQ_39_5 rfl rfl rfl ?_
  refine jT_xbipush (k := 6) (pcN := 9) jIQ_39_7 (by decide) rfl ?_
  refine jT_xicF (t := 28) (pcN := 12) jIQ_39_9 rfl (by decide +kernel) rfl rfl ?_
  refine jT_xlload_n (v := (1, p7 - p8)) (pcN := 13) jIQ_39_12 rfl rfl rfl ?_
  refine jT_xaload_n (v := (4, 1)) (pcN := 14) jIQ_39_13 rfl rfl rfl ?_
  refine jT_xiload (v := (0, 4)) (pcN := 16) jIQ_39_14 rfl rfl rfl ?_
  refine jT_lald (x := 0) (a := 1) (j := 4) (fs := []) (X := [q1, p7, p8, 0, 0, 0]) jIQ_39_16 rfl rfl rfl rfl ?_
  refine jT_eq (LN := [(4, (0, 4)), (2, (1, p7 - p8)), (0, (4, 0)), (1, (4, 1))]) (stN := [(1, 0), (1, p7 - p8)]) (hsN := [jgh, (101, [], [q1, p7, p8, 0, 0, 0])]) rfl rfl rfl ?_
  refine jT_labs (z := 0) (by rfl) (by rfl) (by rfl) (by rfl) (by decide +kernel) ?_
  refine jT_xladd (x := p7 - p8) (y := 0) (z := p7 - p8) (pcN := 21) jIQ_39_20 rfl (by omega) rfl ?_
  refine jT_xlstore_n (v := (1, p7 - p8)) (LN := [(2, (1, p7 - p8)), (4, (0, 4)), (0, (4, 0)), (1, (4, 1))]) (pcN := 22) jIQ_39_21 rfl rfl rfl rfl ?_
  refine jT_xiinc (x := 4) (z := 5) (LN := [(4, (0, 5)), (2, (1, p7 - p8)), (0, (4, 0)), (1, (4, 1))]) (pcN := 25) jIQ_39_22 rfl rfl (by decide) rfl rfl ?_
  refine jT_xgoto (pcN := 5) jIQ_39_25 rfl ?_
  refine jT_xiload (v := (0, 5)) (pcN := 7) jIQ_39_5 rfl rfl rfl ?_
  refine jT_xbipush (k := 6) (pcN := 9) jIQ_39_7 (by decide) rfl ?_
  refine jT_xicF (t := 28) (pcN := 12) jIQ_39_9 rfl (by decide +kernel) rfl rfl ?_
  refine jT_xlload_n (v := (1, p7 - p8)) (pcN := 13) jIQ_39_12 rfl rfl rfl ?_
  refine jT_xaload_n (v := (4, 1)) (pcN := 14) jIQ_39_13 rfl rfl rfl ?_
  refine jT_xiload (v := (0, 5)) (pcN := 16) jIQ_39_14 rfl rfl rfl ?_
  refine jT_lald (x := 0) (a := 1) (j := 5) (fs := []) (X := [q1, p7, p8, 0, 0, 0]) jIQ_39_16 rfl rfl rfl rfl ?_
  refine jT_eq (LN := [(4, (0, 5)), (2, (1, p7 - p8)), (0, (4, 0)), (1, (4, 1))]) (stN := [(1, 0), (1, p7 - p8)]) (hsN := [jgh, (101, [], [q1, p7, p8, 0, 0, 0])]) rfl rfl rfl ?_
  refine jT_labs (z := 0) (by rfl) (by rfl) (by rfl) (by rfl) (by decide +kernel) ?_
  refine jT_xladd (x := p7 - p8) (y := 0) (z := p7 - p8) (pcN := 21) jIQ_39_20 rfl (by omega) rfl ?_
  refine jT_xlstore_n (v := (1, p7 - p8)) (LN := [(2, (1, p7 - p8)), (4, (0, 5)), (0, (4, 0)), (1, (4, 1))]) (pcN := 22) jIQ_39_21 rfl rfl rfl rfl ?_
  refine jT_xiinc (x := 5) (z := 6) (LN := [(4, (0, 6)), (2, (1, p7 - p8)), (0, (4, 0)), (1, (4, 1))]) (pcN := 25) jIQ_39_22 rfl rfl (by decide) rfl rfl ?_
  refine jT_xgoto (pcN := 5) jIQ_39_25 rfl ?_
  refine jT_xiload (v := (0, 6)) (pcN := 7) jIQ_39_5 rfl rfl rfl ?_
  refine jT_xbipush (k := 6) (pcN := 9) jIQ_39_7 (by decide) rfl ?_
  refine jT_xicT (pcN := 28) jIQ_39_9 rfl (by decide +kernel) rfl ?_
  refine jT_xlload_n (v := (1, p7 - p8)) (pcN := 29) jIQ_39_28 rfl rfl rfl ?_
  exact jT_ret rfl (by decide) (by show 2 ≤ 2; omega) (by omega) (by omega) ⟨rfl, rfl, rfl⟩
theorem jQ_40_170 {xs : List Int} {d : Nat} {p7 p8 q1 : Int} (h_p7 : (-20) ≤ p7 ∧ p7 ≤ 20) (h_p8 : (-10) ≤ p8 ∧ p8 ≤ 10) (h_q1 : (-60) ≤ q1 ∧ q1 ≤ 60) (g_0 : 0 ≤ (-108917793694) * p7 - 159561683698 * p8 - 68719476736 * q1 - 1) (g_1 : 0 ≤ (-108917793694) * p7 - 159561683700 * p8 - 68719476736 * q1 - 1) (g_2 : 0 ≤ (-108917793696) * p7 - 159561683698 * p8 - 68719476736 * q1 - 1) (g_3 : 0 ≤ (-108917793696) * p7 - 159561683700 * p8 - 68719476736 * q1 - 1) (g_4 : 0 ≤ p7) (g_5 : p8 < 0) (g_6 : 0 ≤ q1) (g_7 : 0 ≤ 108917793695 * p7 + 159561683699 * p8 + 68719476736 * q1 - 1) : jT xs d 40 2 0 [(0, (4, 0)), (1, (4, 1)), (2, (1, p7 - p8))] [] [jgh, (101, [], [q1, p7, p8, 0, 0, 0])] 0 0 (fun k v hsN => k = 0 ∧ v = (0, 1) ∧ hsN = [jgh, (101, [], [q1, p7, p8, 0, 0, 0])] ++ []) := by
  refine jT_xlload_n (v := (1, p7 - p8)) (pcN := 1) jIQ_40_0 rfl rfl rfl ?_
  refine jT_adv 1 (pcN := 4) (LN := [(0, (4, 0)), (1, (4, 1)), (2, (1, p7 - p8))]) (stN := [(1, 16777216), (1, p7 - p8)]) (hsN := [jgh, (101, [], [q1, p7, p8, 0, 0, 0])]) (c1 := 0) (s1 := 0) (c2 := 0) (s2 := 0) (by exact rfl) ?_ (by omega) (by omega)
  refine jT_lcmp (a := p7 - p8) (b := 16777216) (z := (-1)) (by rfl) (by rfl) (jwl_idd (by omega) (by omega)) (jwl_idd (by omega) (by omega)) (by rw [decide_eq_false (show ¬ ((16777216 : Int) < p7 - p8) by omega), decide_eq_false (show ¬ ((p7 - p8 : Int) = 16777216) by omega)]; rfl) ?_
  refine jT_xifF (t := 25) (pcN := 8) jIQ_40_5 rfl (by decide +kernel) rfl rfl ?_
  refine jT_xaload_n (v := (4, 1)) (pcN := 9) jIQ_40_8 rfl rfl rfl ?_
  refine jT_xiconst (k := 0) (pcN := 10) jIQ_40_9 rfl ?_
  refine jT_lald (x := q1) (a := 1) (j := 0) (fs := []) (X := [q1, p7, p8, 0, 0, 0]) jIQ_40_10 rfl rfl rfl rfl ?_
  refine jT_eq (LN := [(0, (4, 0)), (1, (4, 1)), (2, (1, p7 - p8))]) (stN := [(1, q1)]) (hsN := [jgh, (101, [], [q1, p7, p8, 0, 0, 0])]) rfl rfl rfl ?_
  refine jT_labs (z := q1) (by rfl) (by rfl) (by rfl) (by rfl) (by rw [show jwl (q1) = q1 from jwl_idd (by omega) (by omega), decide_eq_false (by omega)]; first | (simp only [cond_true, cond_false]; done) | (simp only [cond_true, cond_false]; omega) | rfl) ?_
  refine jT_adv 1 (pcN := 17) (LN := [(0, (4, 0)), (1, (4, 1)), (2, (1, p7 - p8))]) (stN := [(1, 16777216), (1, q1)]) (hsN := [jgh, (101, [], [q1, p7, p8, 0, 0, 0])]) (c1 := 0) (s1 := 0) (c2 := 0) (s2 := 0) (by exact rfl) ?_ (by omega) (by omega)
  refine jT_lcmp (a := q1) (b := 16777216) (z := (-1)) (by rfl) (by rfl) (jwl_idd (by omega) (by omega)) (jwl_idd (by omega) (by omega)) (by rw [decide_eq_false (show ¬ ((16777216 : Int) < q1) by omega), decide_eq_false (show ¬ ((q1 : Int) = 16777216) by omega)]; rfl) ?_
  refine jT_xifF (t := 25) (pcN := 21) jIQ_40_18 rfl (by decide +kernel) rfl rfl ?_
  refine jT_xiconst (k := 1) (pcN := 22) jIQ_40_21 rfl ?_
  refine jT_xgoto (pcN := 26) jIQ_40_22 rfl ?_
  exact jT_ret rfl (by decide) (by show 2 ≤ 2; omega) (by omega) (by omega) ⟨rfl, rfl, rfl⟩
theorem jQ_41_171 {xs : List Int} {d : Nat} {p7 p8 q1 : Int} (h_p7 : (-20) ≤ p7 ∧ p7 ≤ 20) (h_p8 : (-10) ≤ p8 ∧ p8 ≤ 10) (h_q1 : (-60) ≤ q1 ∧ q1 ≤ 60) (g_0 : 0 ≤ (-108917793694) * p7 - 159561683698 * p8 - 68719476736 * q1 - 1) (g_1 : 0 ≤ (-108917793694) * p7 - 159561683700 * p8 - 68719476736 * q1 - 1) (g_2 : 0 ≤ (-108917793696) * p7 - 159561683698 * p8 - 68719476736 * q1 - 1) (g_3 : 0 ≤ (-108917793696) * p7 - 159561683700 * p8 - 68719476736 * q1 - 1) (g_4 : 0 ≤ p7) (g_5 : p8 < 0) (g_6 : 0 ≤ q1) (g_7 : 0 ≤ 108917793695 * p7 + 159561683699 * p8 + 68719476736 * q1 - 1) : jT xs d 41 2 0 [(0, (4, 0)), (1, (4, 1))] [] [jgh, (101, [], [q1, p7, p8, 0, 0, 0])] 0 0 (fun k v hsN => k = 0 ∧ v = (1, 108917793695 * p7 + 159561683699 * p8 + 68719476736 * q1) ∧ hsN = [jgh, (101, [], [q1, p7, p8, 0, 0, 0])] ++ []) := by
  refine jT_xlconst (z := 0) (pcN := 1) jIQ_41_0 rfl rfl ?_
  refine jT_xlstore_n (v := (1, 0)) (LN := [(2, (1, 0)), (0, (4, 0)), (1, (4, 1))]) (pcN := 2) jIQ_41_1 rfl rfl rfl rfl ?_
  refine jT_xiconst (k := 0) (pcN := 3) jIQ_41_2 rfl ?_
  refine jT_xistore (v := (0, 0)) (LN := [(4, (0, 0)), (2, (1, 0)), (0, (4, 0)), (1, (4, 1))]) (pcN := 5) jIQ_41_3 rfl rfl rfl rfl ?_
  refine jT_xiload (v := (0, 0)) (pcN := 7) jIQ_41_5 rfl rfl rfl ?_
  refine jT_xbipush (k := 6) (pcN := 9) jIQ_41_7 (by decide) rfl ?_
  refine jT_xicF (t := 32) (pcN := 12) jIQ_41_9 rfl (by decide +kernel) rfl rfl ?_
  refine jT_xlload_n (v := (1, 0)) (pcN := 13) jIQ_41_12 rfl rfl rfl ?_
  refine jT_xaload_n (v := (4, 1)) (pcN := 14) jIQ_41_13 rfl rfl rfl ?_
  refine jT_xiload (v := (0, 0)) (pcN := 16) jIQ_41_14 rfl rfl rfl ?_
  refine jT_lald (x := q1) (a := 1) (j := 0) (fs := []) (X := [q1, p7, p8, 0, 0, 0]) jIQ_41_16 rfl rfl rfl rfl ?_
  refine jT_eq (LN := [(4, (0, 0)), (2, (1, 0)), (0, (4, 0)), (1, (4, 1))]) (stN := [(1, q1), (1, 0)]) (hsN := [jgh, (101, [], [q1, p7, p8, 0, 0, 0])]) rfl rfl rfl ?_
  refine jT_adv 1 (pcN := 20) (LN := [(4, (0, 0)), (2, (1, 0)), (0, (4, 0)), (1, (4, 1))]) (stN := [(5, 0), (1, q1), (1, 0)]) (hsN := [jgh, (101, [], [q1, p7, p8, 0, 0, 0])]) (c1 := 0) (s1 := 0) (c2 := 0) (s2 := 0) (by exact rfl) ?_ (by omega) (by omega)
  refine jT_xiload (v := (0, 0)) (pcN := 22) jIQ_41_20 rfl rfl rfl ?_
  refine jT_adv 1 (pcN := 23) (LN := [(4, (0, 0)), (2, (1, 0)), (0, (4, 0)), (1, (4, 1))]) (stN := [(1, 68719476736), (1, q1), (1, 0)]) (hsN := [jgh, (101, [], [q1, p7, p8, 0, 0, 0])]) (c1 := 0) (s1 := 0) (c2 := 0) (s2 := 0) (by exact rfl) ?_ (by omega) (by omega)
  refine jT_xlmul (x := q1) (y := 68719476736) (z := 68719476736 * q1) (pcN := 24) jIQ_41_23 rfl (by omega) rfl ?_
  refine jT_xladd (x := 0) (y := 68719476736 * q1) (z := 68719476736 * q1) (pcN := 25) jIQ_41_24 rfl (by omega) rfl ?_
  refine jT_xlstore_n (v := (1, 68719476736 * q1)) (LN := [(2, (1, 68719476736 * q1)), (4, (0, 0)), (0, (4, 0)), (1, (4, 1))]) (pcN := 26) jIQ_41_25 rfl rfl rfl rfl ?_
  refine jT_xiinc (x := 0) (z := 1) (LN := [(4, (0, 1)), (2, (1, 68719476736 * q1)), (0, (4, 0)), (1, (4, 1))]) (pcN := 29) jIQ_41_26 rfl rfl (by decide) rfl rfl ?_
  refine jT_xgoto (pcN := 5) jIQ_41_29 rfl ?_
  refine jT_xiload (v := (0, 1)) (pcN := 7) jIQ_41_5 rfl rfl rfl ?_
  refine jT_xbipush (k := 6) (pcN := 9) jIQ_41_7 (by decide) rfl ?_
  refine jT_xicF (t := 32) (pcN := 12) jIQ_41_9 rfl (by decide +kernel) rfl rfl ?_
  refine jT_xlload_n (v := (1, 68719476736 * q1)) (pcN := 13) jIQ_41_12 rfl rfl rfl ?_
  refine jT_xaload_n (v := (4, 1)) (pcN := 14) jIQ_41_13 rfl rfl rfl ?_
  refine jT_xiload (v := (0, 1)) (pcN := 16) jIQ_41_14 rfl rfl rfl ?_
  refine jT_lald (x := p7) (a := 1) (j := 1) (fs := []) (X := [q1, p7, p8, 0, 0, 0]) jIQ_41_16 rfl rfl rfl rfl ?_
  refine jT_eq (LN := [(4, (0, 1)), (2, (1, 68719476736 * q1)), (0, (4, 0)), (1, (4, 1))]) (stN := [(1, p7), (1, 68719476736 * q1)]) (hsN := [jgh, (101, [], [q1, p7, p8, 0, 0, 0])]) rfl rfl rfl ?_
  refine jT_adv 1 (pcN := 20) (LN := [(4, (0, 1)), (2, (1, 68719476736 * q1)), (0, (4, 0)), (1, (4, 1))]) (stN := [(5, 0), (1, p7), (1, 68719476736 * q1)]) (hsN := [jgh, (101, [], [q1, p7, p8, 0, 0, 0])]) (c1 := 0) (s1 := 0) (c2 := 0) (s2 := 0) (by exact rfl) ?_ (by omega) (by omega)
  refine jT_xiload (v := (0, 1)) (pcN := 22) jIQ_41_20 rfl rfl rfl ?_
  refine jT_adv 1 (pcN := 23) (LN := [(4, (0, 1)), (2, (1, 68719476736 * q1)), (0, (4, 0)), (1, (4, 1))]) (stN := [(1, 108917793695), (1, p7), (1, 68719476736 * q1)]) (hsN := [jgh, (101, [], [q1, p7, p8, 0, 0, 0])]) (c1 := 0) (s1 := 0) (c2 := 0) (s2 := 0) (by exact rfl) ?_ (by omega) (by omega)
  refine jT_xlmul (x := p7) (y := 108917793695) (z := 108917793695 * p7) (pcN := 24) jIQ_41_23 rfl (by omega) rfl ?_
  refine jT_xladd (x := 68719476736 * q1) (y := 108917793695 * p7) (z := 108917793695 * p7 + 68719476736 * q1) (pcN := 25) jIQ_41_24 rfl (by omega) rfl ?_
  refine jT_xlstore_n (v := (1, 108917793695 * p7 + 68719476736 * q1)) (LN := [(2, (1, 108917793695 * p7 + 68719476736 * q1)), (4, (0, 1)), (0, (4, 0)), (1, (4, 1))]) (pcN := 26) jIQ_41_25 rfl rfl rfl rfl ?_
  refine jT_xiinc (x := 1) (z := 2) (LN := [(4, (0, 2)), (2, (1, 108917793695 * p7 + 68719476736 * q1)), (0, (4, 0)), (1, (4, 1))]) (pcN := 29) jIQ_41_26 rfl rfl (by decide) rfl rfl ?_
  refine jT_xgoto (pcN := 5) jIQ_41_29 rfl ?_
  refine jT_xiload (v := (0, 2)) (pcN := 7) jIQ_41_5 rfl rfl rfl ?_
  refine jT_xbipush (k := 6) (pcN := 9) jIQ_41_7 (by decide) rfl ?_
  refine jT_xicF (t := 32) (pcN := 12) jIQ_41_9 rfl (by decide +kernel) rfl rfl ?_
  refine jT_xlload_n (v := (1, 108917793695 * p7 + 68719476736 * q1)) (pcN := 13) jIQ_41_12 rfl rfl rfl ?_
  refine jT_xaload_n (v := (4, 1)) (pcN := 14) jIQ_41_13 rfl rfl rfl ?_
  refine jT_xiload (v := (0, 2)) (pcN := 16) jIQ_41_14 rfl rfl rfl ?_
  refine jT_lald (x := p8) (a := 1) (j := 2) (fs := []) (X := [q1, p7, p8, 0, 0, 0]) jIQ_41_16 rfl rfl rfl rfl ?_
  refine jT_eq (LN := [(4, (0, 2)), (2, (1, 108917793695 * p7 + 68719476736 * q1)), (0, (4, 0)), (1, (4, 1))]) (stN := [(1, p8), (1, 108917793695 * p7 + 68719476736 * q1)]) (hsN := [jgh, (101, [], [q1, p7, p8, 0, 0, 0])]) rfl rfl rfl ?_
  refine jT_adv 1 (pcN := 20) (LN := [(4, (0, 2)), (2, (1, 108917793695 * p7 + 68719476736 * q1)), (0, (4, 0)), (1, (4, 1))]) (stN := [(5, 0), (1, p8), (1, 108917793695 * p7 + 68719476736 * q1)]) (hsN := [jgh, (101, [], [q1, p7, p8, 0, 0, 0])]) (c1 := 0) (s1 := 0) (c2 := 0) (s2 := 0) (by exact rfl) ?_ (by omega) (by omega)
  refine jT_xiload (v := (0, 2)) (pcN := 22) jIQ_41_20 rfl rfl rfl ?_
  refine jT_adv 1 (pcN := 23) (LN := [(4, (0, 2)), (2, (1, 108917793695 * p7 + 68719476736 * q1)), (0, (4, 0)), (1, (4, 1))]) (stN := [(1, 159561683699), (1, p8), (1, 108917793695 * p7 + 68719476736 * q1)]) (hsN := [jgh, (101, [], [q1, p7, p8, 0, 0, 0])]) (c1 := 0) (s1 := 0) (c2 := 0) (s2 := 0) (by exact rfl) ?_ (by omega) (by omega)
  refine jT_xlmul (x := p8) (y := 159561683699) (z := 159561683699 * p8) (pcN := 24) jIQ_41_23 rfl (by omega) rfl ?_
  refine jT_xladd (x := 108917793695 * p7 + 68719476736 * q1) (y := 159561683699 * p8) (z := 108917793695 * p7 + 159561683699 * p8 + 68719476736 * q1) (pcN := 25) jIQ_41_24 rfl (by omega) rfl ?_
  refine jT_xlstore_n (v := (1, 108917793695 * p7 + 159561683699 * p8 + 68719476736 * q1)) (LN := [(2, (1, 108917793695 * p7 + 159561683699 * p8 + 68719476736 * q1)), (4, (0, 2)), (0, (4, 0)), (1, (4, 1))]) (pcN := 26) jIQ_41_25 rfl rfl rfl rfl ?_
  refine jT_xiinc (x := 2) (z := 3) (LN := [(4, (0, 3)), (2, (1, 108917793695 * p7 + 159561683699 * p8 + 68719476736 * q1)), (0, (4, 0)), (1, (4, 1))]) (pcN := 29) jIQ_41_26 rfl rfl (by decide) rfl rfl ?_
  refine jT_xgoto (pcN := 5) jIQ_41_29 rfl ?_
  refine jT_xiload (v := (0, 3)) (pcN := 7) jIQ_41_5 rfl rfl rfl ?_
  refine jT_xbipush (k := 6) (pcN := 9) jIQ_41_7 (by decide) rfl ?_
  refine jT_xicF (t := 32) (pcN := 12) jIQ_41_9 rfl (by decide +kernel) rfl rfl ?_
  refine jT_xlload_n (v := (1, 108917793695 * p7 + 159561683699 * p8 + 68719476736 * q1)) (pcN := 13) jIQ_41_12 rfl rfl rfl ?_
  refine jT_xaload_n (v := (4, 1)) (pcN := 14) jIQ_41_13 rfl rfl rfl ?_
  refine jT_xiload (v := (0, 3)) (pcN := 16) jIQ_41_14 rfl rfl rfl ?_
  refine jT_lald (x := 0) (a := 1) (j := 3) (fs := []) (X := [q1, p7, p8, 0, 0, 0]) jIQ_41_16 rfl rfl rfl rfl ?_
  refine jT_eq (LN := [(4, (0, 3)), (2, (1, 108917793695 * p7 + 159561683699 * p8 + 68719476736 * q1)), (0, (4, 0)), (1, (4, 1))]) (stN := [(1, 0), (1, 108917793695 * p7 + 159561683699 * p8 + 68719476736 * q1)]) (hsN := [jgh, (101, [], [q1, p7, p8, 0, 0, 0])]) rfl rfl rfl ?_
  refine jT_adv 1 (pcN := 20) (LN := [(4, (0, 3)), (2, (1, 108917793695 * p7 + 159561683699 * p8 + 68719476736 * q1)), (0, (4, 0)), (1, (4, 1))]) (stN := [(5, 0), (1, 0), (1, 108917793695 * p7 + 159561683699 * p8 + 68719476736 * q1)]) (hsN := [jgh, (101, [], [q1, p7, p8, 0, 0, 0])]) (c1 := 0) (s1 := 0) (c2 := 0) (s2 := 0) (by exact rfl) ?_ (by omega) (by omega)
  refine jT_xiload (v := (0, 3)) (pcN := 22) jIQ_41_20 rfl rfl rfl ?_
  refine jT_adv 1 (pcN := 23) (LN := [(4, (0, 3)), (2, (1, 108917793695 * p7 + 159561683699 * p8 + 68719476736 * q1)), (0, (4, 0)), (1, (4, 1))]) (stN := [(1, 192919961256), (1, 0), (1, 108917793695 * p7 + 159561683699 * p8 + 68719476736 * q1)]) (hsN := [jgh, (101, [], [q1, p7, p8, 0, 0, 0])]) (c1 := 0) (s1 := 0) (c2 := 0) (s2 := 0) (by exact rfl) ?_ (by omega) (by omega)
  refine jT_xlmul (x := 0) (y := 192919961256) (z := 0) (pcN := 24) jIQ_41_23 rfl (by decide) rfl ?_
  refine jT_xladd (x := 108917793695 * p7 + 159561683699 * p8 + 68719476736 * q1) (y := 0) (z := 108917793695 * p7 + 159561683699 * p8 + 68719476736 * q1) (pcN := 25) jIQ_41_24 rfl (by omega) rfl ?_
  refine jT_xlstore_n (v := (1, 108917793695 * p7 + 159561683699 * p8 + 68719476736 * q1)) (LN := [(2, (1, 108917793695 * p7 + 159561683699 * p8 + 68719476736 * q1)), (4, (0, 3)), (0, (4, 0)), (1, (4, 1))]) (pcN := 26) jIQ_41_25 rfl rfl rfl rfl ?_
  refine jT_xiinc (x := 3) (z := 4) (LN := [(4, (0, 4)), (2, (1, 108917793695 * p7 + 159561683699 * p8 + 68719476736 * q1)), (0, (4, 0)), (1, (4, 1))]) (pcN := 29) jIQ_41_26 rfl rfl (by decide) rfl rfl ?_
  refine jT_xgoto (pcN := 5) jIQ_41_29 rfl ?_
  refine jT_xiload (v := (0, 4)) (pcN := 7) jIQ_41_5 rfl rfl rfl ?_
  refine jT_xbipush (k := 6) (pcN := 9) jIQ_41_7 (by decide) rfl ?_
  refine jT_xicF (t := 32) (pcN := 12) jIQ_41_9 rfl (by decide +kernel) rfl rfl ?_
  refine jT_xlload_n (v := (1, 108917793695 * p7 + 159561683699 * p8 + 68719476736 * q1)) (pcN := 13) jIQ_41_12 rfl rfl rfl ?_
  refine jT_xaload_n (v := (4, 1)) (pcN := 14) jIQ_41_13 rfl rfl rfl ?_
  refine jT_xiload (v := (0, 4)) (pcN := 16) jIQ_41_14 rfl rfl rfl ?_
  refine jT_lald (x := 0) (a := 1) (j := 4) (fs := []) (X := [q1, p7, p8, 0, 0, 0]) jIQ_41_16 rfl rfl rfl rfl ?_
  refine jT_eq (LN := [(4, (0, 4)), (2, (1, 108917793695 * p7 + 159561683699 * p8 + 68719476736 * q1)), (0, (4, 0)), (1, (4, 1))]) (stN := [(1, 0), (1, 108917793695 * p7 + 159561683699 * p8 + 68719476736 * q1)]) (hsN := [jgh, (101, [], [q1, p7, p8, 0, 0, 0])]) rfl rfl rfl ?_
  refine jT_adv 1 (pcN := 20) (LN := [(4, (0, 4)), (2, (1, 108917793695 * p7 + 159561683699 * p8 + 68719476736 * q1)), (0, (4, 0)), (1, (4, 1))]) (stN := [(5, 0), (1, 0), (1, 108917793695 * p7 + 159561683699 * p8 + 68719476736 * q1)]) (hsN := [jgh, (101, [], [q1, p7, p8, 0, 0, 0])]) (c1 := 0) (s1 := 0) (c2 := 0) (s2 := 0) (by exact rfl) ?_ (by omega) (by omega)
  refine jT_xiload (v := (0, 4)) (pcN := 22) jIQ_41_20 rfl rfl rfl ?_
  refine jT_adv 1 (pcN := 23) (LN := [(4, (0, 4)), (2, (1, 108917793695 * p7 + 159561683699 * p8 + 68719476736 * q1)), (0, (4, 0)), (1, (4, 1))]) (stN := [(1, 237730330636), (1, 0), (1, 108917793695 * p7 + 159561683699 * p8 + 68719476736 * q1)]) (hsN := [jgh, (101, [], [q1, p7, p8, 0, 0, 0])]) (c1 := 0) (s1 := 0) (c2 := 0) (s2 := 0) (by exact rfl) ?_ (by omega) (by omega)
  refine jT_xlmul (x := 0) (y := 237730330636) (z := 0) (pcN := 24) jIQ_41_23 rfl (by decide) rfl ?_
  refine jT_xladd (x := 108917793695 * p7 + 159561683699 * p8 + 68719476736 * q1) (y := 0) (z := 108917793695 * p7 + 159561683699 * p8 + 68719476736 * q1) (pcN := 25) jIQ_41_24 rfl (by omega) rfl ?_
  refine jT_xlstore_n (v := (1, 108917793695 * p7 + 159561683699 * p8 + 68719476736 * q1)) (LN := [(2, (1, 108917793695 * p7 + 159561683699 * p8 + 68719476736 * q1)), (4, (0, 4)), (0, (4, 0)), (1, (4, 1))]) (pcN := 26) jIQ_41_25 rfl rfl rfl rfl ?_
  refine jT_xiinc (x := 4) (z := 5) (LN := [(4, (0, 5)), (2, (1, 108917793695 * p7 + 159561683699 * p8 + 68719476736 * q1)), (0, (4, 0)), (1, (4, 1))]) (pcN := 29) jIQ_41_26 rfl rfl (by decide) rfl rfl ?_
  refine jT_xgoto (pcN := 5) jIQ_41_29 rfl ?_
  refine jT_xiload (v := (0, 5)) (pcN := 7) jIQ_41_5 rfl rfl rfl ?_
  refine jT_xbipush (k := 6) (pcN := 9) jIQ_41_7 (by decide) rfl ?_
  refine jT_xicF (t := 32) (pcN := 12) jIQ_41_9 rfl (by decide +kernel) rfl rfl ?_
  refine jT_xlload_n (v := (1, 108917793695 * p7 + 159561683699 * p8 + 68719476736 * q1)) (pcN := 13) jIQ_41_12 rfl rfl rfl ?_
  refine jT_xaload_n (v := (4, 1)) (pcN := 14) jIQ_41_13 rfl rfl rfl ?_
  refine jT_xiload (v := (0, 5)) (pcN := 16) jIQ_41_14 rfl rfl rfl ?_
  refine jT_lald (x := 0) (a := 1) (j := 5) (fs := []) (X := [q1, p7, p8, 0, 0, 0]) jIQ_41_16 rfl rfl rfl rfl ?_
  refine jT_eq (LN := [(4, (0, 5)), (2, (1, 108917793695 * p7 + 159561683699 * p8 + 68719476736 * q1)), (0, (4, 0)), (1, (4, 1))]) (stN := [(1, 0), (1, 108917793695 * p7 + 159561683699 * p8 + 68719476736 * q1)]) (hsN := [jgh, (101, [], [q1, p7, p8, 0, 0, 0])]) rfl rfl rfl ?_
  refine jT_adv 1 (pcN := 20) (LN := [(4, (0, 5)), (2, (1, 108917793695 * p7 + 159561683699 * p8 + 68719476736 * q1)), (0, (4, 0)), (1, (4, 1))]) (stN := [(5, 0), (1, 0), (1, 108917793695 * p7 + 159561683699 * p8 + 68719476736 * q1)]) (hsN := [jgh, (101, [], [q1, p7, p8, 0, 0, 0])]) (c1 := 0) (s1 := 0) (c2 := 0) (s2 := 0) (by exact rfl) ?_ (by omega) (by omega)
  refine jT_xiload (v := (0, 5)) (pcN := 22) jIQ_41_20 rfl rfl rfl ?_
  refine jT_adv 1 (pcN := 23) (LN := [(4, (0, 5)), (2, (1, 108917793695 * p7 + 159561683699 * p8 + 68719476736 * q1)), (0, (4, 0)), (1, (4, 1))]) (stN := [(1, 254292281123), (1, 0), (1, 108917793695 * p7 + 159561683699 * p8 + 68719476736 * q1)]) (hsN := [jgh, (101, [], [q1, p7, p8, 0, 0, 0])]) (c1 := 0) (s1 := 0) (c2 := 0) (s2 := 0) (by exact rfl) ?_ (by omega) (by omega)
  refine jT_xlmul (x := 0) (y := 254292281123) (z := 0) (pcN := 24) jIQ_41_23 rfl (by decide) rfl ?_
  refine jT_xladd (x := 108917793695 * p7 + 159561683699 * p8 + 68719476736 * q1) (y := 0) (z := 108917793695 * p7 + 159561683699 * p8 + 68719476736 * q1) (pcN := 25) jIQ_41_24 rfl (by omega) rfl ?_
  refine jT_xlstore_n (v := (1, 108917793695 * p7 + 159561683699 * p8 + 68719476736 * q1)) (LN := [(2, (1, 108917793695 * p7 + 159561683699 * p8 + 68719476736 * q1)), (4, (0, 5)), (0, (4, 0)), (1, (4, 1))]) (pcN := 26) jIQ_41_25 rfl rfl rfl rfl ?_
  refine jT_xiinc (x := 5) (z := 6) (LN := [(4, (0, 6)), (2, (1, 108917793695 * p7 + 159561683699 * p8 + 68719476736 * q1)), (0, (4, 0)), (1, (4, 1))]) (pcN := 29) jIQ_41_26 rfl rfl (by decide) rfl rfl ?_
  refine jT_xgoto (pcN := 5) jIQ_41_29 rfl ?_
  refine jT_xiload (v := (0, 6)) (pcN := 7) jIQ_41_5 rfl rfl rfl ?_
  refine jT_xbipush (k := 6) (pcN := 9) jIQ_41_7 (by decide) rfl ?_
  refine jT_xicT (pcN := 32) jIQ_41_9 rfl (by decide +kernel) rfl ?_
  refine jT_xlload_n (v := (1, 108917793695 * p7 + 159561683699 * p8 + 68719476736 * q1)) (pcN := 33) jIQ_41_32 rfl rfl rfl ?_
  exact jT_ret rfl (by decide) (by show 2 ≤ 2; omega) (by omega) (by omega) ⟨rfl, rfl, rfl⟩
theorem jQ_39_172 {xs : List Int} {d : Nat} {p7 p8 q1 : Int} (h_p7 : (-20) ≤ p7 ∧ p7 ≤ 20) (h_p8 : (-10) ≤ p8 ∧ p8 ≤ 10) (h_q1 : (-60) ≤ q1 ∧ q1 ≤ 60) (g_0 : 0 ≤ (-108917793694) * p7 - 159561683698 * p8 - 68719476736 * q1 - 1) (g_1 : 0 ≤ (-108917793694) * p7 - 159561683700 * p8 - 68719476736 * q1 - 1) (g_2 : 0 ≤ (-108917793696) * p7 - 159561683698 * p8 - 68719476736 * q1 - 1) (g_3 : 0 ≤ (-108917793696) * p7 - 159561683700 * p8 - 68719476736 * q1 - 1) (g_4 : 0 ≤ p7) (g_5 : 0 ≤ p8) : jT xs d 39 2 0 [(0, (4, 0)), (1, (4, 1))] [] [jgh, (101, [], [q1, p7, p8, 0, 0, 0])] 0 0 (fun k v hsN => k = 0 ∧ v = (1, p7 + p8) ∧ hsN = [jgh, (101, [], [q1, p7, p8, 0, 0, 0])] ++ []) := by
  refine jT_xlconst (z := 0) (pcN := 1) jIQ_39_0 rfl rfl ?_
  refine jT_xlstore_n (v := (1, 0)) (LN := [(2, (1, 0)), (0, (4, 0)), (1, (4, 1))]) (pcN := 2) jIQ_39_1 rfl rfl rfl rfl ?_
  refine jT_xiconst (k := 1) (pcN := 3) jIQ_39_2 rfl ?_
  refine jT_xistore (v := (0, 1)) (LN := [(4, (0, 1)), (2, (1, 0)), (0, (4, 0)), (1, (4, 1))]) (pcN := 5) jIQ_39_3 rfl rfl rfl rfl ?_
  refine jT_xiload (v := (0, 1)) (pcN := 7) jIQ_39_5 rfl rfl rfl ?_
  refine jT_xbipush (k := 6) (pcN := 9) jIQ_39_7 (by decide) rfl ?_
  refine jT_xicF (t := 28) (pcN := 12) jIQ_39_9 rfl (by decide +kernel) rfl rfl ?_
  refine jT_xlload_n (v := (1, 0)) (pcN := 13) jIQ_39_12 rfl rfl rfl ?_
  refine jT_xaload_n (v := (4, 1)) (pcN := 14) jIQ_39_13 rfl rfl rfl ?_
  refine jT_xiload (v := (0, 1)) (pcN := 16) jIQ_39_14 rfl rfl rfl ?_
  refine jT_lald (x := p7) (a := 1) (j := 1) (fs := []) (X := [q1, p7, p8, 0, 0, 0]) jIQ_39_16 rfl rfl rfl rfl ?_
  refine jT_eq (LN := [(4, (0, 1)), (2, (1, 0)), (0, (4, 0)), (1, (4, 1))]) (stN := [(1, p7), (1, 0)]) (hsN := [jgh, (101, [], [q1, p7, p8, 0, 0, 0])]) rfl rfl rfl ?_
  refine jT_labs (z := p7) (by rfl) (by rfl) (by rfl) (by rfl) (by rw [show jwl (p7) = p7 from jwl_idd (by omega) (by omega), decide_eq_false (by omega)]; first | (simp only [cond_true, cond_false]; done) | (simp only [cond_true, cond_false]; omega) | rfl) ?_
  refine jT_xladd (x := 0) (y := p7) (z := p7) (pcN := 21) jIQ_39_20 rfl (by omega) rfl ?_
  refine jT_xlstore_n (v := (1, p7)) (LN := [(2, (1, p7)), (4, (0, 1)), (0, (4, 0)), (1, (4, 1))]) (pcN := 22) jIQ_39_21 rfl rfl rfl rfl ?_
  refine jT_xiinc (x := 1) (z := 2) (LN := [(4, (0, 2)), (2, (1, p7)), (0, (4, 0)), (1, (4, 1))]) (pcN := 25) jIQ_39_22 rfl rfl (by decide) rfl rfl ?_
  refine jT_xgoto (pcN := 5) jIQ_39_25 rfl ?_
  refine jT_xiload (v := (0, 2)) (pcN := 7) jIQ_39_5 rfl rfl rfl ?_
  refine jT_xbipush (k := 6) (pcN := 9) jIQ_39_7 (by decide) rfl ?_
  refine jT_xicF (t := 28) (pcN := 12) jIQ_39_9 rfl (by decide +kernel) rfl rfl ?_
  refine jT_xlload_n (v := (1, p7)) (pcN := 13) jIQ_39_12 rfl rfl rfl ?_
  refine jT_xaload_n (v := (4, 1)) (pcN := 14) jIQ_39_13 rfl rfl rfl ?_
  refine jT_xiload (v := (0, 2)) (pcN := 16) jIQ_39_14 rfl rfl rfl ?_
  refine jT_lald (x := p8) (a := 1) (j := 2) (fs := []) (X := [q1, p7, p8, 0, 0, 0]) jIQ_39_16 rfl rfl rfl rfl ?_
  refine jT_eq (LN := [(4, (0, 2)), (2, (1, p7)), (0, (4, 0)), (1, (4, 1))]) (stN := [(1, p8), (1, p7)]) (hsN := [jgh, (101, [], [q1, p7, p8, 0, 0, 0])]) rfl rfl rfl ?_
  refine jT_labs (z := p8) (by rfl) (by rfl) (by rfl) (by rfl) (by rw [show jwl (p8) = p8 from jwl_idd (by omega) (by omega), decide_eq_false (by omega)]; first | (simp only [cond_true, cond_false]; done) | (simp only [cond_true, cond_false]; omega) | rfl) ?_
  refine jT_xladd (x := p7) (y := p8) (z := p7 + p8) (pcN := 21) jIQ_39_20 rfl (rfl) rfl ?_
  refine jT_xlstore_n (v := (1, p7 + p8)) (LN := [(2, (1, p7 + p8)), (4, (0, 2)), (0, (4, 0)), (1, (4, 1))]) (pcN := 22) jIQ_39_21 rfl rfl rfl rfl ?_
  refine jT_xiinc (x := 2) (z := 3) (LN := [(4, (0, 3)), (2, (1, p7 + p8)), (0, (4, 0)), (1, (4, 1))]) (pcN := 25) jIQ_39_22 rfl rfl (by decide) rfl rfl ?_
  refine jT_xgoto (pcN := 5) jIQ_39_25 rfl ?_
  refine jT_xiload (v := (0, 3)) (pcN := 7) jIQ_39_5 rfl rfl rfl ?_
  refine jT_xbipush (k := 6) (pcN := 9) jIQ_39_7 (by decide) rfl ?_
  refine jT_xicF (t := 28) (pcN := 12) jIQ_39_9 rfl (by decide +kernel) rfl rfl ?_
  refine jT_xlload_n (v := (1, p7 + p8)) (pcN := 13) jIQ_39_12 rfl rfl rfl ?_
  refine jT_xaload_n (v := (4, 1)) (pcN := 14) jIQ_39_13 rfl rfl rfl ?_
  refine jT_xiload (v := (0, 3)) (pcN := 16) jIQ_39_14 rfl rfl rfl ?_
  refine jT_lald (x := 0) (a := 1) (j := 3) (fs := []) (X := [q1, p7, p8, 0, 0, 0]) jIQ_39_16 rfl rfl rfl rfl ?_
  refine jT_eq (LN := [(4, (0, 3)), (2, (1, p7 + p8)), (0, (4, 0)), (1, (4, 1))]) (stN := [(1, 0), (1, p7 + p8)]) (hsN := [jgh, (101, [], [q1, p7, p8, 0, 0, 0])]) rfl rfl rfl ?_
  refine jT_labs (z := 0) (by rfl) (by rfl) (by rfl) (by rfl) (by decide +kernel) ?_
  refine jT_xladd (x := p7 + p8) (y := 0) (z := p7 + p8) (pcN := 21) jIQ_39_20 rfl (by omega) rfl ?_
  refine jT_xlstore_n (v := (1, p7 + p8)) (LN := [(2, (1, p7 + p8)), (4, (0, 3)), (0, (4, 0)), (1, (4, 1))]) (pcN := 22) jIQ_39_21 rfl rfl rfl rfl ?_
  refine jT_xiinc (x := 3) (z := 4) (LN := [(4, (0, 4)), (2, (1, p7 + p8)), (0, (4, 0)), (1, (4, 1))]) (pcN := 25) jIQ_39_22 rfl rfl (by decide) rfl rfl ?_
  refine jT_xgoto (pcN := 5) jIQ_39_25 rfl ?_
  refine jT_xiload (v := (0, 4)) (pcN := 7) jIQ_39_5 rfl rfl rfl ?_
  refine jT_xbipush (k := 6) (pcN := 9) jIQ_39_7 (by decide) rfl ?_
  refine jT_xicF (t := 28) (pcN := 12) jIQ_39_9 rfl (by decide +kernel) rfl rfl ?_
  refine jT_xlload_n (v := (1, p7 + p8)) (pcN := 13) jIQ_39_12 rfl rfl rfl ?_
  refine jT_xaload_n (v := (4, 1)) (pcN := 14) jIQ_39_13 rfl rfl rfl ?_
  refine jT_xiload (v := (0, 4)) (pcN := 16) jIQ_39_14 rfl rfl rfl ?_
  refine jT_lald (x := 0) (a := 1) (j := 4) (fs := []) (X := [q1, p7, p8, 0, 0, 0]) jIQ_39_16 rfl rfl rfl rfl ?_
  refine jT_eq (LN := [(4, (0, 4)), (2, (1, p7 + p8)), (0, (4, 0)), (1, (4, 1))]) (stN := [(1, 0), (1, p7 + p8)]) (hsN := [jgh, (101, [], [q1, p7, p8, 0, 0, 0])]) rfl rfl rfl ?_
  refine jT_labs (z := 0) (by rfl) (by rfl) (by rfl) (by rfl) (by decide +kernel) ?_
  refine jT_xladd (x := p7 + p8) (y := 0) (z := p7 + p8) (pcN := 21) jIQ_39_20 rfl (by omega) rfl ?_
  refine jT_xlstore_n (v := (1, p7 + p8)) (LN := [(2, (1, p7 + p8)), (4, (0, 4)), (0, (4, 0)), (1, (4, 1))]) (pcN := 22) jIQ_39_21 rfl rfl rfl rfl ?_
  refine jT_xiinc (x := 4) (z := 5) (LN := [(4, (0, 5)), (2, (1, p7 + p8)), (0, (4, 0)), (1, (4, 1))]) (pcN := 25) jIQ_39_22 rfl rfl (by decide) rfl rfl ?_
  refine jT_xgoto (pcN := 5) jIQ_39_25 rfl ?_
  refine jT_xiload (v := (0, 5)) (pcN := 7) jIQ_39_5 rfl rfl rfl ?_
  refine jT_xbipush (k := 6) (pcN := 9) jIQ_39_7 (by decide) rfl ?_
  refine jT_xicF (t := 28) (pcN := 12) jIQ_39_9 rfl (by decide +kernel) rfl rfl ?_
  refine jT_xlload_n (v := (1, p7 + p8)) (pcN := 13) jIQ_39_12 rfl rfl rfl ?_
  refine jT_xaload_n (v := (4, 1)) (pcN := 14) jIQ_39_13 rfl rfl rfl ?_
  refine jT_xiload (v := (0, 5)) (pcN := 16) jIQ_39_14 rfl rfl rfl ?_
  refine jT_lald (x := 0) (a := 1) (j := 5) (fs := []) (X := [q1, p7, p8, 0, 0, 0]) jIQ_39_16 rfl rfl rfl rfl ?_
  refine jT_eq (LN := [(4, (0, 5)), (2, (1, p7 + p8)), (0, (4, 0)), (1, (4, 1))]) (stN := [(1, 0), (1, p7 + p8)]) (hsN := [jgh, (101, [], [q1, p7, p8, 0, 0, 0])]) rfl rfl rfl ?_
  refine jT_labs (z := 0) (by rfl) (by rfl) (by rfl) (by rfl) (by decide +kernel) ?_
  refine jT_xladd (x := p7 + p8) (y := 0) (z := p7 + p8) (pcN := 21) jIQ_39_20 rfl (by omega) rfl ?_
  refine jT_xlstore_n (v := (1, p7 + p8)) (LN := [(2, (1, p7 + p8)), (4, (0, 5)), (0, (4, 0)), (1, (4, 1))]) (pcN := 22) jIQ_39_21 rfl rfl rfl rfl ?_
  refine jT_xiinc (x := 5) (z := 6) (LN := [(4, (0, 6)), (2, (1, p7 + p8)), (0, (4, 0)), (1, (4, 1))]) (pcN := 25) jIQ_39_22 rfl rfl (by decide) rfl rfl ?_
  refine jT_xgoto (pcN := 5) jIQ_39_25 rfl ?_
  refine jT_xiload (v := (0, 6)) (pcN := 7) jIQ_39_5 rfl rfl rfl ?_
  refine jT_xbipush (k := 6) (pcN := 9) jIQ_39_7 (by decide) rfl ?_
  refine jT_xicT (pcN := 28) jIQ_39_9 rfl (by decide +kernel) rfl ?_
  refine jT_xlload_n (v := (1, p7 + p8)) (pcN := 29) jIQ_39_28 rfl rfl rfl ?_
  exact jT_ret rfl (by decide) (by show 2 ≤ 2; omega) (by omega) (by omega) ⟨rfl, rfl, rfl⟩
theorem jQ_39_173 {xs : List Int} {d : Nat} {p7 p8 q1 : Int} (h_p7 : (-20) ≤ p7 ∧ p7 ≤ 20) (h_p8 : (-10) ≤ p8 ∧ p8 ≤ 10) (h_q1 : (-60) ≤ q1 ∧ q1 ≤ 60) (g_0 : 0 ≤ (-108917793694) * p7 - 159561683698 * p8 - 68719476736 * q1 - 1) (g_1 : 0 ≤ (-108917793694) * p7 - 159561683700 * p8 - 68719476736 * q1 - 1) (g_2 : 0 ≤ (-108917793696) * p7 - 159561683698 * p8 - 68719476736 * q1 - 1) (g_3 : 0 ≤ (-108917793696) * p7 - 159561683700 * p8 - 68719476736 * q1 - 1) (g_4 : 0 ≤ p7) (g_5 : 0 ≤ p8) (g_6 : p7 + p8 - 1 < 0) : jT xs d 39 2 0 [(0, (4, 0)), (1, (4, 1))] [] [jgh, (101, [], [q1, p7, p8, 0, 0, 0])] 0 0 (fun k v hsN => k = 0 ∧ v = (1, p7 + p8) ∧ hsN = [jgh, (101, [], [q1, p7, p8, 0, 0, 0])] ++ []) := by
  refine jT_xlconst (z := 0) (pcN := 1) jIQ_39_0 rfl rfl ?_
  refine jT_xlstore_n (v := (1, 0)) (LN := [(2, (1, 0)), (0, (4, 0)), (1, (4, 1))]) (pcN := 2) jIQ_39_1 rfl rfl rfl rfl ?_
  refine jT_xiconst (k := 1) (pcN := 3) jIQ_39_2 rfl ?_
  refine jT_xistore (v := (0, 1)) (LN := [(4, (0, 1)), (2, (1, 0)), (0, (4, 0)), (1, (4, 1))]) (pcN := 5) jIQ_39_3 rfl rfl rfl rfl ?_
  refine jT_xiload (v := (0, 1)) (pcN := 7) jIQ_39_5 rfl rfl rfl ?_
  refine jT_xbipush (k := 6) (pcN := 9) jIQ_39_7 (by decide) rfl ?_
  refine jT_xicF (t := 28) (pcN := 12) jIQ_39_9 rfl (by decide +kernel) rfl rfl ?_
  refine jT_xlload_n (v := (1, 0)) (pcN := 13) jIQ_39_12 rfl rfl rfl ?_
  refine jT_xaload_n (v := (4, 1)) (pcN := 14) jIQ_39_13 rfl rfl rfl ?_
  refine jT_xiload (v := (0, 1)) (pcN := 16) jIQ_39_14 rfl rfl rfl ?_
  refine jT_lald (x := p7) (a := 1) (j := 1) (fs := []) (X := [q1, p7, p8, 0, 0, 0]) jIQ_39_16 rfl rfl rfl rfl ?_
  refine jT_eq (LN := [(4, (0, 1)), (2, (1, 0)), (0, (4, 0)), (1, (4, 1))]) (stN := [(1, p7), (1, 0)]) (hsN := [jgh, (101, [], [q1, p7, p8, 0, 0, 0])]) rfl rfl rfl ?_
  refine jT_labs (z := p7) (by rfl) (by rfl) (by rfl) (by rfl) (by rw [show jwl (p7) = p7 from jwl_idd (by omega) (by omega), decide_eq_false (by omega)]; first | (simp only [cond_true, cond_false]; done) | (simp only [cond_true, cond_false]; omega) | rfl) ?_
  refine jT_xladd (x := 0) (y := p7) (z := p7) (pcN := 21) jIQ_39_20 rfl (by omega) rfl ?_
  refine jT_xlstore_n (v := (1, p7)) (LN := [(2, (1, p7)), (4, (0, 1)), (0, (4, 0)), (1, (4, 1))]) (pcN := 22) jIQ_39_21 rfl rfl rfl rfl ?_
  refine jT_xiinc (x := 1) (z := 2) (LN := [(4, (0, 2)), (2, (1, p7)), (0, (4, 0)), (1, (4, 1))]) (pcN := 25) jIQ_39_22 rfl rfl (by decide) rfl rfl ?_
  refine jT_xgoto (pcN := 5) jIQ_39_25 rfl ?_
  refine jT_xiload (v := (0, 2)) (pcN := 7) jIQ_39_5 rfl rfl rfl ?_
  refine jT_xbipush (k := 6) (pcN := 9) jIQ_39_7 (by decide) rfl ?_
  refine jT_xicF (t := 28) (pcN := 12) jIQ_39_9 rfl (by decide +kernel) rfl rfl ?_
  refine jT_xlload_n (v := (1, p7)) (pcN := 13) jIQ_39_12 rfl rfl rfl ?_
  refine jT_xaload_n (v := (4, 1)) (pcN := 14) jIQ_39_13 rfl rfl rfl ?_
  refine jT_xiload (v := (0, 2)) (pcN := 16) jIQ_39_14 rfl rfl rfl ?_
  refine jT_lald (x := p8) (a := 1) (j := 2) (fs := []) (X := [q1, p7, p8, 0, 0, 0]) jIQ_39_16 rfl rfl rfl rfl ?_
  refine jT_eq (LN := [(4, (0, 2)), (2, (1, p7)), (0, (4, 0)), (1, (4, 1))]) (stN := [(1, p8), (1, p7)]) (hsN := [jgh, (101, [], [q1, p7, p8, 0, 0, 0])]) rfl rfl rfl ?_
  refine jT_labs (z := p8) (by rfl) (by rfl) (by rfl) (by rfl) (by rw [show jwl (p8) = p8 from jwl_idd (by omega) (by omega), decide_eq_false (by omega)]; first | (simp only [cond_true, cond_false]; done) | (simp only [cond_true, cond_false]; omega) | rfl) ?_
  refine jT_xladd (x := p7) (y := p8) (z := p7 + p8) (pcN := 21) jIQ_39_20 rfl (rfl) rfl ?_
  refine jT_xlstore_n (v := (1, p7 + p8)) (LN := [(2, (1, p7 + p8)), (4, (0, 2)), (0, (4, 0)), (1, (4, 1))]) (pcN := 22) jIQ_39_21 rfl rfl rfl rfl ?_
  refine jT_xiinc (x := 2) (z := 3) (LN := [(4, (0, 3)), (2, (1, p7 + p8)), (0, (4, 0)), (1, (4, 1))]) (pcN := 25) jIQ_39_22 rfl rfl (by decide) rfl rfl ?_
  refine jT_xgoto (pcN := 5) jIQ_39_25 rfl ?_
  refine jT_xiload (v := (0, 3)) (pcN := 7) jIQ_39_5 rfl rfl rfl ?_
  refine jT_xbipush (k := 6) (pcN := 9) jIQ_39_7 (by decide) rfl ?_
  refine jT_xicF (t := 28) (pcN := 12) jIQ_39_9 rfl (by decide +kernel) rfl rfl ?_
  refine jT_xlload_n (v := (1, p7 + p8)) (pcN := 13) jIQ_39_12 rfl rfl rfl ?_
  refine jT_xaload_n (v := (4, 1)) (pcN := 14) jIQ_39_13 rfl rfl rfl ?_
  refine jT_xiload (v := (0, 3)) (pcN := 16) jIQ_39_14 rfl rfl rfl ?_
  refine jT_lald (x := 0) (a := 1) (j := 3) (fs := []) (X := [q1, p7, p8, 0, 0, 0]) jIQ_39_16 rfl rfl rfl rfl ?_
  refine jT_eq (LN := [(4, (0, 3)), (2, (1, p7 + p8)), (0, (4, 0)), (1, (4, 1))]) (stN := [(1, 0), (1, p7 + p8)]) (hsN := [jgh, (101, [], [q1, p7, p8, 0, 0, 0])]) rfl rfl rfl ?_
  refine jT_labs (z := 0) (by rfl) (by rfl) (by rfl) (by rfl) (by decide +kernel) ?_
  refine jT_xladd (x := p7 + p8) (y := 0) (z := p7 + p8) (pcN := 21) jIQ_39_20 rfl (by omega) rfl ?_
  refine jT_xlstore_n (v := (1, p7 + p8)) (LN := [(2, (1, p7 + p8)), (4, (0, 3)), (0, (4, 0)), (1, (4, 1))]) (pcN := 22) jIQ_39_21 rfl rfl rfl rfl ?_
  refine jT_xiinc (x := 3) (z := 4) (LN := [(4, (0, 4)), (2, (1, p7 + p8)), (0, (4, 0)), (1, (4, 1))]) (pcN := 25) jIQ_39_22 rfl rfl (by decide) rfl rfl ?_
  refine jT_xgoto (pcN := 5) jIQ_39_25 rfl ?_
  refine jT_xiload (v := (0, 4)) (pcN := 7) jIQ_39_5 rfl rfl rfl ?_
  refine jT_xbipush (k := 6) (pcN := 9) jIQ_39_7 (by decide) rfl ?_
  refine jT_xicF (t := 28) (pcN := 12) jIQ_39_9 rfl (by decide +kernel) rfl rfl ?_
  refine jT_xlload_n (v := (1, p7 + p8)) (pcN := 13) jIQ_39_12 rfl rfl rfl ?_
  refine jT_xaload_n (v := (4, 1)) (pcN := 14) jIQ_39_13 rfl rfl rfl ?_
  refine jT_xiload (v := (0, 4)) (pcN := 16) jIQ_39_14 rfl rfl rfl ?_
  refine jT_lald (x := 0) (a := 1) (j := 4) (fs := []) (X := [q1, p7, p8, 0, 0, 0]) jIQ_39_16 rfl rfl rfl rfl ?_
  refine jT_eq (LN := [(4, (0, 4)), (2, (1, p7 + p8)), (0, (4, 0)), (1, (4, 1))]) (stN := [(1, 0), (1, p7 + p8)]) (hsN := [jgh, (101, [], [q1, p7, p8, 0, 0, 0])]) rfl rfl rfl ?_
  refine jT_labs (z := 0) (by rfl) (by rfl) (by rfl) (by rfl) (by decide +kernel) ?_
  refine jT_xladd (x := p7 + p8) (y := 0) (z := p7 + p8) (pcN := 21) jIQ_39_20 rfl (by omega) rfl ?_
  refine jT_xlstore_n (v := (1, p7 + p8)) (LN := [(2, (1, p7 + p8)), (4, (0, 4)), (0, (4, 0)), (1, (4, 1))]) (pcN := 22) jIQ_39_21 rfl rfl rfl rfl ?_
  refine jT_xiinc (x := 4) (z := 5) (LN := [(4, (0, 5)), (2, (1, p7 + p8)), (0, (4, 0)), (1, (4, 1))]) (pcN := 25) jIQ_39_22 rfl rfl (by decide) rfl rfl ?_
  refine jT_xgoto (pcN := 5) jIQ_39_25 rfl ?_
  refine jT_xiload (v := (0, 5)) (pcN := 7) jIQ_39_5 rfl rfl rfl ?_
  refine jT_xbipush (k := 6) (pcN := 9) jIQ_39_7 (by decide) rfl ?_
  refine jT_xicF (t := 28) (pcN := 12) jIQ_39_9 rfl (by decide +kernel) rfl rfl ?_
  refine jT_xlload_n (v := (1, p7 + p8)) (pcN := 13) jIQ_39_12 rfl rfl rfl ?_
  refine jT_xaload_n (v := (4, 1)) (pcN := 14) jIQ_39_13 rfl rfl rfl ?_
  refine jT_xiload (v := (0, 5)) (pcN := 16) jIQ_39_14 rfl rfl rfl ?_
  refine jT_lald (x := 0) (a := 1) (j := 5) (fs := []) (X := [q1, p7, p8, 0, 0, 0]) jIQ_39_16 rfl rfl rfl rfl ?_
  refine jT_eq (LN := [(4, (0, 5)), (2, (1, p7 + p8)), (0, (4, 0)), (1, (4, 1))]) (stN := [(1, 0), (1, p7 + p8)]) (hsN := [jgh, (101, [], [q1, p7, p8, 0, 0, 0])]) rfl rfl rfl ?_
  refine jT_labs (z := 0) (by rfl) (by rfl) (by rfl) (by rfl) (by decide +kernel) ?_
  refine jT_xladd (x := p7 + p8) (y := 0) (z := p7 + p8) (pcN := 21) jIQ_39_20 rfl (by omega) rfl ?_
  refine jT_xlstore_n (v := (1, p7 + p8)) (LN := [(2, (1, p7 + p8)), (4, (0, 5)), (0, (4, 0)), (1, (4, 1))]) (pcN := 22) jIQ_39_21 rfl rfl rfl rfl ?_
  refine jT_xiinc (x := 5) (z := 6) (LN := [(4, (0, 6)), (2, (1, p7 + p8)), (0, (4, 0)), (1, (4, 1))]) (pcN := 25) jIQ_39_22 rfl rfl (by decide) rfl rfl ?_
  refine jT_xgoto (pcN := 5) jIQ_39_25 rfl ?_
  refine jT_xiload (v := (0, 6)) (pcN := 7) jIQ_39_5 rfl rfl rfl ?_
  refine jT_xbipush (k := 6) (pcN := 9) jIQ_39_7 (by decide) rfl ?_
  refine jT_xicT (pcN := 28) jIQ_39_9 rfl (by decide +kernel) rfl ?_
  refine jT_xlload_n (v := (1, p7 + p8)) (pcN := 29) jIQ_39_28 rfl rfl rfl ?_
  exact jT_ret rfl (by decide) (by show 2 ≤ 2; omega) (by omega) (by omega) ⟨rfl, rfl, rfl⟩
theorem jQ_39_174 {xs : List Int} {d : Nat} {p7 p8 q1 : Int} (h_p7 : (-20) ≤ p7 ∧ p7 ≤ 20) (h_p8 : (-10) ≤ p8 ∧ p8 ≤ 10) (h_q1 : (-60) ≤ q1 ∧ q1 ≤ 60) (g_0 : 0 ≤ (-108917793694) * p7 - 159561683698 * p8 - 68719476736 * q1 - 1) (g_1 : 0 ≤ (-108917793694) * p7 - 159561683700 * p8 - 68719476736 * q1 - 1) (g_2 : 0 ≤ (-108917793696) * p7 - 159561683698 * p8 - 68719476736 * q1 - 1) (g_3 : 0 ≤ (-108917793696) * p7 - 159561683700 * p8 - 68719476736 * q1 - 1) (g_4 : 0 ≤ p7) (g_5 : 0 ≤ p8) (g_6 : p7 + p8 - 1 < 0) (g_7 : q1 - 1 < 0) : jT xs d 39 2 0 [(0, (4, 0)), (1, (4, 1))] [] [jgh, (101, [], [q1, p7, p8, 0, 0, 0])] 0 0 (fun k v hsN => k = 0 ∧ v = (1, p7 + p8) ∧ hsN = [jgh, (101, [], [q1, p7, p8, 0, 0, 0])] ++ []) := by
  refine jT_xlconst (z := 0) (pcN := 1) jIQ_39_0 rfl rfl ?_
  refine jT_xlstore_n (v := (1, 0)) (LN := [(2, (1, 0)), (0, (4, 0)), (1, (4, 1))]) (pcN := 2) jIQ_39_1 rfl rfl rfl rfl ?_
  refine jT_xiconst (k := 1) (pcN := 3) jIQ_39_2 rfl ?_
  refine jT_xistore (v := (0, 1)) (LN := [(4, (0, 1)), (2, (1, 0)), (0, (4, 0)), (1, (4, 1))]) (pcN := 5) jIQ_39_3 rfl rfl rfl rfl ?_
  refine jT_xiload (v := (0, 1)) (pcN := 7) jIQ_39_5 rfl rfl rfl ?_
  refine jT_xbipush (k := 6) (pcN := 9) jIQ_39_7 (by decide) rfl ?_
  refine jT_xicF (t := 28) (pcN := 12) jIQ_39_9 rfl (by decide +kernel) rfl rfl ?_
  refine jT_xlload_n (v := (1, 0)) (pcN := 13) jIQ_39_12 rfl rfl rfl ?_
  refine jT_xaload_n (v := (4, 1)) (pcN := 14) jIQ_39_13 rfl rfl rfl ?_
  refine jT_xiload (v := (0, 1)) (pcN := 16) jIQ_39_14 rfl rfl rfl ?_
  refine jT_lald (x := p7) (a := 1) (j := 1) (fs := []) (X := [q1, p7, p8, 0, 0, 0]) jIQ_39_16 rfl rfl rfl rfl ?_
  refine jT_eq (LN := [(4, (0, 1)), (2, (1, 0)), (0, (4, 0)), (1, (4, 1))]) (stN := [(1, p7), (1, 0)]) (hsN := [jgh, (101, [], [q1, p7, p8, 0, 0, 0])]) rfl rfl rfl ?_
  refine jT_labs (z := p7) (by rfl) (by rfl) (by rfl) (by rfl) (by rw [show jwl (p7) = p7 from jwl_idd (by omega) (by omega), decide_eq_false (by omega)]; first | (simp only [cond_true, cond_false]; done) | (simp only [cond_true, cond_false]; omega) | rfl) ?_
  refine jT_xladd (x := 0) (y := p7) (z := p7) (pcN := 21) jIQ_39_20 rfl (by omega) rfl ?_
  refine jT_xlstore_n (v := (1, p7)) (LN := [(2, (1, p7)), (4, (0, 1)), (0, (4, 0)), (1, (4, 1))]) (pcN := 22) jIQ_39_21 rfl rfl rfl rfl ?_
  refine jT_xiinc (x := 1) (z := 2) (LN := [(4, (0, 2)), (2, (1, p7)), (0, (4, 0)), (1, (4, 1))]) (pcN := 25) jIQ_39_22 rfl rfl (by decide) rfl rfl ?_
  refine jT_xgoto (pcN := 5) jIQ_39_25 rfl ?_
  refine jT_xiload (v := (0, 2)) (pcN := 7) jIQ_39_5 rfl rfl rfl ?_
  refine jT_xbipush (k := 6) (pcN := 9) jIQ_39_7 (by decide) rfl ?_
  refine jT_xicF (t := 28) (pcN := 12) jIQ_39_9 rfl (by decide +kernel) rfl rfl ?_
  refine jT_xlload_n (v := (1, p7)) (pcN := 13) jIQ_39_12 rfl rfl rfl ?_
  refine jT_xaload_n (v := (4, 1)) (pcN := 14) jIQ_39_13 rfl rfl rfl ?_
  refine jT_xiload (v := (0, 2)) (pcN := 16) jIQ_39_14 rfl rfl rfl ?_
  refine jT_lald (x := p8) (a := 1) (j := 2) (fs := []) (X := [q1, p7, p8, 0, 0, 0]) jIQ_39_16 rfl rfl rfl rfl ?_
  refine jT_eq (LN := [(4, (0, 2)), (2, (1, p7)), (0, (4, 0)), (1, (4, 1))]) (stN := [(1, p8), (1, p7)]) (hsN := [jgh, (101, [], [q1, p7, p8, 0, 0, 0])]) rfl rfl rfl ?_
  refine jT_labs (z := p8) (by rfl) (by rfl) (by rfl) (by rfl) (by rw [show jwl (p8) = p8 from jwl_idd (by omega) (by omega), decide_eq_false (by omega)]; first | (simp only [cond_true, cond_false]; done) | (simp only [cond_true, cond_false]; omega) | rfl) ?_
  refine jT_xladd (x := p7) (y := p8) (z := p7 + p8) (pcN := 21) jIQ_39_20 rfl (rfl) rfl ?_
  refine jT_xlstore_n (v := (1, p7 + p8)) (LN := [(2, (1, p7 + p8)), (4, (0, 2)), (0, (4, 0)), (1, (4, 1))]) (pcN := 22) jIQ_39_21 rfl rfl rfl rfl ?_
  refine jT_xiinc (x := 2) (z := 3) (LN := [(4, (0, 3)), (2, (1, p7 + p8)), (0, (4, 0)), (1, (4, 1))]) (pcN := 25) jIQ_39_22 rfl rfl (by decide) rfl rfl ?_
  refine jT_xgoto (pcN := 5) jIQ_39_25 rfl ?_
  refine jT_xiload (v := (0, 3)) (pcN := 7) jIQ_39_5 rfl rfl rfl ?_
  refine jT_xbipush (k := 6) (pcN := 9) jIQ_39_7 (by decide) rfl ?_
  refine jT_xicF (t := 28) (pcN := 12) jIQ_39_9 rfl (by decide +kernel) rfl rfl ?_
  refine jT_xlload_n (v := (1, p7 + p8)) (pcN := 13) jIQ_39_12 rfl rfl rfl ?_
  refine jT_xaload_n (v := (4, 1)) (pcN := 14) jIQ_39_13 rfl rfl rfl ?_
  refine jT_xiload (v := (0, 3)) (pcN := 16) jIQ_39_14 rfl rfl rfl ?_
  refine jT_lald (x := 0) (a := 1) (j := 3) (fs := []) (X := [q1, p7, p8, 0, 0, 0]) jIQ_39_16 rfl rfl rfl rfl ?_
  refine jT_eq (LN := [(4, (0, 3)), (2, (1, p7 + p8)), (0, (4, 0)), (1, (4, 1))]) (stN := [(1, 0), (1, p7 + p8)]) (hsN := [jgh, (101, [], [q1, p7, p8, 0, 0, 0])]) rfl rfl rfl ?_
  refine jT_labs (z := 0) (by rfl) (by rfl) (by rfl) (by rfl) (by decide +kernel) ?_
  refine jT_xladd (x := p7 + p8) (y := 0) (z := p7 + p8) (pcN := 21) jIQ_39_20 rfl (by omega) rfl ?_
  refine jT_xlstore_n (v := (1, p7 + p8)) (LN := [(2, (1, p7 + p8)), (4, (0, 3)), (0, (4, 0)), (1, (4, 1))]) (pcN := 22) jIQ_39_21 rfl rfl rfl rfl ?_
  refine jT_xiinc (x := 3) (z := 4) (LN := [(4, (0, 4)), (2, (1, p7 + p8)), (0, (4, 0)), (1, (4, 1))]) (pcN := 25) jIQ_39_22 rfl rfl (by decide) rfl rfl ?_
  refine jT_xgoto (pcN := 5) jIQ_39_25 rfl ?_
  refine jT_xiload (v := (0, 4)) (pcN := 7) jIQ_39_5 rfl rfl rfl ?_
  refine jT_xbipush (k := 6) (pcN := 9) jIQ_39_7 (by decide) rfl ?_
  refine jT_xicF (t := 28) (pcN := 12) jIQ_39_9 rfl (by decide +kernel) rfl rfl ?_
  refine jT_xlload_n (v := (1, p7 + p8)) (pcN := 13) jIQ_39_12 rfl rfl rfl ?_
  refine jT_xaload_n (v := (4, 1)) (pcN := 14) jIQ_39_13 rfl rfl rfl ?_
  refine jT_xiload (v := (0, 4)) (pcN := 16) jIQ_39_14 rfl rfl rfl ?_
  refine jT_lald (x := 0) (a := 1) (j := 4) (fs := []) (X := [q1, p7, p8, 0, 0, 0]) jIQ_39_16 rfl rfl rfl rfl ?_
  refine jT_eq (LN := [(4, (0, 4)), (2, (1, p7 + p8)), (0, (4, 0)), (1, (4, 1))]) (stN := [(1, 0), (1, p7 + p8)]) (hsN := [jgh, (101, [], [q1, p7, p8, 0, 0, 0])]) rfl rfl rfl ?_
  refine jT_labs (z := 0) (by rfl) (by rfl) (by rfl) (by rfl) (by decide +kernel) ?_
  refine jT_xladd (x := p7 + p8) (y := 0) (z := p7 + p8) (pcN := 21) jIQ_39_20 rfl (by omega) rfl ?_
  refine jT_xlstore_n (v := (1, p7 + p8)) (LN := [(2, (1, p7 + p8)), (4, (0, 4)), (0, (4, 0)), (1, (4, 1))]) (pcN := 22) jIQ_39_21 rfl rfl rfl rfl ?_
  refine jT_xiinc (x := 4) (z := 5) (LN := [(4, (0, 5)), (2, (1, p7 + p8)), (0, (4, 0)), (1, (4, 1))]) (pcN := 25) jIQ_39_22 rfl rfl (by decide) rfl rfl ?_
  refine jT_xgoto (pcN := 5) jIQ_39_25 rfl ?_
  refine jT_xiload (v := (0, 5)) (pcN := 7) jIQ_39_5 rfl rfl rfl ?_
  refine jT_xbipush (k := 6) (pcN := 9) jIQ_39_7 (by decide) rfl ?_
  refine jT_xicF (t := 28) (pcN := 12) jIQ_39_9 rfl (by decide +kernel) rfl rfl ?_
  refine jT_xlload_n (v := (1, p7 + p8)) (pcN := 13) jIQ_39_12 rfl rfl rfl ?_
  refine jT_xaload_n (v := (4, 1)) (pcN := 14) jIQ_39_13 rfl rfl rfl ?_
  refine jT_xiload (v := (0, 5)) (pcN := 16) jIQ_39_14 rfl rfl rfl ?_
  refine jT_lald (x := 0) (a := 1) (j := 5) (fs := []) (X := [q1, p7, p8, 0, 0, 0]) jIQ_39_16 rfl rfl rfl rfl ?_
  refine jT_eq (LN := [(4, (0, 5)), (2, (1, p7 + p8)), (0, (4, 0)), (1, (4, 1))]) (stN := [(1, 0), (1, p7 + p8)]) (hsN := [jgh, (101, [], [q1, p7, p8, 0, 0, 0])]) rfl rfl rfl ?_
  refine jT_labs (z := 0) (by rfl) (by rfl) (by rfl) (by rfl) (by decide +kernel) ?_
  refine jT_xladd (x := p7 + p8) (y := 0) (z := p7 + p8) (pcN := 21) jIQ_39_20 rfl (by omega) rfl ?_
  refine jT_xlstore_n (v := (1, p7 + p8)) (LN := [(2, (1, p7 + p8)), (4, (0, 5)), (0, (4, 0)), (1, (4, 1))]) (pcN := 22) jIQ_39_21 rfl rfl rfl rfl ?_
  refine jT_xiinc (x := 5) (z := 6) (LN := [(4, (0, 6)), (2, (1, p7 + p8)), (0, (4, 0)), (1, (4, 1))]) (pcN := 25) jIQ_39_22 rfl rfl (by decide) rfl rfl ?_
  refine jT_xgoto (pcN := 5) jIQ_39_25 rfl ?_
  refine jT_xiload (v := (0, 6)) (pcN := 7) jIQ_39_5 rfl rfl rfl ?_
  refine jT_xbipush (k := 6) (pcN := 9) jIQ_39_7 (by decide) rfl ?_
  refine jT_xicT (pcN := 28) jIQ_39_9 rfl (by decide +kernel) rfl ?_
  refine jT_xlload_n (v := (1, p7 + p8)) (pcN := 29) jIQ_39_28 rfl rfl rfl ?_
  exact jT_ret rfl (by decide) (by show 2 ≤ 2; omega) (by omega) (by omega) ⟨rfl, rfl, rfl⟩
theorem jQ_39_175 {xs : List Int} {d : Nat} {p7 p8 q1 : Int} (h_p7 : (-20) ≤ p7 ∧ p7 ≤ 20) (h_p8 : (-10) ≤ p8 ∧ p8 ≤ 10) (h_q1 : (-60) ≤ q1 ∧ q1 ≤ 60) (g_0 : 0 ≤ (-108917793694) * p7 - 159561683698 * p8 - 68719476736 * q1 - 1) (g_1 : 0 ≤ (-108917793694) * p7 - 159561683700 * p8 - 68719476736 * q1 - 1) (g_2 : 0 ≤ (-108917793696) * p7 - 159561683698 * p8 - 68719476736 * q1 - 1) (g_3 : 0 ≤ (-108917793696) * p7 - 159561683700 * p8 - 68719476736 * q1 - 1) (g_4 : 0 ≤ p7) (g_5 : 0 ≤ p8) (g_6 : p7 + p8 - 1 < 0) (g_7 : q1 - 1 < 0) (g_8 : q1 < 0) : jT xs d 39 2 0 [(0, (4, 0)), (1, (4, 1))] [] [jgh, (101, [], [q1, p7, p8, 0, 0, 0])] 0 0 (fun k v hsN => k = 0 ∧ v = (1, p7 + p8) ∧ hsN = [jgh, (101, [], [q1, p7, p8, 0, 0, 0])] ++ []) := by
  refine jT_xlconst (z := 0) (pcN := 1) jIQ_39_0 rfl rfl ?_
  refine jT_xlstore_n (v := (1, 0)) (LN := [(2, (1, 0)), (0, (4, 0)), (1, (4, 1))]) (pcN := 2) jIQ_39_1 rfl rfl rfl rfl ?_
  refine jT_xiconst (k := 1) (pcN := 3) jIQ_39_2 rfl ?_
  refine jT_xistore (v := (0, 1)) (LN := [(4, (0, 1)), (2, (1, 0)), (0, (4, 0)), (1, (4, 1))]) (pcN := 5) jIQ_39_3 rfl rfl rfl rfl ?_
  refine jT_xiload (v := (0, 1)) (pcN := 7) jIQ_39_5 rfl rfl rfl ?_
  refine jT_xbipush (k := 6) (pcN := 9) jIQ_39_7 (by decide) rfl ?_
  refine jT_xicF (t := 28) (pcN := 12) jIQ_39_9 rfl (by decide +kernel) rfl rfl ?_
  refine jT_xlload_n (v := (1, 0)) (pcN := 13) jIQ_39_12 rfl rfl rfl ?_
  refine jT_xaload_n (v := (4, 1)) (pcN := 14) jIQ_39_13 rfl rfl rfl ?_
  refine jT_xiload (v := (0, 1)) (pcN := 16) jIQ_39_14 rfl rfl rfl ?_
  refine jT_lald (x := p7) (a := 1) (j := 1) (fs := []) (X := [q1, p7, p8, 0, 0, 0]) jIQ_39_16 rfl rfl rfl rfl ?_
  refine jT_eq (LN := [(4, (0, 1)), (2, (1, 0)), (0, (4, 0)), (1, (4, 1))]) (stN := [(1, p7), (1, 0)]) (hsN := [jgh, (101, [], [q1, p7, p8, 0, 0, 0])]) rfl rfl rfl ?_
  refine jT_labs (z := p7) (by rfl) (by rfl) (by rfl) (by rfl) (by rw [show jwl (p7) = p7 from jwl_idd (by omega) (by omega), decide_eq_false (by omega)]; first | (simp only [cond_true, cond_false]; done) | (simp only [cond_true, cond_false]; omega) | rfl) ?_
  refine jT_xladd (x := 0) (y := p7) (z := p7) (pcN := 21) jIQ_39_20 rfl (by omega) rfl ?_
  refine jT_xlstore_n (v := (1, p7)) (LN := [(2, (1, p7)), (4, (0, 1)), (0, (4, 0)), (1, (4, 1))]) (pcN := 22) jIQ_39_21 rfl rfl rfl rfl ?_
  refine jT_xiinc (x := 1) (z := 2) (LN := [(4, (0, 2)), (2, (1, p7)), (0, (4, 0)), (1, (4, 1))]) (pcN := 25) jIQ_39_22 rfl rfl (by decide) rfl rfl ?_
  refine jT_xgoto (pcN := 5) jIQ_39_25 rfl ?_
  refine jT_xiload (v := (0, 2)) (pcN := 7) jIQ_39_5 rfl rfl rfl ?_
  refine jT_xbipush (k := 6) (pcN := 9) jIQ_39_7 (by decide) rfl ?_
  refine jT_xicF (t := 28) (pcN := 12) jIQ_39_9 rfl (by decide +kernel) rfl rfl ?_
  refine jT_xlload_n (v := (1, p7)) (pcN := 13) jIQ_39_12 rfl rfl rfl ?_
  refine jT_xaload_n (v := (4, 1)) (pcN := 14) jIQ_39_13 rfl rfl rfl ?_
  refine jT_xiload (v := (0, 2)) (pcN := 16) jIQ_39_14 rfl rfl rfl ?_
  refine jT_lald (x := p8) (a := 1) (j := 2) (fs := []) (X := [q1, p7, p8, 0, 0, 0]) jIQ_39_16 rfl rfl rfl rfl ?_
  refine jT_eq (LN := [(4, (0, 2)), (2, (1, p7)), (0, (4, 0)), (1, (4, 1))]) (stN := [(1, p8), (1, p7)]) (hsN := [jgh, (101, [], [q1, p7, p8, 0, 0, 0])]) rfl rfl rfl ?_
  refine jT_labs (z := p8) (by rfl) (by rfl) (by rfl) (by rfl) (by rw [show jwl (p8) = p8 from jwl_idd (by omega) (by omega), decide_eq_false (by omega)]; first | (simp only [cond_true, cond_false]; done) | (simp only [cond_true, cond_false]; omega) | rfl) ?_
  refine jT_xladd (x := p7) (y := p8) (z := p7 + p8) (pcN := 21) jIQ_39_20 rfl (rfl) rfl ?_
  refine jT_xlstore_n (v := (1, p7 + p8)) (LN := [(2, (1, p7 + p8)), (4, (0, 2)), (0, (4, 0)), (1, (4, 1))]) (pcN := 22) jIQ_39_21 rfl rfl rfl rfl ?_
  refine jT_xiinc (x := 2) (z := 3) (LN := [(4, (0, 3)), (2, (1, p7 + p8)), (0, (4, 0)), (1, (4, 1))]) (pcN := 25) jIQ_39_22 rfl rfl (by decide) rfl rfl ?_
  refine jT_xgoto (pcN := 5) jIQ_39_25 rfl ?_
  refine jT_xiload (v := (0, 3)) (pcN := 7) jIQ_39_5 rfl rfl rfl ?_
  refine jT_xbipush (k := 6) (pcN := 9) jIQ_39_7 (by decide) rfl ?_
  refine jT_xicF (t := 28) (pcN := 12) jIQ_39_9 rfl (by decide +kernel) rfl rfl ?_
  refine jT_xlload_n (v := (1, p7 + p8)) (pcN := 13) jIQ_39_12 rfl rfl rfl ?_
  refine jT_xaload_n (v := (4, 1)) (pcN := 14) jIQ_39_13 rfl rfl rfl ?_
  refine jT_xiload (v := (0, 3)) (pcN := 16) jIQ_39_14 rfl rfl rfl ?_
  refine jT_lald (x := 0) (a := 1) (j := 3) (fs := []) (X := [q1, p7, p8, 0, 0, 0]) jIQ_39_16 rfl rfl rfl rfl ?_
  refine jT_eq (LN := [(4, (0, 3)), (2, (1, p7 + p8)), (0, (4, 0)), (1, (4, 1))]) (stN := [(1, 0), (1, p7 + p8)]) (hsN := [jgh, (101, [], [q1, p7, p8, 0, 0, 0])]) rfl rfl rfl ?_
  refine jT_labs (z := 0) (by rfl) (by rfl) (by rfl) (by rfl) (by decide +kernel) ?_
  refine jT_xladd (x := p7 + p8) (y := 0) (z := p7 + p8) (pcN := 21) jIQ_39_20 rfl (by omega) rfl ?_
  refine jT_xlstore_n (v := (1, p7 + p8)) (LN := [(2, (1, p7 + p8)), (4, (0, 3)), (0, (4, 0)), (1, (4, 1))]) (pcN := 22) jIQ_39_21 rfl rfl rfl rfl ?_
  refine jT_xiinc (x := 3) (z := 4) (LN := [(4, (0, 4)), (2, (1, p7 + p8)), (0, (4, 0)), (1, (4, 1))]) (pcN := 25) jIQ_39_22 rfl rfl (by decide) rfl rfl ?_
  refine jT_xgoto (pcN := 5) jIQ_39_25 rfl ?_
  refine jT_xiload (v := (0, 4)) (pcN := 7) jIQ_39_5 rfl rfl rfl ?_
  refine jT_xbipush (k := 6) (pcN := 9) jIQ_39_7 (by decide) rfl ?_
  refine jT_xicF (t := 28) (pcN := 12) jIQ_39_9 rfl (by decide +kernel) rfl rfl ?_
  refine jT_xlload_n (v := (1, p7 + p8)) (pcN := 13) jIQ_39_12 rfl rfl rfl ?_
  refine jT_xaload_n (v := (4, 1)) (pcN := 14) jIQ_39_13 rfl rfl rfl ?_
  refine jT_xiload (v := (0, 4)) (pcN := 16) jIQ_39_14 rfl rfl rfl ?_
  refine jT_lald (x := 0) (a := 1) (j := 4) (fs := []) (X := [q1, p7, p8, 0, 0, 0]) jIQ_39_16 rfl rfl rfl rfl ?_
  refine jT_eq (LN := [(4, (0, 4)), (2, (1, p7 + p8)), (0, (4, 0)), (1, (4, 1))]) (stN := [(1, 0), (1, p7 + p8)]) (hsN := [jgh, (101, [], [q1, p7, p8, 0, 0, 0])]) rfl rfl rfl ?_
  refine jT_labs (z := 0) (by rfl) (by rfl) (by rfl) (by rfl) (by decide +kernel) ?_
  refine jT_xladd (x := p7 + p8) (y := 0) (z := p7 + p8) (pcN := 21) jIQ_39_20 rfl (by omega) rfl ?_
  refine jT_xlstore_n (v := (1, p7 + p8)) (LN := [(2, (1, p7 + p8)), (4, (0, 4)), (0, (4, 0)), (1, (4, 1))]) (pcN := 22) jIQ_39_21 rfl rfl rfl rfl ?_
  refine jT_xiinc (x := 4) (z := 5) (LN := [(4, (0, 5)), (2, (1, p7 + p8)), (0, (4, 0)), (1, (4, 1))]) (pcN := 25) jIQ_39_22 rfl rfl (by decide) rfl rfl ?_
  refine jT_xgoto (pcN := 5) jIQ_39_25 rfl ?_
  refine jT_xiload (v := (0, 5)) (pcN := 7) jIQ_39_5 rfl rfl rfl ?_
  refine jT_xbipush (k := 6) (pcN := 9) jIQ_39_7 (by decide) rfl ?_
  refine jT_xicF (t := 28) (pcN := 12) jIQ_39_9 rfl (by decide +kernel) rfl rfl ?_
  refine jT_xlload_n (v := (1, p7 + p8)) (pcN := 13) jIQ_39_12 rfl rfl rfl ?_
  refine jT_xaload_n (v := (4, 1)) (pcN := 14) jIQ_39_13 rfl rfl rfl ?_
  refine jT_xiload (v := (0, 5)) (pcN := 16) jIQ_39_14 rfl rfl rfl ?_
  refine jT_lald (x := 0) (a := 1) (j := 5) (fs := []) (X := [q1, p7, p8, 0, 0, 0]) jIQ_39_16 rfl rfl rfl rfl ?_
  refine jT_eq (LN := [(4, (0, 5)), (2, (1, p7 + p8)), (0, (4, 0)), (1, (4, 1))]) (stN := [(1, 0), (1, p7 + p8)]) (hsN := [jgh, (101, [], [q1, p7, p8, 0, 0, 0])]) rfl rfl rfl ?_
  refine jT_labs (z := 0) (by rfl) (by rfl) (by rfl) (by rfl) (by decide +kernel) ?_
  refine jT_xladd (x := p7 + p8) (y := 0) (z := p7 + p8) (pcN := 21) jIQ_39_20 rfl (by omega) rfl ?_
  refine jT_xlstore_n (v := (1, p7 + p8)) (LN := [(2, (1, p7 + p8)), (4, (0, 5)), (0, (4, 0)), (1, (4, 1))]) (pcN := 22) jIQ_39_21 rfl rfl rfl rfl ?_
  refine jT_xiinc (x := 5) (z := 6) (LN := [(4, (0, 6)), (2, (1, p7 + p8)), (0, (4, 0)), (1, (4, 1))]) (pcN := 25) jIQ_39_22 rfl rfl (by decide) rfl rfl ?_
  refine jT_xgoto (pcN := 5) jIQ_39_25 rfl ?_
  refine jT_xiload (v := (0, 6)) (pcN := 7) jIQ_39_5 rfl rfl rfl ?_
  refine jT_xbipush (k := 6) (pcN := 9) jIQ_39_7 (by decide) rfl ?_
  refine jT_xicT (pcN := 28) jIQ_39_9 rfl (by decide +kernel) rfl ?_
  refine jT_xlload_n (v := (1, p7 + p8)) (pcN := 29) jIQ_39_28 rfl rfl rfl ?_
  exact jT_ret rfl (by decide) (by show 2 ≤ 2; omega) (by omega) (by omega) ⟨rfl, rfl, rfl⟩
theorem jIQ_372_0 : jmI (jm 372) 0 = (.lload_n 0, 1) := by rfl
theorem jIQ_372_1 : jmI (jm 372) 1 = (.lload_n 2, 1) := by rfl
theorem jIQ_372_3 : jmI (jm 372) 3 = (.ifCond .ge 7, 3) := by rfl
theorem jIQ_372_6 : jmI (jm 372) 6 = (.iconst (-1), 1) := by rfl
theorem jIQ_372_7 : jmI (jm 372) 7 = (.goto 14, 3) := by rfl
theorem jQ_372_176 {xs : List Int} {d : Nat} {q1 : Int} (h_q1 : (-60) ≤ q1 ∧ q1 ≤ 60) (g_0 : q1 - 1 < 0) (g_1 : q1 < 0) : jT xs d 372 0 0 [(0, (1, q1)), (2, (1, 0))] [] [] 0 0 (fun k v hsN => k = 0 ∧ v = (0, (-1)) ∧ hsN = [] ++ []) := by
  refine jT_xlload_n (v := (1, q1)) (pcN := 1) jIQ_372_0 rfl rfl rfl ?_
  refine jT_xlload_n (v := (1, 0)) (pcN := 2) jIQ_372_1 rfl rfl rfl ?_
  refine jT_lcmp (a := q1) (b := 0) (z := (-1)) (by rfl) (by rfl) (jwl_idd (by omega) (by omega)) (jwl_idd (by omega) (by omega)) (by rw [decide_eq_false (show ¬ ((0 : Int) < q1) by omega), decide_eq_false (show ¬ ((q1 : Int) = 0) by omega)]; rfl) ?_
  refine jT_xifF (t := 10) (pcN := 6) jIQ_372_3 rfl (by decide +kernel) rfl rfl ?_
  refine jT_xiconst (k := (-1)) (pcN := 7) jIQ_372_6 rfl ?_
  refine jT_xgoto (pcN := 21) jIQ_372_7 rfl ?_
  exact jT_ret rfl (by decide) (by show 0 ≤ 0; omega) (by omega) (by omega) ⟨rfl, rfl, rfl⟩
theorem jQ_39_177 {xs : List Int} {d : Nat} {p7 p8 q1 : Int} (h_p7 : (-20) ≤ p7 ∧ p7 ≤ 20) (h_p8 : (-10) ≤ p8 ∧ p8 ≤ 10) (h_q1 : (-60) ≤ q1 ∧ q1 ≤ 60) (g_0 : 0 ≤ (-108917793694) * p7 - 159561683698 * p8 - 68719476736 * q1 - 1) (g_1 : 0 ≤ (-108917793694) * p7 - 159561683700 * p8 - 68719476736 * q1 - 1) (g_2 : 0 ≤ (-108917793696) * p7 - 159561683698 * p8 - 68719476736 * q1 - 1) (g_3 : 0 ≤ (-108917793696) * p7 - 159561683700 * p8 - 68719476736 * q1 - 1) (g_4 : 0 ≤ p7) (g_5 : 0 ≤ p8) (g_6 : p7 + p8 - 1 < 0) (g_7 : q1 - 1 < 0) (g_8 : 0 ≤ q1) : jT xs d 39 2 0 [(0, (4, 0)), (1, (4, 1))] [] [jgh, (101, [], [q1, p7, p8, 0, 0, 0])] 0 0 (fun k v hsN => k = 0 ∧ v = (1, p7 + p8) ∧ hsN = [jgh, (101, [], [q1, p7, p8, 0, 0, 0])] ++ []) := by
  refine jT_xlconst (z := 0) (pcN := 1) jIQ_39_0 rfl rfl ?_
  refine jT_xlstore_n (v := (1, 0)) (LN := [(2, (1, 0)), (0, (4, 0)), (1, (4, 1))]) (pcN := 2) jIQ_39_1 rfl rfl rfl rfl ?_
  refine jT_xiconst (k := 1) (pcN := 3) jIQ_39_2 rfl ?_
  refine jT_xistore (v := (0, 1)) (LN := [(4, (0, 1)), (2, (1, 0)), (0, (4, 0)), (1, (4, 1))]) (pcN := 5) jIQ_39_3 rfl rfl rfl rfl ?_
  refine jT_xiload (v := (0, 1)) (pcN := 7) jIQ_39_5 rfl rfl rfl ?_
  refine jT_xbipush (k := 6) (pcN := 9) jIQ_39_7 (by decide) rfl ?_
  refine jT_xicF (t := 28) (pcN := 12) jIQ_39_9 rfl (by decide +kernel) rfl rfl ?_
  refine jT_xlload_n (v := (1, 0)) (pcN := 13) jIQ_39_12 rfl rfl rfl ?_
  refine jT_xaload_n (v := (4, 1)) (pcN := 14) jIQ_39_13 rfl rfl rfl ?_
  refine jT_xiload (v := (0, 1)) (pcN := 16) jIQ_39_14 rfl rfl rfl ?_
  refine jT_lald (x := p7) (a := 1) (j := 1) (fs := []) (X := [q1, p7, p8, 0, 0, 0]) jIQ_39_16 rfl rfl rfl rfl ?_
  refine jT_eq (LN := [(4, (0, 1)), (2, (1, 0)), (0, (4, 0)), (1, (4, 1))]) (stN := [(1, p7), (1, 0)]) (hsN := [jgh, (101, [], [q1, p7, p8, 0, 0, 0])]) rfl rfl rfl ?_
  refine jT_labs (z := p7) (by rfl) (by rfl) (by rfl) (by rfl) (by rw [show jwl (p7) = p7 from jwl_idd (by omega) (by omega), decide_eq_false (by omega)]; first | (simp only [cond_true, cond_false]; done) | (simp only [cond_true, cond_false]; omega) | rfl) ?_
  refine jT_xladd (x := 0) (y := p7) (z := p7) (pcN := 21) jIQ_39_20 rfl (by omega) rfl ?_
  refine jT_xlstore_n (v := (1, p7)) (LN := [(2, (1, p7)), (4, (0, 1)), (0, (4, 0)), (1, (4, 1))]) (pcN := 22) jIQ_39_21 rfl rfl rfl rfl ?_
  refine jT_xiinc (x := 1) (z := 2) (LN := [(4, (0, 2)), (2, (1, p7)), (0, (4, 0)), (1, (4, 1))]) (pcN := 25) jIQ_39_22 rfl rfl (by decide) rfl rfl ?_
  refine jT_xgoto (pcN := 5) jIQ_39_25 rfl ?_
  refine jT_xiload (v := (0, 2)) (pcN := 7) jIQ_39_5 rfl rfl rfl ?_
  refine jT_xbipush (k := 6) (pcN := 9) jIQ_39_7 (by decide) rfl ?_
  refine jT_xicF (t := 28) (pcN := 12) jIQ_39_9 rfl (by decide +kernel) rfl rfl ?_
  refine jT_xlload_n (v := (1, p7)) (pcN := 13) jIQ_39_12 rfl rfl rfl ?_
  refine jT_xaload_n (v := (4, 1)) (pcN := 14) jIQ_39_13 rfl rfl rfl ?_
  refine jT_xiload (v := (0, 2)) (pcN := 16) jIQ_39_14 rfl rfl rfl ?_
  refine jT_lald (x := p8) (a := 1) (j := 2) (fs := []) (X := [q1, p7, p8, 0, 0, 0]) jIQ_39_16 rfl rfl rfl rfl ?_
  refine jT_eq (LN := [(4, (0, 2)), (2, (1, p7)), (0, (4, 0)), (1, (4, 1))]) (stN := [(1, p8), (1, p7)]) (hsN := [jgh, (101, [], [q1, p7, p8, 0, 0, 0])]) rfl rfl rfl ?_
  refine jT_labs (z := p8) (by rfl) (by rfl) (by rfl) (by rfl) (by rw [show jwl (p8) = p8 from jwl_idd (by omega) (by omega), decide_eq_false (by omega)]; first | (simp only [cond_true, cond_false]; done) | (simp only [cond_true, cond_false]; omega) | rfl) ?_
  refine jT_xladd (x := p7) (y := p8) (z := p7 + p8) (pcN := 21) jIQ_39_20 rfl (rfl) rfl ?_
  refine jT_xlstore_n (v := (1, p7 + p8)) (LN := [(2, (1, p7 + p8)), (4, (0, 2)), (0, (4, 0)), (1, (4, 1))]) (pcN := 22) jIQ_39_21 rfl rfl rfl rfl ?_
  refine jT_xiinc (x := 2) (z := 3) (LN := [(4, (0, 3)), (2, (1, p7 + p8)), (0, (4, 0)), (1, (4, 1))]) (pcN := 25) jIQ_39_22 rfl rfl (by decide) rfl rfl ?_
  refine jT_xgoto (pcN := 5) jIQ_39_25 rfl ?_
  refine jT_xiload (v := (0, 3)) (pcN := 7) jIQ_39_5 rfl rfl rfl ?_
  refine jT_xbipush (k := 6) (pcN := 9) jIQ_39_7 (by decide) rfl ?_
  refine jT_xicF (t := 28) (pcN := 12) jIQ_39_9 rfl (by decide +kernel) rfl rfl ?_
  refine jT_xlload_n (v := (1, p7 + p8)) (pcN := 13) jIQ_39_12 rfl rfl rfl ?_
  refine jT_xaload_n (v := (4, 1)) (pcN := 14) jIQ_39_13 rfl rfl rfl ?_
  refine jT_xiload (v := (0, 3)) (pcN := 16) jIQ_39_14 rfl rfl rfl ?_
  refine jT_lald (x := 0) (a := 1) (j := 3) (fs := []) (X := [q1, p7, p8, 0, 0, 0]) jIQ_39_16 rfl rfl rfl rfl ?_
  refine jT_eq (LN := [(4, (0, 3)), (2, (1, p7 + p8)), (0, (4, 0)), (1, (4, 1))]) (stN := [(1, 0), (1, p7 + p8)]) (hsN := [jgh, (101, [], [q1, p7, p8, 0, 0, 0])]) rfl rfl rfl ?_
  refine jT_labs (z := 0) (by rfl) (by rfl) (by rfl) (by rfl) (by decide +kernel) ?_
  refine jT_xladd (x := p7 + p8) (y := 0) (z := p7 + p8) (pcN := 21) jIQ_39_20 rfl (by omega) rfl ?_
  refine jT_xlstore_n (v := (1, p7 + p8)) (LN := [(2, (1, p7 + p8)), (4, (0, 3)), (0, (4, 0)), (1, (4, 1))]) (pcN := 22) jIQ_39_21 rfl rfl rfl rfl ?_
  refine jT_xiinc (x := 3) (z := 4) (LN := [(4, (0, 4)), (2, (1, p7 + p8)), (0, (4, 0)), (1, (4, 1))]) (pcN := 25) jIQ_39_22 rfl rfl (by decide) rfl rfl ?_
  refine jT_xgoto (pcN := 5) jIQ_39_25 rfl ?_
  refine jT_xiload (v := (0, 4)) (pcN := 7) jIQ_39_5 rfl rfl rfl ?_
  refine jT_xbipush (k := 6) (pcN := 9) jIQ_39_7 (by decide) rfl ?_
  refine jT_xicF (t := 28) (pcN := 12) jIQ_39_9 rfl (by decide +kernel) rfl rfl ?_
  refine jT_xlload_n (v := (1, p7 + p8)) (pcN := 13) jIQ_39_12 rfl rfl rfl ?_
  refine jT_xaload_n (v := (4, 1)) (pcN := 14) jIQ_39_13 rfl rfl rfl ?_
  refine jT_xiload (v := (0, 4)) (pcN := 16) jIQ_39_14 rfl rfl rfl ?_
  refine jT_lald (x := 0) (a := 1) (j := 4) (fs := []) (X := [q1, p7, p8, 0, 0, 0]) jIQ_39_16 rfl rfl rfl rfl ?_
  refine jT_eq (LN := [(4, (0, 4)), (2, (1, p7 + p8)), (0, (4, 0)), (1, (4, 1))]) (stN := [(1, 0), (1, p7 + p8)]) (hsN := [jgh, (101, [], [q1, p7, p8, 0, 0, 0])]) rfl rfl rfl ?_
  refine jT_labs (z := 0) (by rfl) (by rfl) (by rfl) (by rfl) (by decide +kernel) ?_
  refine jT_xladd (x := p7 + p8) (y := 0) (z := p7 + p8) (pcN := 21) jIQ_39_20 rfl (by omega) rfl ?_
  refine jT_xlstore_n (v := (1, p7 + p8)) (LN := [(2, (1, p7 + p8)), (4, (0, 4)), (0, (4, 0)), (1, (4, 1))]) (pcN := 22) jIQ_39_21 rfl rfl rfl rfl ?_
  refine jT_xiinc (x := 4) (z := 5) (LN := [(4, (0, 5)), (2, (1, p7 + p8)), (0, (4, 0)), (1, (4, 1))]) (pcN := 25) jIQ_39_22 rfl rfl (by decide) rfl rfl ?_
  refine jT_xgoto (pcN := 5) jIQ_39_25 rfl ?_
  refine jT_xiload (v := (0, 5)) (pcN := 7) jIQ_39_5 rfl rfl rfl ?_
  refine jT_xbipush (k := 6) (pcN := 9) jIQ_39_7 (by decide) rfl ?_
  refine jT_xicF (t := 28) (pcN := 12) jIQ_39_9 rfl (by decide +kernel) rfl rfl ?_
  refine jT_xlload_n (v := (1, p7 + p8)) (pcN := 13) jIQ_39_12 rfl rfl rfl ?_
  refine jT_xaload_n (v := (4, 1)) (pcN := 14) jIQ_39_13 rfl rfl rfl ?_
  refine jT_xiload (v := (0, 5)) (pcN := 16) jIQ_39_14 rfl rfl rfl ?_
  refine jT_lald (x := 0) (a := 1) (j := 5) (fs := []) (X := [q1, p7, p8, 0, 0, 0]) jIQ_39_16 rfl rfl rfl rfl ?_
  refine jT_eq (LN := [(4, (0, 5)), (2, (1, p7 + p8)), (0, (4, 0)), (1, (4, 1))]) (stN := [(1, 0), (1, p7 + p8)]) (hsN := [jgh, (101, [], [q1, p7, p8, 0, 0, 0])]) rfl rfl rfl ?_
  refine jT_labs (z := 0) (by rfl) (by rfl) (by rfl) (by rfl) (by decide +kernel) ?_
  refine jT_xladd (x := p7 + p8) (y := 0) (z := p7 + p8) (pcN := 21) jIQ_39_20 rfl (by omega) rfl ?_
  refine jT_xlstore_n (v := (1, p7 + p8)) (LN := [(2, (1, p7 + p8)), (4, (0, 5)), (0, (4, 0)), (1, (4, 1))]) (pcN := 22) jIQ_39_21 rfl rfl rfl rfl ?_
  refine jT_xiinc (x := 5) (z := 6) (LN := [(4, (0, 6)), (2, (1, p7 + p8)), (0, (4, 0)), (1, (4, 1))]) (pcN := 25) jIQ_39_22 rfl rfl (by decide) rfl rfl ?_
  refine jT_xgoto (pcN := 5) jIQ_39_25 rfl ?_
  refine jT_xiload (v := (0, 6)) (pcN := 7) jIQ_39_5 rfl rfl rfl ?_
  refine jT_xbipush (k := 6) (pcN := 9) jIQ_39_7 (by decide) rfl ?_
  refine jT_xicT (pcN := 28) jIQ_39_9 rfl (by decide +kernel) rfl ?_
  refine jT_xlload_n (v := (1, p7 + p8)) (pcN := 29) jIQ_39_28 rfl rfl rfl ?_
  exact jT_ret rfl (by decide) (by show 2 ≤ 2; omega) (by omega) (by omega) ⟨rfl, rfl, rfl⟩
theorem jIQ_372_10 : jmI (jm 372) 10 = (.lload_n 0, 1) := by rfl
theorem jIQ_372_11 : jmI (jm 372) 11 = (.lload_n 2, 1) := by rfl
theorem jIQ_372_13 : jmI (jm 372) 13 = (.ifCond .ne 7, 3) := by rfl
theorem jIQ_372_16 : jmI (jm 372) 16 = (.iconst 0, 1) := by rfl
theorem jIQ_372_17 : jmI (jm 372) 17 = (.goto 4, 3) := by rfl
theorem jQ_372_178 {xs : List Int} {d : Nat} {q1 : Int} (h_q1 : (-60) ≤ q1 ∧ q1 ≤ 60) (g_0 : q1 - 1 < 0) (g_1 : 0 ≤ q1) : jT xs d 372 0 0 [(0, (1, q1)), (2, (1, 0))] [] [] 0 0 (fun k v hsN => k = 0 ∧ v = (0, 0) ∧ hsN = [] ++ []) := by
  refine jT_xlload_n (v := (1, q1)) (pcN := 1) jIQ_372_0 rfl rfl rfl ?_
  refine jT_xlload_n (v := (1, 0)) (pcN := 2) jIQ_372_1 rfl rfl rfl ?_
  refine jT_lcmp (a := q1) (b := 0) (z := 0) (by rfl) (by rfl) (jwl_idd (by omega) (by omega)) (jwl_idd (by omega) (by omega)) (by rw [decide_eq_false (show ¬ ((0 : Int) < q1) by omega), decide_eq_true (show (q1 : Int) = 0 by omega)]; rfl) ?_
  refine jT_xifT (pcN := 10) jIQ_372_3 rfl (by decide +kernel) rfl ?_
  refine jT_xlload_n (v := (1, q1)) (pcN := 11) jIQ_372_10 rfl rfl rfl ?_
  refine jT_xlload_n (v := (1, 0)) (pcN := 12) jIQ_372_11 rfl rfl rfl ?_
  refine jT_lcmp (a := q1) (b := 0) (z := 0) (by rfl) (by rfl) (jwl_idd (by omega) (by omega)) (jwl_idd (by omega) (by omega)) (by rw [decide_eq_false (show ¬ ((0 : Int) < q1) by omega), decide_eq_true (show (q1 : Int) = 0 by omega)]; rfl) ?_
  refine jT_xifF (t := 20) (pcN := 16) jIQ_372_13 rfl (by decide +kernel) rfl rfl ?_
  refine jT_xiconst (k := 0) (pcN := 17) jIQ_372_16 rfl ?_
  refine jT_xgoto (pcN := 21) jIQ_372_17 rfl ?_
  exact jT_ret rfl (by decide) (by show 0 ≤ 0; omega) (by omega) (by omega) ⟨rfl, rfl, rfl⟩
theorem jQ_39_179 {xs : List Int} {d : Nat} {p7 p8 q1 : Int} (h_p7 : (-20) ≤ p7 ∧ p7 ≤ 20) (h_p8 : (-10) ≤ p8 ∧ p8 ≤ 10) (h_q1 : (-60) ≤ q1 ∧ q1 ≤ 60) (g_0 : 0 ≤ (-108917793694) * p7 - 159561683698 * p8 - 68719476736 * q1 - 1) (g_1 : 0 ≤ (-108917793694) * p7 - 159561683700 * p8 - 68719476736 * q1 - 1) (g_2 : 0 ≤ (-108917793696) * p7 - 159561683698 * p8 - 68719476736 * q1 - 1) (g_3 : 0 ≤ (-108917793696) * p7 - 159561683700 * p8 - 68719476736 * q1 - 1) (g_4 : 0 ≤ p7) (g_5 : 0 ≤ p8) (g_6 : p7 + p8 - 1 < 0) (g_7 : 0 ≤ q1 - 1) : jT xs d 39 2 0 [(0, (4, 0)), (1, (4, 1))] [] [jgh, (101, [], [q1, p7, p8, 0, 0, 0])] 0 0 (fun k v hsN => k = 0 ∧ v = (1, p7 + p8) ∧ hsN = [jgh, (101, [], [q1, p7, p8, 0, 0, 0])] ++ []) := by
  refine jT_xlconst (z := 0) (pcN := 1) jIQ_39_0 rfl rfl ?_
  refine jT_xlstore_n (v := (1, 0)) (LN := [(2, (1, 0)), (0, (4, 0)), (1, (4, 1))]) (pcN := 2) jIQ_39_1 rfl rfl rfl rfl ?_
  refine jT_xiconst (k := 1) (pcN := 3) jIQ_39_2 rfl ?_
  refine jT_xistore (v := (0, 1)) (LN := [(4, (0, 1)), (2, (1, 0)), (0, (4, 0)), (1, (4, 1))]) (pcN := 5) jIQ_39_3 rfl rfl rfl rfl ?_
  refine jT_xiload (v := (0, 1)) (pcN := 7) jIQ_39_5 rfl rfl rfl ?_
  refine jT_xbipush (k := 6) (pcN := 9) jIQ_39_7 (by decide) rfl ?_
  refine jT_xicF (t := 28) (pcN := 12) jIQ_39_9 rfl (by decide +kernel) rfl rfl ?_
  refine jT_xlload_n (v := (1, 0)) (pcN := 13) jIQ_39_12 rfl rfl rfl ?_
  refine jT_xaload_n (v := (4, 1)) (pcN := 14) jIQ_39_13 rfl rfl rfl ?_
  refine jT_xiload (v := (0, 1)) (pcN := 16) jIQ_39_14 rfl rfl rfl ?_
  refine jT_lald (x := p7) (a := 1) (j := 1) (fs := []) (X := [q1, p7, p8, 0, 0, 0]) jIQ_39_16 rfl rfl rfl rfl ?_
  refine jT_eq (LN := [(4, (0, 1)), (2, (1, 0)), (0, (4, 0)), (1, (4, 1))]) (stN := [(1, p7), (1, 0)]) (hsN := [jgh, (101, [], [q1, p7, p8, 0, 0, 0])]) rfl rfl rfl ?_
  refine jT_labs (z := p7) (by rfl) (by rfl) (by rfl) (by rfl) (by rw [show jwl (p7) = p7 from jwl_idd (by omega) (by omega), decide_eq_false (by omega)]; first | (simp only [cond_true, cond_false]; done) | (simp only [cond_true, cond_false]; omega) | rfl) ?_
  refine jT_xladd (x := 0) (y := p7) (z := p7) (pcN := 21) jIQ_39_20 rfl (by omega) rfl ?_
  refine jT_xlstore_n (v := (1, p7)) (LN := [(2, (1, p7)), (4, (0, 1)), (0, (4, 0)), (1, (4, 1))]) (pcN := 22) jIQ_39_21 rfl rfl rfl rfl ?_
  refine jT_xiinc (x := 1) (z := 2) (LN := [(4, (0, 2)), (2, (1, p7)), (0, (4, 0)), (1, (4, 1))]) (pcN := 25) jIQ_39_22 rfl rfl (by decide) rfl rfl ?_
  refine jT_xgoto (pcN := 5) jIQ_39_25 rfl ?_
  refine jT_xiload (v := (0, 2)) (pcN := 7) jIQ_39_5 rfl rfl rfl ?_
  refine jT_xbipush (k := 6) (pcN := 9) jIQ_39_7 (by decide) rfl ?_
  refine jT_xicF (t := 28) (pcN := 12) jIQ_39_9 rfl (by decide +kernel) rfl rfl ?_
  refine jT_xlload_n (v := (1, p7)) (pcN := 13) jIQ_39_12 rfl rfl rfl ?_
  refine jT_xaload_n (v := (4, 1)) (pcN := 14) jIQ_39_13 rfl rfl rfl ?_
  refine jT_xiload (v := (0, 2)) (pcN := 16) jIQ_39_14 rfl rfl rfl ?_
  refine jT_lald (x := p8) (a := 1) (j := 2) (fs := []) (X := [q1, p7, p8, 0, 0, 0]) jIQ_39_16 rfl rfl rfl rfl ?_
  refine jT_eq (LN := [(4, (0, 2)), (2, (1, p7)), (0, (4, 0)), (1, (4, 1))]) (stN := [(1, p8), (1, p7)]) (hsN := [jgh, (101, [], [q1, p7, p8, 0, 0, 0])]) rfl rfl rfl ?_
  refine jT_labs (z := p8) (by rfl) (by rfl) (by rfl) (by rfl) (by rw [show jwl (p8) = p8 from jwl_idd (by omega) (by omega), decide_eq_false (by omega)]; first | (simp only [cond_true, cond_false]; done) | (simp only [cond_true, cond_false]; omega) | rfl) ?_
  refine jT_xladd (x := p7) (y := p8) (z := p7 + p8) (pcN := 21) jIQ_39_20 rfl (rfl) rfl ?_
  refine jT_xlstore_n (v := (1, p7 + p8)) (LN := [(2, (1, p7 + p8)), (4, (0, 2)), (0, (4, 0)), (1, (4, 1))]) (pcN := 22) jIQ_39_21 rfl rfl rfl rfl ?_
  refine jT_xiinc (x := 2) (z := 3) (LN := [(4, (0, 3)), (2, (1, p7 + p8)), (0, (4, 0)), (1, (4, 1))]) (pcN := 25) jIQ_39_22 rfl rfl (by decide) rfl rfl ?_
  refine jT_xgoto (pcN := 5) jIQ_39_25 rfl ?_
  refine jT_xiload (v := (0, 3)) (pcN := 7) jIQ_39_5 rfl rfl rfl ?_
  refine jT_xbipush (k := 6) (pcN := 9) jIQ_39_7 (by decide) rfl ?_
  refine jT_xicF (t := 28) (pcN := 12) jIQ_39_9 rfl (by decide +kernel) rfl rfl ?_
  refine jT_xlload_n (v := (1, p7 + p8)) (pcN := 13) jIQ_39_12 rfl rfl rfl ?_
  refine jT_xaload_n (v := (4, 1)) (pcN := 14) jIQ_39_13 rfl rfl rfl ?_
  refine jT_xiload (v := (0, 3)) (pcN := 16) jIQ_39_14 rfl rfl rfl ?_
  refine jT_lald (x := 0) (a := 1) (j := 3) (fs := []) (X := [q1, p7, p8, 0, 0, 0]) jIQ_39_16 rfl rfl rfl rfl ?_
  refine jT_eq (LN := [(4, (0, 3)), (2, (1, p7 + p8)), (0, (4, 0)), (1, (4, 1))]) (stN := [(1, 0), (1, p7 + p8)]) (hsN := [jgh, (101, [], [q1, p7, p8, 0, 0, 0])]) rfl rfl rfl ?_
  refine jT_labs (z := 0) (by rfl) (by rfl) (by rfl) (by rfl) (by decide +kernel) ?_
  refine jT_xladd (x := p7 + p8) (y := 0) (z := p7 + p8) (pcN := 21) jIQ_39_20 rfl (by omega) rfl ?_
  refine jT_xlstore_n (v := (1, p7 + p8)) (LN := [(2, (1, p7 + p8)), (4, (0, 3)), (0, (4, 0)), (1, (4, 1))]) (pcN := 22) jIQ_39_21 rfl rfl rfl rfl ?_
  refine jT_xiinc (x := 3) (z := 4) (LN := [(4, (0, 4)), (2, (1, p7 + p8)), (0, (4, 0)), (1, (4, 1))]) (pcN := 25) jIQ_39_22 rfl rfl (by decide) rfl rfl ?_
  refine jT_xgoto (pcN := 5) jIQ_39_25 rfl ?_
  refine jT_xiload (v := (0, 4)) (pcN := 7) jIQ_39_5 rfl rfl rfl ?_
  refine jT_xbipush (k := 6) (pcN := 9) jIQ_39_7 (by decide) rfl ?_
  refine jT_xicF (t := 28) (pcN := 12) jIQ_39_9 rfl (by decide +kernel) rfl rfl ?_
  refine jT_xlload_n (v := (1, p7 + p8)) (pcN := 13) jIQ_39_12 rfl rfl rfl ?_
  refine jT_xaload_n (v := (4, 1)) (pcN := 14) jIQ_39_13 rfl rfl rfl ?_
  refine jT_xiload (v := (0, 4)) (pcN := 16) jIQ_39_14 rfl rfl rfl ?_
  refine jT_lald (x := 0) (a := 1) (j := 4) (fs := []) (X := [q1, p7, p8, 0, 0, 0]) jIQ_39_16 rfl rfl rfl rfl ?_
  refine jT_eq (LN := [(4, (0, 4)), (2, (1, p7 + p8)), (0, (4, 0)), (1, (4, 1))]) (stN := [(1, 0), (1, p7 + p8)]) (hsN := [jgh, (101, [], [q1, p7, p8, 0, 0, 0])]) rfl rfl rfl ?_
  refine jT_labs (z := 0) (by rfl) (by rfl) (by rfl) (by rfl) (by decide +kernel) ?_
  refine jT_xladd (x := p7 + p8) (y := 0) (z := p7 + p8) (pcN := 21) jIQ_39_20 rfl (by omega) rfl ?_
  refine jT_xlstore_n (v := (1, p7 + p8)) (LN := [(2, (1, p7 + p8)), (4, (0, 4)), (0, (4, 0)), (1, (4, 1))]) (pcN := 22) jIQ_39_21 rfl rfl rfl rfl ?_
  refine jT_xiinc (x := 4) (z := 5) (LN := [(4, (0, 5)), (2, (1, p7 + p8)), (0, (4, 0)), (1, (4, 1))]) (pcN := 25) jIQ_39_22 rfl rfl (by decide) rfl rfl ?_
  refine jT_xgoto (pcN := 5) jIQ_39_25 rfl ?_
  refine jT_xiload (v := (0, 5)) (pcN := 7) jIQ_39_5 rfl rfl rfl ?_
  refine jT_xbipush (k := 6) (pcN := 9) jIQ_39_7 (by decide) rfl ?_
  refine jT_xicF (t := 28) (pcN := 12) jIQ_39_9 rfl (by decide +kernel) rfl rfl ?_
  refine jT_xlload_n (v := (1, p7 + p8)) (pcN := 13) jIQ_39_12 rfl rfl rfl ?_
  refine jT_xaload_n (v := (4, 1)) (pcN := 14) jIQ_39_13 rfl rfl rfl ?_
  refine jT_xiload (v := (0, 5)) (pcN := 16) jIQ_39_14 rfl rfl rfl ?_
  refine jT_lald (x := 0) (a := 1) (j := 5) (fs := []) (X := [q1, p7, p8, 0, 0, 0]) jIQ_39_16 rfl rfl rfl rfl ?_
  refine jT_eq (LN := [(4, (0, 5)), (2, (1, p7 + p8)), (0, (4, 0)), (1, (4, 1))]) (stN := [(1, 0), (1, p7 + p8)]) (hsN := [jgh, (101, [], [q1, p7, p8, 0, 0, 0])]) rfl rfl rfl ?_
  refine jT_labs (z := 0) (by rfl) (by rfl) (by rfl) (by rfl) (by decide +kernel) ?_
  refine jT_xladd (x := p7 + p8) (y := 0) (z := p7 + p8) (pcN := 21) jIQ_39_20 rfl (by omega) rfl ?_
  refine jT_xlstore_n (v := (1, p7 + p8)) (LN := [(2, (1, p7 + p8)), (4, (0, 5)), (0, (4, 0)), (1, (4, 1))]) (pcN := 22) jIQ_39_21 rfl rfl rfl rfl ?_
  refine jT_xiinc (x := 5) (z := 6) (LN := [(4, (0, 6)), (2, (1, p7 + p8)), (0, (4, 0)), (1, (4, 1))]) (pcN := 25) jIQ_39_22 rfl rfl (by decide) rfl rfl ?_
  refine jT_xgoto (pcN := 5) jIQ_39_25 rfl ?_
  refine jT_xiload (v := (0, 6)) (pcN := 7) jIQ_39_5 rfl rfl rfl ?_
  refine jT_xbipush (k := 6) (pcN := 9) jIQ_39_7 (by decide) rfl ?_
  refine jT_xicT (pcN := 28) jIQ_39_9 rfl (by decide +kernel) rfl ?_
  refine jT_xlload_n (v := (1, p7 + p8)) (pcN := 29) jIQ_39_28 rfl rfl rfl ?_
  exact jT_ret rfl (by decide) (by show 2 ≤ 2; omega) (by omega) (by omega) ⟨rfl, rfl, rfl⟩
theorem jIQ_372_20 : jmI (jm 372) 20 = (.iconst 1, 1) := by rfl
theorem jQ_372_180 {xs : List Int} {d : Nat} {q1 : Int} (h_q1 : (-60) ≤ q1 ∧ q1 ≤ 60) (g_0 : 0 ≤ q1 - 1) : jT xs d 372 0 0 [(0, (1, q1)), (2, (1, 0))] [] [] 0 0 (fun k v hsN => k = 0 ∧ v = (0, 1) ∧ hsN = [] ++ []) := by
  refine jT_xlload_n (v := (1, q1)) (pcN := 1) jIQ_372_0 rfl rfl rfl ?_
  refine jT_xlload_n (v := (1, 0)) (pcN := 2) jIQ_372_1 rfl rfl rfl ?_
  refine jT_lcmp (a := q1) (b := 0) (z := 1) (by rfl) (by rfl) (jwl_idd (by omega) (by omega)) (jwl_idd (by omega) (by omega)) (by rw [decide_eq_true (show (0 : Int) < q1 by omega)]; rfl) ?_
  refine jT_xifT (pcN := 10) jIQ_372_3 rfl (by decide +kernel) rfl ?_
  refine jT_xlload_n (v := (1, q1)) (pcN := 11) jIQ_372_10 rfl rfl rfl ?_
  refine jT_xlload_n (v := (1, 0)) (pcN := 12) jIQ_372_11 rfl rfl rfl ?_
  refine jT_lcmp (a := q1) (b := 0) (z := 1) (by rfl) (by rfl) (jwl_idd (by omega) (by omega)) (jwl_idd (by omega) (by omega)) (by rw [decide_eq_true (show (0 : Int) < q1 by omega)]; rfl) ?_
  refine jT_xifT (pcN := 20) jIQ_372_13 rfl (by decide +kernel) rfl ?_
  refine jT_xiconst (k := 1) (pcN := 21) jIQ_372_20 rfl ?_
  exact jT_ret rfl (by decide) (by show 0 ≤ 0; omega) (by omega) (by omega) ⟨rfl, rfl, rfl⟩
theorem jQ_39_181 {xs : List Int} {d : Nat} {p7 p8 q1 : Int} (h_p7 : (-20) ≤ p7 ∧ p7 ≤ 20) (h_p8 : (-10) ≤ p8 ∧ p8 ≤ 10) (h_q1 : (-60) ≤ q1 ∧ q1 ≤ 60) (g_0 : 0 ≤ (-108917793694) * p7 - 159561683698 * p8 - 68719476736 * q1 - 1) (g_1 : 0 ≤ (-108917793694) * p7 - 159561683700 * p8 - 68719476736 * q1 - 1) (g_2 : 0 ≤ (-108917793696) * p7 - 159561683698 * p8 - 68719476736 * q1 - 1) (g_3 : 0 ≤ (-108917793696) * p7 - 159561683700 * p8 - 68719476736 * q1 - 1) (g_4 : 0 ≤ p7) (g_5 : 0 ≤ p8) (g_6 : 0 ≤ p7 + p8 - 1) : jT xs d 39 2 0 [(0, (4, 0)), (1, (4, 1))] [] [jgh, (101, [], [q1, p7, p8, 0, 0, 0])] 0 0 (fun k v hsN => k = 0 ∧ v = (1, p7 + p8) ∧ hsN = [jgh, (101, [], [q1, p7, p8, 0, 0, 0])] ++ []) := by
  refine jT_xlconst (z := 0) (pcN := 1) jIQ_39_0 rfl rfl ?_
  refine jT_xlstore_n (v := (1, 0)) (LN := [(2, (1, 0)), (0, (4, 0)), (1, (4, 1))]) (pcN := 2) jIQ_39_1 rfl rfl rfl rfl ?_
  refine jT_xiconst (k := 1) (pcN := 3) jIQ_39_2 rfl ?_
  refine jT_xistore (v := (0, 1)) (LN := [(4, (0, 1)), (2, (1, 0)), (0, (4, 0)), (1, (4, 1))]) (pcN := 5) jIQ_39_3 rfl rfl rfl rfl ?_
  refine jT_xiload (v := (0, 1)) (pcN := 7) jIQ_39_5 rfl rfl rfl ?_
  refine jT_xbipush (k := 6) (pcN := 9) jIQ_39_7 (by decide) rfl ?_
  refine jT_xicF (t := 28) (pcN := 12) jIQ_39_9 rfl (by decide +kernel) rfl rfl ?_
  refine jT_xlload_n (v := (1, 0)) (pcN := 13) jIQ_39_12 rfl rfl rfl ?_
  refine jT_xaload_n (v := (4, 1)) (pcN := 14) jIQ_39_13 rfl rfl rfl ?_
  refine jT_xiload (v := (0, 1)) (pcN := 16) jIQ_39_14 rfl rfl rfl ?_
  refine jT_lald (x := p7) (a := 1) (j := 1) (fs := []) (X := [q1, p7, p8, 0, 0, 0]) jIQ_39_16 rfl rfl rfl rfl ?_
  refine jT_eq (LN := [(4, (0, 1)), (2, (1, 0)), (0, (4, 0)), (1, (4, 1))]) (stN := [(1, p7), (1, 0)]) (hsN := [jgh, (101, [], [q1, p7, p8, 0, 0, 0])]) rfl rfl rfl ?_
  refine jT_labs (z := p7) (by rfl) (by rfl) (by rfl) (by rfl) (by rw [show jwl (p7) = p7 from jwl_idd (by omega) (by omega), decide_eq_false (by omega)]; first | (simp only [cond_true, cond_false]; done) | (simp only [cond_true, cond_false]; omega) | rfl) ?_
  refine jT_xladd (x := 0) (y := p7) (z := p7) (pcN := 21) jIQ_39_20 rfl (by omega) rfl ?_
  refine jT_xlstore_n (v := (1, p7)) (LN := [(2, (1, p7)), (4, (0, 1)), (0, (4, 0)), (1, (4, 1))]) (pcN := 22) jIQ_39_21 rfl rfl rfl rfl ?_
  refine jT_xiinc (x := 1) (z := 2) (LN := [(4, (0, 2)), (2, (1, p7)), (0, (4, 0)), (1, (4, 1))]) (pcN := 25) jIQ_39_22 rfl rfl (by decide) rfl rfl ?_
  refine jT_xgoto (pcN := 5) jIQ_39_25 rfl ?_
  refine jT_xiload (v := (0, 2)) (pcN := 7) jIQ_39_5 rfl rfl rfl ?_
  refine jT_xbipush (k := 6) (pcN := 9) jIQ_39_7 (by decide) rfl ?_
  refine jT_xicF (t := 28) (pcN := 12) jIQ_39_9 rfl (by decide +kernel) rfl rfl ?_
  refine jT_xlload_n (v := (1, p7)) (pcN := 13) jIQ_39_12 rfl rfl rfl ?_
  refine jT_xaload_n (v := (4, 1)) (pcN := 14) jIQ_39_13 rfl rfl rfl ?_
  refine jT_xiload (v := (0, 2)) (pcN := 16) jIQ_39_14 rfl rfl rfl ?_
  refine jT_lald (x := p8) (a := 1) (j := 2) (fs := []) (X := [q1, p7, p8, 0, 0, 0]) jIQ_39_16 rfl rfl rfl rfl ?_
  refine jT_eq (LN := [(4, (0, 2)), (2, (1, p7)), (0, (4, 0)), (1, (4, 1))]) (stN := [(1, p8), (1, p7)]) (hsN := [jgh, (101, [], [q1, p7, p8, 0, 0, 0])]) rfl rfl rfl ?_
  refine jT_labs (z := p8) (by rfl) (by rfl) (by rfl) (by rfl) (by rw [show jwl (p8) = p8 from jwl_idd (by omega) (by omega), decide_eq_false (by omega)]; first | (simp only [cond_true, cond_false]; done) | (simp only [cond_true, cond_false]; omega) | rfl) ?_
  refine jT_xladd (x := p7) (y := p8) (z := p7 + p8) (pcN := 21) jIQ_39_20 rfl (rfl) rfl ?_
  refine jT_xlstore_n (v := (1, p7 + p8)) (LN := [(2, (1, p7 + p8)), (4, (0, 2)), (0, (4, 0)), (1, (4, 1))]) (pcN := 22) jIQ_39_21 rfl rfl rfl rfl ?_
  refine jT_xiinc (x := 2) (z := 3) (LN := [(4, (0, 3)), (2, (1, p7 + p8)), (0, (4, 0)), (1, (4, 1))]) (pcN := 25) jIQ_39_22 rfl rfl (by decide) rfl rfl ?_
  refine jT_xgoto (pcN := 5) jIQ_39_25 rfl ?_
  refine jT_xiload (v := (0, 3)) (pcN := 7) jIQ_39_5 rfl rfl rfl ?_
  refine jT_xbipush (k := 6) (pcN := 9) jIQ_39_7 (by decide) rfl ?_
  refine jT_xicF (t := 28) (pcN := 12) jIQ_39_9 rfl (by decide +kernel) rfl rfl ?_
  refine jT_xlload_n (v := (1, p7 + p8)) (pcN := 13) jIQ_39_12 rfl rfl rfl ?_
  refine jT_xaload_n (v := (4, 1)) (pcN := 14) jIQ_39_13 rfl rfl rfl ?_
  refine jT_xiload (v := (0, 3)) (pcN := 16) jIQ_39_14 rfl rfl rfl ?_
  refine jT_lald (x := 0) (a := 1) (j := 3) (fs := []) (X := [q1, p7, p8, 0, 0, 0]) jIQ_39_16 rfl rfl rfl rfl ?_
  refine jT_eq (LN := [(4, (0, 3)), (2, (1, p7 + p8)), (0, (4, 0)), (1, (4, 1))]) (stN := [(1, 0), (1, p7 + p8)]) (hsN := [jgh, (101, [], [q1, p7, p8, 0, 0, 0])]) rfl rfl rfl ?_
  refine jT_labs (z := 0) (by rfl) (by rfl) (by rfl) (by rfl) (by decide +kernel) ?_
  refine jT_xladd (x := p7 + p8) (y := 0) (z := p7 + p8) (pcN := 21) jIQ_39_20 rfl (by omega) rfl ?_
  refine jT_xlstore_n (v := (1, p7 + p8)) (LN := [(2, (1, p7 + p8)), (4, (0, 3)), (0, (4, 0)), (1, (4, 1))]) (pcN := 22) jIQ_39_21 rfl rfl rfl rfl ?_
  refine jT_xiinc (x := 3) (z := 4) (LN := [(4, (0, 4)), (2, (1, p7 + p8)), (0, (4, 0)), (1, (4, 1))]) (pcN := 25) jIQ_39_22 rfl rfl (by decide) rfl rfl ?_
  refine jT_xgoto (pcN := 5) jIQ_39_25 rfl ?_
  refine jT_xiload (v := (0, 4)) (pcN := 7) jIQ_39_5 rfl rfl rfl ?_
  refine jT_xbipush (k := 6) (pcN := 9) jIQ_39_7 (by decide) rfl ?_
  refine jT_xicF (t := 28) (pcN := 12) jIQ_39_9 rfl (by decide +kernel) rfl rfl ?_
  refine jT_xlload_n (v := (1, p7 + p8)) (pcN := 13) jIQ_39_12 rfl rfl rfl ?_
  refine jT_xaload_n (v := (4, 1)) (pcN := 14) jIQ_39_13 rfl rfl rfl ?_
  refine jT_xiload (v := (0, 4)) (pcN := 16) jIQ_39_14 rfl rfl rfl ?_
  refine jT_lald (x := 0) (a := 1) (j := 4) (fs := []) (X := [q1, p7, p8, 0, 0, 0]) jIQ_39_16 rfl rfl rfl rfl ?_
  refine jT_eq (LN := [(4, (0, 4)), (2, (1, p7 + p8)), (0, (4, 0)), (1, (4, 1))]) (stN := [(1, 0), (1, p7 + p8)]) (hsN := [jgh, (101, [], [q1, p7, p8, 0, 0, 0])]) rfl rfl rfl ?_
  refine jT_labs (z := 0) (by rfl) (by rfl) (by rfl) (by rfl) (by decide +kernel) ?_
  refine jT_xladd (x := p7 + p8) (y := 0) (z := p7 + p8) (pcN := 21) jIQ_39_20 rfl (by omega) rfl ?_
  refine jT_xlstore_n (v := (1, p7 + p8)) (LN := [(2, (1, p7 + p8)), (4, (0, 4)), (0, (4, 0)), (1, (4, 1))]) (pcN := 22) jIQ_39_21 rfl rfl rfl rfl ?_
  refine jT_xiinc (x := 4) (z := 5) (LN := [(4, (0, 5)), (2, (1, p7 + p8)), (0, (4, 0)), (1, (4, 1))]) (pcN := 25) jIQ_39_22 rfl rfl (by decide) rfl rfl ?_
  refine jT_xgoto (pcN := 5) jIQ_39_25 rfl ?_
  refine jT_xiload (v := (0, 5)) (pcN := 7) jIQ_39_5 rfl rfl rfl ?_
  refine jT_xbipush (k := 6) (pcN := 9) jIQ_39_7 (by decide) rfl ?_
  refine jT_xicF (t := 28) (pcN := 12) jIQ_39_9 rfl (by decide +kernel) rfl rfl ?_
  refine jT_xlload_n (v := (1, p7 + p8)) (pcN := 13) jIQ_39_12 rfl rfl rfl ?_
  refine jT_xaload_n (v := (4, 1)) (pcN := 14) jIQ_39_13 rfl rfl rfl ?_
  refine jT_xiload (v := (0, 5)) (pcN := 16) jIQ_39_14 rfl rfl rfl ?_
  refine jT_lald (x := 0) (a := 1) (j := 5) (fs := []) (X := [q1, p7, p8, 0, 0, 0]) jIQ_39_16 rfl rfl rfl rfl ?_
  refine jT_eq (LN := [(4, (0, 5)), (2, (1, p7 + p8)), (0, (4, 0)), (1, (4, 1))]) (stN := [(1, 0), (1, p7 + p8)]) (hsN := [jgh, (101, [], [q1, p7, p8, 0, 0, 0])]) rfl rfl rfl ?_
  refine jT_labs (z := 0) (by rfl) (by rfl) (by rfl) (by rfl) (by decide +kernel) ?_
  refine jT_xladd (x := p7 + p8) (y := 0) (z := p7 + p8) (pcN := 21) jIQ_39_20 rfl (by omega) rfl ?_
  refine jT_xlstore_n (v := (1, p7 + p8)) (LN := [(2, (1, p7 + p8)), (4, (0, 5)), (0, (4, 0)), (1, (4, 1))]) (pcN := 22) jIQ_39_21 rfl rfl rfl rfl ?_
  refine jT_xiinc (x := 5) (z := 6) (LN := [(4, (0, 6)), (2, (1, p7 + p8)), (0, (4, 0)), (1, (4, 1))]) (pcN := 25) jIQ_39_22 rfl rfl (by decide) rfl rfl ?_
  refine jT_xgoto (pcN := 5) jIQ_39_25 rfl ?_
  refine jT_xiload (v := (0, 6)) (pcN := 7) jIQ_39_5 rfl rfl rfl ?_
  refine jT_xbipush (k := 6) (pcN := 9) jIQ_39_7 (by decide) rfl ?_
  refine jT_xicT (pcN := 28) jIQ_39_9 rfl (by decide +kernel) rfl ?_
  refine jT_xlload_n (v := (1, p7 + p8)) (pcN := 29) jIQ_39_28 rfl rfl rfl ?_
  exact jT_ret rfl (by decide) (by show 2 ≤ 2; omega) (by omega) (by omega) ⟨rfl, rfl, rfl⟩
theorem jQ_39_182 {xs : List Int} {d : Nat} {p7 p8 q1 : Int} (h_p7 : (-20) ≤ p7 ∧ p7 ≤ 20) (h_p8 : (-10) ≤ p8 ∧ p8 ≤ 10) (h_q1 : (-60) ≤ q1 ∧ q1 ≤ 60) (g_0 : 0 ≤ (-108917793694) * p7 - 159561683698 * p8 - 68719476736 * q1 - 1) (g_1 : 0 ≤ (-108917793694) * p7 - 159561683700 * p8 - 68719476736 * q1 - 1) (g_2 : 0 ≤ (-108917793696) * p7 - 159561683698 * p8 - 68719476736 * q1 - 1) (g_3 : 0 ≤ (-108917793696) * p7 - 159561683700 * p8 - 68719476736 * q1 - 1) (g_4 : 0 ≤ p7) (g_5 : 0 ≤ p8) (g_6 : 0 ≤ p7 + p8 - 1) (g_7 : q1 < 0) : jT xs d 39 2 0 [(0, (4, 0)), (1, (4, 1))] [] [jgh, (101, [], [q1, p7, p8, 0, 0, 0])] 0 0 (fun k v hsN => k = 0 ∧ v = (1, p7 + p8) ∧ hsN = [jgh, (101, [], [q1, p7, p8, 0, 0, 0])] ++ []) := by
  refine jT_xlconst (z := 0) (pcN := 1) jIQ_39_0 rfl rfl ?_
  refine jT_xlstore_n (v := (1, 0)) (LN := [(2, (1, 0)), (0, (4, 0)), (1, (4, 1))]) (pcN := 2) jIQ_39_1 rfl rfl rfl rfl ?_
  refine jT_xiconst (k := 1) (pcN := 3) jIQ_39_2 rfl ?_
  refine jT_xistore (v := (0, 1)) (LN := [(4, (0, 1)), (2, (1, 0)), (0, (4, 0)), (1, (4, 1))]) (pcN := 5) jIQ_39_3 rfl rfl rfl rfl ?_
  refine jT_xiload (v := (0, 1)) (pcN := 7) jIQ_39_5 rfl rfl rfl ?_
  refine jT_xbipush (k := 6) (pcN := 9) jIQ_39_7 (by decide) rfl ?_
  refine jT_xicF (t := 28) (pcN := 12) jIQ_39_9 rfl (by decide +kernel) rfl rfl ?_
  refine jT_xlload_n (v := (1, 0)) (pcN := 13) jIQ_39_12 rfl rfl rfl ?_
  refine jT_xaload_n (v := (4, 1)) (pcN := 14) jIQ_39_13 rfl rfl rfl ?_
  refine jT_xiload (v := (0, 1)) (pcN := 16) jIQ_39_14 rfl rfl rfl ?_
  refine jT_lald (x := p7) (a := 1) (j := 1) (fs := []) (X := [q1, p7, p8, 0, 0, 0]) jIQ_39_16 rfl rfl rfl rfl ?_
  refine jT_eq (LN := [(4, (0, 1)), (2, (1, 0)), (0, (4, 0)), (1, (4, 1))]) (stN := [(1, p7), (1, 0)]) (hsN := [jgh, (101, [], [q1, p7, p8, 0, 0, 0])]) rfl rfl rfl ?_
  refine jT_labs (z := p7) (by rfl) (by rfl) (by rfl) (by rfl) (by rw [show jwl (p7) = p7 from jwl_idd (by omega) (by omega), decide_eq_false (by omega)]; first | (simp only [cond_true, cond_false]; done) | (simp only [cond_true, cond_false]; omega) | rfl) ?_
  refine jT_xladd (x := 0) (y := p7) (z := p7) (pcN := 21) jIQ_39_20 rfl (by omega) rfl ?_
  refine jT_xlstore_n (v := (1, p7)) (LN := [(2, (1, p7)), (4, (0, 1)), (0, (4, 0)), (1, (4, 1))]) (pcN := 22) jIQ_39_21 rfl rfl rfl rfl ?_
  refine jT_xiinc (x := 1) (z := 2) (LN := [(4, (0, 2)), (2, (1, p7)), (0, (4, 0)), (1, (4, 1))]) (pcN := 25) jIQ_39_22 rfl rfl (by decide) rfl rfl ?_
  refine jT_xgoto (pcN := 5) jIQ_39_25 rfl ?_
  refine jT_xiload (v := (0, 2)) (pcN := 7) jIQ_39_5 rfl rfl rfl ?_
  refine jT_xbipush (k := 6) (pcN := 9) jIQ_39_7 (by decide) rfl ?_
  refine jT_xicF (t := 28) (pcN := 12) jIQ_39_9 rfl (by decide +kernel) rfl rfl ?_
  refine jT_xlload_n (v := (1, p7)) (pcN := 13) jIQ_39_12 rfl rfl rfl ?_
  refine jT_xaload_n (v := (4, 1)) (pcN := 14) jIQ_39_13 rfl rfl rfl ?_
  refine jT_xiload (v := (0, 2)) (pcN := 16) jIQ_39_14 rfl rfl rfl ?_
  refine jT_lald (x := p8) (a := 1) (j := 2) (fs := []) (X := [q1, p7, p8, 0, 0, 0]) jIQ_39_16 rfl rfl rfl rfl ?_
  refine jT_eq (LN := [(4, (0, 2)), (2, (1, p7)), (0, (4, 0)), (1, (4, 1))]) (stN := [(1, p8), (1, p7)]) (hsN := [jgh, (101, [], [q1, p7, p8, 0, 0, 0])]) rfl rfl rfl ?_
  refine jT_labs (z := p8) (by rfl) (by rfl) (by rfl) (by rfl) (by rw [show jwl (p8) = p8 from jwl_idd (by omega) (by omega), decide_eq_false (by omega)]; first | (simp only [cond_true, cond_false]; done) | (simp only [cond_true, cond_false]; omega) | rfl) ?_
  refine jT_xladd (x := p7) (y := p8) (z := p7 + p8) (pcN := 21) jIQ_39_20 rfl (rfl) rfl ?_
  refine jT_xlstore_n (v := (1, p7 + p8)) (LN := [(2, (1, p7 + p8)), (4, (0, 2)), (0, (4, 0)), (1, (4, 1))]) (pcN := 22) jIQ_39_21 rfl rfl rfl rfl ?_
  refine jT_xiinc (x := 2) (z := 3) (LN := [(4, (0, 3)), (2, (1, p7 + p8)), (0, (4, 0)), (1, (4, 1))]) (pcN := 25) jIQ_39_22 rfl rfl (by decide) rfl rfl ?_
  refine jT_xgoto (pcN := 5) jIQ_39_25 rfl ?_
  refine jT_xiload (v := (0, 3)) (pcN := 7) jIQ_39_5 rfl rfl rfl ?_
  refine jT_xbipush (k := 6) (pcN := 9) jIQ_39_7 (by decide) rfl ?_
  refine jT_xicF (t := 28) (pcN := 12) jIQ_39_9 rfl (by decide +kernel) rfl rfl ?_
  refine jT_xlload_n (v := (1, p7 + p8)) (pcN := 13) jIQ_39_12 rfl rfl rfl ?_
  refine jT_xaload_n (v := (4, 1)) (pcN := 14) jIQ_39_13 rfl rfl rfl ?_
  refine jT_xiload (v := (0, 3)) (pcN := 16) jIQ_39_14 rfl rfl rfl ?_
  refine jT_lald (x := 0) (a := 1) (j := 3) (fs := []) (X := [q1, p7, p8, 0, 0, 0]) jIQ_39_16 rfl rfl rfl rfl ?_
  refine jT_eq (LN := [(4, (0, 3)), (2, (1, p7 + p8)), (0, (4, 0)), (1, (4, 1))]) (stN := [(1, 0), (1, p7 + p8)]) (hsN := [jgh, (101, [], [q1, p7, p8, 0, 0, 0])]) rfl rfl rfl ?_
  refine jT_labs (z := 0) (by rfl) (by rfl) (by rfl) (by rfl) (by decide +kernel) ?_
  refine jT_xladd (x := p7 + p8) (y := 0) (z := p7 + p8) (pcN := 21) jIQ_39_20 rfl (by omega) rfl ?_
  refine jT_xlstore_n (v := (1, p7 + p8)) (LN := [(2, (1, p7 + p8)), (4, (0, 3)), (0, (4, 0)), (1, (4, 1))]) (pcN := 22) jIQ_39_21 rfl rfl rfl rfl ?_
  refine jT_xiinc (x := 3) (z := 4) (LN := [(4, (0, 4)), (2, (1, p7 + p8)), (0, (4, 0)), (1, (4, 1))]) (pcN := 25) jIQ_39_22 rfl rfl (by decide) rfl rfl ?_
  refine jT_xgoto (pcN := 5) jIQ_39_25 rfl ?_
  refine jT_xiload (v := (0, 4)) (pcN := 7) jIQ_39_5 rfl rfl rfl ?_
  refine jT_xbipush (k := 6) (pcN := 9) jIQ_39_7 (by decide) rfl ?_
  refine jT_xicF (t := 28) (pcN := 12) jIQ_39_9 rfl (by decide +kernel) rfl rfl ?_
  refine jT_xlload_n (v := (1, p7 + p8)) (pcN := 13) jIQ_39_12 rfl rfl rfl ?_
  refine jT_xaload_n (v := (4, 1)) (pcN := 14) jIQ_39_13 rfl rfl rfl ?_
  refine jT_xiload (v := (0, 4)) (pcN := 16) jIQ_39_14 rfl rfl rfl ?_
  refine jT_lald (x := 0) (a := 1) (j := 4) (fs := []) (X := [q1, p7, p8, 0, 0, 0]) jIQ_39_16 rfl rfl rfl rfl ?_
  refine jT_eq (LN := [(4, (0, 4)), (2, (1, p7 + p8)), (0, (4, 0)), (1, (4, 1))]) (stN := [(1, 0), (1, p7 + p8)]) (hsN := [jgh, (101, [], [q1, p7, p8, 0, 0, 0])]) rfl rfl rfl ?_
  refine jT_labs (z := 0) (by rfl) (by rfl) (by rfl) (by rfl) (by decide +kernel) ?_
  refine jT_xladd (x := p7 + p8) (y := 0) (z := p7 + p8) (pcN := 21) jIQ_39_20 rfl (by omega) rfl ?_
  refine jT_xlstore_n (v := (1, p7 + p8)) (LN := [(2, (1, p7 + p8)), (4, (0, 4)), (0, (4, 0)), (1, (4, 1))]) (pcN := 22) jIQ_39_21 rfl rfl rfl rfl ?_
  refine jT_xiinc (x := 4) (z := 5) (LN := [(4, (0, 5)), (2, (1, p7 + p8)), (0, (4, 0)), (1, (4, 1))]) (pcN := 25) jIQ_39_22 rfl rfl (by decide) rfl rfl ?_
  refine jT_xgoto (pcN := 5) jIQ_39_25 rfl ?_
  refine jT_xiload (v := (0, 5)) (pcN := 7) jIQ_39_5 rfl rfl rfl ?_
  refine jT_xbipush (k := 6) (pcN := 9) jIQ_39_7 (by decide) rfl ?_
  refine jT_xicF (t := 28) (pcN := 12) jIQ_39_9 rfl (by decide +kernel) rfl rfl ?_
  refine jT_xlload_n (v := (1, p7 + p8)) (pcN := 13) jIQ_39_12 rfl rfl rfl ?_
  refine jT_xaload_n (v := (4, 1)) (pcN := 14) jIQ_39_13 rfl rfl rfl ?_
  refine jT_xiload (v := (0, 5)) (pcN := 16) jIQ_39_14 rfl rfl rfl ?_
  refine jT_lald (x := 0) (a := 1) (j := 5) (fs := []) (X := [q1, p7, p8, 0, 0, 0]) jIQ_39_16 rfl rfl rfl rfl ?_
  refine jT_eq (LN := [(4, (0, 5)), (2, (1, p7 + p8)), (0, (4, 0)), (1, (4, 1))]) (stN := [(1, 0), (1, p7 + p8)]) (hsN := [jgh, (101, [], [q1, p7, p8, 0, 0, 0])]) rfl rfl rfl ?_
  refine jT_labs (z := 0) (by rfl) (by rfl) (by rfl) (by rfl) (by decide +kernel) ?_
  refine jT_xladd (x := p7 + p8) (y := 0) (z := p7 + p8) (pcN := 21) jIQ_39_20 rfl (by omega) rfl ?_
  refine jT_xlstore_n (v := (1, p7 + p8)) (LN := [(2, (1, p7 + p8)), (4, (0, 5)), (0, (4, 0)), (1, (4, 1))]) (pcN := 22) jIQ_39_21 rfl rfl rfl rfl ?_
  refine jT_xiinc (x := 5) (z := 6) (LN := [(4, (0, 6)), (2, (1, p7 + p8)), (0, (4, 0)), (1, (4, 1))]) (pcN := 25) jIQ_39_22 rfl rfl (by decide) rfl rfl ?_
  refine jT_xgoto (pcN := 5) jIQ_39_25 rfl ?_
  refine jT_xiload (v := (0, 6)) (pcN := 7) jIQ_39_5 rfl rfl rfl ?_
  refine jT_xbipush (k := 6) (pcN := 9) jIQ_39_7 (by decide) rfl ?_
  refine jT_xicT (pcN := 28) jIQ_39_9 rfl (by decide +kernel) rfl ?_
  refine jT_xlload_n (v := (1, p7 + p8)) (pcN := 29) jIQ_39_28 rfl rfl rfl ?_
  exact jT_ret rfl (by decide) (by show 2 ≤ 2; omega) (by omega) (by omega) ⟨rfl, rfl, rfl⟩
theorem jQ_40_183 {xs : List Int} {d : Nat} {p7 p8 q1 : Int} (h_p7 : (-20) ≤ p7 ∧ p7 ≤ 20) (h_p8 : (-10) ≤ p8 ∧ p8 ≤ 10) (h_q1 : (-60) ≤ q1 ∧ q1 ≤ 60) (g_0 : 0 ≤ (-108917793694) * p7 - 159561683698 * p8 - 68719476736 * q1 - 1) (g_1 : 0 ≤ (-108917793694) * p7 - 159561683700 * p8 - 68719476736 * q1 - 1) (g_2 : 0 ≤ (-108917793696) * p7 - 159561683698 * p8 - 68719476736 * q1 - 1) (g_3 : 0 ≤ (-108917793696) * p7 - 159561683700 * p8 - 68719476736 * q1 - 1) (g_4 : 0 ≤ p7) (g_5 : 0 ≤ p8) (g_6 : 0 ≤ p7 + p8 - 1) (g_7 : q1 < 0) : jT xs d 40 2 0 [(0, (4, 0)), (1, (4, 1)), (2, (1, p7 + p8))] [] [jgh, (101, [], [q1, p7, p8, 0, 0, 0])] 0 0 (fun k v hsN => k = 0 ∧ v = (0, 1) ∧ hsN = [jgh, (101, [], [q1, p7, p8, 0, 0, 0])] ++ []) := by
  refine jT_xlload_n (v := (1, p7 + p8)) (pcN := 1) jIQ_40_0 rfl rfl rfl ?_
  refine jT_adv 1 (pcN := 4) (LN := [(0, (4, 0)), (1, (4, 1)), (2, (1, p7 + p8))]) (stN := [(1, 16777216), (1, p7 + p8)]) (hsN := [jgh, (101, [], [q1, p7, p8, 0, 0, 0])]) (c1 := 0) (s1 := 0) (c2 := 0) (s2 := 0) (by exact rfl) ?_ (by omega) (by omega)
  refine jT_lcmp (a := p7 + p8) (b := 16777216) (z := (-1)) (by rfl) (by rfl) (jwl_idd (by omega) (by omega)) (jwl_idd (by omega) (by omega)) (by rw [decide_eq_false (show ¬ ((16777216 : Int) < p7 + p8) by omega), decide_eq_false (show ¬ ((p7 + p8 : Int) = 16777216) by omega)]; rfl) ?_
  refine jT_xifF (t := 25) (pcN := 8) jIQ_40_5 rfl (by decide +kernel) rfl rfl ?_
  refine jT_xaload_n (v := (4, 1)) (pcN := 9) jIQ_40_8 rfl rfl rfl ?_
  refine jT_xiconst (k := 0) (pcN := 10) jIQ_40_9 rfl ?_
  refine jT_lald (x := q1) (a := 1) (j := 0) (fs := []) (X := [q1, p7, p8, 0, 0, 0]) jIQ_40_10 rfl rfl rfl rfl ?_
  refine jT_eq (LN := [(0, (4, 0)), (1, (4, 1)), (2, (1, p7 + p8))]) (stN := [(1, q1)]) (hsN := [jgh, (101, [], [q1, p7, p8, 0, 0, 0])]) rfl rfl rfl ?_
  refine jT_labs (z := -q1) (by rfl) (by rfl) (by rfl) (by rfl) (by rw [show jwl (q1) = q1 from jwl_idd (by omega) (by omega), decide_eq_true (by omega)]; first | (simp only [cond_true, cond_false]; done) | (simp only [cond_true, cond_false]; omega) | rfl) ?_
  refine jT_adv 1 (pcN := 17) (LN := [(0, (4, 0)), (1, (4, 1)), (2, (1, p7 + p8))]) (stN := [(1, 16777216), (1, -q1)]) (hsN := [jgh, (101, [], [q1, p7, p8, 0, 0, 0])]) (c1 := 0) (s1 := 0) (c2 := 0) (s2 := 0) (by exact rfl) ?_ (by omega) (by omega)
  refine jT_lcmp (a := -q1) (b := 16777216) (z := (-1)) (by rfl) (by rfl) (jwl_idd (by omega) (by omega)) (jwl_idd (by omega) (by omega)) (by rw [decide_eq_false (show ¬ ((16777216 : Int) < -q1) by omega), decide_eq_false (show ¬ ((-q1 : Int) = 16777216) by omega)]; rfl) ?_
  refine jT_xifF (t := 25) (pcN := 21) jIQ_40_18 rfl (by decide +kernel) rfl rfl ?_
  refine jT_xiconst (k := 1) (pcN := 22) jIQ_40_21 rfl ?_
  refine jT_xgoto (pcN := 26) jIQ_40_22 rfl ?_
  exact jT_ret rfl (by decide) (by show 2 ≤ 2; omega) (by omega) (by omega) ⟨rfl, rfl, rfl⟩
theorem jQ_41_184 {xs : List Int} {d : Nat} {p7 p8 q1 : Int} (h_p7 : (-20) ≤ p7 ∧ p7 ≤ 20) (h_p8 : (-10) ≤ p8 ∧ p8 ≤ 10) (h_q1 : (-60) ≤ q1 ∧ q1 ≤ 60) (g_0 : 0 ≤ (-108917793694) * p7 - 159561683698 * p8 - 68719476736 * q1 - 1) (g_1 : 0 ≤ (-108917793694) * p7 - 159561683700 * p8 - 68719476736 * q1 - 1) (g_2 : 0 ≤ (-108917793696) * p7 - 159561683698 * p8 - 68719476736 * q1 - 1) (g_3 : 0 ≤ (-108917793696) * p7 - 159561683700 * p8 - 68719476736 * q1 - 1) (g_4 : 0 ≤ p7) (g_5 : 0 ≤ p8) (g_6 : 0 ≤ p7 + p8 - 1) (g_7 : q1 < 0) : jT xs d 41 2 0 [(0, (4, 0)), (1, (4, 1))] [] [jgh, (101, [], [q1, p7, p8, 0, 0, 0])] 0 0 (fun k v hsN => k = 0 ∧ v = (1, 108917793695 * p7 + 159561683699 * p8 + 68719476736 * q1) ∧ hsN = [jgh, (101, [], [q1, p7, p8, 0, 0, 0])] ++ []) := by
  refine jT_xlconst (z := 0) (pcN := 1) jIQ_41_0 rfl rfl ?_
  refine jT_xlstore_n (v := (1, 0)) (LN := [(2, (1, 0)), (0, (4, 0)), (1, (4, 1))]) (pcN := 2) jIQ_41_1 rfl rfl rfl rfl ?_
  refine jT_xiconst (k := 0) (pcN := 3) jIQ_41_2 rfl ?_
  refine jT_xistore (v := (0, 0)) (LN := [(4, (0, 0)), (2, (1, 0)), (0, (4, 0)), (1, (4, 1))]) (pcN := 5) jIQ_41_3 rfl rfl rfl rfl ?_
  refine jT_xiload (v := (0, 0)) (pcN := 7) jIQ_41_5 rfl rfl rfl ?_
  refine jT_xbipush (k := 6) (pcN := 9) jIQ_41_7 (by decide) rfl ?_
  refine jT_xicF (t := 32) (pcN := 12) jIQ_41_9 rfl (by decide +kernel) rfl rfl ?_
  refine jT_xlload_n (v := (1, 0)) (pcN := 13) jIQ_41_12 rfl rfl rfl ?_
  refine jT_xaload_n (v := (4, 1)) (pcN := 14) jIQ_41_13 rfl rfl rfl ?_
  refine jT_xiload (v := (0, 0)) (pcN := 16) jIQ_41_14 rfl rfl rfl ?_
  refine jT_lald (x := q1) (a := 1) (j := 0) (fs := []) (X := [q1, p7, p8, 0, 0, 0]) jIQ_41_16 rfl rfl rfl rfl ?_
  refine jT_eq (LN := [(4, (0, 0)), (2, (1, 0)), (0, (4, 0)), (1, (4, 1))]) (stN := [(1, q1), (1, 0)]) (hsN := [jgh, (101, [], [q1, p7, p8, 0, 0, 0])]) rfl rfl rfl ?_
  refine jT_adv 1 (pcN := 20) (LN := [(4, (0, 0)), (2, (1, 0)), (0, (4, 0)), (1, (4, 1))]) (stN := [(5, 0), (1, q1), (1, 0)]) (hsN := [jgh, (101, [], [q1, p7, p8, 0, 0, 0])]) (c1 := 0) (s1 := 0) (c2 := 0) (s2 := 0) (by exact rfl) ?_ (by omega) (by omega)
  refine jT_xiload (v := (0, 0)) (pcN := 22) jIQ_41_20 rfl rfl rfl ?_
  refine jT_adv 1 (pcN := 23) (LN := [(4, (0, 0)), (2, (1, 0)), (0, (4, 0)), (1, (4, 1))]) (stN := [(1, 68719476736), (1, q1), (1, 0)]) (hsN := [jgh, (101, [], [q1, p7, p8, 0, 0, 0])]) (c1 := 0) (s1 := 0) (c2 := 0) (s2 := 0) (by exact rfl) ?_ (by omega) (by omega)
  refine jT_xlmul (x := q1) (y := 68719476736) (z := 68719476736 * q1) (pcN := 24) jIQ_41_23 rfl (by omega) rfl ?_
  refine jT_xladd (x := 0) (y := 68719476736 * q1) (z := 68719476736 * q1) (pcN := 25) jIQ_41_24 rfl (by omega) rfl ?_
  refine jT_xlstore_n (v := (1, 68719476736 * q1)) (LN := [(2, (1, 68719476736 * q1)), (4, (0, 0)), (0, (4, 0)), (1, (4, 1))]) (pcN := 26) jIQ_41_25 rfl rfl rfl rfl ?_
  refine jT_xiinc (x := 0) (z := 1) (LN := [(4, (0, 1)), (2, (1, 68719476736 * q1)), (0, (4, 0)), (1, (4, 1))]) (pcN := 29) jIQ_41_26 rfl rfl (by decide) rfl rfl ?_
  refine jT_xgoto (pcN := 5) jIQ_41_29 rfl ?_
  refine jT_xiload (v := (0, 1)) (pcN := 7) jIQ_41_5 rfl rfl rfl ?_
  refine jT_xbipush (k := 6) (pcN := 9) jIQ_41_7 (by decide) rfl ?_
  refine jT_xicF (t := 32) (pcN := 12) jIQ_41_9 rfl (by decide +kernel) rfl rfl ?_
  refine jT_xlload_n (v := (1, 68719476736 * q1)) (pcN := 13) jIQ_41_12 rfl rfl rfl ?_
  refine jT_xaload_n (v := (4, 1)) (pcN := 14) jIQ_41_13 rfl rfl rfl ?_
  refine jT_xiload (v := (0, 1)) (pcN := 16) jIQ_41_14 rfl rfl rfl ?_
  refine jT_lald (x := p7) (a := 1) (j := 1) (fs := []) (X := [q1, p7, p8, 0, 0, 0]) jIQ_41_16 rfl rfl rfl rfl ?_
  refine jT_eq (LN := [(4, (0, 1)), (2, (1, 68719476736 * q1)), (0, (4, 0)), (1, (4, 1))]) (stN := [(1, p7), (1, 68719476736 * q1)]) (hsN := [jgh, (101, [], [q1, p7, p8, 0, 0, 0])]) rfl rfl rfl ?_
  refine jT_adv 1 (pcN := 20) (LN := [(4, (0, 1)), (2, (1, 68719476736 * q1)), (0, (4, 0)), (1, (4, 1))]) (stN := [(5, 0), (1, p7), (1, 68719476736 * q1)]) (hsN := [jgh, (101, [], [q1, p7, p8, 0, 0, 0])]) (c1 := 0) (s1 := 0) (c2 := 0) (s2 := 0) (by exact rfl) ?_ (by omega) (by omega)
  refine jT_xiload (v := (0, 1)) (pcN := 22) jIQ_41_20 rfl rfl rfl ?_
  refine jT_adv 1 (pcN := 23) (LN := [(4, (0, 1)), (2, (1, 68719476736 * q1)), (0, (4, 0)), (1, (4, 1))]) (stN := [(1, 108917793695), (1, p7), (1, 68719476736 * q1)]) (hsN := [jgh, (101, [], [q1, p7, p8, 0, 0, 0])]) (c1 := 0) (s1 := 0) (c2 := 0) (s2 := 0) (by exact rfl) ?_ (by omega) (by omega)
  refine jT_xlmul (x := p7) (y := 108917793695) (z := 108917793695 * p7) (pcN := 24) jIQ_41_23 rfl (by omega) rfl ?_
  refine jT_xladd (x := 68719476736 * q1) (y := 108917793695 * p7) (z := 108917793695 * p7 + 68719476736 * q1) (pcN := 25) jIQ_41_24 rfl (by omega) rfl ?_
  refine jT_xlstore_n (v := (1, 108917793695 * p7 + 68719476736 * q1)) (LN := [(2, (1, 108917793695 * p7 + 68719476736 * q1)), (4, (0, 1)), (0, (4, 0)), (1, (4, 1))]) (pcN := 26) jIQ_41_25 rfl rfl rfl rfl ?_
  refine jT_xiinc (x := 1) (z := 2) (LN := [(4, (0, 2)), (2, (1, 108917793695 * p7 + 68719476736 * q1)), (0, (4, 0)), (1, (4, 1))]) (pcN := 29) jIQ_41_26 rfl rfl (by decide) rfl rfl ?_
  refine jT_xgoto (pcN := 5) jIQ_41_29 rfl ?_
  refine jT_xiload (v := (0, 2)) (pcN := 7) jIQ_41_5 rfl rfl rfl ?_
  refine jT_xbipush (k := 6) (pcN := 9) jIQ_41_7 (by decide) rfl ?_
  refine jT_xicF (t := 32) (pcN := 12) jIQ_41_9 rfl (by decide +kernel) rfl rfl ?_
  refine jT_xlload_n (v := (1, 108917793695 * p7 + 68719476736 * q1)) (pcN := 13) jIQ_41_12 rfl rfl rfl ?_
  refine jT_xaload_n (v := (4, 1)) (pcN := 14) jIQ_41_13 rfl rfl rfl ?_
  refine jT_xiload (v := (0, 2)) (pcN := 16) jIQ_41_14 rfl rfl rfl ?_
  refine jT_lald (x := p8) (a := 1) (j := 2) (fs := []) (X := [q1, p7, p8, 0, 0, 0]) jIQ_41_16 rfl rfl rfl rfl ?_
  refine jT_eq (LN := [(4, (0, 2)), (2, (1, 108917793695 * p7 + 68719476736 * q1)), (0, (4, 0)), (1, (4, 1))]) (stN := [(1, p8), (1, 108917793695 * p7 + 68719476736 * q1)]) (hsN := [jgh, (101, [], [q1, p7, p8, 0, 0, 0])]) rfl rfl rfl ?_
  refine jT_adv 1 (pcN := 20) (LN := [(4, (0, 2)), (2, (1, 108917793695 * p7 + 68719476736 * q1)), (0, (4, 0)), (1, (4, 1))]) (stN := [(5, 0), (1, p8), (1, 108917793695 * p7 + 68719476736 * q1)]) (hsN := [jgh, (101, [], [q1, p7, p8, 0, 0, 0])]) (c1 := 0) (s1 := 0) (c2 := 0) (s2 := 0) (by exact rfl) ?_ (by omega) (by omega)
  refine jT_xiload (v := (0, 2)) (pcN := 22) jIQ_41_20 rfl rfl rfl ?_
  refine jT_adv 1 (pcN := 23) (LN := [(4, (0, 2)), (2, (1, 108917793695 * p7 + 68719476736 * q1)), (0, (4, 0)), (1, (4, 1))]) (stN := [(1, 159561683699), (1, p8), (1, 108917793695 * p7 + 68719476736 * q1)]) (hsN := [jgh, (101, [], [q1, p7, p8, 0, 0, 0])]) (c1 := 0) (s1 := 0) (c2 := 0) (s2 := 0) (by exact rfl) ?_ (by omega) (by omega)
  refine jT_xlmul (x := p8) (y := 159561683699) (z := 159561683699 * p8) (pcN := 24) jIQ_41_23 rfl (by omega) rfl ?_
  refine jT_xladd (x := 108917793695 * p7 + 68719476736 * q1) (y := 159561683699 * p8) (z := 108917793695 * p7 + 159561683699 * p8 + 68719476736 * q1) (pcN := 25) jIQ_41_24 rfl (by omega) rfl ?_
  refine jT_xlstore_n (v := (1, 108917793695 * p7 + 159561683699 * p8 + 68719476736 * q1)) (LN := [(2, (1, 108917793695 * p7 + 159561683699 * p8 + 68719476736 * q1)), (4, (0, 2)), (0, (4, 0)), (1, (4, 1))]) (pcN := 26) jIQ_41_25 rfl rfl rfl rfl ?_
  refine jT_xiinc (x := 2) (z := 3) (LN := [(4, (0, 3)), (2, (1, 108917793695 * p7 + 159561683699 * p8 + 68719476736 * q1)), (0, (4, 0)), (1, (4, 1))]) (pcN := 29) jIQ_41_26 rfl rfl (by decide) rfl rfl ?_
  refine jT_xgoto (pcN := 5) jIQ_41_29 rfl ?_
  refine jT_xiload (v := (0, 3)) (pcN := 7) jIQ_41_5 rfl rfl rfl ?_
  refine jT_xbipush (k := 6) (pcN := 9) jIQ_41_7 (by decide) rfl ?_
  refine jT_xicF (t := 32) (pcN := 12) jIQ_41_9 rfl (by decide +kernel) rfl rfl ?_
  refine jT_xlload_n (v := (1, 108917793695 * p7 + 159561683699 * p8 + 68719476736 * q1)) (pcN := 13) jIQ_41_12 rfl rfl rfl ?_
  refine jT_xaload_n (v := (4, 1)) (pcN := 14) jIQ_41_13 rfl rfl rfl ?_
  refine jT_xiload (v := (0, 3)) (pcN := 16) jIQ_41_14 rfl rfl rfl ?_
  refine jT_lald (x := 0) (a := 1) (j := 3) (fs := []) (X := [q1, p7, p8, 0, 0, 0]) jIQ_41_16 rfl rfl rfl rfl ?_
  refine jT_eq (LN := [(4, (0, 3)), (2, (1, 108917793695 * p7 + 159561683699 * p8 + 68719476736 * q1)), (0, (4, 0)), (1, (4, 1))]) (stN := [(1, 0), (1, 108917793695 * p7 + 159561683699 * p8 + 68719476736 * q1)]) (hsN := [jgh, (101, [], [q1, p7, p8, 0, 0, 0])]) rfl rfl rfl ?_
  refine jT_adv 1 (pcN := 20) (LN := [(4, (0, 3)), (2, (1, 108917793695 * p7 + 159561683699 * p8 + 68719476736 * q1)), (0, (4, 0)), (1, (4, 1))]) (stN := [(5, 0), (1, 0), (1, 108917793695 * p7 + 159561683699 * p8 + 68719476736 * q1)]) (hsN := [jgh, (101, [], [q1, p7, p8, 0, 0, 0])]) (c1 := 0) (s1 := 0) (c2 := 0) (s2 := 0) (by exact rfl) ?_ (by omega) (by omega)
  refine jT_xiload (v := (0, 3)) (pcN := 22) jIQ_41_20 rfl rfl rfl ?_
  refine jT_adv 1 (pcN := 23) (LN := [(4, (0, 3)), (2, (1, 108917793695 * p7 + 159561683699 * p8 + 68719476736 * q1)), (0, (4, 0)), (1, (4, 1))]) (stN := [(1, 192919961256), (1, 0), (1, 108917793695 * p7 + 159561683699 * p8 + 68719476736 * q1)]) (hsN := [jgh, (101, [], [q1, p7, p8, 0, 0, 0])]) (c1 := 0) (s1 := 0) (c2 := 0) (s2 := 0) (by exact rfl) ?_ (by omega) (by omega)
  refine jT_xlmul (x := 0) (y := 192919961256) (z := 0) (pcN := 24) jIQ_41_23 rfl (by decide) rfl ?_
  refine jT_xladd (x := 108917793695 * p7 + 159561683699 * p8 + 68719476736 * q1) (y := 0) (z := 108917793695 * p7 + 159561683699 * p8 + 68719476736 * q1) (pcN := 25) jIQ_41_24 rfl (by omega) rfl ?_
  refine jT_xlstore_n (v := (1, 108917793695 * p7 + 159561683699 * p8 + 68719476736 * q1)) (LN := [(2, (1, 108917793695 * p7 + 159561683699 * p8 + 68719476736 * q1)), (4, (0, 3)), (0, (4, 0)), (1, (4, 1))]) (pcN := 26) jIQ_41_25 rfl rfl rfl rfl ?_
  refine jT_xiinc (x := 3) (z := 4) (LN := [(4, (0, 4)), (2, (1, 108917793695 * p7 + 159561683699 * p8 + 68719476736 * q1)), (0, (4, 0)), (1, (4, 1))]) (pcN := 29) jIQ_41_26 rfl rfl (by decide) rfl rfl ?_
  refine jT_xgoto (pcN := 5) jIQ_41_29 rfl ?_
  refine jT_xiload (v := (0, 4)) (pcN := 7) jIQ_41_5 rfl rfl rfl ?_
  refine jT_xbipush (k := 6) (pcN := 9) jIQ_41_7 (by decide) rfl ?_
  refine jT_xicF (t := 32) (pcN := 12) jIQ_41_9 rfl (by decide +kernel) rfl rfl ?_
  refine jT_xlload_n (v := (1, 108917793695 * p7 + 159561683699 * p8 + 68719476736 * q1)) (pcN := 13) jIQ_41_12 rfl rfl rfl ?_
  refine jT_xaload_n (v := (4, 1)) (pcN := 14) jIQ_41_13 rfl rfl rfl ?_
  refine jT_xiload (v := (0, 4)) (pcN := 16) jIQ_41_14 rfl rfl rfl ?_
  refine jT_lald (x := 0) (a := 1) (j := 4) (fs := []) (X := [q1, p7, p8, 0, 0, 0]) jIQ_41_16 rfl rfl rfl rfl ?_
  refine jT_eq (LN := [(4, (0, 4)), (2, (1, 108917793695 * p7 + 159561683699 * p8 + 68719476736 * q1)), (0, (4, 0)), (1, (4, 1))]) (stN := [(1, 0), (1, 108917793695 * p7 + 159561683699 * p8 + 68719476736 * q1)]) (hsN := [jgh, (101, [], [q1, p7, p8, 0, 0, 0])]) rfl rfl rfl ?_
  refine jT_adv 1 (pcN := 20) (LN := [(4, (0, 4)), (2, (1, 108917793695 * p7 + 159561683699 * p8 + 68719476736 * q1)), (0, (4, 0)), (1, (4, 1))]) (stN := [(5, 0), (1, 0), (1, 108917793695 * p7 + 159561683699 * p8 + 68719476736 * q1)]) (hsN := [jgh, (101, [], [q1, p7, p8, 0, 0, 0])]) (c1 := 0) (s1 := 0) (c2 := 0) (s2 := 0) (by exact rfl) ?_ (by omega) (by omega)
  refine jT_xiload (v := (0, 4)) (pcN := 22) jIQ_41_20 rfl rfl rfl ?_
  refine jT_adv 1 (pcN := 23) (LN := [(4, (0, 4)), (2, (1, 108917793695 * p7 + 159561683699 * p8 + 68719476736 * q1)), (0, (4, 0)), (1, (4, 1))]) (stN := [(1, 237730330636), (1, 0), (1, 108917793695 * p7 + 159561683699 * p8 + 68719476736 * q1)]) (hsN := [jgh, (101, [], [q1, p7, p8, 0, 0, 0])]) (c1 := 0) (s1 := 0) (c2 := 0) (s2 := 0) (by exact rfl) ?_ (by omega) (by omega)
  refine jT_xlmul (x := 0) (y := 237730330636) (z := 0) (pcN := 24) jIQ_41_23 rfl (by decide) rfl ?_
  refine jT_xladd (x := 108917793695 * p7 + 159561683699 * p8 + 68719476736 * q1) (y := 0) (z := 108917793695 * p7 + 159561683699 * p8 + 68719476736 * q1) (pcN := 25) jIQ_41_24 rfl (by omega) rfl ?_
  refine jT_xlstore_n (v := (1, 108917793695 * p7 + 159561683699 * p8 + 68719476736 * q1)) (LN := [(2, (1, 108917793695 * p7 + 159561683699 * p8 + 68719476736 * q1)), (4, (0, 4)), (0, (4, 0)), (1, (4, 1))]) (pcN := 26) jIQ_41_25 rfl rfl rfl rfl ?_
  refine jT_xiinc (x := 4) (z := 5) (LN := [(4, (0, 5)), (2, (1, 108917793695 * p7 + 159561683699 * p8 + 68719476736 * q1)), (0, (4, 0)), (1, (4, 1))]) (pcN := 29) jIQ_41_26 rfl rfl (by decide) rfl rfl ?_
  refine jT_xgoto (pcN := 5) jIQ_41_29 rfl ?_
  refine jT_xiload (v := (0, 5)) (pcN := 7) jIQ_41_5 rfl rfl rfl ?_
  refine jT_xbipush (k := 6) (pcN := 9) jIQ_41_7 (by decide) rfl ?_
  refine jT_xicF (t := 32) (pcN := 12) jIQ_41_9 rfl (by decide +kernel) rfl rfl ?_
  refine jT_xlload_n (v := (1, 108917793695 * p7 + 159561683699 * p8 + 68719476736 * q1)) (pcN := 13) jIQ_41_12 rfl rfl rfl ?_
  refine jT_xaload_n (v := (4, 1)) (pcN := 14) jIQ_41_13 rfl rfl rfl ?_
  refine jT_xiload (v := (0, 5)) (pcN := 16) jIQ_41_14 rfl rfl rfl ?_
  refine jT_lald (x := 0) (a := 1) (j := 5) (fs := []) (X := [q1, p7, p8, 0, 0, 0]) jIQ_41_16 rfl rfl rfl rfl ?_
  refine jT_eq (LN := [(4, (0, 5)), (2, (1, 108917793695 * p7 + 159561683699 * p8 + 68719476736 * q1)), (0, (4, 0)), (1, (4, 1))]) (stN := [(1, 0), (1, 108917793695 * p7 + 159561683699 * p8 + 68719476736 * q1)]) (hsN := [jgh, (101, [], [q1, p7, p8, 0, 0, 0])]) rfl rfl rfl ?_
  refine jT_adv 1 (pcN := 20) (LN := [(4, (0, 5)), (2, (1, 108917793695 * p7 + 159561683699 * p8 + 68719476736 * q1)), (0, (4, 0)), (1, (4, 1))]) (stN := [(5, 0), (1, 0), (1, 108917793695 * p7 + 159561683699 * p8 + 68719476736 * q1)]) (hsN := [jgh, (101, [], [q1, p7, p8, 0, 0, 0])]) (c1 := 0) (s1 := 0) (c2 := 0) (s2 := 0) (by exact rfl) ?_ (by omega) (by omega)
  refine jT_xiload (v := (0, 5)) (pcN := 22) jIQ_41_20 rfl rfl rfl ?_
  refine jT_adv 1 (pcN := 23) (LN := [(4, (0, 5)), (2, (1, 108917793695 * p7 + 159561683699 * p8 + 68719476736 * q1)), (0, (4, 0)), (1, (4, 1))]) (stN := [(1, 254292281123), (1, 0), (1, 108917793695 * p7 + 159561683699 * p8 + 68719476736 * q1)]) (hsN := [jgh, (101, [], [q1, p7, p8, 0, 0, 0])]) (c1 := 0) (s1 := 0) (c2 := 0) (s2 := 0) (by exact rfl) ?_ (by omega) (by omega)
  refine jT_xlmul (x := 0) (y := 254292281123) (z := 0) (pcN := 24) jIQ_41_23 rfl (by decide) rfl ?_
  refine jT_xladd (x := 108917793695 * p7 + 159561683699 * p8 + 68719476736 * q1) (y := 0) (z := 108917793695 * p7 + 159561683699 * p8 + 68719476736 * q1) (pcN := 25) jIQ_41_24 rfl (by omega) rfl ?_
  refine jT_xlstore_n (v := (1, 108917793695 * p7 + 159561683699 * p8 + 68719476736 * q1)) (LN := [(2, (1, 108917793695 * p7 + 159561683699 * p8 + 68719476736 * q1)), (4, (0, 5)), (0, (4, 0)), (1, (4, 1))]) (pcN := 26) jIQ_41_25 rfl rfl rfl rfl ?_
  refine jT_xiinc (x := 5) (z := 6) (LN := [(4, (0, 6)), (2, (1, 108917793695 * p7 + 159561683699 * p8 + 68719476736 * q1)), (0, (4, 0)), (1, (4, 1))]) (pcN := 29) jIQ_41_26 rfl rfl (by decide) rfl rfl ?_
  refine jT_xgoto (pcN := 5) jIQ_41_29 rfl ?_
  refine jT_xiload (v := (0, 6)) (pcN := 7) jIQ_41_5 rfl rfl rfl ?_
  refine jT_xbipush (k := 6) (pcN := 9) jIQ_41_7 (by decide) rfl ?_
  refine jT_xicT (pcN := 32) jIQ_41_9 rfl (by decide +kernel) rfl ?_
  refine jT_xlload_n (v := (1, 108917793695 * p7 + 159561683699 * p8 + 68719476736 * q1)) (pcN := 33) jIQ_41_32 rfl rfl rfl ?_
  exact jT_ret rfl (by decide) (by show 2 ≤ 2; omega) (by omega) (by omega) ⟨rfl, rfl, rfl⟩
theorem jQ_39_185 {xs : List Int} {d : Nat} {p7 p8 q1 : Int} (h_p7 : (-20) ≤ p7 ∧ p7 ≤ 20) (h_p8 : (-10) ≤ p8 ∧ p8 ≤ 10) (h_q1 : (-60) ≤ q1 ∧ q1 ≤ 60) (g_0 : 0 ≤ (-108917793694) * p7 - 159561683698 * p8 - 68719476736 * q1 - 1) (g_1 : 0 ≤ (-108917793694) * p7 - 159561683700 * p8 - 68719476736 * q1 - 1) (g_2 : 0 ≤ (-108917793696) * p7 - 159561683698 * p8 - 68719476736 * q1 - 1) (g_3 : 0 ≤ (-108917793696) * p7 - 159561683700 * p8 - 68719476736 * q1 - 1) (g_4 : 0 ≤ p7) (g_5 : 0 ≤ p8) (g_6 : 0 ≤ p7 + p8 - 1) (g_7 : 0 ≤ q1) : jT xs d 39 2 0 [(0, (4, 0)), (1, (4, 1))] [] [jgh, (101, [], [q1, p7, p8, 0, 0, 0])] 0 0 (fun k v hsN => k = 0 ∧ v = (1, p7 + p8) ∧ hsN = [jgh, (101, [], [q1, p7, p8, 0, 0, 0])] ++ []) := by
  refine jT_xlconst (z := 0) (pcN := 1) jIQ_39_0 rfl rfl ?_
  refine jT_xlstore_n (v := (1, 0)) (LN := [(2, (1, 0)), (0, (4, 0)), (1, (4, 1))]) (pcN := 2) jIQ_39_1 rfl rfl rfl rfl ?_
  refine jT_xiconst (k := 1) (pcN := 3) jIQ_39_2 rfl ?_
  refine jT_xistore (v := (0, 1)) (LN := [(4, (0, 1)), (2, (1, 0)), (0, (4, 0)), (1, (4, 1))]) (pcN := 5) jIQ_39_3 rfl rfl rfl rfl ?_
  refine jT_xiload (v := (0, 1)) (pcN := 7) jIQ_39_5 rfl rfl rfl ?_
  refine jT_xbipush (k := 6) (pcN := 9) jIQ_39_7 (by decide) rfl ?_
  refine jT_xicF (t := 28) (pcN := 12) jIQ_39_9 rfl (by decide +kernel) rfl rfl ?_
  refine jT_xlload_n (v := (1, 0)) (pcN := 13) jIQ_39_12 rfl rfl rfl ?_
  refine jT_xaload_n (v := (4, 1)) (pcN := 14) jIQ_39_13 rfl rfl rfl ?_
  refine jT_xiload (v := (0, 1)) (pcN := 16) jIQ_39_14 rfl rfl rfl ?_
  refine jT_lald (x := p7) (a := 1) (j := 1) (fs := []) (X := [q1, p7, p8, 0, 0, 0]) jIQ_39_16 rfl rfl rfl rfl ?_
  refine jT_eq (LN := [(4, (0, 1)), (2, (1, 0)), (0, (4, 0)), (1, (4, 1))]) (stN := [(1, p7), (1, 0)]) (hsN := [jgh, (101, [], [q1, p7, p8, 0, 0, 0])]) rfl rfl rfl ?_
  refine jT_labs (z := p7) (by rfl) (by rfl) (by rfl) (by rfl) (by rw [show jwl (p7) = p7 from jwl_idd (by omega) (by omega), decide_eq_false (by omega)]; first | (simp only [cond_true, cond_false]; done) | (simp only [cond_true, cond_false]; omega) | rfl) ?_
  refine jT_xladd (x := 0) (y := p7) (z := p7) (pcN := 21) jIQ_39_20 rfl (by omega) rfl ?_
  refine jT_xlstore_n (v := (1, p7)) (LN := [(2, (1, p7)), (4, (0, 1)), (0, (4, 0)), (1, (4, 1))]) (pcN := 22) jIQ_39_21 rfl rfl rfl rfl ?_
  refine jT_xiinc (x := 1) (z := 2) (LN := [(4, (0, 2)), (2, (1, p7)), (0, (4, 0)), (1, (4, 1))]) (pcN := 25) jIQ_39_22 rfl rfl (by decide) rfl rfl ?_
  refine jT_xgoto (pcN := 5) jIQ_39_25 rfl ?_
  refine jT_xiload (v := (0, 2)) (pcN := 7) jIQ_39_5 rfl rfl rfl ?_
  refine jT_xbipush (k := 6) (pcN := 9) jIQ_39_7 (by decide) rfl ?_
  refine jT_xicF (t := 28) (pcN := 12) jIQ_39_9 rfl (by decide +kernel) rfl rfl ?_
  refine jT_xlload_n (v := (1, p7)) (pcN := 13) jIQ_39_12 rfl rfl rfl ?_
  refine jT_xaload_n (v := (4, 1)) (pcN := 14) jIQ_39_13 rfl rfl rfl ?_
  refine jT_xiload (v := (0, 2)) (pcN := 16) jIQ_39_14 rfl rfl rfl ?_
  refine jT_lald (x := p8) (a := 1) (j := 2) (fs := []) (X := [q1, p7, p8, 0, 0, 0]) jIQ_39_16 rfl rfl rfl rfl ?_
  refine jT_eq (LN := [(4, (0, 2)), (2, (1, p7)), (0, (4, 0)), (1, (4, 1))]) (stN := [(1, p8), (1, p7)]) (hsN := [jgh, (101, [], [q1, p7, p8, 0, 0, 0])]) rfl rfl rfl ?_
  refine jT_labs (z := p8) (by rfl) (by rfl) (by rfl) (by rfl) (by rw [show jwl (p8) = p8 from jwl_idd (by omega) (by omega), decide_eq_false (by omega)]; first | (simp only [cond_true, cond_false]; done) | (simp only [cond_true, cond_false]; omega) | rfl) ?_
  refine jT_xladd (x := p7) (y := p8) (z := p7 + p8) (pcN := 21) jIQ_39_20 rfl (rfl) rfl ?_
  refine jT_xlstore_n (v := (1, p7 + p8)) (LN := [(2, (1, p7 + p8)), (4, (0, 2)), (0, (4, 0)), (1, (4, 1))]) (pcN := 22) jIQ_39_21 rfl rfl rfl rfl ?_
  refine jT_xiinc (x := 2) (z := 3) (LN := [(4, (0, 3)), (2, (1, p7 + p8)), (0, (4, 0)), (1, (4, 1))]) (pcN := 25) jIQ_39_22 rfl rfl (by decide) rfl rfl ?_
  refine jT_xgoto (pcN := 5) jIQ_39_25 rfl ?_
  refine jT_xiload (v := (0, 3)) (pcN := 7) jIQ_39_5 rfl rfl rfl ?_
  refine jT_xbipush (k := 6) (pcN := 9) jIQ_39_7 (by decide) rfl ?_
  refine jT_xicF (t := 28) (pcN := 12) jIQ_39_9 rfl (by decide +kernel) rfl rfl ?_
  refine jT_xlload_n (v := (1, p7 + p8)) (pcN := 13) jIQ_39_12 rfl rfl rfl ?_
  refine jT_xaload_n (v := (4, 1)) (pcN := 14) jIQ_39_13 rfl rfl rfl ?_
  refine jT_xiload (v := (0, 3)) (pcN := 16) jIQ_39_14 rfl rfl rfl ?_
  refine jT_lald (x := 0) (a := 1) (j := 3) (fs := []) (X := [q1, p7, p8, 0, 0, 0]) jIQ_39_16 rfl rfl rfl rfl ?_
  refine jT_eq (LN := [(4, (0, 3)), (2, (1, p7 + p8)), (0, (4, 0)), (1, (4, 1))]) (stN := [(1, 0), (1, p7 + p8)]) (hsN := [jgh, (101, [], [q1, p7, p8, 0, 0, 0])]) rfl rfl rfl ?_
  refine jT_labs (z := 0) (by rfl) (by rfl) (by rfl) (by rfl) (by decide +kernel) ?_
  refine jT_xladd (x := p7 + p8) (y := 0) (z := p7 + p8) (pcN := 21) jIQ_39_20 rfl (by omega) rfl ?_
  refine jT_xlstore_n (v := (1, p7 + p8)) (LN := [(2, (1, p7 + p8)), (4, (0, 3)), (0, (4, 0)), (1, (4, 1))]) (pcN := 22) jIQ_39_21 rfl rfl rfl rfl ?_
  refine jT_xiinc (x := 3) (z := 4) (LN := [(4, (0, 4)), (2, (1, p7 + p8)), (0, (4, 0)), (1, (4, 1))]) (pcN := 25) jIQ_39_22 rfl rfl (by decide) rfl rfl ?_
  refine jT_xgoto (pcN := 5) jIQ_39_25 rfl ?_
  refine jT_xiload (v := (0, 4)) (pcN := 7) jIQ_39_5 rfl rfl rfl ?_
  refine jT_xbipush (k := 6) (pcN := 9) jIQ_39_7 (by decide) rfl ?_
  refine jT_xicF (t := 28) (pcN := 12) jIQ_39_9 rfl (by decide +kernel) rfl rfl ?_
  refine jT_xlload_n (v := (1, p7 + p8)) (pcN := 13) jIQ_39_12 rfl rfl rfl ?_
  refine jT_xaload_n (v := (4, 1)) (pcN := 14) jIQ_39_13 rfl rfl rfl ?_
  refine jT_xiload (v := (0, 4)) (pcN := 16) jIQ_39_14 rfl rfl rfl ?_
  refine jT_lald (x := 0) (a := 1) (j := 4) (fs := []) (X := [q1, p7, p8, 0, 0, 0]) jIQ_39_16 rfl rfl rfl rfl ?_
  refine jT_eq (LN := [(4, (0, 4)), (2, (1, p7 + p8)), (0, (4, 0)), (1, (4, 1))]) (stN := [(1, 0), (1, p7 + p8)]) (hsN := [jgh, (101, [], [q1, p7, p8, 0, 0, 0])]) rfl rfl rfl ?_
  refine jT_labs (z := 0) (by rfl) (by rfl) (by rfl) (by rfl) (by decide +kernel) ?_
  refine jT_xladd (x := p7 + p8) (y := 0) (z := p7 + p8) (pcN := 21) jIQ_39_20 rfl (by omega) rfl ?_
  refine jT_xlstore_n (v := (1, p7 + p8)) (LN := [(2, (1, p7 + p8)), (4, (0, 4)), (0, (4, 0)), (1, (4, 1))]) (pcN := 22) jIQ_39_21 rfl rfl rfl rfl ?_
  refine jT_xiinc (x := 4) (z := 5) (LN := [(4, (0, 5)), (2, (1, p7 + p8)), (0, (4, 0)), (1, (4, 1))]) (pcN := 25) jIQ_39_22 rfl rfl (by decide) rfl rfl ?_
  refine jT_xgoto (pcN := 5) jIQ_39_25 rfl ?_
  refine jT_xiload (v := (0, 5)) (pcN := 7) jIQ_39_5 rfl rfl rfl ?_
  refine jT_xbipush (k := 6) (pcN := 9) jIQ_39_7 (by decide) rfl ?_
  refine jT_xicF (t := 28) (pcN := 12) jIQ_39_9 rfl (by decide +kernel) rfl rfl ?_
  refine jT_xlload_n (v := (1, p7 + p8)) (pcN := 13) jIQ_39_12 rfl rfl rfl ?_
  refine jT_xaload_n (v := (4, 1)) (pcN := 14) jIQ_39_13 rfl rfl rfl ?_
  refine jT_xiload (v := (0, 5)) (pcN := 16) jIQ_39_14 rfl rfl rfl ?_
  refine jT_lald (x := 0) (a := 1) (j := 5) (fs := []) (X := [q1, p7, p8, 0, 0, 0]) jIQ_39_16 rfl rfl rfl rfl ?_
  refine jT_eq (LN := [(4, (0, 5)), (2, (1, p7 + p8)), (0, (4, 0)), (1, (4, 1))]) (stN := [(1, 0), (1, p7 + p8)]) (hsN := [jgh, (101, [], [q1, p7, p8, 0, 0, 0])]) rfl rfl rfl ?_
  refine jT_labs (z := 0) (by rfl) (by rfl) (by rfl) (by rfl) (by decide +kernel) ?_
  refine jT_xladd (x := p7 + p8) (y := 0) (z := p7 + p8) (pcN := 21) jIQ_39_20 rfl (by omega) rfl ?_
  refine jT_xlstore_n (v := (1, p7 + p8)) (LN := [(2, (1, p7 + p8)), (4, (0, 5)), (0, (4, 0)), (1, (4, 1))]) (pcN := 22) jIQ_39_21 rfl rfl rfl rfl ?_
  refine jT_xiinc (x := 5) (z := 6) (LN := [(4, (0, 6)), (2, (1, p7 + p8)), (0, (4, 0)), (1, (4, 1))]) (pcN := 25) jIQ_39_22 rfl rfl (by decide) rfl rfl ?_
  refine jT_xgoto (pcN := 5) jIQ_39_25 rfl ?_
  refine jT_xiload (v := (0, 6)) (pcN := 7) jIQ_39_5 rfl rfl rfl ?_
  refine jT_xbipush (k := 6) (pcN := 9) jIQ_39_7 (by decide) rfl ?_
  refine jT_xicT (pcN := 28) jIQ_39_9 rfl (by decide +kernel) rfl ?_
  refine jT_xlload_n (v := (1, p7 + p8)) (pcN := 29) jIQ_39_28 rfl rfl rfl ?_
  exact jT_ret rfl (by decide) (by show 2 ≤ 2; omega) (by omega) (by omega) ⟨rfl, rfl, rfl⟩
theorem jQ_40_186 {xs : List Int} {d : Nat} {p7 p8 q1 : Int} (h_p7 : (-20) ≤ p7 ∧ p7 ≤ 20) (h_p8 : (-10) ≤ p8 ∧ p8 ≤ 10) (h_q1 : (-60) ≤ q1 ∧ q1 ≤ 60) (g_0 : 0 ≤ (-108917793694) * p7 - 159561683698 * p8 - 68719476736 * q1 - 1) (g_1 : 0 ≤ (-108917793694) * p7 - 159561683700 * p8 - 68719476736 * q1 - 1) (g_2 : 0 ≤ (-108917793696) * p7 - 159561683698 * p8 - 68719476736 * q1 - 1) (g_3 : 0 ≤ (-108917793696) * p7 - 159561683700 * p8 - 68719476736 * q1 - 1) (g_4 : 0 ≤ p7) (g_5 : 0 ≤ p8) (g_6 : 0 ≤ p7 + p8 - 1) (g_7 : 0 ≤ q1) : jT xs d 40 2 0 [(0, (4, 0)), (1, (4, 1)), (2, (1, p7 + p8))] [] [jgh, (101, [], [q1, p7, p8, 0, 0, 0])] 0 0 (fun k v hsN => k = 0 ∧ v = (0, 1) ∧ hsN = [jgh, (101, [], [q1, p7, p8, 0, 0, 0])] ++ []) := by
  refine jT_xlload_n (v := (1, p7 + p8)) (pcN := 1) jIQ_40_0 rfl rfl rfl ?_
  refine jT_adv 1 (pcN := 4) (LN := [(0, (4, 0)), (1, (4, 1)), (2, (1, p7 + p8))]) (stN := [(1, 16777216), (1, p7 + p8)]) (hsN := [jgh, (101, [], [q1, p7, p8, 0, 0, 0])]) (c1 := 0) (s1 := 0) (c2 := 0) (s2 := 0) (by exact rfl) ?_ (by omega) (by omega)
  refine jT_lcmp (a := p7 + p8) (b := 16777216) (z := (-1)) (by rfl) (by rfl) (jwl_idd (by omega) (by omega)) (jwl_idd (by omega) (by omega)) (by rw [decide_eq_false (show ¬ ((16777216 : Int) < p7 + p8) by omega), decide_eq_false (show ¬ ((p7 + p8 : Int) = 16777216) by omega)]; rfl) ?_
  refine jT_xifF (t := 25) (pcN := 8) jIQ_40_5 rfl (by decide +kernel) rfl rfl ?_
  refine jT_xaload_n (v := (4, 1)) (pcN := 9) jIQ_40_8 rfl rfl rfl ?_
  refine jT_xiconst (k := 0) (pcN := 10) jIQ_40_9 rfl ?_
  refine jT_lald (x := q1) (a := 1) (j := 0) (fs := []) (X := [q1, p7, p8, 0, 0, 0]) jIQ_40_10 rfl rfl rfl rfl ?_
  refine jT_eq (LN := [(0, (4, 0)), (1, (4, 1)), (2, (1, p7 + p8))]) (stN := [(1, q1)]) (hsN := [jgh, (101, [], [q1, p7, p8, 0, 0, 0])]) rfl rfl rfl ?_
  refine jT_labs (z := q1) (by rfl) (by rfl) (by rfl) (by rfl) (by rw [show jwl (q1) = q1 from jwl_idd (by omega) (by omega), decide_eq_false (by omega)]; first | (simp only [cond_true, cond_false]; done) | (simp only [cond_true, cond_false]; omega) | rfl) ?_
  refine jT_adv 1 (pcN := 17) (LN := [(0, (4, 0)), (1, (4, 1)), (2, (1, p7 + p8))]) (stN := [(1, 16777216), (1, q1)]) (hsN := [jgh, (101, [], [q1, p7, p8, 0, 0, 0])]) (c1 := 0) (s1 := 0) (c2 := 0) (s2 := 0) (by exact rfl) ?_ (by omega) (by omega)
  refine jT_lcmp (a := q1) (b := 16777216) (z := (-1)) (by rfl) (by rfl) (jwl_idd (by omega) (by omega)) (jwl_idd (by omega) (by omega)) (by rw [decide_eq_false (show ¬ ((16777216 : Int) < q1) by omega), decide_eq_false (show ¬ ((q1 : Int) = 16777216) by omega)]; rfl) ?_
  refine jT_xifF (t := 25) (pcN := 21) jIQ_40_18 rfl (by decide +kernel) rfl rfl ?_
  refine jT_xiconst (k := 1) (pcN := 22) jIQ_40_21 rfl ?_
  refine jT_xgoto (pcN := 26) jIQ_40_22 rfl ?_
  exact jT_ret rfl (by decide) (by show 2 ≤ 2; omega) (by omega) (by omega) ⟨rfl, rfl, rfl⟩
theorem jQ_41_187 {xs : List Int} {d : Nat} {p7 p8 q1 : Int} (h_p7 : (-20) ≤ p7 ∧ p7 ≤ 20) (h_p8 : (-10) ≤ p8 ∧ p8 ≤ 10) (h_q1 : (-60) ≤ q1 ∧ q1 ≤ 60) (g_0 : 0 ≤ (-108917793694) * p7 - 159561683698 * p8 - 68719476736 * q1 - 1) (g_1 : 0 ≤ (-108917793694) * p7 - 159561683700 * p8 - 68719476736 * q1 - 1) (g_2 : 0 ≤ (-108917793696) * p7 - 159561683698 * p8 - 68719476736 * q1 - 1) (g_3 : 0 ≤ (-108917793696) * p7 - 159561683700 * p8 - 68719476736 * q1 - 1) (g_4 : 0 ≤ p7) (g_5 : 0 ≤ p8) (g_6 : 0 ≤ p7 + p8 - 1) (g_7 : 0 ≤ q1) : jT xs d 41 2 0 [(0, (4, 0)), (1, (4, 1))] [] [jgh, (101, [], [q1, p7, p8, 0, 0, 0])] 0 0 (fun k v hsN => k = 0 ∧ v = (1, 108917793695 * p7 + 159561683699 * p8 + 68719476736 * q1) ∧ hsN = [jgh, (101, [], [q1, p7, p8, 0, 0, 0])] ++ []) := by
  refine jT_xlconst (z := 0) (pcN := 1) jIQ_41_0 rfl rfl ?_
  refine jT_xlstore_n (v := (1, 0)) (LN := [(2, (1, 0)), (0, (4, 0)), (1, (4, 1))]) (pcN := 2) jIQ_41_1 rfl rfl rfl rfl ?_
  refine jT_xiconst (k := 0) (pcN := 3) jIQ_41_2 rfl ?_
  refine jT_xistore (v := (0, 0)) (LN := [(4, (0, 0)), (2, (1, 0)), (0, (4, 0)), (1, (4, 1))]) (pcN := 5) jIQ_41_3 rfl rfl rfl rfl ?_
  refine jT_xiload (v := (0, 0)) (pcN := 7) jIQ_41_5 rfl rfl rfl ?_
  refine jT_xbipush (k := 6) (pcN := 9) jIQ_41_7 (by decide) rfl ?_
  refine jT_xicF (t := 32) (pcN := 12) jIQ_41_9 rfl (by decide +kernel) rfl rfl ?_
  refine jT_xlload_n (v := (1, 0)) (pcN := 13) jIQ_41_12 rfl rfl rfl ?_
  refine jT_xaload_n (v := (4, 1)) (pcN := 14) jIQ_41_13 rfl rfl rfl ?_
  refine jT_xiload (v := (0, 0)) (pcN := 16) jIQ_41_14 rfl rfl rfl ?_
  refine jT_lald (x := q1) (a := 1) (j := 0) (fs := []) (X := [q1, p7, p8, 0, 0, 0]) jIQ_41_16 rfl rfl rfl rfl ?_
  refine jT_eq (LN := [(4, (0, 0)), (2, (1, 0)), (0, (4, 0)), (1, (4, 1))]) (stN := [(1, q1), (1, 0)]) (hsN := [jgh, (101, [], [q1, p7, p8, 0, 0, 0])]) rfl rfl rfl ?_
  refine jT_adv 1 (pcN := 20) (LN := [(4, (0, 0)), (2, (1, 0)), (0, (4, 0)), (1, (4, 1))]) (stN := [(5, 0), (1, q1), (1, 0)]) (hsN := [jgh, (101, [], [q1, p7, p8, 0, 0, 0])]) (c1 := 0) (s1 := 0) (c2 := 0) (s2 := 0) (by exact rfl) ?_ (by omega) (by omega)
  refine jT_xiload (v := (0, 0)) (pcN := 22) jIQ_41_20 rfl rfl rfl ?_
  refine jT_adv 1 (pcN := 23) (LN := [(4, (0, 0)), (2, (1, 0)), (0, (4, 0)), (1, (4, 1))]) (stN := [(1, 68719476736), (1, q1), (1, 0)]) (hsN := [jgh, (101, [], [q1, p7, p8, 0, 0, 0])]) (c1 := 0) (s1 := 0) (c2 := 0) (s2 := 0) (by exact rfl) ?_ (by omega) (by omega)
  refine jT_xlmul (x := q1) (y := 68719476736) (z := 68719476736 * q1) (pcN := 24) jIQ_41_23 rfl (by omega) rfl ?_
  refine jT_xladd (x := 0) (y := 68719476736 * q1) (z := 68719476736 * q1) (pcN := 25) jIQ_41_24 rfl (by omega) rfl ?_
  refine jT_xlstore_n (v := (1, 68719476736 * q1)) (LN := [(2, (1, 68719476736 * q1)), (4, (0, 0)), (0, (4, 0)), (1, (4, 1))]) (pcN := 26) jIQ_41_25 rfl rfl rfl rfl ?_
  refine jT_xiinc (x := 0) (z := 1) (LN := [(4, (0, 1)), (2, (1, 68719476736 * q1)), (0, (4, 0)), (1, (4, 1))]) (pcN := 29) jIQ_41_26 rfl rfl (by decide) rfl rfl ?_
  refine jT_xgoto (pcN := 5) jIQ_41_29 rfl ?_
  refine jT_xiload (v := (0, 1)) (pcN := 7) jIQ_41_5 rfl rfl rfl ?_
  refine jT_xbipush (k := 6) (pcN := 9) jIQ_41_7 (by decide) rfl ?_
  refine jT_xicF (t := 32) (pcN := 12) jIQ_41_9 rfl (by decide +kernel) rfl rfl ?_
  refine jT_xlload_n (v := (1, 68719476736 * q1)) (pcN := 13) jIQ_41_12 rfl rfl rfl ?_
  refine jT_xaload_n (v := (4, 1)) (pcN := 14) jIQ_41_13 rfl rfl rfl ?_
  refine jT_xiload (v := (0, 1)) (pcN := 16) jIQ_41_14 rfl rfl rfl ?_
  refine jT_lald (x := p7) (a := 1) (j := 1) (fs := []) (X := [q1, p7, p8, 0, 0, 0]) jIQ_41_16 rfl rfl rfl rfl ?_
  refine jT_eq (LN := [(4, (0, 1)), (2, (1, 68719476736 * q1)), (0, (4, 0)), (1, (4, 1))]) (stN := [(1, p7), (1, 68719476736 * q1)]) (hsN := [jgh, (101, [], [q1, p7, p8, 0, 0, 0])]) rfl rfl rfl ?_
  refine jT_adv 1 (pcN := 20) (LN := [(4, (0, 1)), (2, (1, 68719476736 * q1)), (0, (4, 0)), (1, (4, 1))]) (stN := [(5, 0), (1, p7), (1, 68719476736 * q1)]) (hsN := [jgh, (101, [], [q1, p7, p8, 0, 0, 0])]) (c1 := 0) (s1 := 0) (c2 := 0) (s2 := 0) (by exact rfl) ?_ (by omega) (by omega)
  refine jT_xiload (v := (0, 1)) (pcN := 22) jIQ_41_20 rfl rfl rfl ?_
  refine jT_adv 1 (pcN := 23) (LN := [(4, (0, 1)), (2, (1, 68719476736 * q1)), (0, (4, 0)), (1, (4, 1))]) (stN := [(1, 108917793695), (1, p7), (1, 68719476736 * q1)]) (hsN := [jgh, (101, [], [q1, p7, p8, 0, 0, 0])]) (c1 := 0) (s1 := 0) (c2 := 0) (s2 := 0) (by exact rfl) ?_ (by omega) (by omega)
  refine jT_xlmul (x := p7) (y := 108917793695) (z := 108917793695 * p7) (pcN := 24) jIQ_41_23 rfl (by omega) rfl ?_
  refine jT_xladd (x := 68719476736 * q1) (y := 108917793695 * p7) (z := 108917793695 * p7 + 68719476736 * q1) (pcN := 25) jIQ_41_24 rfl (by omega) rfl ?_
  refine jT_xlstore_n (v := (1, 108917793695 * p7 + 68719476736 * q1)) (LN := [(2, (1, 108917793695 * p7 + 68719476736 * q1)), (4, (0, 1)), (0, (4, 0)), (1, (4, 1))]) (pcN := 26) jIQ_41_25 rfl rfl rfl rfl ?_
  refine jT_xiinc (x := 1) (z := 2) (LN := [(4, (0, 2)), (2, (1, 108917793695 * p7 + 68719476736 * q1)), (0, (4, 0)), (1, (4, 1))]) (pcN := 29) jIQ_41_26 rfl rfl (by decide) rfl rfl ?_
  refine jT_xgoto (pcN := 5) jIQ_41_29 rfl ?_
  refine jT_xiload (v := (0, 2)) (pcN := 7) jIQ_41_5 rfl rfl rfl ?_
  refine jT_xbipush (k := 6) (pcN := 9) jIQ_41_7 (by decide) rfl ?_
  refine jT_xicF (t := 32) (pcN := 12) jIQ_41_9 rfl (by decide +kernel) rfl rfl ?_
  refine jT_xlload_n (v := (1, 108917793695 * p7 + 68719476736 * q1)) (pcN := 13) jIQ_41_12 rfl rfl rfl ?_
  refine jT_xaload_n (v := (4, 1)) (pcN := 14) jIQ_41_13 rfl rfl rfl ?_
  refine jT_xiload (v := (0, 2)) (pcN := 16) jIQ_41_14 rfl rfl rfl ?_
  refine jT_lald (x := p8) (a := 1) (j := 2) (fs := []) (X := [q1, p7, p8, 0, 0, 0]) jIQ_41_16 rfl rfl rfl rfl ?_
  refine jT_eq (LN := [(4, (0, 2)), (2, (1, 108917793695 * p7 + 68719476736 * q1)), (0, (4, 0)), (1, (4, 1))]) (stN := [(1, p8), (1, 108917793695 * p7 + 68719476736 * q1)]) (hsN := [jgh, (101, [], [q1, p7, p8, 0, 0, 0])]) rfl rfl rfl ?_
  refine jT_adv 1 (pcN := 20) (LN := [(4, (0, 2)), (2, (1, 108917793695 * p7 + 68719476736 * q1)), (0, (4, 0)), (1, (4, 1))]) (stN := [(5, 0), (1, p8), (1, 108917793695 * p7 + 68719476736 * q1)]) (hsN := [jgh, (101, [], [q1, p7, p8, 0, 0, 0])]) (c1 := 0) (s1 := 0) (c2 := 0) (s2 := 0) (by exact rfl) ?_ (by omega) (by omega)
  refine jT_xiload (v := (0, 2)) (pcN := 22) jIQ_41_20 rfl rfl rfl ?_
  refine jT_adv 1 (pcN := 23) (LN := [(4, (0, 2)), (2, (1, 108917793695 * p7 + 68719476736 * q1)), (0, (4, 0)), (1, (4, 1))]) (stN := [(1, 159561683699), (1, p8), (1, 108917793695 * p7 + 68719476736 * q1)]) (hsN := [jgh, (101, [], [q1, p7, p8, 0, 0, 0])]) (c1 := 0) (s1 := 0) (c2 := 0) (s2 := 0) (by exact rfl) ?_ (by omega) (by omega)
  refine jT_xlmul (x := p8) (y := 159561683699) (z := 159561683699 * p8) (pcN := 24) jIQ_41_23 rfl (by omega) rfl ?_
  refine jT_xladd (x := 108917793695 * p7 + 68719476736 * q1) (y := 159561683699 * p8) (z := 108917793695 * p7 + 159561683699 * p8 + 68719476736 * q1) (pcN := 25) jIQ_41_24 rfl (by omega) rfl ?_
  refine jT_xlstore_n (v := (1, 108917793695 * p7 + 159561683699 * p8 + 68719476736 * q1)) (LN := [(2, (1, 108917793695 * p7 + 159561683699 * p8 + 68719476736 * q1)), (4, (0, 2)), (0, (4, 0)), (1, (4, 1))]) (pcN := 26) jIQ_41_25 rfl rfl rfl rfl ?_
  refine jT_xiinc (x := 2) (z := 3) (LN := [(4, (0, 3)), (2, (1, 108917793695 * p7 + 159561683699 * p8 + 68719476736 * q1)), (0, (4, 0)), (1, (4, 1))]) (pcN := 29) jIQ_41_26 rfl rfl (by decide) rfl rfl ?_
  refine jT_xgoto (pcN := 5) jIQ_41_29 rfl ?_
  refine jT_xiload (v := (0, 3)) (pcN := 7) jIQ_41_5 rfl rfl rfl ?_
  refine jT_xbipush (k := 6) (pcN := 9) jIQ_41_7 (by decide) rfl ?_
  refine jT_xicF (t := 32) (pcN := 12) jIQ_41_9 rfl (by decide +kernel) rfl rfl ?_
  refine jT_xlload_n (v := (1, 108917793695 * p7 + 159561683699 * p8 + 68719476736 * q1)) (pcN := 13) jIQ_41_12 rfl rfl rfl ?_
  refine jT_xaload_n (v := (4, 1)) (pcN := 14) jIQ_41_13 rfl rfl rfl ?_
  refine jT_xiload (v := (0, 3)) (pcN := 16) jIQ_41_14 rfl rfl rfl ?_
  refine jT_lald (x := 0) (a := 1) (j := 3) (fs := []) (X := [q1, p7, p8, 0, 0, 0]) jIQ_41_16 rfl rfl rfl rfl ?_
  refine jT_eq (LN := [(4, (0, 3)), (2, (1, 108917793695 * p7 + 159561683699 * p8 + 68719476736 * q1)), (0, (4, 0)), (1, (4, 1))]) (stN := [(1, 0), (1, 108917793695 * p7 + 159561683699 * p8 + 68719476736 * q1)]) (hsN := [jgh, (101, [], [q1, p7, p8, 0, 0, 0])]) rfl rfl rfl ?_
  refine jT_adv 1 (pcN := 20) (LN := [(4, (0, 3)), (2, (1, 108917793695 * p7 + 159561683699 * p8 + 68719476736 * q1)), (0, (4, 0)), (1, (4, 1))]) (stN := [(5, 0), (1, 0), (1, 108917793695 * p7 + 159561683699 * p8 + 68719476736 * q1)]) (hsN := [jgh, (101, [], [q1, p7, p8, 0, 0, 0])]) (c1 := 0) (s1 := 0) (c2 := 0) (s2 := 0) (by exact rfl) ?_ (by omega) (by omega)
  refine jT_xiload (v := (0, 3)) (pcN := 22) jIQ_41_20 rfl rfl rfl ?_
  refine jT_adv 1 (pcN := 23) (LN := [(4, (0, 3)), (2, (1, 108917793695 * p7 + 159561683699 * p8 + 68719476736 * q1)), (0, (4, 0)), (1, (4, 1))]) (stN := [(1, 192919961256), (1, 0), (1, 108917793695 * p7 + 159561683699 * p8 + 68719476736 * q1)]) (hsN := [jgh, (101, [], [q1, p7, p8, 0, 0, 0])]) (c1 := 0) (s1 := 0) (c2 := 0) (s2 := 0) (by exact rfl) ?_ (by omega) (by omega)
  refine jT_xlmul (x := 0) (y := 192919961256) (z := 0) (pcN := 24) jIQ_41_23 rfl (by decide) rfl ?_
  refine jT_xladd (x := 108917793695 * p7 + 159561683699 * p8 + 68719476736 * q1) (y := 0) (z := 108917793695 * p7 + 159561683699 * p8 + 68719476736 * q1) (pcN := 25) jIQ_41_24 rfl (by omega) rfl ?_
  refine jT_xlstore_n (v := (1, 108917793695 * p7 + 159561683699 * p8 + 68719476736 * q1)) (LN := [(2, (1, 108917793695 * p7 + 159561683699 * p8 + 68719476736 * q1)), (4, (0, 3)), (0, (4, 0)), (1, (4, 1))]) (pcN := 26) jIQ_41_25 rfl rfl rfl rfl ?_
  refine jT_xiinc (x := 3) (z := 4) (LN := [(4, (0, 4)), (2, (1, 108917793695 * p7 + 159561683699 * p8 + 68719476736 * q1)), (0, (4, 0)), (1, (4, 1))]) (pcN := 29) jIQ_41_26 rfl rfl (by decide) rfl rfl ?_
  refine jT_xgoto (pcN := 5) jIQ_41_29 rfl ?_
  refine jT_xiload (v := (0, 4)) (pcN := 7) jIQ_41_5 rfl rfl rfl ?_
  refine jT_xbipush (k := 6) (pcN := 9) jIQ_41_7 (by decide) rfl ?_
  refine jT_xicF (t := 32) (pcN := 12) jIQ_41_9 rfl (by decide +kernel) rfl rfl ?_
  refine jT_xlload_n (v := (1, 108917793695 * p7 + 159561683699 * p8 + 68719476736 * q1)) (pcN := 13) jIQ_41_12 rfl rfl rfl ?_
  refine jT_xaload_n (v := (4, 1)) (pcN := 14) jIQ_41_13 rfl rfl rfl ?_
  refine jT_xiload (v := (0, 4)) (pcN := 16) jIQ_41_14 rfl rfl rfl ?_
  refine jT_lald (x := 0) (a := 1) (j := 4) (fs := []) (X := [q1, p7, p8, 0, 0, 0]) jIQ_41_16 rfl rfl rfl rfl ?_
  refine jT_eq (LN := [(4, (0, 4)), (2, (1, 108917793695 * p7 + 159561683699 * p8 + 68719476736 * q1)), (0, (4, 0)), (1, (4, 1))]) (stN := [(1, 0), (1, 108917793695 * p7 + 159561683699 * p8 + 68719476736 * q1)]) (hsN := [jgh, (101, [], [q1, p7, p8, 0, 0, 0])]) rfl rfl rfl ?_
  refine jT_adv 1 (pcN := 20) (LN := [(4, (0, 4)), (2, (1, 108917793695 * p7 + 159561683699 * p8 + 68719476736 * q1)), (0, (4, 0)), (1, (4, 1))]) (stN := [(5, 0), (1, 0), (1, 108917793695 * p7 + 159561683699 * p8 + 68719476736 * q1)]) (hsN := [jgh, (101, [], [q1, p7, p8, 0, 0, 0])]) (c1 := 0) (s1 := 0) (c2 := 0) (s2 := 0) (by exact rfl) ?_ (by omega) (by omega)
  refine jT_xiload (v := (0, 4)) (pcN := 22) jIQ_41_20 rfl rfl rfl ?_
  refine jT_adv 1 (pcN := 23) (LN := [(4, (0, 4)), (2, (1, 108917793695 * p7 + 159561683699 * p8 + 68719476736 * q1)), (0, (4, 0)), (1, (4, 1))]) (stN := [(1, 237730330636), (1, 0), (1, 108917793695 * p7 + 159561683699 * p8 + 68719476736 * q1)]) (hsN := [jgh, (101, [], [q1, p7, p8, 0, 0, 0])]) (c1 := 0) (s1 := 0) (c2 := 0) (s2 := 0) (by exact rfl) ?_ (by omega) (by omega)
  refine jT_xlmul (x := 0) (y := 237730330636) (z := 0) (pcN := 24) jIQ_41_23 rfl (by decide) rfl ?_
  refine jT_xladd (x := 108917793695 * p7 + 159561683699 * p8 + 68719476736 * q1) (y := 0) (z := 108917793695 * p7 + 159561683699 * p8 + 68719476736 * q1) (pcN := 25) jIQ_41_24 rfl (by omega) rfl ?_
  refine jT_xlstore_n (v := (1, 108917793695 * p7 + 159561683699 * p8 + 68719476736 * q1)) (LN := [(2, (1, 108917793695 * p7 + 159561683699 * p8 + 68719476736 * q1)), (4, (0, 4)), (0, (4, 0)), (1, (4, 1))]) (pcN := 26) jIQ_41_25 rfl rfl rfl rfl ?_
  refine jT_xiinc (x := 4) (z := 5) (LN := [(4, (0, 5)), (2, (1, 108917793695 * p7 + 159561683699 * p8 + 68719476736 * q1)), (0, (4, 0)), (1, (4, 1))]) (pcN := 29) jIQ_41_26 rfl rfl (by decide) rfl rfl ?_
  refine jT_xgoto (pcN := 5) jIQ_41_29 rfl ?_
  refine jT_xiload (v := (0, 5)) (pcN := 7) jIQ_41_5 rfl rfl rfl ?_
  refine jT_xbipush (k := 6) (pcN := 9) jIQ_41_7 (by decide) rfl ?_
  refine jT_xicF (t := 32) (pcN := 12) jIQ_41_9 rfl (by decide +kernel) rfl rfl ?_
  refine jT_xlload_n (v := (1, 108917793695 * p7 + 159561683699 * p8 + 68719476736 * q1)) (pcN := 13) jIQ_41_12 rfl rfl rfl ?_
  refine jT_xaload_n (v := (4, 1)) (pcN := 14) jIQ_41_13 rfl rfl rfl ?_
  refine jT_xiload (v := (0, 5)) (pcN := 16) jIQ_41_14 rfl rfl rfl ?_
  refine jT_lald (x := 0) (a := 1) (j := 5) (fs := []) (X := [q1, p7, p8, 0, 0, 0]) jIQ_41_16 rfl rfl rfl rfl ?_
  refine jT_eq (LN := [(4, (0, 5)), (2, (1, 108917793695 * p7 + 159561683699 * p8 + 68719476736 * q1)), (0, (4, 0)), (1, (4, 1))]) (stN := [(1, 0), (1, 108917793695 * p7 + 159561683699 * p8 + 68719476736 * q1)]) (hsN := [jgh, (101, [], [q1, p7, p8, 0, 0, 0])]) rfl rfl rfl ?_
  refine jT_adv 1 (pcN := 20) (LN := [(4, (0, 5)), (2, (1, 108917793695 * p7 + 159561683699 * p8 + 68719476736 * q1)), (0, (4, 0)), (1, (4, 1))]) (stN := [(5, 0), (1, 0), (1, 108917793695 * p7 + 159561683699 * p8 + 68719476736 * q1)]) (hsN := [jgh, (101, [], [q1, p7, p8, 0, 0, 0])]) (c1 := 0) (s1 := 0) (c2 := 0) (s2 := 0) (by exact rfl) ?_ (by omega) (by omega)
  refine jT_xiload (v := (0, 5)) (pcN := 22) jIQ_41_20 rfl rfl rfl ?_
  refine jT_adv 1 (pcN := 23) (LN := [(4, (0, 5)), (2, (1, 108917793695 * p7 + 159561683699 * p8 + 68719476736 * q1)), (0, (4, 0)), (1, (4, 1))]) (stN := [(1, 254292281123), (1, 0), (1, 108917793695 * p7 + 159561683699 * p8 + 68719476736 * q1)]) (hsN := [jgh, (101, [], [q1, p7, p8, 0, 0, 0])]) (c1 := 0) (s1 := 0) (c2 := 0) (s2 := 0) (by exact rfl) ?_ (by omega) (by omega)
  refine jT_xlmul (x := 0) (y := 254292281123) (z := 0) (pcN := 24) jIQ_41_23 rfl (by decide) rfl ?_
  refine jT_xladd (x := 108917793695 * p7 + 159561683699 * p8 + 68719476736 * q1) (y := 0) (z := 108917793695 * p7 + 159561683699 * p8 + 68719476736 * q1) (pcN := 25) jIQ_41_24 rfl (by omega) rfl ?_
  refine jT_xlstore_n (v := (1, 108917793695 * p7 + 159561683699 * p8 + 68719476736 * q1)) (LN := [(2, (1, 108917793695 * p7 + 159561683699 * p8 + 68719476736 * q1)), (4, (0, 5)), (0, (4, 0)), (1, (4, 1))]) (pcN := 26) jIQ_41_25 rfl rfl rfl rfl ?_
  refine jT_xiinc (x := 5) (z := 6) (LN := [(4, (0, 6)), (2, (1, 108917793695 * p7 + 159561683699 * p8 + 68719476736 * q1)), (0, (4, 0)), (1, (4, 1))]) (pcN := 29) jIQ_41_26 rfl rfl (by decide) rfl rfl ?_
  refine jT_xgoto (pcN := 5) jIQ_41_29 rfl ?_
  refine jT_xiload (v := (0, 6)) (pcN := 7) jIQ_41_5 rfl rfl rfl ?_
  refine jT_xbipush (k := 6) (pcN := 9) jIQ_41_7 (by decide) rfl ?_
  refine jT_xicT (pcN := 32) jIQ_41_9 rfl (by decide +kernel) rfl ?_
  refine jT_xlload_n (v := (1, 108917793695 * p7 + 159561683699 * p8 + 68719476736 * q1)) (pcN := 33) jIQ_41_32 rfl rfl rfl ?_
  exact jT_ret rfl (by decide) (by show 2 ≤ 2; omega) (by omega) (by omega) ⟨rfl, rfl, rfl⟩
theorem jIQ_161_0 : jmI (jm 161) 0 = (.iload_n 1, 1) := by rfl
theorem jIQ_161_1 : jmI (jm 161) 1 = (.ifCond .ne 9, 3) := by rfl
theorem jIQ_161_10 : jmI (jm 161) 10 = (.iconst 0, 1) := by rfl
theorem jIQ_161_11 : jmI (jm 161) 11 = (.istore 5, 2) := by rfl
theorem jIQ_161_13 : jmI (jm 161) 13 = (.iload 5, 2) := by rfl
theorem jIQ_161_15 : jmI (jm 161) 15 = (.bipush 6, 2) := by rfl
theorem jIQ_161_17 : jmI (jm 161) 17 = (.if_icmp .ge 39, 3) := by rfl
theorem jIQ_161_20 : jmI (jm 161) 20 = (.aload_n 0, 1) := by rfl
theorem jIQ_161_21 : jmI (jm 161) 21 = (.getfield 50, 3) := by rfl
theorem jIQ_161_24 : jmI (jm 161) 24 = (.iload 5, 2) := by rfl
theorem jIQ_161_26 : jmI (jm 161) 26 = (.iload 5, 2) := by rfl
theorem jIQ_161_28 : jmI (jm 161) 28 = (.iconst 1, 1) := by rfl
theorem jIQ_161_29 : jmI (jm 161) 29 = (.if_icmp .ne 8, 3) := by rfl
theorem jIQ_161_37 : jmI (jm 161) 37 = (.iload 5, 2) := by rfl
theorem jIQ_161_39 : jmI (jm 161) 39 = (.iconst 2, 1) := by rfl
theorem jIQ_161_40 : jmI (jm 161) 40 = (.if_icmp .ne 8, 3) := by rfl
theorem jIQ_161_48 : jmI (jm 161) 48 = (.lconst 0, 1) := by rfl
theorem jIQ_161_50 : jmI (jm 161) 50 = (.iinc 5 1, 3) := by rfl
theorem jIQ_161_53 : jmI (jm 161) 53 = (.goto (-40), 3) := by rfl
theorem jIQ_161_32 : jmI (jm 161) 32 = (.iload_n 1, 1) := by rfl
theorem jIQ_161_33 : jmI (jm 161) 33 = (.i2l, 1) := by rfl
theorem jIQ_161_34 : jmI (jm 161) 34 = (.goto 15, 3) := by rfl
theorem jIQ_161_43 : jmI (jm 161) 43 = (.iload_n 2, 1) := by rfl
theorem jIQ_161_44 : jmI (jm 161) 44 = (.i2l, 1) := by rfl
theorem jIQ_161_45 : jmI (jm 161) 45 = (.goto 4, 3) := by rfl
theorem jIQ_161_56 : jmI (jm 161) 56 = (.aload_n 0, 1) := by rfl
theorem jIQ_161_57 : jmI (jm 161) 57 = (.getfield 10, 3) := by rfl
theorem jIQ_161_60 : jmI (jm 161) 60 = (.aload_n 0, 1) := by rfl
theorem jIQ_161_61 : jmI (jm 161) 61 = (.getfield 50, 3) := by rfl
theorem jIQ_161_64 : jmI (jm 161) 64 = (.lconst 1, 1) := by rfl
theorem jIQ_161_65 : jmI (jm 161) 65 = (.lconst 1, 1) := by rfl
theorem jIQ_45_0 : jmI (jm 45) 0 = (.lload_n 2, 1) := by rfl
theorem jIQ_45_1 : jmI (jm 45) 1 = (.lconst 1, 1) := by rfl
theorem jIQ_45_3 : jmI (jm 45) 3 = (.ifCond .lt 10, 3) := by rfl
theorem jIQ_45_6 : jmI (jm 45) 6 = (.lload 4, 2) := by rfl
theorem jIQ_45_8 : jmI (jm 45) 8 = (.lconst 1, 1) := by rfl
theorem jIQ_45_10 : jmI (jm 45) 10 = (.ifCond .ge 5, 3) := by rfl
theorem jIQ_45_15 : jmI (jm 45) 15 = (.aload_n 0, 1) := by rfl
theorem jIQ_45_16 : jmI (jm 45) 16 = (.aload_n 1, 1) := by rfl
theorem jIQ_45_20 : jmI (jm 45) 20 = (.lstore 6, 2) := by rfl
theorem jIQ_45_22 : jmI (jm 45) 22 = (.lload 6, 2) := by rfl
theorem jIQ_45_24 : jmI (jm 45) 24 = (.lconst 0, 1) := by rfl
theorem jIQ_45_26 : jmI (jm 45) 26 = (.ifCond .ne 14, 3) := by rfl
theorem jIQ_45_40 : jmI (jm 45) 40 = (.aload_n 0, 1) := by rfl
theorem jIQ_45_41 : jmI (jm 45) 41 = (.aload_n 1, 1) := by rfl
theorem jIQ_45_42 : jmI (jm 45) 42 = (.lload 6, 2) := by rfl
theorem jIQ_45_47 : jmI (jm 45) 47 = (.ifCond .eq 73, 3) := by rfl
theorem jIQ_45_50 : jmI (jm 45) 50 = (.aload_n 0, 1) := by rfl
theorem jIQ_45_51 : jmI (jm 45) 51 = (.aload_n 1, 1) := by rfl
theorem jIQ_45_55 : jmI (jm 45) 55 = (.lstore 8, 2) := by rfl
theorem jIQ_45_57 : jmI (jm 45) 57 = (.lload 8, 2) := by rfl
theorem jIQ_45_62 : jmI (jm 45) 62 = (.lload 6, 2) := by rfl
theorem jIQ_45_64 : jmI (jm 45) 64 = (.ladd, 1) := by rfl
theorem jIQ_45_68 : jmI (jm 45) 68 = (.lload 4, 2) := by rfl
theorem jIQ_45_72 : jmI (jm 45) 72 = (.ifCond .gt 48, 3) := by rfl
theorem jIQ_45_75 : jmI (jm 45) 75 = (.lload 8, 2) := by rfl
theorem jIQ_45_77 : jmI (jm 45) 77 = (.lload 6, 2) := by rfl
theorem jIQ_45_79 : jmI (jm 45) 79 = (.lsub, 1) := by rfl
theorem jIQ_45_80 : jmI (jm 45) 80 = (.lload 4, 2) := by rfl
theorem jIQ_45_82 : jmI (jm 45) 82 = (.lmul, 1) := by rfl
theorem jIQ_45_83 : jmI (jm 45) 83 = (.lload_n 2, 1) := by rfl
theorem jIQ_45_84 : jmI (jm 45) 84 = (.bipush 36, 2) := by rfl
theorem jIQ_45_90 : jmI (jm 45) 90 = (.lstore 10, 2) := by rfl
theorem jIQ_45_92 : jmI (jm 45) 92 = (.lload 8, 2) := by rfl
theorem jIQ_45_94 : jmI (jm 45) 94 = (.lload 6, 2) := by rfl
theorem jIQ_45_96 : jmI (jm 45) 96 = (.ladd, 1) := by rfl
theorem jIQ_45_97 : jmI (jm 45) 97 = (.lload 4, 2) := by rfl
theorem jIQ_45_99 : jmI (jm 45) 99 = (.lmul, 1) := by rfl
theorem jIQ_45_100 : jmI (jm 45) 100 = (.lload_n 2, 1) := by rfl
theorem jIQ_45_101 : jmI (jm 45) 101 = (.bipush 36, 2) := by rfl
theorem jIQ_45_107 : jmI (jm 45) 107 = (.lstore 12, 2) := by rfl
theorem jIQ_45_109 : jmI (jm 45) 109 = (.lload 10, 2) := by rfl
theorem jIQ_45_111 : jmI (jm 45) 111 = (.lload 12, 2) := by rfl
theorem jIQ_45_114 : jmI (jm 45) 114 = (.ifCond .ne 6, 3) := by rfl
theorem jIQ_45_117 : jmI (jm 45) 117 = (.lload 10, 2) := by rfl
theorem jIQ_45_29 : jmI (jm 45) 29 = (.aload_n 1, 1) := by rfl
theorem jIQ_45_30 : jmI (jm 45) 30 = (.iconst 0, 1) := by rfl
theorem jIQ_45_31 : jmI (jm 45) 31 = (.laload, 1) := by rfl
theorem jIQ_45_32 : jmI (jm 45) 32 = (.lload 4, 2) := by rfl
theorem jIQ_45_34 : jmI (jm 45) 34 = (.lmul, 1) := by rfl
theorem jIQ_45_35 : jmI (jm 45) 35 = (.lload_n 2, 1) := by rfl
theorem jQl_sp45_188 {xs : List Int} {d : Nat} {r7 r8 : Int} (h_r7 : (-20) ≤ r7 ∧ r7 ≤ 20) (h_r8 : (-10) ≤ r8 ∧ r8 ≤ 10) : jT xs (d + 1) 45 4 0 [(0, (4, 0)), (1, (4, 1)), (2, (1, 1)), (4, (1, 1))] [] [(8, [(4, 2), (4, 3)], []), (101, [], [0, r7, r8, 0, 0, 0]), jgh, jgh] 0 0 (fun k v hsN => k = 0 ∧ v = (1, (108917793695 * r7 + 159561683699 * r8) / 68719476736) ∧ hsN = [(8, [(4, 2), (4, 3)], []), (101, [], [0, r7, r8, 0, 0, 0]), jgh, jgh]) := by
  rcases (show (0 ≤ r7) ∨ (r7 < 0) by omega) with g_0 | g_0
  · rcases (show (0 ≤ r8) ∨ (r8 < 0) by omega) with g_1 | g_1
    · rcases (show (0 ≤ r7 + r8 - 1) ∨ (r7 + r8 - 1 < 0) by omega) with g_2 | g_2
      · rcases (show (0 ≤ 108917793695 * r7 + 159561683699 * r8) ∨ (108917793695 * r7 + 159561683699 * r8 < 0) by omega) with g_3 | g_3
        · refine jT_xlload_n (v := (1, 1)) (pcN := 1) jIQ_45_0 rfl rfl rfl ?_
          refine jT_xlconst (z := 1) (pcN := 2) jIQ_45_1 rfl rfl ?_
          refine jT_lcmp (a := 1) (b := 1) (z := 0) (by rfl) (by rfl) (by decide +kernel) (by decide +kernel) (by decide) ?_
          refine jT_xifF (t := 13) (pcN := 6) jIQ_45_3 rfl (by decide +kernel) rfl rfl ?_
          refine jT_xlload (v := (1, 1)) (pcN := 8) jIQ_45_6 rfl rfl rfl ?_
          refine jT_xlconst (z := 1) (pcN := 9) jIQ_45_8 rfl rfl ?_
          refine jT_lcmp (a := 1) (b := 1) (z := 0) (by rfl) (by rfl) (by decide +kernel) (by decide +kernel) (by decide) ?_
          refine jT_xifT (pcN := 15) jIQ_45_10 rfl (by decide +kernel) rfl ?_
          refine jT_xaload_n (v := (4, 0)) (pcN := 16) jIQ_45_15 rfl rfl rfl ?_
          refine jT_xaload_n (v := (4, 1)) (pcN := 17) jIQ_45_16 rfl rfl rfl ?_
          refine jT_callA [0, 1] (y := 39) (pcN := 20) (dC := 0) (bc1 := 0) (bc2 := 0) (c1 := 0) (c2 := 0) (as := [(4, 0), (4, 1)]) (asC := [(4, 0), (4, 1)]) (LN := [(0, (4, 0)), (1, (4, 1)), (2, (1, 1)), (4, (1, 1))]) (stN := []) (hsC := [jgh, (101, [], [0, r7, r8, 0, 0, 0])]) (ex := []) (v := (1, r7 + r8)) (st2 := [(1, r7 + r8)]) (hs2 := [(8, [(4, 2), (4, 3)], []), (101, [], [0, r7, r8, 0, 0, 0]), jgh, jgh]) (jQ_39_76 (d := 0) (by omega) (by omega) (by omega) (by omega) (by omega) (by omega)) (by rfl) (by rfl) (by rfl) (by rfl) ⟨rfl, rfl, trivial⟩ (by rfl) (by rfl) (by omega) (by show 4 ≤ 4; omega) (by omega) (by omega) rfl rfl ?_
          refine jT_xlstore (v := (1, r7 + r8)) (LN := [(6, (1, r7 + r8)), (0, (4, 0)), (1, (4, 1)), (2, (1, 1)), (4, (1, 1))]) (pcN := 22) jIQ_45_20 rfl rfl rfl rfl ?_
          refine jT_xlload (v := (1, r7 + r8)) (pcN := 24) jIQ_45_22 rfl rfl rfl ?_
          refine jT_xlconst (z := 0) (pcN := 25) jIQ_45_24 rfl rfl ?_
          refine jT_lcmp (a := r7 + r8) (b := 0) (z := 1) (by rfl) (by rfl) (jwl_idd (by omega) (by omega)) (jwl_idd (by omega) (by omega)) (by rw [decide_eq_true (show (0 : Int) < r7 + r8 by omega)]; rfl) ?_
          refine jT_xifT (pcN := 40) jIQ_45_26 rfl (by decide +kernel) rfl ?_
          refine jT_xaload_n (v := (4, 0)) (pcN := 41) jIQ_45_40 rfl rfl rfl ?_
          refine jT_xaload_n (v := (4, 1)) (pcN := 42) jIQ_45_41 rfl rfl rfl ?_
          refine jT_xlload (v := (1, r7 + r8)) (pcN := 44) jIQ_45_42 rfl rfl rfl ?_
          refine jT_callA [0, 1] (y := 40) (pcN := 47) (dC := 0) (bc1 := 0) (bc2 := 0) (c1 := 0) (c2 := 0) (as := [(4, 0), (4, 1), (1, r7 + r8)]) (asC := [(4, 0), (4, 1), (1, r7 + r8)]) (LN := [(6, (1, r7 + r8)), (0, (4, 0)), (1, (4, 1)), (2, (1, 1)), (4, (1, 1))]) (stN := []) (hsC := [jgh, (101, [], [0, r7, r8, 0, 0, 0])]) (ex := []) (v := (0, 1)) (st2 := [(0, 1)]) (hs2 := [(8, [(4, 2), (4, 3)], []), (101, [], [0, r7, r8, 0, 0, 0]), jgh, jgh]) (jQ_40_77 (d := 0) (by omega) (by omega) (by omega) (by omega) (by omega) (by omega)) (by rfl) (by rfl) (by rfl) (by rfl) ⟨rfl, rfl, trivial⟩ (by rfl) (by rfl) (by omega) (by show 4 ≤ 4; omega) (by omega) (by omega) rfl rfl ?_
          refine jT_xifF (t := 120) (pcN := 50) jIQ_45_47 rfl (by decide +kernel) rfl rfl ?_
          refine jT_xaload_n (v := (4, 0)) (pcN := 51) jIQ_45_50 rfl rfl rfl ?_
          refine jT_xaload_n (v := (4, 1)) (pcN := 52) jIQ_45_51 rfl rfl rfl ?_
          refine jT_callA [0, 1] (y := 41) (pcN := 55) (dC := 0) (bc1 := 0) (bc2 := 0) (c1 := 0) (c2 := 0) (as := [(4, 0), (4, 1)]) (asC := [(4, 0), (4, 1)]) (LN := [(6, (1, r7 + r8)), (0, (4, 0)), (1, (4, 1)), (2, (1, 1)), (4, (1, 1))]) (stN := []) (hsC := [jgh, (101, [], [0, r7, r8, 0, 0, 0])]) (ex := []) (v := (1, 108917793695 * r7 + 159561683699 * r8)) (st2 := [(1, 108917793695 * r7 + 159561683699 * r8)]) (hs2 := [(8, [(4, 2), (4, 3)], []), (101, [], [0, r7, r8, 0, 0, 0]), jgh, jgh]) (jQ_41_78 (d := 0) (by omega) (by omega) (by omega) (by omega) (by omega) (by omega)) (by rfl) (by rfl) (by rfl) (by rfl) ⟨rfl, rfl, trivial⟩ (by rfl) (by rfl) (by omega) (by show 4 ≤ 4; omega) (by omega) (by omega) rfl rfl ?_
          refine jT_xlstore (v := (1, 108917793695 * r7 + 159561683699 * r8)) (LN := [(8, (1, 108917793695 * r7 + 159561683699 * r8)), (6, (1, r7 + r8)), (0, (4, 0)), (1, (4, 1)), (2, (1, 1)), (4, (1, 1))]) (pcN := 57) jIQ_45_55 rfl rfl rfl rfl ?_
          refine jT_xlload (v := (1, 108917793695 * r7 + 159561683699 * r8)) (pcN := 59) jIQ_45_57 rfl rfl rfl ?_
          refine jT_labs (z := 108917793695 * r7 + 159561683699 * r8) (by rfl) (by rfl) (by rfl) (by rfl) (by rw [show jwl (108917793695 * r7 + 159561683699 * r8) = 108917793695 * r7 + 159561683699 * r8 from jwl_idd (by omega) (by omega), decide_eq_false (by omega)]; first | (simp only [cond_true, cond_false]; done) | (simp only [cond_true, cond_false]; omega) | rfl) ?_
          refine jT_xlload (v := (1, r7 + r8)) (pcN := 64) jIQ_45_62 rfl rfl rfl ?_
          refine jT_xladd (x := 108917793695 * r7 + 159561683699 * r8) (y := r7 + r8) (z := 108917793696 * r7 + 159561683700 * r8) (pcN := 65) jIQ_45_64 rfl (by omega) rfl ?_
          refine jT_adv 1 (pcN := 68) (LN := [(8, (1, 108917793695 * r7 + 159561683699 * r8)), (6, (1, r7 + r8)), (0, (4, 0)), (1, (4, 1)), (2, (1, 1)), (4, (1, 1))]) (stN := [(1, 9223372036854775807), (1, 108917793696 * r7 + 159561683700 * r8)]) (hsN := [(8, [(4, 2), (4, 3)], []), (101, [], [0, r7, r8, 0, 0, 0]), jgh, jgh]) (c1 := 0) (s1 := 0) (c2 := 0) (s2 := 0) (by exact rfl) ?_ (by omega) (by omega)
          refine jT_xlload (v := (1, 1)) (pcN := 70) jIQ_45_68 rfl rfl rfl ?_
          refine jT_ldiv (a := 9223372036854775807) (b := 1) (by rfl) (by rfl) (by decide +kernel) (by decide +kernel) (by decide) ?_
          refine jT_eq (LN := [(8, (1, 108917793695 * r7 + 159561683699 * r8)), (6, (1, r7 + r8)), (0, (4, 0)), (1, (4, 1)), (2, (1, 1)), (4, (1, 1))]) (stN := [(1, 9223372036854775807), (1, 108917793696 * r7 + 159561683700 * r8)]) (hsN := [(8, [(4, 2), (4, 3)], []), (101, [], [0, r7, r8, 0, 0, 0]), jgh, jgh]) rfl (by rw [show (9223372036854775807 : Int).tdiv 1 = 9223372036854775807 by decide +kernel]) rfl ?_
          refine jT_lcmp (a := 108917793696 * r7 + 159561683700 * r8) (b := 9223372036854775807) (z := (-1)) (by rfl) (by rfl) (jwl_idd (by omega) (by omega)) (jwl_idd (by omega) (by omega)) (by rw [decide_eq_false (show ¬ ((9223372036854775807 : Int) < 108917793696 * r7 + 159561683700 * r8) by omega), decide_eq_false (show ¬ ((108917793696 * r7 + 159561683700 * r8 : Int) = 9223372036854775807) by omega)]; rfl) ?_
          refine jT_xifF (t := 120) (pcN := 75) jIQ_45_72 rfl (by decide +kernel) rfl rfl ?_
          refine jT_xlload (v := (1, 108917793695 * r7 + 159561683699 * r8)) (pcN := 77) jIQ_45_75 rfl rfl rfl ?_
          refine jT_xlload (v := (1, r7 + r8)) (pcN := 79) jIQ_45_77 rfl rfl rfl ?_
          refine jT_xlsub (x := 108917793695 * r7 + 159561683699 * r8) (y := r7 + r8) (z := 108917793694 * r7 + 159561683698 * r8) (pcN := 80) jIQ_45_79 rfl (by omega) rfl ?_
          refine jT_xlload (v := (1, 1)) (pcN := 82) jIQ_45_80 rfl rfl rfl ?_
          refine jT_xlmul (x := 108917793694 * r7 + 159561683698 * r8) (y := 1) (z := 108917793694 * r7 + 159561683698 * r8) (pcN := 83) jIQ_45_82 rfl (by omega) rfl ?_
          refine jT_xlload_n (v := (1, 1)) (pcN := 84) jIQ_45_83 rfl rfl rfl ?_
          refine jT_xbipush (k := 36) (pcN := 86) jIQ_45_84 (by decide) rfl ?_
          refine jT_lshl (x := 1) (y := 36) (z := 68719476736) (by rfl) (by rfl) (by decide +kernel) ?_
          refine jT_callA [] (y := 373) (pcN := 90) (dC := 0) (bc1 := 0) (bc2 := 0) (c1 := 0) (c2 := 0) (as := [(1, 108917793694 * r7 + 159561683698 * r8), (1, 68719476736)]) (asC := [(1, 108917793694 * r7 + 159561683698 * r8), (1, 68719476736)]) (LN := [(8, (1, 108917793695 * r7 + 159561683699 * r8)), (6, (1, r7 + r8)), (0, (4, 0)), (1, (4, 1)), (2, (1, 1)), (4, (1, 1))]) (stN := []) (hsC := []) (ex := []) (v := (1, (108917793695 * r7 + 159561683699 * r8) / 68719476736)) (st2 := [(1, (108917793695 * r7 + 159561683699 * r8) / 68719476736)]) (hs2 := [(8, [(4, 2), (4, 3)], []), (101, [], [0, r7, r8, 0, 0, 0]), jgh, jgh]) (jT_fdJK2 (d := 0) (x := 108917793694 * r7 + 159561683698 * r8) (y := 108917793695 * r7 + 159561683699 * r8) (by omega) (jcf (b := r7) (c := r8) (by omega) (by omega) (by omega) (by omega))) (by rfl) (by rfl) (by rfl) (by rfl) trivial (by rfl) (by rfl) (by omega) (by show 4 ≤ 4; omega) (by omega) (by omega) rfl rfl ?_
          have hb_q1 : (-60) ≤ (108917793695 * r7 + 159561683699 * r8) / 68719476736 ∧ (108917793695 * r7 + 159561683699 * r8) / 68719476736 ≤ 60 := ⟨by omega, by omega⟩
          generalize hq_q1 : (108917793695 * r7 + 159561683699 * r8) / 68719476736 = q1 at hb_q1 ⊢
          refine jT_xlstore (v := (1, q1)) (LN := [(10, (1, q1)), (8, (1, 108917793695 * r7 + 159561683699 * r8)), (6, (1, r7 + r8)), (0, (4, 0)), (1, (4, 1)), (2, (1, 1)), (4, (1, 1))]) (pcN := 92) jIQ_45_90 rfl rfl rfl rfl ?_
          refine jT_xlload (v := (1, 108917793695 * r7 + 159561683699 * r8)) (pcN := 94) jIQ_45_92 rfl rfl rfl ?_
          refine jT_xlload (v := (1, r7 + r8)) (pcN := 96) jIQ_45_94 rfl rfl rfl ?_
          refine jT_xladd (x := 108917793695 * r7 + 159561683699 * r8) (y := r7 + r8) (z := 108917793696 * r7 + 159561683700 * r8) (pcN := 97) jIQ_45_96 rfl (by omega) rfl ?_
          refine jT_xlload (v := (1, 1)) (pcN := 99) jIQ_45_97 rfl rfl rfl ?_
          refine jT_xlmul (x := 108917793696 * r7 + 159561683700 * r8) (y := 1) (z := 108917793696 * r7 + 159561683700 * r8) (pcN := 100) jIQ_45_99 rfl (by omega) rfl ?_
          refine jT_xlload_n (v := (1, 1)) (pcN := 101) jIQ_45_100 rfl rfl rfl ?_
          refine jT_xbipush (k := 36) (pcN := 103) jIQ_45_101 (by decide) rfl ?_
          refine jT_lshl (x := 1) (y := 36) (z := 68719476736) (by rfl) (by rfl) (by decide +kernel) ?_
          refine jT_callA [] (y := 373) (pcN := 107) (dC := 0) (bc1 := 0) (bc2 := 0) (c1 := 0) (c2 := 0) (as := [(1, 108917793696 * r7 + 159561683700 * r8), (1, 68719476736)]) (asC := [(1, 108917793696 * r7 + 159561683700 * r8), (1, 68719476736)]) (LN := [(10, (1, q1)), (8, (1, 108917793695 * r7 + 159561683699 * r8)), (6, (1, r7 + r8)), (0, (4, 0)), (1, (4, 1)), (2, (1, 1)), (4, (1, 1))]) (stN := []) (hsC := []) (ex := []) (v := (1, (108917793695 * r7 + 159561683699 * r8) / 68719476736)) (st2 := [(1, (108917793695 * r7 + 159561683699 * r8) / 68719476736)]) (hs2 := [(8, [(4, 2), (4, 3)], []), (101, [], [0, r7, r8, 0, 0, 0]), jgh, jgh]) (jT_fdJK2 (d := 0) (x := 108917793696 * r7 + 159561683700 * r8) (y := 108917793695 * r7 + 159561683699 * r8) (by omega) (jcf (b := r7) (c := r8) (by omega) (by omega) (by omega) (by omega))) (by rfl) (by rfl) (by rfl) (by rfl) trivial (by rfl) (by rfl) (by omega) (by show 4 ≤ 4; omega) (by omega) (by omega) rfl rfl ?_
          rw [hq_q1]
          refine jT_xlstore (v := (1, q1)) (LN := [(12, (1, q1)), (10, (1, q1)), (8, (1, 108917793695 * r7 + 159561683699 * r8)), (6, (1, r7 + r8)), (0, (4, 0)), (1, (4, 1)), (2, (1, 1)), (4, (1, 1))]) (pcN := 109) jIQ_45_107 rfl rfl rfl rfl ?_
          refine jT_xlload (v := (1, q1)) (pcN := 111) jIQ_45_109 rfl rfl rfl ?_
          refine jT_xlload (v := (1, q1)) (pcN := 113) jIQ_45_111 rfl rfl rfl ?_
          refine jT_lcmp (a := q1) (b := q1) (z := 0) (by rfl) (by rfl) (jwl_idd (by omega) (by omega)) (jwl_idd (by omega) (by omega)) (by rw [decide_eq_false (show ¬ ((q1 : Int) < q1) by omega), decide_eq_true (show (q1 : Int) = q1 by omega)]; rfl) ?_
          refine jT_xifF (t := 120) (pcN := 117) jIQ_45_114 rfl (by decide +kernel) rfl rfl ?_
          refine jT_xlload (v := (1, q1)) (pcN := 119) jIQ_45_117 rfl rfl rfl ?_
          exact jT_ret rfl (by decide) (by show 4 ≤ 4; decide) (by omega) (by omega) ⟨rfl, by rw [hq_q1], rfl⟩
        · refine jT_xlload_n (v := (1, 1)) (pcN := 1) jIQ_45_0 rfl rfl rfl ?_
          refine jT_xlconst (z := 1) (pcN := 2) jIQ_45_1 rfl rfl ?_
          refine jT_lcmp (a := 1) (b := 1) (z := 0) (by rfl) (by rfl) (by decide +kernel) (by decide +kernel) (by decide) ?_
          refine jT_xifF (t := 13) (pcN := 6) jIQ_45_3 rfl (by decide +kernel) rfl rfl ?_
          refine jT_xlload (v := (1, 1)) (pcN := 8) jIQ_45_6 rfl rfl rfl ?_
          refine jT_xlconst (z := 1) (pcN := 9) jIQ_45_8 rfl rfl ?_
          refine jT_lcmp (a := 1) (b := 1) (z := 0) (by rfl) (by rfl) (by decide +kernel) (by decide +kernel) (by decide) ?_
          refine jT_xifT (pcN := 15) jIQ_45_10 rfl (by decide +kernel) rfl ?_
          refine jT_xaload_n (v := (4, 0)) (pcN := 16) jIQ_45_15 rfl rfl rfl ?_
          refine jT_xaload_n (v := (4, 1)) (pcN := 17) jIQ_45_16 rfl rfl rfl ?_
          refine jT_callA [0, 1] (y := 39) (pcN := 20) (dC := 0) (bc1 := 0) (bc2 := 0) (c1 := 0) (c2 := 0) (as := [(4, 0), (4, 1)]) (asC := [(4, 0), (4, 1)]) (LN := [(0, (4, 0)), (1, (4, 1)), (2, (1, 1)), (4, (1, 1))]) (stN := []) (hsC := [jgh, (101, [], [0, r7, r8, 0, 0, 0])]) (ex := []) (v := (1, r7 + r8)) (st2 := [(1, r7 + r8)]) (hs2 := [(8, [(4, 2), (4, 3)], []), (101, [], [0, r7, r8, 0, 0, 0]), jgh, jgh]) (jQ_39_73 (d := 0) (by omega) (by omega) (by omega) (by omega) (by omega) (by omega)) (by rfl) (by rfl) (by rfl) (by rfl) ⟨rfl, rfl, trivial⟩ (by rfl) (by rfl) (by omega) (by show 4 ≤ 4; omega) (by omega) (by omega) rfl rfl ?_
          refine jT_xlstore (v := (1, r7 + r8)) (LN := [(6, (1, r7 + r8)), (0, (4, 0)), (1, (4, 1)), (2, (1, 1)), (4, (1, 1))]) (pcN := 22) jIQ_45_20 rfl rfl rfl rfl ?_
          refine jT_xlload (v := (1, r7 + r8)) (pcN := 24) jIQ_45_22 rfl rfl rfl ?_
          refine jT_xlconst (z := 0) (pcN := 25) jIQ_45_24 rfl rfl ?_
          refine jT_lcmp (a := r7 + r8) (b := 0) (z := 1) (by rfl) (by rfl) (jwl_idd (by omega) (by omega)) (jwl_idd (by omega) (by omega)) (by rw [decide_eq_true (show (0 : Int) < r7 + r8 by omega)]; rfl) ?_
          refine jT_xifT (pcN := 40) jIQ_45_26 rfl (by decide +kernel) rfl ?_
          refine jT_xaload_n (v := (4, 0)) (pcN := 41) jIQ_45_40 rfl rfl rfl ?_
          refine jT_xaload_n (v := (4, 1)) (pcN := 42) jIQ_45_41 rfl rfl rfl ?_
          refine jT_xlload (v := (1, r7 + r8)) (pcN := 44) jIQ_45_42 rfl rfl rfl ?_
          refine jT_callA [0, 1] (y := 40) (pcN := 47) (dC := 0) (bc1 := 0) (bc2 := 0) (c1 := 0) (c2 := 0) (as := [(4, 0), (4, 1), (1, r7 + r8)]) (asC := [(4, 0), (4, 1), (1, r7 + r8)]) (LN := [(6, (1, r7 + r8)), (0, (4, 0)), (1, (4, 1)), (2, (1, 1)), (4, (1, 1))]) (stN := []) (hsC := [jgh, (101, [], [0, r7, r8, 0, 0, 0])]) (ex := []) (v := (0, 1)) (st2 := [(0, 1)]) (hs2 := [(8, [(4, 2), (4, 3)], []), (101, [], [0, r7, r8, 0, 0, 0]), jgh, jgh]) (jQ_40_74 (d := 0) (by omega) (by omega) (by omega) (by omega) (by omega) (by omega)) (by rfl) (by rfl) (by rfl) (by rfl) ⟨rfl, rfl, trivial⟩ (by rfl) (by rfl) (by omega) (by show 4 ≤ 4; omega) (by omega) (by omega) rfl rfl ?_
          refine jT_xifF (t := 120) (pcN := 50) jIQ_45_47 rfl (by decide +kernel) rfl rfl ?_
          refine jT_xaload_n (v := (4, 0)) (pcN := 51) jIQ_45_50 rfl rfl rfl ?_
          refine jT_xaload_n (v := (4, 1)) (pcN := 52) jIQ_45_51 rfl rfl rfl ?_
          refine jT_callA [0, 1] (y := 41) (pcN := 55) (dC := 0) (bc1 := 0) (bc2 := 0) (c1 := 0) (c2 := 0) (as := [(4, 0), (4, 1)]) (asC := [(4, 0), (4, 1)]) (LN := [(6, (1, r7 + r8)), (0, (4, 0)), (1, (4, 1)), (2, (1, 1)), (4, (1, 1))]) (stN := []) (hsC := [jgh, (101, [], [0, r7, r8, 0, 0, 0])]) (ex := []) (v := (1, 108917793695 * r7 + 159561683699 * r8)) (st2 := [(1, 108917793695 * r7 + 159561683699 * r8)]) (hs2 := [(8, [(4, 2), (4, 3)], []), (101, [], [0, r7, r8, 0, 0, 0]), jgh, jgh]) (jQ_41_75 (d := 0) (by omega) (by omega) (by omega) (by omega) (by omega) (by omega)) (by rfl) (by rfl) (by rfl) (by rfl) ⟨rfl, rfl, trivial⟩ (by rfl) (by rfl) (by omega) (by show 4 ≤ 4; omega) (by omega) (by omega) rfl rfl ?_
          refine jT_xlstore (v := (1, 108917793695 * r7 + 159561683699 * r8)) (LN := [(8, (1, 108917793695 * r7 + 159561683699 * r8)), (6, (1, r7 + r8)), (0, (4, 0)), (1, (4, 1)), (2, (1, 1)), (4, (1, 1))]) (pcN := 57) jIQ_45_55 rfl rfl rfl rfl ?_
          refine jT_xlload (v := (1, 108917793695 * r7 + 159561683699 * r8)) (pcN := 59) jIQ_45_57 rfl rfl rfl ?_
          refine jT_labs (z := (-108917793695) * r7 - 159561683699 * r8) (by rfl) (by rfl) (by rfl) (by rfl) (by rw [show jwl (108917793695 * r7 + 159561683699 * r8) = 108917793695 * r7 + 159561683699 * r8 from jwl_idd (by omega) (by omega), decide_eq_true (by omega)]; first | (simp only [cond_true, cond_false]; done) | (simp only [cond_true, cond_false]; omega) | rfl) ?_
          refine jT_xlload (v := (1, r7 + r8)) (pcN := 64) jIQ_45_62 rfl rfl rfl ?_
          refine jT_xladd (x := (-108917793695) * r7 - 159561683699 * r8) (y := r7 + r8) (z := (-108917793694) * r7 - 159561683698 * r8) (pcN := 65) jIQ_45_64 rfl (by omega) rfl ?_
          refine jT_adv 1 (pcN := 68) (LN := [(8, (1, 108917793695 * r7 + 159561683699 * r8)), (6, (1, r7 + r8)), (0, (4, 0)), (1, (4, 1)), (2, (1, 1)), (4, (1, 1))]) (stN := [(1, 9223372036854775807), (1, (-108917793694) * r7 - 159561683698 * r8)]) (hsN := [(8, [(4, 2), (4, 3)], []), (101, [], [0, r7, r8, 0, 0, 0]), jgh, jgh]) (c1 := 0) (s1 := 0) (c2 := 0) (s2 := 0) (by exact rfl) ?_ (by omega) (by omega)
          refine jT_xlload (v := (1, 1)) (pcN := 70) jIQ_45_68 rfl rfl rfl ?_
          refine jT_ldiv (a := 9223372036854775807) (b := 1) (by rfl) (by rfl) (by decide +kernel) (by decide +kernel) (by decide) ?_
          refine jT_eq (LN := [(8, (1, 108917793695 * r7 + 159561683699 * r8)), (6, (1, r7 + r8)), (0, (4, 0)), (1, (4, 1)), (2, (1, 1)), (4, (1, 1))]) (stN := [(1, 9223372036854775807), (1, (-108917793694) * r7 - 159561683698 * r8)]) (hsN := [(8, [(4, 2), (4, 3)], []), (101, [], [0, r7, r8, 0, 0, 0]), jgh, jgh]) rfl (by rw [show (9223372036854775807 : Int).tdiv 1 = 9223372036854775807 by decide +kernel]) rfl ?_
          refine jT_lcmp (a := (-108917793694) * r7 - 159561683698 * r8) (b := 9223372036854775807) (z := (-1)) (by rfl) (by rfl) (jwl_idd (by omega) (by omega)) (jwl_idd (by omega) (by omega)) (by rw [decide_eq_false (show ¬ ((9223372036854775807 : Int) < (-108917793694) * r7 - 159561683698 * r8) by omega), decide_eq_false (show ¬ (((-108917793694) * r7 - 159561683698 * r8 : Int) = 9223372036854775807) by omega)]; rfl) ?_
          refine jT_xifF (t := 120) (pcN := 75) jIQ_45_72 rfl (by decide +kernel) rfl rfl ?_
          refine jT_xlload (v := (1, 108917793695 * r7 + 159561683699 * r8)) (pcN := 77) jIQ_45_75 rfl rfl rfl ?_
          refine jT_xlload (v := (1, r7 + r8)) (pcN := 79) jIQ_45_77 rfl rfl rfl ?_
          refine jT_xlsub (x := 108917793695 * r7 + 159561683699 * r8) (y := r7 + r8) (z := 108917793694 * r7 + 159561683698 * r8) (pcN := 80) jIQ_45_79 rfl (by omega) rfl ?_
          refine jT_xlload (v := (1, 1)) (pcN := 82) jIQ_45_80 rfl rfl rfl ?_
          refine jT_xlmul (x := 108917793694 * r7 + 159561683698 * r8) (y := 1) (z := 108917793694 * r7 + 159561683698 * r8) (pcN := 83) jIQ_45_82 rfl (by omega) rfl ?_
          refine jT_xlload_n (v := (1, 1)) (pcN := 84) jIQ_45_83 rfl rfl rfl ?_
          refine jT_xbipush (k := 36) (pcN := 86) jIQ_45_84 (by decide) rfl ?_
          refine jT_lshl (x := 1) (y := 36) (z := 68719476736) (by rfl) (by rfl) (by decide +kernel) ?_
          refine jT_callA [] (y := 373) (pcN := 90) (dC := 0) (bc1 := 0) (bc2 := 0) (c1 := 0) (c2 := 0) (as := [(1, 108917793694 * r7 + 159561683698 * r8), (1, 68719476736)]) (asC := [(1, 108917793694 * r7 + 159561683698 * r8), (1, 68719476736)]) (LN := [(8, (1, 108917793695 * r7 + 159561683699 * r8)), (6, (1, r7 + r8)), (0, (4, 0)), (1, (4, 1)), (2, (1, 1)), (4, (1, 1))]) (stN := []) (hsC := []) (ex := []) (v := (1, (108917793695 * r7 + 159561683699 * r8) / 68719476736)) (st2 := [(1, (108917793695 * r7 + 159561683699 * r8) / 68719476736)]) (hs2 := [(8, [(4, 2), (4, 3)], []), (101, [], [0, r7, r8, 0, 0, 0]), jgh, jgh]) (jT_fdJK2 (d := 0) (x := 108917793694 * r7 + 159561683698 * r8) (y := 108917793695 * r7 + 159561683699 * r8) (by omega) (jcf (b := r7) (c := r8) (by omega) (by omega) (by omega) (by omega))) (by rfl) (by rfl) (by rfl) (by rfl) trivial (by rfl) (by rfl) (by omega) (by show 4 ≤ 4; omega) (by omega) (by omega) rfl rfl ?_
          have hb_q1 : (-60) ≤ (108917793695 * r7 + 159561683699 * r8) / 68719476736 ∧ (108917793695 * r7 + 159561683699 * r8) / 68719476736 ≤ 60 := ⟨by omega, by omega⟩
          generalize hq_q1 : (108917793695 * r7 + 159561683699 * r8) / 68719476736 = q1 at hb_q1 ⊢
          refine jT_xlstore (v := (1, q1)) (LN := [(10, (1, q1)), (8, (1, 108917793695 * r7 + 159561683699 * r8)), (6, (1, r7 + r8)), (0, (4, 0)), (1, (4, 1)), (2, (1, 1)), (4, (1, 1))]) (pcN := 92) jIQ_45_90 rfl rfl rfl rfl ?_
          refine jT_xlload (v := (1, 108917793695 * r7 + 159561683699 * r8)) (pcN := 94) jIQ_45_92 rfl rfl rfl ?_
          refine jT_xlload (v := (1, r7 + r8)) (pcN := 96) jIQ_45_94 rfl rfl rfl ?_
          refine jT_xladd (x := 108917793695 * r7 + 159561683699 * r8) (y := r7 + r8) (z := 108917793696 * r7 + 159561683700 * r8) (pcN := 97) jIQ_45_96 rfl (by omega) rfl ?_
          refine jT_xlload (v := (1, 1)) (pcN := 99) jIQ_45_97 rfl rfl rfl ?_
          refine jT_xlmul (x := 108917793696 * r7 + 159561683700 * r8) (y := 1) (z := 108917793696 * r7 + 159561683700 * r8) (pcN := 100) jIQ_45_99 rfl (by omega) rfl ?_
          refine jT_xlload_n (v := (1, 1)) (pcN := 101) jIQ_45_100 rfl rfl rfl ?_
          refine jT_xbipush (k := 36) (pcN := 103) jIQ_45_101 (by decide) rfl ?_
          refine jT_lshl (x := 1) (y := 36) (z := 68719476736) (by rfl) (by rfl) (by decide +kernel) ?_
          refine jT_callA [] (y := 373) (pcN := 107) (dC := 0) (bc1 := 0) (bc2 := 0) (c1 := 0) (c2 := 0) (as := [(1, 108917793696 * r7 + 159561683700 * r8), (1, 68719476736)]) (asC := [(1, 108917793696 * r7 + 159561683700 * r8), (1, 68719476736)]) (LN := [(10, (1, q1)), (8, (1, 108917793695 * r7 + 159561683699 * r8)), (6, (1, r7 + r8)), (0, (4, 0)), (1, (4, 1)), (2, (1, 1)), (4, (1, 1))]) (stN := []) (hsC := []) (ex := []) (v := (1, (108917793695 * r7 + 159561683699 * r8) / 68719476736)) (st2 := [(1, (108917793695 * r7 + 159561683699 * r8) / 68719476736)]) (hs2 := [(8, [(4, 2), (4, 3)], []), (101, [], [0, r7, r8, 0, 0, 0]), jgh, jgh]) (jT_fdJK2 (d := 0) (x := 108917793696 * r7 + 159561683700 * r8) (y := 108917793695 * r7 + 159561683699 * r8) (by omega) (jcf (b := r7) (c := r8) (by omega) (by omega) (by omega) (by omega))) (by rfl) (by rfl) (by rfl) (by rfl) trivial (by rfl) (by rfl) (by omega) (by show 4 ≤ 4; omega) (by omega) (by omega) rfl rfl ?_
          rw [hq_q1]
          refine jT_xlstore (v := (1, q1)) (LN := [(12, (1, q1)), (10, (1, q1)), (8, (1, 108917793695 * r7 + 159561683699 * r8)), (6, (1, r7 + r8)), (0, (4, 0)), (1, (4, 1)), (2, (1, 1)), (4, (1, 1))]) (pcN := 109) jIQ_45_107 rfl rfl rfl rfl ?_
          refine jT_xlload (v := (1, q1)) (pcN := 111) jIQ_45_109 rfl rfl rfl ?_
          refine jT_xlload (v := (1, q1)) (pcN := 113) jIQ_45_111 rfl rfl rfl ?_
          refine jT_lcmp (a := q1) (b := q1) (z := 0) (by rfl) (by rfl) (jwl_idd (by omega) (by omega)) (jwl_idd (by omega) (by omega)) (by rw [decide_eq_false (show ¬ ((q1 : Int) < q1) by omega), decide_eq_true (show (q1 : Int) = q1 by omega)]; rfl) ?_
          refine jT_xifF (t := 120) (pcN := 117) jIQ_45_114 rfl (by decide +kernel) rfl rfl ?_
          refine jT_xlload (v := (1, q1)) (pcN := 119) jIQ_45_117 rfl rfl rfl ?_
          exact jT_ret rfl (by decide) (by show 4 ≤ 4; decide) (by omega) (by omega) ⟨rfl, by rw [hq_q1], rfl⟩
      · refine jT_xlload_n (v := (1, 1)) (pcN := 1) jIQ_45_0 rfl rfl rfl ?_
        refine jT_xlconst (z := 1) (pcN := 2) jIQ_45_1 rfl rfl ?_
        refine jT_lcmp (a := 1) (b := 1) (z := 0) (by rfl) (by rfl) (by decide +kernel) (by decide +kernel) (by decide) ?_
        refine jT_xifF (t := 13) (pcN := 6) jIQ_45_3 rfl (by decide +kernel) rfl rfl ?_
        refine jT_xlload (v := (1, 1)) (pcN := 8) jIQ_45_6 rfl rfl rfl ?_
        refine jT_xlconst (z := 1) (pcN := 9) jIQ_45_8 rfl rfl ?_
        refine jT_lcmp (a := 1) (b := 1) (z := 0) (by rfl) (by rfl) (by decide +kernel) (by decide +kernel) (by decide) ?_
        refine jT_xifT (pcN := 15) jIQ_45_10 rfl (by decide +kernel) rfl ?_
        refine jT_xaload_n (v := (4, 0)) (pcN := 16) jIQ_45_15 rfl rfl rfl ?_
        refine jT_xaload_n (v := (4, 1)) (pcN := 17) jIQ_45_16 rfl rfl rfl ?_
        refine jT_callA [0, 1] (y := 39) (pcN := 20) (dC := 0) (bc1 := 0) (bc2 := 0) (c1 := 0) (c2 := 0) (as := [(4, 0), (4, 1)]) (asC := [(4, 0), (4, 1)]) (LN := [(0, (4, 0)), (1, (4, 1)), (2, (1, 1)), (4, (1, 1))]) (stN := []) (hsC := [jgh, (101, [], [0, r7, r8, 0, 0, 0])]) (ex := []) (v := (1, r7 + r8)) (st2 := [(1, r7 + r8)]) (hs2 := [(8, [(4, 2), (4, 3)], []), (101, [], [0, r7, r8, 0, 0, 0]), jgh, jgh]) (jQ_39_68 (d := 0) (by omega) (by omega) (by omega) (by omega) (by omega)) (by rfl) (by rfl) (by rfl) (by rfl) ⟨rfl, rfl, trivial⟩ (by rfl) (by rfl) (by omega) (by show 4 ≤ 4; omega) (by omega) (by omega) rfl rfl ?_
        refine jT_xlstore (v := (1, r7 + r8)) (LN := [(6, (1, r7 + r8)), (0, (4, 0)), (1, (4, 1)), (2, (1, 1)), (4, (1, 1))]) (pcN := 22) jIQ_45_20 rfl rfl rfl rfl ?_
        refine jT_xlload (v := (1, r7 + r8)) (pcN := 24) jIQ_45_22 rfl rfl rfl ?_
        refine jT_xlconst (z := 0) (pcN := 25) jIQ_45_24 rfl rfl ?_
        refine jT_lcmp (a := r7 + r8) (b := 0) (z := 0) (by rfl) (by rfl) (jwl_idd (by omega) (by omega)) (jwl_idd (by omega) (by omega)) (by rw [decide_eq_false (show ¬ ((0 : Int) < r7 + r8) by omega), decide_eq_true (show (r7 + r8 : Int) = 0 by omega)]; rfl) ?_
        refine jT_xifF (t := 40) (pcN := 29) jIQ_45_26 rfl (by decide +kernel) rfl rfl ?_
        refine jT_xaload_n (v := (4, 1)) (pcN := 30) jIQ_45_29 rfl rfl rfl ?_
        refine jT_xiconst (k := 0) (pcN := 31) jIQ_45_30 rfl ?_
        refine jT_lald (x := 0) (a := 1) (j := 0) (fs := []) (X := [0, r7, r8, 0, 0, 0]) jIQ_45_31 rfl rfl rfl rfl ?_
        refine jT_eq (LN := [(6, (1, r7 + r8)), (0, (4, 0)), (1, (4, 1)), (2, (1, 1)), (4, (1, 1))]) (stN := [(1, 0)]) (hsN := [(8, [(4, 2), (4, 3)], []), (101, [], [0, r7, r8, 0, 0, 0]), jgh, jgh]) rfl rfl rfl ?_
        refine jT_xlload (v := (1, 1)) (pcN := 34) jIQ_45_32 rfl rfl rfl ?_
        refine jT_xlmul (x := 0) (y := 1) (z := 0) (pcN := 35) jIQ_45_34 rfl (by decide) rfl ?_
        refine jT_xlload_n (v := (1, 1)) (pcN := 36) jIQ_45_35 rfl rfl rfl ?_
        refine jT_callA [] (y := 373) (pcN := 39) (dC := 0) (bc1 := 0) (bc2 := 0) (c1 := 0) (c2 := 0) (as := [(1, 0), (1, 1)]) (asC := [(1, 0), (1, 1)]) (LN := [(6, (1, r7 + r8)), (0, (4, 0)), (1, (4, 1)), (2, (1, 1)), (4, (1, 1))]) (stN := []) (hsC := []) (ex := []) (v := (1, 0)) (st2 := [(1, 0)]) (hs2 := [(8, [(4, 2), (4, 3)], []), (101, [], [0, r7, r8, 0, 0, 0]), jgh, jgh]) (jQ_373_69 (d := 0)) (by rfl) (by rfl) (by rfl) (by rfl) trivial (by rfl) (by rfl) (by omega) (by show 4 ≤ 4; omega) (by omega) (by omega) rfl rfl ?_
        exact jT_ret rfl (by decide) (by show 4 ≤ 4; decide) (by omega) (by omega) ⟨rfl, by rw [show ((108917793695 * r7 + 159561683699 * r8) / 68719476736 : Int) = 0 by omega], rfl⟩
    · rcases (show (0 ≤ 108917793695 * r7 + 159561683699 * r8) ∨ (108917793695 * r7 + 159561683699 * r8 < 0) by omega) with g_2 | g_2
      · refine jT_xlload_n (v := (1, 1)) (pcN := 1) jIQ_45_0 rfl rfl rfl ?_
        refine jT_xlconst (z := 1) (pcN := 2) jIQ_45_1 rfl rfl ?_
        refine jT_lcmp (a := 1) (b := 1) (z := 0) (by rfl) (by rfl) (by decide +kernel) (by decide +kernel) (by decide) ?_
        refine jT_xifF (t := 13) (pcN := 6) jIQ_45_3 rfl (by decide +kernel) rfl rfl ?_
        refine jT_xlload (v := (1, 1)) (pcN := 8) jIQ_45_6 rfl rfl rfl ?_
        refine jT_xlconst (z := 1) (pcN := 9) jIQ_45_8 rfl rfl ?_
        refine jT_lcmp (a := 1) (b := 1) (z := 0) (by rfl) (by rfl) (by decide +kernel) (by decide +kernel) (by decide) ?_
        refine jT_xifT (pcN := 15) jIQ_45_10 rfl (by decide +kernel) rfl ?_
        refine jT_xaload_n (v := (4, 0)) (pcN := 16) jIQ_45_15 rfl rfl rfl ?_
        refine jT_xaload_n (v := (4, 1)) (pcN := 17) jIQ_45_16 rfl rfl rfl ?_
        refine jT_callA [0, 1] (y := 39) (pcN := 20) (dC := 0) (bc1 := 0) (bc2 := 0) (c1 := 0) (c2 := 0) (as := [(4, 0), (4, 1)]) (asC := [(4, 0), (4, 1)]) (LN := [(0, (4, 0)), (1, (4, 1)), (2, (1, 1)), (4, (1, 1))]) (stN := []) (hsC := [jgh, (101, [], [0, r7, r8, 0, 0, 0])]) (ex := []) (v := (1, r7 - r8)) (st2 := [(1, r7 - r8)]) (hs2 := [(8, [(4, 2), (4, 3)], []), (101, [], [0, r7, r8, 0, 0, 0]), jgh, jgh]) (jQ_39_64 (d := 0) (by omega) (by omega) (by omega) (by omega) (by omega)) (by rfl) (by rfl) (by rfl) (by rfl) ⟨rfl, rfl, trivial⟩ (by rfl) (by rfl) (by omega) (by show 4 ≤ 4; omega) (by omega) (by omega) rfl rfl ?_
        refine jT_xlstore (v := (1, r7 - r8)) (LN := [(6, (1, r7 - r8)), (0, (4, 0)), (1, (4, 1)), (2, (1, 1)), (4, (1, 1))]) (pcN := 22) jIQ_45_20 rfl rfl rfl rfl ?_
        refine jT_xlload (v := (1, r7 - r8)) (pcN := 24) jIQ_45_22 rfl rfl rfl ?_
        refine jT_xlconst (z := 0) (pcN := 25) jIQ_45_24 rfl rfl ?_
        refine jT_lcmp (a := r7 - r8) (b := 0) (z := 1) (by rfl) (by rfl) (jwl_idd (by omega) (by omega)) (jwl_idd (by omega) (by omega)) (by rw [decide_eq_true (show (0 : Int) < r7 - r8 by omega)]; rfl) ?_
        refine jT_xifT (pcN := 40) jIQ_45_26 rfl (by decide +kernel) rfl ?_
        refine jT_xaload_n (v := (4, 0)) (pcN := 41) jIQ_45_40 rfl rfl rfl ?_
        refine jT_xaload_n (v := (4, 1)) (pcN := 42) jIQ_45_41 rfl rfl rfl ?_
        refine jT_xlload (v := (1, r7 - r8)) (pcN := 44) jIQ_45_42 rfl rfl rfl ?_
        refine jT_callA [0, 1] (y := 40) (pcN := 47) (dC := 0) (bc1 := 0) (bc2 := 0) (c1 := 0) (c2 := 0) (as := [(4, 0), (4, 1), (1, r7 - r8)]) (asC := [(4, 0), (4, 1), (1, r7 - r8)]) (LN := [(6, (1, r7 - r8)), (0, (4, 0)), (1, (4, 1)), (2, (1, 1)), (4, (1, 1))]) (stN := []) (hsC := [jgh, (101, [], [0, r7, r8, 0, 0, 0])]) (ex := []) (v := (0, 1)) (st2 := [(0, 1)]) (hs2 := [(8, [(4, 2), (4, 3)], []), (101, [], [0, r7, r8, 0, 0, 0]), jgh, jgh]) (jQ_40_65 (d := 0) (by omega) (by omega) (by omega) (by omega) (by omega)) (by rfl) (by rfl) (by rfl) (by rfl) ⟨rfl, rfl, trivial⟩ (by rfl) (by rfl) (by omega) (by show 4 ≤ 4; omega) (by omega) (by omega) rfl rfl ?_
        refine jT_xifF (t := 120) (pcN := 50) jIQ_45_47 rfl (by decide +kernel) rfl rfl ?_
        refine jT_xaload_n (v := (4, 0)) (pcN := 51) jIQ_45_50 rfl rfl rfl ?_
        refine jT_xaload_n (v := (4, 1)) (pcN := 52) jIQ_45_51 rfl rfl rfl ?_
        refine jT_callA [0, 1] (y := 41) (pcN := 55) (dC := 0) (bc1 := 0) (bc2 := 0) (c1 := 0) (c2 := 0) (as := [(4, 0), (4, 1)]) (asC := [(4, 0), (4, 1)]) (LN := [(6, (1, r7 - r8)), (0, (4, 0)), (1, (4, 1)), (2, (1, 1)), (4, (1, 1))]) (stN := []) (hsC := [jgh, (101, [], [0, r7, r8, 0, 0, 0])]) (ex := []) (v := (1, 108917793695 * r7 + 159561683699 * r8)) (st2 := [(1, 108917793695 * r7 + 159561683699 * r8)]) (hs2 := [(8, [(4, 2), (4, 3)], []), (101, [], [0, r7, r8, 0, 0, 0]), jgh, jgh]) (jQ_41_66 (d := 0) (by omega) (by omega) (by omega) (by omega) (by omega)) (by rfl) (by rfl) (by rfl) (by rfl) ⟨rfl, rfl, trivial⟩ (by rfl) (by rfl) (by omega) (by show 4 ≤ 4; omega) (by omega) (by omega) rfl rfl ?_
        refine jT_xlstore (v := (1, 108917793695 * r7 + 159561683699 * r8)) (LN := [(8, (1, 108917793695 * r7 + 159561683699 * r8)), (6, (1, r7 - r8)), (0, (4, 0)), (1, (4, 1)), (2, (1, 1)), (4, (1, 1))]) (pcN := 57) jIQ_45_55 rfl rfl rfl rfl ?_
        refine jT_xlload (v := (1, 108917793695 * r7 + 159561683699 * r8)) (pcN := 59) jIQ_45_57 rfl rfl rfl ?_
        refine jT_labs (z := 108917793695 * r7 + 159561683699 * r8) (by rfl) (by rfl) (by rfl) (by rfl) (by rw [show jwl (108917793695 * r7 + 159561683699 * r8) = 108917793695 * r7 + 159561683699 * r8 from jwl_idd (by omega) (by omega), decide_eq_false (by omega)]; first | (simp only [cond_true, cond_false]; done) | (simp only [cond_true, cond_false]; omega) | rfl) ?_
        refine jT_xlload (v := (1, r7 - r8)) (pcN := 64) jIQ_45_62 rfl rfl rfl ?_
        refine jT_xladd (x := 108917793695 * r7 + 159561683699 * r8) (y := r7 - r8) (z := 108917793696 * r7 + 159561683698 * r8) (pcN := 65) jIQ_45_64 rfl (by omega) rfl ?_
        refine jT_adv 1 (pcN := 68) (LN := [(8, (1, 108917793695 * r7 + 159561683699 * r8)), (6, (1, r7 - r8)), (0, (4, 0)), (1, (4, 1)), (2, (1, 1)), (4, (1, 1))]) (stN := [(1, 9223372036854775807), (1, 108917793696 * r7 + 159561683698 * r8)]) (hsN := [(8, [(4, 2), (4, 3)], []), (101, [], [0, r7, r8, 0, 0, 0]), jgh, jgh]) (c1 := 0) (s1 := 0) (c2 := 0) (s2 := 0) (by exact rfl) ?_ (by omega) (by omega)
        refine jT_xlload (v := (1, 1)) (pcN := 70) jIQ_45_68 rfl rfl rfl ?_
        refine jT_ldiv (a := 9223372036854775807) (b := 1) (by rfl) (by rfl) (by decide +kernel) (by decide +kernel) (by decide) ?_
        refine jT_eq (LN := [(8, (1, 108917793695 * r7 + 159561683699 * r8)), (6, (1, r7 - r8)), (0, (4, 0)), (1, (4, 1)), (2, (1, 1)), (4, (1, 1))]) (stN := [(1, 9223372036854775807), (1, 108917793696 * r7 + 159561683698 * r8)]) (hsN := [(8, [(4, 2), (4, 3)], []), (101, [], [0, r7, r8, 0, 0, 0]), jgh, jgh]) rfl (by rw [show (9223372036854775807 : Int).tdiv 1 = 9223372036854775807 by decide +kernel]) rfl ?_
        refine jT_lcmp (a := 108917793696 * r7 + 159561683698 * r8) (b := 9223372036854775807) (z := (-1)) (by rfl) (by rfl) (jwl_idd (by omega) (by omega)) (jwl_idd (by omega) (by omega)) (by rw [decide_eq_false (show ¬ ((9223372036854775807 : Int) < 108917793696 * r7 + 159561683698 * r8) by omega), decide_eq_false (show ¬ ((108917793696 * r7 + 159561683698 * r8 : Int) = 9223372036854775807) by omega)]; rfl) ?_
        refine jT_xifF (t := 120) (pcN := 75) jIQ_45_72 rfl (by decide +kernel) rfl rfl ?_
        refine jT_xlload (v := (1, 108917793695 * r7 + 159561683699 * r8)) (pcN := 77) jIQ_45_75 rfl rfl rfl ?_
        refine jT_xlload (v := (1, r7 - r8)) (pcN := 79) jIQ_45_77 rfl rfl rfl ?_
        refine jT_xlsub (x := 108917793695 * r7 + 159561683699 * r8) (y := r7 - r8) (z := 108917793694 * r7 + 159561683700 * r8) (pcN := 80) jIQ_45_79 rfl (by omega) rfl ?_
        refine jT_xlload (v := (1, 1)) (pcN := 82) jIQ_45_80 rfl rfl rfl ?_
        refine jT_xlmul (x := 108917793694 * r7 + 159561683700 * r8) (y := 1) (z := 108917793694 * r7 + 159561683700 * r8) (pcN := 83) jIQ_45_82 rfl (by omega) rfl ?_
        refine jT_xlload_n (v := (1, 1)) (pcN := 84) jIQ_45_83 rfl rfl rfl ?_
        refine jT_xbipush (k := 36) (pcN := 86) jIQ_45_84 (by decide) rfl ?_
        refine jT_lshl (x := 1) (y := 36) (z := 68719476736) (by rfl) (by rfl) (by decide +kernel) ?_
        refine jT_callA [] (y := 373) (pcN := 90) (dC := 0) (bc1 := 0) (bc2 := 0) (c1 := 0) (c2 := 0) (as := [(1, 108917793694 * r7 + 159561683700 * r8), (1, 68719476736)]) (asC := [(1, 108917793694 * r7 + 159561683700 * r8), (1, 68719476736)]) (LN := [(8, (1, 108917793695 * r7 + 159561683699 * r8)), (6, (1, r7 - r8)), (0, (4, 0)), (1, (4, 1)), (2, (1, 1)), (4, (1, 1))]) (stN := []) (hsC := []) (ex := []) (v := (1, (108917793695 * r7 + 159561683699 * r8) / 68719476736)) (st2 := [(1, (108917793695 * r7 + 159561683699 * r8) / 68719476736)]) (hs2 := [(8, [(4, 2), (4, 3)], []), (101, [], [0, r7, r8, 0, 0, 0]), jgh, jgh]) (jT_fdJK2 (d := 0) (x := 108917793694 * r7 + 159561683700 * r8) (y := 108917793695 * r7 + 159561683699 * r8) (by omega) (jcf (b := r7) (c := r8) (by omega) (by omega) (by omega) (by omega))) (by rfl) (by rfl) (by rfl) (by rfl) trivial (by rfl) (by rfl) (by omega) (by show 4 ≤ 4; omega) (by omega) (by omega) rfl rfl ?_
        have hb_q1 : (-60) ≤ (108917793695 * r7 + 159561683699 * r8) / 68719476736 ∧ (108917793695 * r7 + 159561683699 * r8) / 68719476736 ≤ 60 := ⟨by omega, by omega⟩
        generalize hq_q1 : (108917793695 * r7 + 159561683699 * r8) / 68719476736 = q1 at hb_q1 ⊢
        refine jT_xlstore (v := (1, q1)) (LN := [(10, (1, q1)), (8, (1, 108917793695 * r7 + 159561683699 * r8)), (6, (1, r7 - r8)), (0, (4, 0)), (1, (4, 1)), (2, (1, 1)), (4, (1, 1))]) (pcN := 92) jIQ_45_90 rfl rfl rfl rfl ?_
        refine jT_xlload (v := (1, 108917793695 * r7 + 159561683699 * r8)) (pcN := 94) jIQ_45_92 rfl rfl rfl ?_
        refine jT_xlload (v := (1, r7 - r8)) (pcN := 96) jIQ_45_94 rfl rfl rfl ?_
        refine jT_xladd (x := 108917793695 * r7 + 159561683699 * r8) (y := r7 - r8) (z := 108917793696 * r7 + 159561683698 * r8) (pcN := 97) jIQ_45_96 rfl (by omega) rfl ?_
        refine jT_xlload (v := (1, 1)) (pcN := 99) jIQ_45_97 rfl rfl rfl ?_
        refine jT_xlmul (x := 108917793696 * r7 + 159561683698 * r8) (y := 1) (z := 108917793696 * r7 + 159561683698 * r8) (pcN := 100) jIQ_45_99 rfl (by omega) rfl ?_
        refine jT_xlload_n (v := (1, 1)) (pcN := 101) jIQ_45_100 rfl rfl rfl ?_
        refine jT_xbipush (k := 36) (pcN := 103) jIQ_45_101 (by decide) rfl ?_
        refine jT_lshl (x := 1) (y := 36) (z := 68719476736) (by rfl) (by rfl) (by decide +kernel) ?_
        refine jT_callA [] (y := 373) (pcN := 107) (dC := 0) (bc1 := 0) (bc2 := 0) (c1 := 0) (c2 := 0) (as := [(1, 108917793696 * r7 + 159561683698 * r8), (1, 68719476736)]) (asC := [(1, 108917793696 * r7 + 159561683698 * r8), (1, 68719476736)]) (LN := [(10, (1, q1)), (8, (1, 108917793695 * r7 + 159561683699 * r8)), (6, (1, r7 - r8)), (0, (4, 0)), (1, (4, 1)), (2, (1, 1)), (4, (1, 1))]) (stN := []) (hsC := []) (ex := []) (v := (1, (108917793695 * r7 + 159561683699 * r8) / 68719476736)) (st2 := [(1, (108917793695 * r7 + 159561683699 * r8) / 68719476736)]) (hs2 := [(8, [(4, 2), (4, 3)], []), (101, [], [0, r7, r8, 0, 0, 0]), jgh, jgh]) (jT_fdJK2 (d := 0) (x := 108917793696 * r7 + 159561683698 * r8) (y := 108917793695 * r7 + 159561683699 * r8) (by omega) (jcf (b := r7) (c := r8) (by omega) (by omega) (by omega) (by omega))) (by rfl) (by rfl) (by rfl) (by rfl) trivial (by rfl) (by rfl) (by omega) (by show 4 ≤ 4; omega) (by omega) (by omega) rfl rfl ?_
        rw [hq_q1]
        refine jT_xlstore (v := (1, q1)) (LN := [(12, (1, q1)), (10, (1, q1)), (8, (1, 108917793695 * r7 + 159561683699 * r8)), (6, (1, r7 - r8)), (0, (4, 0)), (1, (4, 1)), (2, (1, 1)), (4, (1, 1))]) (pcN := 109) jIQ_45_107 rfl rfl rfl rfl ?_
        refine jT_xlload (v := (1, q1)) (pcN := 111) jIQ_45_109 rfl rfl rfl ?_
        refine jT_xlload (v := (1, q1)) (pcN := 113) jIQ_45_111 rfl rfl rfl ?_
        refine jT_lcmp (a := q1) (b := q1) (z := 0) (by rfl) (by rfl) (jwl_idd (by omega) (by omega)) (jwl_idd (by omega) (by omega)) (by rw [decide_eq_false (show ¬ ((q1 : Int) < q1) by omega), decide_eq_true (show (q1 : Int) = q1 by omega)]; rfl) ?_
        refine jT_xifF (t := 120) (pcN := 117) jIQ_45_114 rfl (by decide +kernel) rfl rfl ?_
        refine jT_xlload (v := (1, q1)) (pcN := 119) jIQ_45_117 rfl rfl rfl ?_
        exact jT_ret rfl (by decide) (by show 4 ≤ 4; decide) (by omega) (by omega) ⟨rfl, by rw [hq_q1], rfl⟩
      · refine jT_xlload_n (v := (1, 1)) (pcN := 1) jIQ_45_0 rfl rfl rfl ?_
        refine jT_xlconst (z := 1) (pcN := 2) jIQ_45_1 rfl rfl ?_
        refine jT_lcmp (a := 1) (b := 1) (z := 0) (by rfl) (by rfl) (by decide +kernel) (by decide +kernel) (by decide) ?_
        refine jT_xifF (t := 13) (pcN := 6) jIQ_45_3 rfl (by decide +kernel) rfl rfl ?_
        refine jT_xlload (v := (1, 1)) (pcN := 8) jIQ_45_6 rfl rfl rfl ?_
        refine jT_xlconst (z := 1) (pcN := 9) jIQ_45_8 rfl rfl ?_
        refine jT_lcmp (a := 1) (b := 1) (z := 0) (by rfl) (by rfl) (by decide +kernel) (by decide +kernel) (by decide) ?_
        refine jT_xifT (pcN := 15) jIQ_45_10 rfl (by decide +kernel) rfl ?_
        refine jT_xaload_n (v := (4, 0)) (pcN := 16) jIQ_45_15 rfl rfl rfl ?_
        refine jT_xaload_n (v := (4, 1)) (pcN := 17) jIQ_45_16 rfl rfl rfl ?_
        refine jT_callA [0, 1] (y := 39) (pcN := 20) (dC := 0) (bc1 := 0) (bc2 := 0) (c1 := 0) (c2 := 0) (as := [(4, 0), (4, 1)]) (asC := [(4, 0), (4, 1)]) (LN := [(0, (4, 0)), (1, (4, 1)), (2, (1, 1)), (4, (1, 1))]) (stN := []) (hsC := [jgh, (101, [], [0, r7, r8, 0, 0, 0])]) (ex := []) (v := (1, r7 - r8)) (st2 := [(1, r7 - r8)]) (hs2 := [(8, [(4, 2), (4, 3)], []), (101, [], [0, r7, r8, 0, 0, 0]), jgh, jgh]) (jQ_39_61 (d := 0) (by omega) (by omega) (by omega) (by omega) (by omega)) (by rfl) (by rfl) (by rfl) (by rfl) ⟨rfl, rfl, trivial⟩ (by rfl) (by rfl) (by omega) (by show 4 ≤ 4; omega) (by omega) (by omega) rfl rfl ?_
        refine jT_xlstore (v := (1, r7 - r8)) (LN := [(6, (1, r7 - r8)), (0, (4, 0)), (1, (4, 1)), (2, (1, 1)), (4, (1, 1))]) (pcN := 22) jIQ_45_20 rfl rfl rfl rfl ?_
        refine jT_xlload (v := (1, r7 - r8)) (pcN := 24) jIQ_45_22 rfl rfl rfl ?_
        refine jT_xlconst (z := 0) (pcN := 25) jIQ_45_24 rfl rfl ?_
        refine jT_lcmp (a := r7 - r8) (b := 0) (z := 1) (by rfl) (by rfl) (jwl_idd (by omega) (by omega)) (jwl_idd (by omega) (by omega)) (by rw [decide_eq_true (show (0 : Int) < r7 - r8 by omega)]; rfl) ?_
        refine jT_xifT (pcN := 40) jIQ_45_26 rfl (by decide +kernel) rfl ?_
        refine jT_xaload_n (v := (4, 0)) (pcN := 41) jIQ_45_40 rfl rfl rfl ?_
        refine jT_xaload_n (v := (4, 1)) (pcN := 42) jIQ_45_41 rfl rfl rfl ?_
        refine jT_xlload (v := (1, r7 - r8)) (pcN := 44) jIQ_45_42 rfl rfl rfl ?_
        refine jT_callA [0, 1] (y := 40) (pcN := 47) (dC := 0) (bc1 := 0) (bc2 := 0) (c1 := 0) (c2 := 0) (as := [(4, 0), (4, 1), (1, r7 - r8)]) (asC := [(4, 0), (4, 1), (1, r7 - r8)]) (LN := [(6, (1, r7 - r8)), (0, (4, 0)), (1, (4, 1)), (2, (1, 1)), (4, (1, 1))]) (stN := []) (hsC := [jgh, (101, [], [0, r7, r8, 0, 0, 0])]) (ex := []) (v := (0, 1)) (st2 := [(0, 1)]) (hs2 := [(8, [(4, 2), (4, 3)], []), (101, [], [0, r7, r8, 0, 0, 0]), jgh, jgh]) (jQ_40_62 (d := 0) (by omega) (by omega) (by omega) (by omega) (by omega)) (by rfl) (by rfl) (by rfl) (by rfl) ⟨rfl, rfl, trivial⟩ (by rfl) (by rfl) (by omega) (by show 4 ≤ 4; omega) (by omega) (by omega) rfl rfl ?_
        refine jT_xifF (t := 120) (pcN := 50) jIQ_45_47 rfl (by decide +kernel) rfl rfl ?_
        refine jT_xaload_n (v := (4, 0)) (pcN := 51) jIQ_45_50 rfl rfl rfl ?_
        refine jT_xaload_n (v := (4, 1)) (pcN := 52) jIQ_45_51 rfl rfl rfl ?_
        refine jT_callA [0, 1] (y := 41) (pcN := 55) (dC := 0) (bc1 := 0) (bc2 := 0) (c1 := 0) (c2 := 0) (as := [(4, 0), (4, 1)]) (asC := [(4, 0), (4, 1)]) (LN := [(6, (1, r7 - r8)), (0, (4, 0)), (1, (4, 1)), (2, (1, 1)), (4, (1, 1))]) (stN := []) (hsC := [jgh, (101, [], [0, r7, r8, 0, 0, 0])]) (ex := []) (v := (1, 108917793695 * r7 + 159561683699 * r8)) (st2 := [(1, 108917793695 * r7 + 159561683699 * r8)]) (hs2 := [(8, [(4, 2), (4, 3)], []), (101, [], [0, r7, r8, 0, 0, 0]), jgh, jgh]) (jQ_41_63 (d := 0) (by omega) (by omega) (by omega) (by omega) (by omega)) (by rfl) (by rfl) (by rfl) (by rfl) ⟨rfl, rfl, trivial⟩ (by rfl) (by rfl) (by omega) (by show 4 ≤ 4; omega) (by omega) (by omega) rfl rfl ?_
        refine jT_xlstore (v := (1, 108917793695 * r7 + 159561683699 * r8)) (LN := [(8, (1, 108917793695 * r7 + 159561683699 * r8)), (6, (1, r7 - r8)), (0, (4, 0)), (1, (4, 1)), (2, (1, 1)), (4, (1, 1))]) (pcN := 57) jIQ_45_55 rfl rfl rfl rfl ?_
        refine jT_xlload (v := (1, 108917793695 * r7 + 159561683699 * r8)) (pcN := 59) jIQ_45_57 rfl rfl rfl ?_
        refine jT_labs (z := (-108917793695) * r7 - 159561683699 * r8) (by rfl) (by rfl) (by rfl) (by rfl) (by rw [show jwl (108917793695 * r7 + 159561683699 * r8) = 108917793695 * r7 + 159561683699 * r8 from jwl_idd (by omega) (by omega), decide_eq_true (by omega)]; first | (simp only [cond_true, cond_false]; done) | (simp only [cond_true, cond_false]; omega) | rfl) ?_
        refine jT_xlload (v := (1, r7 - r8)) (pcN := 64) jIQ_45_62 rfl rfl rfl ?_
        refine jT_xladd (x := (-108917793695) * r7 - 159561683699 * r8) (y := r7 - r8) (z := (-108917793694) * r7 - 159561683700 * r8) (pcN := 65) jIQ_45_64 rfl (by omega) rfl ?_
        refine jT_adv 1 (pcN := 68) (LN := [(8, (1, 108917793695 * r7 + 159561683699 * r8)), (6, (1, r7 - r8)), (0, (4, 0)), (1, (4, 1)), (2, (1, 1)), (4, (1, 1))]) (stN := [(1, 9223372036854775807), (1, (-108917793694) * r7 - 159561683700 * r8)]) (hsN := [(8, [(4, 2), (4, 3)], []), (101, [], [0, r7, r8, 0, 0, 0]), jgh, jgh]) (c1 := 0) (s1 := 0) (c2 := 0) (s2 := 0) (by exact rfl) ?_ (by omega) (by omega)
        refine jT_xlload (v := (1, 1)) (pcN := 70) jIQ_45_68 rfl rfl rfl ?_
        refine jT_ldiv (a := 9223372036854775807) (b := 1) (by rfl) (by rfl) (by decide +kernel) (by decide +kernel) (by decide) ?_
        refine jT_eq (LN := [(8, (1, 108917793695 * r7 + 159561683699 * r8)), (6, (1, r7 - r8)), (0, (4, 0)), (1, (4, 1)), (2, (1, 1)), (4, (1, 1))]) (stN := [(1, 9223372036854775807), (1, (-108917793694) * r7 - 159561683700 * r8)]) (hsN := [(8, [(4, 2), (4, 3)], []), (101, [], [0, r7, r8, 0, 0, 0]), jgh, jgh]) rfl (by rw [show (9223372036854775807 : Int).tdiv 1 = 9223372036854775807 by decide +kernel]) rfl ?_
        refine jT_lcmp (a := (-108917793694) * r7 - 159561683700 * r8) (b := 9223372036854775807) (z := (-1)) (by rfl) (by rfl) (jwl_idd (by omega) (by omega)) (jwl_idd (by omega) (by omega)) (by rw [decide_eq_false (show ¬ ((9223372036854775807 : Int) < (-108917793694) * r7 - 159561683700 * r8) by omega), decide_eq_false (show ¬ (((-108917793694) * r7 - 159561683700 * r8 : Int) = 9223372036854775807) by omega)]; rfl) ?_
        refine jT_xifF (t := 120) (pcN := 75) jIQ_45_72 rfl (by decide +kernel) rfl rfl ?_
        refine jT_xlload (v := (1, 108917793695 * r7 + 159561683699 * r8)) (pcN := 77) jIQ_45_75 rfl rfl rfl ?_
        refine jT_xlload (v := (1, r7 - r8)) (pcN := 79) jIQ_45_77 rfl rfl rfl ?_
        refine jT_xlsub (x := 108917793695 * r7 + 159561683699 * r8) (y := r7 - r8) (z := 108917793694 * r7 + 159561683700 * r8) (pcN := 80) jIQ_45_79 rfl (by omega) rfl ?_
        refine jT_xlload (v := (1, 1)) (pcN := 82) jIQ_45_80 rfl rfl rfl ?_
        refine jT_xlmul (x := 108917793694 * r7 + 159561683700 * r8) (y := 1) (z := 108917793694 * r7 + 159561683700 * r8) (pcN := 83) jIQ_45_82 rfl (by omega) rfl ?_
        refine jT_xlload_n (v := (1, 1)) (pcN := 84) jIQ_45_83 rfl rfl rfl ?_
        refine jT_xbipush (k := 36) (pcN := 86) jIQ_45_84 (by decide) rfl ?_
        refine jT_lshl (x := 1) (y := 36) (z := 68719476736) (by rfl) (by rfl) (by decide +kernel) ?_
        refine jT_callA [] (y := 373) (pcN := 90) (dC := 0) (bc1 := 0) (bc2 := 0) (c1 := 0) (c2 := 0) (as := [(1, 108917793694 * r7 + 159561683700 * r8), (1, 68719476736)]) (asC := [(1, 108917793694 * r7 + 159561683700 * r8), (1, 68719476736)]) (LN := [(8, (1, 108917793695 * r7 + 159561683699 * r8)), (6, (1, r7 - r8)), (0, (4, 0)), (1, (4, 1)), (2, (1, 1)), (4, (1, 1))]) (stN := []) (hsC := []) (ex := []) (v := (1, (108917793695 * r7 + 159561683699 * r8) / 68719476736)) (st2 := [(1, (108917793695 * r7 + 159561683699 * r8) / 68719476736)]) (hs2 := [(8, [(4, 2), (4, 3)], []), (101, [], [0, r7, r8, 0, 0, 0]), jgh, jgh]) (jT_fdJK2 (d := 0) (x := 108917793694 * r7 + 159561683700 * r8) (y := 108917793695 * r7 + 159561683699 * r8) (by omega) (jcf (b := r7) (c := r8) (by omega) (by omega) (by omega) (by omega))) (by rfl) (by rfl) (by rfl) (by rfl) trivial (by rfl) (by rfl) (by omega) (by show 4 ≤ 4; omega) (by omega) (by omega) rfl rfl ?_
        have hb_q1 : (-60) ≤ (108917793695 * r7 + 159561683699 * r8) / 68719476736 ∧ (108917793695 * r7 + 159561683699 * r8) / 68719476736 ≤ 60 := ⟨by omega, by omega⟩
        generalize hq_q1 : (108917793695 * r7 + 159561683699 * r8) / 68719476736 = q1 at hb_q1 ⊢
        refine jT_xlstore (v := (1, q1)) (LN := [(10, (1, q1)), (8, (1, 108917793695 * r7 + 159561683699 * r8)), (6, (1, r7 - r8)), (0, (4, 0)), (1, (4, 1)), (2, (1, 1)), (4, (1, 1))]) (pcN := 92) jIQ_45_90 rfl rfl rfl rfl ?_
        refine jT_xlload (v := (1, 108917793695 * r7 + 159561683699 * r8)) (pcN := 94) jIQ_45_92 rfl rfl rfl ?_
        refine jT_xlload (v := (1, r7 - r8)) (pcN := 96) jIQ_45_94 rfl rfl rfl ?_
        refine jT_xladd (x := 108917793695 * r7 + 159561683699 * r8) (y := r7 - r8) (z := 108917793696 * r7 + 159561683698 * r8) (pcN := 97) jIQ_45_96 rfl (by omega) rfl ?_
        refine jT_xlload (v := (1, 1)) (pcN := 99) jIQ_45_97 rfl rfl rfl ?_
        refine jT_xlmul (x := 108917793696 * r7 + 159561683698 * r8) (y := 1) (z := 108917793696 * r7 + 159561683698 * r8) (pcN := 100) jIQ_45_99 rfl (by omega) rfl ?_
        refine jT_xlload_n (v := (1, 1)) (pcN := 101) jIQ_45_100 rfl rfl rfl ?_
        refine jT_xbipush (k := 36) (pcN := 103) jIQ_45_101 (by decide) rfl ?_
        refine jT_lshl (x := 1) (y := 36) (z := 68719476736) (by rfl) (by rfl) (by decide +kernel) ?_
        refine jT_callA [] (y := 373) (pcN := 107) (dC := 0) (bc1 := 0) (bc2 := 0) (c1 := 0) (c2 := 0) (as := [(1, 108917793696 * r7 + 159561683698 * r8), (1, 68719476736)]) (asC := [(1, 108917793696 * r7 + 159561683698 * r8), (1, 68719476736)]) (LN := [(10, (1, q1)), (8, (1, 108917793695 * r7 + 159561683699 * r8)), (6, (1, r7 - r8)), (0, (4, 0)), (1, (4, 1)), (2, (1, 1)), (4, (1, 1))]) (stN := []) (hsC := []) (ex := []) (v := (1, (108917793695 * r7 + 159561683699 * r8) / 68719476736)) (st2 := [(1, (108917793695 * r7 + 159561683699 * r8) / 68719476736)]) (hs2 := [(8, [(4, 2), (4, 3)], []), (101, [], [0, r7, r8, 0, 0, 0]), jgh, jgh]) (jT_fdJK2 (d := 0) (x := 108917793696 * r7 + 159561683698 * r8) (y := 108917793695 * r7 + 159561683699 * r8) (by omega) (jcf (b := r7) (c := r8) (by omega) (by omega) (by omega) (by omega))) (by rfl) (by rfl) (by rfl) (by rfl) trivial (by rfl) (by rfl) (by omega) (by show 4 ≤ 4; omega) (by omega) (by omega) rfl rfl ?_
        rw [hq_q1]
        refine jT_xlstore (v := (1, q1)) (LN := [(12, (1, q1)), (10, (1, q1)), (8, (1, 108917793695 * r7 + 159561683699 * r8)), (6, (1, r7 - r8)), (0, (4, 0)), (1, (4, 1)), (2, (1, 1)), (4, (1, 1))]) (pcN := 109) jIQ_45_107 rfl rfl rfl rfl ?_
        refine jT_xlload (v := (1, q1)) (pcN := 111) jIQ_45_109 rfl rfl rfl ?_
        refine jT_xlload (v := (1, q1)) (pcN := 113) jIQ_45_111 rfl rfl rfl ?_
        refine jT_lcmp (a := q1) (b := q1) (z := 0) (by rfl) (by rfl) (jwl_idd (by omega) (by omega)) (jwl_idd (by omega) (by omega)) (by rw [decide_eq_false (show ¬ ((q1 : Int) < q1) by omega), decide_eq_true (show (q1 : Int) = q1 by omega)]; rfl) ?_
        refine jT_xifF (t := 120) (pcN := 117) jIQ_45_114 rfl (by decide +kernel) rfl rfl ?_
        refine jT_xlload (v := (1, q1)) (pcN := 119) jIQ_45_117 rfl rfl rfl ?_
        exact jT_ret rfl (by decide) (by show 4 ≤ 4; decide) (by omega) (by omega) ⟨rfl, by rw [hq_q1], rfl⟩
  · rcases (show (0 ≤ r8) ∨ (r8 < 0) by omega) with g_1 | g_1
    · rcases (show (0 ≤ 108917793695 * r7 + 159561683699 * r8) ∨ (108917793695 * r7 + 159561683699 * r8 < 0) by omega) with g_2 | g_2
      · refine jT_xlload_n (v := (1, 1)) (pcN := 1) jIQ_45_0 rfl rfl rfl ?_
        refine jT_xlconst (z := 1) (pcN := 2) jIQ_45_1 rfl rfl ?_
        refine jT_lcmp (a := 1) (b := 1) (z := 0) (by rfl) (by rfl) (by decide +kernel) (by decide +kernel) (by decide) ?_
        refine jT_xifF (t := 13) (pcN := 6) jIQ_45_3 rfl (by decide +kernel) rfl rfl ?_
        refine jT_xlload (v := (1, 1)) (pcN := 8) jIQ_45_6 rfl rfl rfl ?_
        refine jT_xlconst (z := 1) (pcN := 9) jIQ_45_8 rfl rfl ?_
        refine jT_lcmp (a := 1) (b := 1) (z := 0) (by rfl) (by rfl) (by decide +kernel) (by decide +kernel) (by decide) ?_
        refine jT_xifT (pcN := 15) jIQ_45_10 rfl (by decide +kernel) rfl ?_
        refine jT_xaload_n (v := (4, 0)) (pcN := 16) jIQ_45_15 rfl rfl rfl ?_
        refine jT_xaload_n (v := (4, 1)) (pcN := 17) jIQ_45_16 rfl rfl rfl ?_
        refine jT_callA [0, 1] (y := 39) (pcN := 20) (dC := 0) (bc1 := 0) (bc2 := 0) (c1 := 0) (c2 := 0) (as := [(4, 0), (4, 1)]) (asC := [(4, 0), (4, 1)]) (LN := [(0, (4, 0)), (1, (4, 1)), (2, (1, 1)), (4, (1, 1))]) (stN := []) (hsC := [jgh, (101, [], [0, r7, r8, 0, 0, 0])]) (ex := []) (v := (1, -r7 + r8)) (st2 := [(1, -r7 + r8)]) (hs2 := [(8, [(4, 2), (4, 3)], []), (101, [], [0, r7, r8, 0, 0, 0]), jgh, jgh]) (jQ_39_55 (d := 0) (by omega) (by omega) (by omega) (by omega) (by omega)) (by rfl) (by rfl) (by rfl) (by rfl) ⟨rfl, rfl, trivial⟩ (by rfl) (by rfl) (by omega) (by show 4 ≤ 4; omega) (by omega) (by omega) rfl rfl ?_
        refine jT_xlstore (v := (1, -r7 + r8)) (LN := [(6, (1, -r7 + r8)), (0, (4, 0)), (1, (4, 1)), (2, (1, 1)), (4, (1, 1))]) (pcN := 22) jIQ_45_20 rfl rfl rfl rfl ?_
        refine jT_xlload (v := (1, -r7 + r8)) (pcN := 24) jIQ_45_22 rfl rfl rfl ?_
        refine jT_xlconst (z := 0) (pcN := 25) jIQ_45_24 rfl rfl ?_
        refine jT_lcmp (a := -r7 + r8) (b := 0) (z := 1) (by rfl) (by rfl) (jwl_idd (by omega) (by omega)) (jwl_idd (by omega) (by omega)) (by rw [decide_eq_true (show (0 : Int) < -r7 + r8 by omega)]; rfl) ?_
        refine jT_xifT (pcN := 40) jIQ_45_26 rfl (by decide +kernel) rfl ?_
        refine jT_xaload_n (v := (4, 0)) (pcN := 41) jIQ_45_40 rfl rfl rfl ?_
        refine jT_xaload_n (v := (4, 1)) (pcN := 42) jIQ_45_41 rfl rfl rfl ?_
        refine jT_xlload (v := (1, -r7 + r8)) (pcN := 44) jIQ_45_42 rfl rfl rfl ?_
        refine jT_callA [0, 1] (y := 40) (pcN := 47) (dC := 0) (bc1 := 0) (bc2 := 0) (c1 := 0) (c2 := 0) (as := [(4, 0), (4, 1), (1, -r7 + r8)]) (asC := [(4, 0), (4, 1), (1, -r7 + r8)]) (LN := [(6, (1, -r7 + r8)), (0, (4, 0)), (1, (4, 1)), (2, (1, 1)), (4, (1, 1))]) (stN := []) (hsC := [jgh, (101, [], [0, r7, r8, 0, 0, 0])]) (ex := []) (v := (0, 1)) (st2 := [(0, 1)]) (hs2 := [(8, [(4, 2), (4, 3)], []), (101, [], [0, r7, r8, 0, 0, 0]), jgh, jgh]) (jQ_40_56 (d := 0) (by omega) (by omega) (by omega) (by omega) (by omega)) (by rfl) (by rfl) (by rfl) (by rfl) ⟨rfl, rfl, trivial⟩ (by rfl) (by rfl) (by omega) (by show 4 ≤ 4; omega) (by omega) (by omega) rfl rfl ?_
        refine jT_xifF (t := 120) (pcN := 50) jIQ_45_47 rfl (by decide +kernel) rfl rfl ?_
        refine jT_xaload_n (v := (4, 0)) (pcN := 51) jIQ_45_50 rfl rfl rfl ?_
        refine jT_xaload_n (v := (4, 1)) (pcN := 52) jIQ_45_51 rfl rfl rfl ?_
        refine jT_callA [0, 1] (y := 41) (pcN := 55) (dC := 0) (bc1 := 0) (bc2 := 0) (c1 := 0) (c2 := 0) (as := [(4, 0), (4, 1)]) (asC := [(4, 0), (4, 1)]) (LN := [(6, (1, -r7 + r8)), (0, (4, 0)), (1, (4, 1)), (2, (1, 1)), (4, (1, 1))]) (stN := []) (hsC := [jgh, (101, [], [0, r7, r8, 0, 0, 0])]) (ex := []) (v := (1, 108917793695 * r7 + 159561683699 * r8)) (st2 := [(1, 108917793695 * r7 + 159561683699 * r8)]) (hs2 := [(8, [(4, 2), (4, 3)], []), (101, [], [0, r7, r8, 0, 0, 0]), jgh, jgh]) (jQ_41_57 (d := 0) (by omega) (by omega) (by omega) (by omega) (by omega)) (by rfl) (by rfl) (by rfl) (by rfl) ⟨rfl, rfl, trivial⟩ (by rfl) (by rfl) (by omega) (by show 4 ≤ 4; omega) (by omega) (by omega) rfl rfl ?_
        refine jT_xlstore (v := (1, 108917793695 * r7 + 159561683699 * r8)) (LN := [(8, (1, 108917793695 * r7 + 159561683699 * r8)), (6, (1, -r7 + r8)), (0, (4, 0)), (1, (4, 1)), (2, (1, 1)), (4, (1, 1))]) (pcN := 57) jIQ_45_55 rfl rfl rfl rfl ?_
        refine jT_xlload (v := (1, 108917793695 * r7 + 159561683699 * r8)) (pcN := 59) jIQ_45_57 rfl rfl rfl ?_
        refine jT_labs (z := 108917793695 * r7 + 159561683699 * r8) (by rfl) (by rfl) (by rfl) (by rfl) (by rw [show jwl (108917793695 * r7 + 159561683699 * r8) = 108917793695 * r7 + 159561683699 * r8 from jwl_idd (by omega) (by omega), decide_eq_false (by omega)]; first | (simp only [cond_true, cond_false]; done) | (simp only [cond_true, cond_false]; omega) | rfl) ?_
        refine jT_xlload (v := (1, -r7 + r8)) (pcN := 64) jIQ_45_62 rfl rfl rfl ?_
        refine jT_xladd (x := 108917793695 * r7 + 159561683699 * r8) (y := -r7 + r8) (z := 108917793694 * r7 + 159561683700 * r8) (pcN := 65) jIQ_45_64 rfl (by omega) rfl ?_
        refine jT_adv 1 (pcN := 68) (LN := [(8, (1, 108917793695 * r7 + 159561683699 * r8)), (6, (1, -r7 + r8)), (0, (4, 0)), (1, (4, 1)), (2, (1, 1)), (4, (1, 1))]) (stN := [(1, 9223372036854775807), (1, 108917793694 * r7 + 159561683700 * r8)]) (hsN := [(8, [(4, 2), (4, 3)], []), (101, [], [0, r7, r8, 0, 0, 0]), jgh, jgh]) (c1 := 0) (s1 := 0) (c2 := 0) (s2 := 0) (by exact rfl) ?_ (by omega) (by omega)
        refine jT_xlload (v := (1, 1)) (pcN := 70) jIQ_45_68 rfl rfl rfl ?_
        refine jT_ldiv (a := 9223372036854775807) (b := 1) (by rfl) (by rfl) (by decide +kernel) (by decide +kernel) (by decide) ?_
        refine jT_eq (LN := [(8, (1, 108917793695 * r7 + 159561683699 * r8)), (6, (1, -r7 + r8)), (0, (4, 0)), (1, (4, 1)), (2, (1, 1)), (4, (1, 1))]) (stN := [(1, 9223372036854775807), (1, 108917793694 * r7 + 159561683700 * r8)]) (hsN := [(8, [(4, 2), (4, 3)], []), (101, [], [0, r7, r8, 0, 0, 0]), jgh, jgh]) rfl (by rw [show (9223372036854775807 : Int).tdiv 1 = 9223372036854775807 by decide +kernel]) rfl ?_
        refine jT_lcmp (a := 108917793694 * r7 + 159561683700 * r8) (b := 9223372036854775807) (z := (-1)) (by rfl) (by rfl) (jwl_idd (by omega) (by omega)) (jwl_idd (by omega) (by omega)) (by rw [decide_eq_false (show ¬ ((9223372036854775807 : Int) < 108917793694 * r7 + 159561683700 * r8) by omega), decide_eq_false (show ¬ ((108917793694 * r7 + 159561683700 * r8 : Int) = 9223372036854775807) by omega)]; rfl) ?_
        refine jT_xifF (t := 120) (pcN := 75) jIQ_45_72 rfl (by decide +kernel) rfl rfl ?_
        refine jT_xlload (v := (1, 108917793695 * r7 + 159561683699 * r8)) (pcN := 77) jIQ_45_75 rfl rfl rfl ?_
        refine jT_xlload (v := (1, -r7 + r8)) (pcN := 79) jIQ_45_77 rfl rfl rfl ?_
        refine jT_xlsub (x := 108917793695 * r7 + 159561683699 * r8) (y := -r7 + r8) (z := 108917793696 * r7 + 159561683698 * r8) (pcN := 80) jIQ_45_79 rfl (by omega) rfl ?_
        refine jT_xlload (v := (1, 1)) (pcN := 82) jIQ_45_80 rfl rfl rfl ?_
        refine jT_xlmul (x := 108917793696 * r7 + 159561683698 * r8) (y := 1) (z := 108917793696 * r7 + 159561683698 * r8) (pcN := 83) jIQ_45_82 rfl (by omega) rfl ?_
        refine jT_xlload_n (v := (1, 1)) (pcN := 84) jIQ_45_83 rfl rfl rfl ?_
        refine jT_xbipush (k := 36) (pcN := 86) jIQ_45_84 (by decide) rfl ?_
        refine jT_lshl (x := 1) (y := 36) (z := 68719476736) (by rfl) (by rfl) (by decide +kernel) ?_
        refine jT_callA [] (y := 373) (pcN := 90) (dC := 0) (bc1 := 0) (bc2 := 0) (c1 := 0) (c2 := 0) (as := [(1, 108917793696 * r7 + 159561683698 * r8), (1, 68719476736)]) (asC := [(1, 108917793696 * r7 + 159561683698 * r8), (1, 68719476736)]) (LN := [(8, (1, 108917793695 * r7 + 159561683699 * r8)), (6, (1, -r7 + r8)), (0, (4, 0)), (1, (4, 1)), (2, (1, 1)), (4, (1, 1))]) (stN := []) (hsC := []) (ex := []) (v := (1, (108917793695 * r7 + 159561683699 * r8) / 68719476736)) (st2 := [(1, (108917793695 * r7 + 159561683699 * r8) / 68719476736)]) (hs2 := [(8, [(4, 2), (4, 3)], []), (101, [], [0, r7, r8, 0, 0, 0]), jgh, jgh]) (jT_fdJK2 (d := 0) (x := 108917793696 * r7 + 159561683698 * r8) (y := 108917793695 * r7 + 159561683699 * r8) (by omega) (jcf (b := r7) (c := r8) (by omega) (by omega) (by omega) (by omega))) (by rfl) (by rfl) (by rfl) (by rfl) trivial (by rfl) (by rfl) (by omega) (by show 4 ≤ 4; omega) (by omega) (by omega) rfl rfl ?_
        have hb_q1 : (-60) ≤ (108917793695 * r7 + 159561683699 * r8) / 68719476736 ∧ (108917793695 * r7 + 159561683699 * r8) / 68719476736 ≤ 60 := ⟨by omega, by omega⟩
        generalize hq_q1 : (108917793695 * r7 + 159561683699 * r8) / 68719476736 = q1 at hb_q1 ⊢
        refine jT_xlstore (v := (1, q1)) (LN := [(10, (1, q1)), (8, (1, 108917793695 * r7 + 159561683699 * r8)), (6, (1, -r7 + r8)), (0, (4, 0)), (1, (4, 1)), (2, (1, 1)), (4, (1, 1))]) (pcN := 92) jIQ_45_90 rfl rfl rfl rfl ?_
        refine jT_xlload (v := (1, 108917793695 * r7 + 159561683699 * r8)) (pcN := 94) jIQ_45_92 rfl rfl rfl ?_
        refine jT_xlload (v := (1, -r7 + r8)) (pcN := 96) jIQ_45_94 rfl rfl rfl ?_
        refine jT_xladd (x := 108917793695 * r7 + 159561683699 * r8) (y := -r7 + r8) (z := 108917793694 * r7 + 159561683700 * r8) (pcN := 97) jIQ_45_96 rfl (by omega) rfl ?_
        refine jT_xlload (v := (1, 1)) (pcN := 99) jIQ_45_97 rfl rfl rfl ?_
        refine jT_xlmul (x := 108917793694 * r7 + 159561683700 * r8) (y := 1) (z := 108917793694 * r7 + 159561683700 * r8) (pcN := 100) jIQ_45_99 rfl (by omega) rfl ?_
        refine jT_xlload_n (v := (1, 1)) (pcN := 101) jIQ_45_100 rfl rfl rfl ?_
        refine jT_xbipush (k := 36) (pcN := 103) jIQ_45_101 (by decide) rfl ?_
        refine jT_lshl (x := 1) (y := 36) (z := 68719476736) (by rfl) (by rfl) (by decide +kernel) ?_
        refine jT_callA [] (y := 373) (pcN := 107) (dC := 0) (bc1 := 0) (bc2 := 0) (c1 := 0) (c2 := 0) (as := [(1, 108917793694 * r7 + 159561683700 * r8), (1, 68719476736)]) (asC := [(1, 108917793694 * r7 + 159561683700 * r8), (1, 68719476736)]) (LN := [(10, (1, q1)), (8, (1, 108917793695 * r7 + 159561683699 * r8)), (6, (1, -r7 + r8)), (0, (4, 0)), (1, (4, 1)), (2, (1, 1)), (4, (1, 1))]) (stN := []) (hsC := []) (ex := []) (v := (1, (108917793695 * r7 + 159561683699 * r8) / 68719476736)) (st2 := [(1, (108917793695 * r7 + 159561683699 * r8) / 68719476736)]) (hs2 := [(8, [(4, 2), (4, 3)], []), (101, [], [0, r7, r8, 0, 0, 0]), jgh, jgh]) (jT_fdJK2 (d := 0) (x := 108917793694 * r7 + 159561683700 * r8) (y := 108917793695 * r7 + 159561683699 * r8) (by omega) (jcf (b := r7) (c := r8) (by omega) (by omega) (by omega) (by omega))) (by rfl) (by rfl) (by rfl) (by rfl) trivial (by rfl) (by rfl) (by omega) (by show 4 ≤ 4; omega) (by omega) (by omega) rfl rfl ?_
        rw [hq_q1]
        refine jT_xlstore (v := (1, q1)) (LN := [(12, (1, q1)), (10, (1, q1)), (8, (1, 108917793695 * r7 + 159561683699 * r8)), (6, (1, -r7 + r8)), (0, (4, 0)), (1, (4, 1)), (2, (1, 1)), (4, (1, 1))]) (pcN := 109) jIQ_45_107 rfl rfl rfl rfl ?_
        refine jT_xlload (v := (1, q1)) (pcN := 111) jIQ_45_109 rfl rfl rfl ?_
        refine jT_xlload (v := (1, q1)) (pcN := 113) jIQ_45_111 rfl rfl rfl ?_
        refine jT_lcmp (a := q1) (b := q1) (z := 0) (by rfl) (by rfl) (jwl_idd (by omega) (by omega)) (jwl_idd (by omega) (by omega)) (by rw [decide_eq_false (show ¬ ((q1 : Int) < q1) by omega), decide_eq_true (show (q1 : Int) = q1 by omega)]; rfl) ?_
        refine jT_xifF (t := 120) (pcN := 117) jIQ_45_114 rfl (by decide +kernel) rfl rfl ?_
        refine jT_xlload (v := (1, q1)) (pcN := 119) jIQ_45_117 rfl rfl rfl ?_
        exact jT_ret rfl (by decide) (by show 4 ≤ 4; decide) (by omega) (by omega) ⟨rfl, by rw [hq_q1], rfl⟩
      · refine jT_xlload_n (v := (1, 1)) (pcN := 1) jIQ_45_0 rfl rfl rfl ?_
        refine jT_xlconst (z := 1) (pcN := 2) jIQ_45_1 rfl rfl ?_
        refine jT_lcmp (a := 1) (b := 1) (z := 0) (by rfl) (by rfl) (by decide +kernel) (by decide +kernel) (by decide) ?_
        refine jT_xifF (t := 13) (pcN := 6) jIQ_45_3 rfl (by decide +kernel) rfl rfl ?_
        refine jT_xlload (v := (1, 1)) (pcN := 8) jIQ_45_6 rfl rfl rfl ?_
        refine jT_xlconst (z := 1) (pcN := 9) jIQ_45_8 rfl rfl ?_
        refine jT_lcmp (a := 1) (b := 1) (z := 0) (by rfl) (by rfl) (by decide +kernel) (by decide +kernel) (by decide) ?_
        refine jT_xifT (pcN := 15) jIQ_45_10 rfl (by decide +kernel) rfl ?_
        refine jT_xaload_n (v := (4, 0)) (pcN := 16) jIQ_45_15 rfl rfl rfl ?_
        refine jT_xaload_n (v := (4, 1)) (pcN := 17) jIQ_45_16 rfl rfl rfl ?_
        refine jT_callA [0, 1] (y := 39) (pcN := 20) (dC := 0) (bc1 := 0) (bc2 := 0) (c1 := 0) (c2 := 0) (as := [(4, 0), (4, 1)]) (asC := [(4, 0), (4, 1)]) (LN := [(0, (4, 0)), (1, (4, 1)), (2, (1, 1)), (4, (1, 1))]) (stN := []) (hsC := [jgh, (101, [], [0, r7, r8, 0, 0, 0])]) (ex := []) (v := (1, -r7 + r8)) (st2 := [(1, -r7 + r8)]) (hs2 := [(8, [(4, 2), (4, 3)], []), (101, [], [0, r7, r8, 0, 0, 0]), jgh, jgh]) (jQ_39_52 (d := 0) (by omega) (by omega) (by omega) (by omega) (by omega)) (by rfl) (by rfl) (by rfl) (by rfl) ⟨rfl, rfl, trivial⟩ (by rfl) (by rfl) (by omega) (by show 4 ≤ 4; omega) (by omega) (by omega) rfl rfl ?_
        refine jT_xlstore (v := (1, -r7 + r8)) (LN := [(6, (1, -r7 + r8)), (0, (4, 0)), (1, (4, 1)), (2, (1, 1)), (4, (1, 1))]) (pcN := 22) jIQ_45_20 rfl rfl rfl rfl ?_
        refine jT_xlload (v := (1, -r7 + r8)) (pcN := 24) jIQ_45_22 rfl rfl rfl ?_
        refine jT_xlconst (z := 0) (pcN := 25) jIQ_45_24 rfl rfl ?_
        refine jT_lcmp (a := -r7 + r8) (b := 0) (z := 1) (by rfl) (by rfl) (jwl_idd (by omega) (by omega)) (jwl_idd (by omega) (by omega)) (by rw [decide_eq_true (show (0 : Int) < -r7 + r8 by omega)]; rfl) ?_
        refine jT_xifT (pcN := 40) jIQ_45_26 rfl (by decide +kernel) rfl ?_
        refine jT_xaload_n (v := (4, 0)) (pcN := 41) jIQ_45_40 rfl rfl rfl ?_
        refine jT_xaload_n (v := (4, 1)) (pcN := 42) jIQ_45_41 rfl rfl rfl ?_
        refine jT_xlload (v := (1, -r7 + r8)) (pcN := 44) jIQ_45_42 rfl rfl rfl ?_
        refine jT_callA [0, 1] (y := 40) (pcN := 47) (dC := 0) (bc1 := 0) (bc2 := 0) (c1 := 0) (c2 := 0) (as := [(4, 0), (4, 1), (1, -r7 + r8)]) (asC := [(4, 0), (4, 1), (1, -r7 + r8)]) (LN := [(6, (1, -r7 + r8)), (0, (4, 0)), (1, (4, 1)), (2, (1, 1)), (4, (1, 1))]) (stN := []) (hsC := [jgh, (101, [], [0, r7, r8, 0, 0, 0])]) (ex := []) (v := (0, 1)) (st2 := [(0, 1)]) (hs2 := [(8, [(4, 2), (4, 3)], []), (101, [], [0, r7, r8, 0, 0, 0]), jgh, jgh]) (jQ_40_53 (d := 0) (by omega) (by omega) (by omega) (by omega) (by omega)) (by rfl) (by rfl) (by rfl) (by rfl) ⟨rfl, rfl, trivial⟩ (by rfl) (by rfl) (by omega) (by show 4 ≤ 4; omega) (by omega) (by omega) rfl rfl ?_
        refine jT_xifF (t := 120) (pcN := 50) jIQ_45_47 rfl (by decide +kernel) rfl rfl ?_
        refine jT_xaload_n (v := (4, 0)) (pcN := 51) jIQ_45_50 rfl rfl rfl ?_
        refine jT_xaload_n (v := (4, 1)) (pcN := 52) jIQ_45_51 rfl rfl rfl ?_
        refine jT_callA [0, 1] (y := 41) (pcN := 55) (dC := 0) (bc1 := 0) (bc2 := 0) (c1 := 0) (c2 := 0) (as := [(4, 0), (4, 1)]) (asC := [(4, 0), (4, 1)]) (LN := [(6, (1, -r7 + r8)), (0, (4, 0)), (1, (4, 1)), (2, (1, 1)), (4, (1, 1))]) (stN := []) (hsC := [jgh, (101, [], [0, r7, r8, 0, 0, 0])]) (ex := []) (v := (1, 108917793695 * r7 + 159561683699 * r8)) (st2 := [(1, 108917793695 * r7 + 159561683699 * r8)]) (hs2 := [(8, [(4, 2), (4, 3)], []), (101, [], [0, r7, r8, 0, 0, 0]), jgh, jgh]) (jQ_41_54 (d := 0) (by omega) (by omega) (by omega) (by omega) (by omega)) (by rfl) (by rfl) (by rfl) (by rfl) ⟨rfl, rfl, trivial⟩ (by rfl) (by rfl) (by omega) (by show 4 ≤ 4; omega) (by omega) (by omega) rfl rfl ?_
        refine jT_xlstore (v := (1, 108917793695 * r7 + 159561683699 * r8)) (LN := [(8, (1, 108917793695 * r7 + 159561683699 * r8)), (6, (1, -r7 + r8)), (0, (4, 0)), (1, (4, 1)), (2, (1, 1)), (4, (1, 1))]) (pcN := 57) jIQ_45_55 rfl rfl rfl rfl ?_
        refine jT_xlload (v := (1, 108917793695 * r7 + 159561683699 * r8)) (pcN := 59) jIQ_45_57 rfl rfl rfl ?_
        refine jT_labs (z := (-108917793695) * r7 - 159561683699 * r8) (by rfl) (by rfl) (by rfl) (by rfl) (by rw [show jwl (108917793695 * r7 + 159561683699 * r8) = 108917793695 * r7 + 159561683699 * r8 from jwl_idd (by omega) (by omega), decide_eq_true (by omega)]; first | (simp only [cond_true, cond_false]; done) | (simp only [cond_true, cond_false]; omega) | rfl) ?_
        refine jT_xlload (v := (1, -r7 + r8)) (pcN := 64) jIQ_45_62 rfl rfl rfl ?_
        refine jT_xladd (x := (-108917793695) * r7 - 159561683699 * r8) (y := -r7 + r8) (z := (-108917793696) * r7 - 159561683698 * r8) (pcN := 65) jIQ_45_64 rfl (by omega) rfl ?_
        refine jT_adv 1 (pcN := 68) (LN := [(8, (1, 108917793695 * r7 + 159561683699 * r8)), (6, (1, -r7 + r8)), (0, (4, 0)), (1, (4, 1)), (2, (1, 1)), (4, (1, 1))]) (stN := [(1, 9223372036854775807), (1, (-108917793696) * r7 - 159561683698 * r8)]) (hsN := [(8, [(4, 2), (4, 3)], []), (101, [], [0, r7, r8, 0, 0, 0]), jgh, jgh]) (c1 := 0) (s1 := 0) (c2 := 0) (s2 := 0) (by exact rfl) ?_ (by omega) (by omega)
        refine jT_xlload (v := (1, 1)) (pcN := 70) jIQ_45_68 rfl rfl rfl ?_
        refine jT_ldiv (a := 9223372036854775807) (b := 1) (by rfl) (by rfl) (by decide +kernel) (by decide +kernel) (by decide) ?_
        refine jT_eq (LN := [(8, (1, 108917793695 * r7 + 159561683699 * r8)), (6, (1, -r7 + r8)), (0, (4, 0)), (1, (4, 1)), (2, (1, 1)), (4, (1, 1))]) (stN := [(1, 9223372036854775807), (1, (-108917793696) * r7 - 159561683698 * r8)]) (hsN := [(8, [(4, 2), (4, 3)], []), (101, [], [0, r7, r8, 0, 0, 0]), jgh, jgh]) rfl (by rw [show (9223372036854775807 : Int).tdiv 1 = 9223372036854775807 by decide +kernel]) rfl ?_
        refine jT_lcmp (a := (-108917793696) * r7 - 159561683698 * r8) (b := 9223372036854775807) (z := (-1)) (by rfl) (by rfl) (jwl_idd (by omega) (by omega)) (jwl_idd (by omega) (by omega)) (by rw [decide_eq_false (show ¬ ((9223372036854775807 : Int) < (-108917793696) * r7 - 159561683698 * r8) by omega), decide_eq_false (show ¬ (((-108917793696) * r7 - 159561683698 * r8 : Int) = 9223372036854775807) by omega)]; rfl) ?_
        refine jT_xifF (t := 120) (pcN := 75) jIQ_45_72 rfl (by decide +kernel) rfl rfl ?_
        refine jT_xlload (v := (1, 108917793695 * r7 + 159561683699 * r8)) (pcN := 77) jIQ_45_75 rfl rfl rfl ?_
        refine jT_xlload (v := (1, -r7 + r8)) (pcN := 79) jIQ_45_77 rfl rfl rfl ?_
        refine jT_xlsub (x := 108917793695 * r7 + 159561683699 * r8) (y := -r7 + r8) (z := 108917793696 * r7 + 159561683698 * r8) (pcN := 80) jIQ_45_79 rfl (by omega) rfl ?_
        refine jT_xlload (v := (1, 1)) (pcN := 82) jIQ_45_80 rfl rfl rfl ?_
        refine jT_xlmul (x := 108917793696 * r7 + 159561683698 * r8) (y := 1) (z := 108917793696 * r7 + 159561683698 * r8) (pcN := 83) jIQ_45_82 rfl (by omega) rfl ?_
        refine jT_xlload_n (v := (1, 1)) (pcN := 84) jIQ_45_83 rfl rfl rfl ?_
        refine jT_xbipush (k := 36) (pcN := 86) jIQ_45_84 (by decide) rfl ?_
        refine jT_lshl (x := 1) (y := 36) (z := 68719476736) (by rfl) (by rfl) (by decide +kernel) ?_
        refine jT_callA [] (y := 373) (pcN := 90) (dC := 0) (bc1 := 0) (bc2 := 0) (c1 := 0) (c2 := 0) (as := [(1, 108917793696 * r7 + 159561683698 * r8), (1, 68719476736)]) (asC := [(1, 108917793696 * r7 + 159561683698 * r8), (1, 68719476736)]) (LN := [(8, (1, 108917793695 * r7 + 159561683699 * r8)), (6, (1, -r7 + r8)), (0, (4, 0)), (1, (4, 1)), (2, (1, 1)), (4, (1, 1))]) (stN := []) (hsC := []) (ex := []) (v := (1, (108917793695 * r7 + 159561683699 * r8) / 68719476736)) (st2 := [(1, (108917793695 * r7 + 159561683699 * r8) / 68719476736)]) (hs2 := [(8, [(4, 2), (4, 3)], []), (101, [], [0, r7, r8, 0, 0, 0]), jgh, jgh]) (jT_fdJK2 (d := 0) (x := 108917793696 * r7 + 159561683698 * r8) (y := 108917793695 * r7 + 159561683699 * r8) (by omega) (jcf (b := r7) (c := r8) (by omega) (by omega) (by omega) (by omega))) (by rfl) (by rfl) (by rfl) (by rfl) trivial (by rfl) (by rfl) (by omega) (by show 4 ≤ 4; omega) (by omega) (by omega) rfl rfl ?_
        have hb_q1 : (-60) ≤ (108917793695 * r7 + 159561683699 * r8) / 68719476736 ∧ (108917793695 * r7 + 159561683699 * r8) / 68719476736 ≤ 60 := ⟨by omega, by omega⟩
        generalize hq_q1 : (108917793695 * r7 + 159561683699 * r8) / 68719476736 = q1 at hb_q1 ⊢
        refine jT_xlstore (v := (1, q1)) (LN := [(10, (1, q1)), (8, (1, 108917793695 * r7 + 159561683699 * r8)), (6, (1, -r7 + r8)), (0, (4, 0)), (1, (4, 1)), (2, (1, 1)), (4, (1, 1))]) (pcN := 92) jIQ_45_90 rfl rfl rfl rfl ?_
        refine jT_xlload (v := (1, 108917793695 * r7 + 159561683699 * r8)) (pcN := 94) jIQ_45_92 rfl rfl rfl ?_
        refine jT_xlload (v := (1, -r7 + r8)) (pcN := 96) jIQ_45_94 rfl rfl rfl ?_
        refine jT_xladd (x := 108917793695 * r7 + 159561683699 * r8) (y := -r7 + r8) (z := 108917793694 * r7 + 159561683700 * r8) (pcN := 97) jIQ_45_96 rfl (by omega) rfl ?_
        refine jT_xlload (v := (1, 1)) (pcN := 99) jIQ_45_97 rfl rfl rfl ?_
        refine jT_xlmul (x := 108917793694 * r7 + 159561683700 * r8) (y := 1) (z := 108917793694 * r7 + 159561683700 * r8) (pcN := 100) jIQ_45_99 rfl (by omega) rfl ?_
        refine jT_xlload_n (v := (1, 1)) (pcN := 101) jIQ_45_100 rfl rfl rfl ?_
        refine jT_xbipush (k := 36) (pcN := 103) jIQ_45_101 (by decide) rfl ?_
        refine jT_lshl (x := 1) (y := 36) (z := 68719476736) (by rfl) (by rfl) (by decide +kernel) ?_
        refine jT_callA [] (y := 373) (pcN := 107) (dC := 0) (bc1 := 0) (bc2 := 0) (c1 := 0) (c2 := 0) (as := [(1, 108917793694 * r7 + 159561683700 * r8), (1, 68719476736)]) (asC := [(1, 108917793694 * r7 + 159561683700 * r8), (1, 68719476736)]) (LN := [(10, (1, q1)), (8, (1, 108917793695 * r7 + 159561683699 * r8)), (6, (1, -r7 + r8)), (0, (4, 0)), (1, (4, 1)), (2, (1, 1)), (4, (1, 1))]) (stN := []) (hsC := []) (ex := []) (v := (1, (108917793695 * r7 + 159561683699 * r8) / 68719476736)) (st2 := [(1, (108917793695 * r7 + 159561683699 * r8) / 68719476736)]) (hs2 := [(8, [(4, 2), (4, 3)], []), (101, [], [0, r7, r8, 0, 0, 0]), jgh, jgh]) (jT_fdJK2 (d := 0) (x := 108917793694 * r7 + 159561683700 * r8) (y := 108917793695 * r7 + 159561683699 * r8) (by omega) (jcf (b := r7) (c := r8) (by omega) (by omega) (by omega) (by omega))) (by rfl) (by rfl) (by rfl) (by rfl) trivial (by rfl) (by rfl) (by omega) (by show 4 ≤ 4; omega) (by omega) (by omega) rfl rfl ?_
        rw [hq_q1]
        refine jT_xlstore (v := (1, q1)) (LN := [(12, (1, q1)), (10, (1, q1)), (8, (1, 108917793695 * r7 + 159561683699 * r8)), (6, (1, -r7 + r8)), (0, (4, 0)), (1, (4, 1)), (2, (1, 1)), (4, (1, 1))]) (pcN := 109) jIQ_45_107 rfl rfl rfl rfl ?_
        refine jT_xlload (v := (1, q1)) (pcN := 111) jIQ_45_109 rfl rfl rfl ?_
        refine jT_xlload (v := (1, q1)) (pcN := 113) jIQ_45_111 rfl rfl rfl ?_
        refine jT_lcmp (a := q1) (b := q1) (z := 0) (by rfl) (by rfl) (jwl_idd (by omega) (by omega)) (jwl_idd (by omega) (by omega)) (by rw [decide_eq_false (show ¬ ((q1 : Int) < q1) by omega), decide_eq_true (show (q1 : Int) = q1 by omega)]; rfl) ?_
        refine jT_xifF (t := 120) (pcN := 117) jIQ_45_114 rfl (by decide +kernel) rfl rfl ?_
        refine jT_xlload (v := (1, q1)) (pcN := 119) jIQ_45_117 rfl rfl rfl ?_
        exact jT_ret rfl (by decide) (by show 4 ≤ 4; decide) (by omega) (by omega) ⟨rfl, by rw [hq_q1], rfl⟩
    · rcases (show (0 ≤ 108917793695 * r7 + 159561683699 * r8) ∨ (108917793695 * r7 + 159561683699 * r8 < 0) by omega) with g_2 | g_2
      · refine jT_xlload_n (v := (1, 1)) (pcN := 1) jIQ_45_0 rfl rfl rfl ?_
        refine jT_xlconst (z := 1) (pcN := 2) jIQ_45_1 rfl rfl ?_
        refine jT_lcmp (a := 1) (b := 1) (z := 0) (by rfl) (by rfl) (by decide +kernel) (by decide +kernel) (by decide) ?_
        refine jT_xifF (t := 13) (pcN := 6) jIQ_45_3 rfl (by decide +kernel) rfl rfl ?_
        refine jT_xlload (v := (1, 1)) (pcN := 8) jIQ_45_6 rfl rfl rfl ?_
        refine jT_xlconst (z := 1) (pcN := 9) jIQ_45_8 rfl rfl ?_
        refine jT_lcmp (a := 1) (b := 1) (z := 0) (by rfl) (by rfl) (by decide +kernel) (by decide +kernel) (by decide) ?_
        refine jT_xifT (pcN := 15) jIQ_45_10 rfl (by decide +kernel) rfl ?_
        refine jT_xaload_n (v := (4, 0)) (pcN := 16) jIQ_45_15 rfl rfl rfl ?_
        refine jT_xaload_n (v := (4, 1)) (pcN := 17) jIQ_45_16 rfl rfl rfl ?_
        refine jT_callA [0, 1] (y := 39) (pcN := 20) (dC := 0) (bc1 := 0) (bc2 := 0) (c1 := 0) (c2 := 0) (as := [(4, 0), (4, 1)]) (asC := [(4, 0), (4, 1)]) (LN := [(0, (4, 0)), (1, (4, 1)), (2, (1, 1)), (4, (1, 1))]) (stN := []) (hsC := [jgh, (101, [], [0, r7, r8, 0, 0, 0])]) (ex := []) (v := (1, -r7 - r8)) (st2 := [(1, -r7 - r8)]) (hs2 := [(8, [(4, 2), (4, 3)], []), (101, [], [0, r7, r8, 0, 0, 0]), jgh, jgh]) (jQ_39_46 (d := 0) (by omega) (by omega) (by omega) (by omega) (by omega)) (by rfl) (by rfl) (by rfl) (by rfl) ⟨rfl, rfl, trivial⟩ (by rfl) (by rfl) (by omega) (by show 4 ≤ 4; omega) (by omega) (by omega) rfl rfl ?_
        refine jT_xlstore (v := (1, -r7 - r8)) (LN := [(6, (1, -r7 - r8)), (0, (4, 0)), (1, (4, 1)), (2, (1, 1)), (4, (1, 1))]) (pcN := 22) jIQ_45_20 rfl rfl rfl rfl ?_
        refine jT_xlload (v := (1, -r7 - r8)) (pcN := 24) jIQ_45_22 rfl rfl rfl ?_
        refine jT_xlconst (z := 0) (pcN := 25) jIQ_45_24 rfl rfl ?_
        refine jT_lcmp (a := -r7 - r8) (b := 0) (z := 1) (by rfl) (by rfl) (jwl_idd (by omega) (by omega)) (jwl_idd (by omega) (by omega)) (by rw [decide_eq_true (show (0 : Int) < -r7 - r8 by omega)]; rfl) ?_
        refine jT_xifT (pcN := 40) jIQ_45_26 rfl (by decide +kernel) rfl ?_
        refine jT_xaload_n (v := (4, 0)) (pcN := 41) jIQ_45_40 rfl rfl rfl ?_
        refine jT_xaload_n (v := (4, 1)) (pcN := 42) jIQ_45_41 rfl rfl rfl ?_
        refine jT_xlload (v := (1, -r7 - r8)) (pcN := 44) jIQ_45_42 rfl rfl rfl ?_
        refine jT_callA [0, 1] (y := 40) (pcN := 47) (dC := 0) (bc1 := 0) (bc2 := 0) (c1 := 0) (c2 := 0) (as := [(4, 0), (4, 1), (1, -r7 - r8)]) (asC := [(4, 0), (4, 1), (1, -r7 - r8)]) (LN := [(6, (1, -r7 - r8)), (0, (4, 0)), (1, (4, 1)), (2, (1, 1)), (4, (1, 1))]) (stN := []) (hsC := [jgh, (101, [], [0, r7, r8, 0, 0, 0])]) (ex := []) (v := (0, 1)) (st2 := [(0, 1)]) (hs2 := [(8, [(4, 2), (4, 3)], []), (101, [], [0, r7, r8, 0, 0, 0]), jgh, jgh]) (jQ_40_47 (d := 0) (by omega) (by omega) (by omega) (by omega) (by omega)) (by rfl) (by rfl) (by rfl) (by rfl) ⟨rfl, rfl, trivial⟩ (by rfl) (by rfl) (by omega) (by show 4 ≤ 4; omega) (by omega) (by omega) rfl rfl ?_
        refine jT_xifF (t := 120) (pcN := 50) jIQ_45_47 rfl (by decide +kernel) rfl rfl ?_
        refine jT_xaload_n (v := (4, 0)) (pcN := 51) jIQ_45_50 rfl rfl rfl ?_
        refine jT_xaload_n (v := (4, 1)) (pcN := 52) jIQ_45_51 rfl rfl rfl ?_
        refine jT_callA [0, 1] (y := 41) (pcN := 55) (dC := 0) (bc1 := 0) (bc2 := 0) (c1 := 0) (c2 := 0) (as := [(4, 0), (4, 1)]) (asC := [(4, 0), (4, 1)]) (LN := [(6, (1, -r7 - r8)), (0, (4, 0)), (1, (4, 1)), (2, (1, 1)), (4, (1, 1))]) (stN := []) (hsC := [jgh, (101, [], [0, r7, r8, 0, 0, 0])]) (ex := []) (v := (1, 108917793695 * r7 + 159561683699 * r8)) (st2 := [(1, 108917793695 * r7 + 159561683699 * r8)]) (hs2 := [(8, [(4, 2), (4, 3)], []), (101, [], [0, r7, r8, 0, 0, 0]), jgh, jgh]) (jQ_41_48 (d := 0) (by omega) (by omega) (by omega) (by omega) (by omega)) (by rfl) (by rfl) (by rfl) (by rfl) ⟨rfl, rfl, trivial⟩ (by rfl) (by rfl) (by omega) (by show 4 ≤ 4; omega) (by omega) (by omega) rfl rfl ?_
        refine jT_xlstore (v := (1, 108917793695 * r7 + 159561683699 * r8)) (LN := [(8, (1, 108917793695 * r7 + 159561683699 * r8)), (6, (1, -r7 - r8)), (0, (4, 0)), (1, (4, 1)), (2, (1, 1)), (4, (1, 1))]) (pcN := 57) jIQ_45_55 rfl rfl rfl rfl ?_
        refine jT_xlload (v := (1, 108917793695 * r7 + 159561683699 * r8)) (pcN := 59) jIQ_45_57 rfl rfl rfl ?_
        refine jT_labs (z := 108917793695 * r7 + 159561683699 * r8) (by rfl) (by rfl) (by rfl) (by rfl) (by rw [show jwl (108917793695 * r7 + 159561683699 * r8) = 108917793695 * r7 + 159561683699 * r8 from jwl_idd (by omega) (by omega), decide_eq_false (by omega)]; first | (simp only [cond_true, cond_false]; done) | (simp only [cond_true, cond_false]; omega) | rfl) ?_
        refine jT_xlload (v := (1, -r7 - r8)) (pcN := 64) jIQ_45_62 rfl rfl rfl ?_
        refine jT_xladd (x := 108917793695 * r7 + 159561683699 * r8) (y := -r7 - r8) (z := 108917793694 * r7 + 159561683698 * r8) (pcN := 65) jIQ_45_64 rfl (by omega) rfl ?_
        refine jT_adv 1 (pcN := 68) (LN := [(8, (1, 108917793695 * r7 + 159561683699 * r8)), (6, (1, -r7 - r8)), (0, (4, 0)), (1, (4, 1)), (2, (1, 1)), (4, (1, 1))]) (stN := [(1, 9223372036854775807), (1, 108917793694 * r7 + 159561683698 * r8)]) (hsN := [(8, [(4, 2), (4, 3)], []), (101, [], [0, r7, r8, 0, 0, 0]), jgh, jgh]) (c1 := 0) (s1 := 0) (c2 := 0) (s2 := 0) (by exact rfl) ?_ (by omega) (by omega)
        refine jT_xlload (v := (1, 1)) (pcN := 70) jIQ_45_68 rfl rfl rfl ?_
        refine jT_ldiv (a := 9223372036854775807) (b := 1) (by rfl) (by rfl) (by decide +kernel) (by decide +kernel) (by decide) ?_
        refine jT_eq (LN := [(8, (1, 108917793695 * r7 + 159561683699 * r8)), (6, (1, -r7 - r8)), (0, (4, 0)), (1, (4, 1)), (2, (1, 1)), (4, (1, 1))]) (stN := [(1, 9223372036854775807), (1, 108917793694 * r7 + 159561683698 * r8)]) (hsN := [(8, [(4, 2), (4, 3)], []), (101, [], [0, r7, r8, 0, 0, 0]), jgh, jgh]) rfl (by rw [show (9223372036854775807 : Int).tdiv 1 = 9223372036854775807 by decide +kernel]) rfl ?_
        refine jT_lcmp (a := 108917793694 * r7 + 159561683698 * r8) (b := 9223372036854775807) (z := (-1)) (by rfl) (by rfl) (jwl_idd (by omega) (by omega)) (jwl_idd (by omega) (by omega)) (by rw [decide_eq_false (show ¬ ((9223372036854775807 : Int) < 108917793694 * r7 + 159561683698 * r8) by omega), decide_eq_false (show ¬ ((108917793694 * r7 + 159561683698 * r8 : Int) = 9223372036854775807) by omega)]; rfl) ?_
        refine jT_xifF (t := 120) (pcN := 75) jIQ_45_72 rfl (by decide +kernel) rfl rfl ?_
        refine jT_xlload (v := (1, 108917793695 * r7 + 159561683699 * r8)) (pcN := 77) jIQ_45_75 rfl rfl rfl ?_
        refine jT_xlload (v := (1, -r7 - r8)) (pcN := 79) jIQ_45_77 rfl rfl rfl ?_
        refine jT_xlsub (x := 108917793695 * r7 + 159561683699 * r8) (y := -r7 - r8) (z := 108917793696 * r7 + 159561683700 * r8) (pcN := 80) jIQ_45_79 rfl (by omega) rfl ?_
        refine jT_xlload (v := (1, 1)) (pcN := 82) jIQ_45_80 rfl rfl rfl ?_
        refine jT_xlmul (x := 108917793696 * r7 + 159561683700 * r8) (y := 1) (z := 108917793696 * r7 + 159561683700 * r8) (pcN := 83) jIQ_45_82 rfl (by omega) rfl ?_
        refine jT_xlload_n (v := (1, 1)) (pcN := 84) jIQ_45_83 rfl rfl rfl ?_
        refine jT_xbipush (k := 36) (pcN := 86) jIQ_45_84 (by decide) rfl ?_
        refine jT_lshl (x := 1) (y := 36) (z := 68719476736) (by rfl) (by rfl) (by decide +kernel) ?_
        refine jT_callA [] (y := 373) (pcN := 90) (dC := 0) (bc1 := 0) (bc2 := 0) (c1 := 0) (c2 := 0) (as := [(1, 108917793696 * r7 + 159561683700 * r8), (1, 68719476736)]) (asC := [(1, 108917793696 * r7 + 159561683700 * r8), (1, 68719476736)]) (LN := [(8, (1, 108917793695 * r7 + 159561683699 * r8)), (6, (1, -r7 - r8)), (0, (4, 0)), (1, (4, 1)), (2, (1, 1)), (4, (1, 1))]) (stN := []) (hsC := []) (ex := []) (v := (1, (108917793695 * r7 + 159561683699 * r8) / 68719476736)) (st2 := [(1, (108917793695 * r7 + 159561683699 * r8) / 68719476736)]) (hs2 := [(8, [(4, 2), (4, 3)], []), (101, [], [0, r7, r8, 0, 0, 0]), jgh, jgh]) (jT_fdJK2 (d := 0) (x := 108917793696 * r7 + 159561683700 * r8) (y := 108917793695 * r7 + 159561683699 * r8) (by omega) (jcf (b := r7) (c := r8) (by omega) (by omega) (by omega) (by omega))) (by rfl) (by rfl) (by rfl) (by rfl) trivial (by rfl) (by rfl) (by omega) (by show 4 ≤ 4; omega) (by omega) (by omega) rfl rfl ?_
        have hb_q1 : (-60) ≤ (108917793695 * r7 + 159561683699 * r8) / 68719476736 ∧ (108917793695 * r7 + 159561683699 * r8) / 68719476736 ≤ 60 := ⟨by omega, by omega⟩
        generalize hq_q1 : (108917793695 * r7 + 159561683699 * r8) / 68719476736 = q1 at hb_q1 ⊢
        refine jT_xlstore (v := (1, q1)) (LN := [(10, (1, q1)), (8, (1, 108917793695 * r7 + 159561683699 * r8)), (6, (1, -r7 - r8)), (0, (4, 0)), (1, (4, 1)), (2, (1, 1)), (4, (1, 1))]) (pcN := 92) jIQ_45_90 rfl rfl rfl rfl ?_
        refine jT_xlload (v := (1, 108917793695 * r7 + 159561683699 * r8)) (pcN := 94) jIQ_45_92 rfl rfl rfl ?_
        refine jT_xlload (v := (1, -r7 - r8)) (pcN := 96) jIQ_45_94 rfl rfl rfl ?_
        refine jT_xladd (x := 108917793695 * r7 + 159561683699 * r8) (y := -r7 - r8) (z := 108917793694 * r7 + 159561683698 * r8) (pcN := 97) jIQ_45_96 rfl (by omega) rfl ?_
        refine jT_xlload (v := (1, 1)) (pcN := 99) jIQ_45_97 rfl rfl rfl ?_
        refine jT_xlmul (x := 108917793694 * r7 + 159561683698 * r8) (y := 1) (z := 108917793694 * r7 + 159561683698 * r8) (pcN := 100) jIQ_45_99 rfl (by omega) rfl ?_
        refine jT_xlload_n (v := (1, 1)) (pcN := 101) jIQ_45_100 rfl rfl rfl ?_
        refine jT_xbipush (k := 36) (pcN := 103) jIQ_45_101 (by decide) rfl ?_
        refine jT_lshl (x := 1) (y := 36) (z := 68719476736) (by rfl) (by rfl) (by decide +kernel) ?_
        refine jT_callA [] (y := 373) (pcN := 107) (dC := 0) (bc1 := 0) (bc2 := 0) (c1 := 0) (c2 := 0) (as := [(1, 108917793694 * r7 + 159561683698 * r8), (1, 68719476736)]) (asC := [(1, 108917793694 * r7 + 159561683698 * r8), (1, 68719476736)]) (LN := [(10, (1, q1)), (8, (1, 108917793695 * r7 + 159561683699 * r8)), (6, (1, -r7 - r8)), (0, (4, 0)), (1, (4, 1)), (2, (1, 1)), (4, (1, 1))]) (stN := []) (hsC := []) (ex := []) (v := (1, (108917793695 * r7 + 159561683699 * r8) / 68719476736)) (st2 := [(1, (108917793695 * r7 + 159561683699 * r8) / 68719476736)]) (hs2 := [(8, [(4, 2), (4, 3)], []), (101, [], [0, r7, r8, 0, 0, 0]), jgh, jgh]) (jT_fdJK2 (d := 0) (x := 108917793694 * r7 + 159561683698 * r8) (y := 108917793695 * r7 + 159561683699 * r8) (by omega) (jcf (b := r7) (c := r8) (by omega) (by omega) (by omega) (by omega))) (by rfl) (by rfl) (by rfl) (by rfl) trivial (by rfl) (by rfl) (by omega) (by show 4 ≤ 4; omega) (by omega) (by omega) rfl rfl ?_
        rw [hq_q1]
        refine jT_xlstore (v := (1, q1)) (LN := [(12, (1, q1)), (10, (1, q1)), (8, (1, 108917793695 * r7 + 159561683699 * r8)), (6, (1, -r7 - r8)), (0, (4, 0)), (1, (4, 1)), (2, (1, 1)), (4, (1, 1))]) (pcN := 109) jIQ_45_107 rfl rfl rfl rfl ?_
        refine jT_xlload (v := (1, q1)) (pcN := 111) jIQ_45_109 rfl rfl rfl ?_
        refine jT_xlload (v := (1, q1)) (pcN := 113) jIQ_45_111 rfl rfl rfl ?_
        refine jT_lcmp (a := q1) (b := q1) (z := 0) (by rfl) (by rfl) (jwl_idd (by omega) (by omega)) (jwl_idd (by omega) (by omega)) (by rw [decide_eq_false (show ¬ ((q1 : Int) < q1) by omega), decide_eq_true (show (q1 : Int) = q1 by omega)]; rfl) ?_
        refine jT_xifF (t := 120) (pcN := 117) jIQ_45_114 rfl (by decide +kernel) rfl rfl ?_
        refine jT_xlload (v := (1, q1)) (pcN := 119) jIQ_45_117 rfl rfl rfl ?_
        exact jT_ret rfl (by decide) (by show 4 ≤ 4; decide) (by omega) (by omega) ⟨rfl, by rw [hq_q1], rfl⟩
      · refine jT_xlload_n (v := (1, 1)) (pcN := 1) jIQ_45_0 rfl rfl rfl ?_
        refine jT_xlconst (z := 1) (pcN := 2) jIQ_45_1 rfl rfl ?_
        refine jT_lcmp (a := 1) (b := 1) (z := 0) (by rfl) (by rfl) (by decide +kernel) (by decide +kernel) (by decide) ?_
        refine jT_xifF (t := 13) (pcN := 6) jIQ_45_3 rfl (by decide +kernel) rfl rfl ?_
        refine jT_xlload (v := (1, 1)) (pcN := 8) jIQ_45_6 rfl rfl rfl ?_
        refine jT_xlconst (z := 1) (pcN := 9) jIQ_45_8 rfl rfl ?_
        refine jT_lcmp (a := 1) (b := 1) (z := 0) (by rfl) (by rfl) (by decide +kernel) (by decide +kernel) (by decide) ?_
        refine jT_xifT (pcN := 15) jIQ_45_10 rfl (by decide +kernel) rfl ?_
        refine jT_xaload_n (v := (4, 0)) (pcN := 16) jIQ_45_15 rfl rfl rfl ?_
        refine jT_xaload_n (v := (4, 1)) (pcN := 17) jIQ_45_16 rfl rfl rfl ?_
        refine jT_callA [0, 1] (y := 39) (pcN := 20) (dC := 0) (bc1 := 0) (bc2 := 0) (c1 := 0) (c2 := 0) (as := [(4, 0), (4, 1)]) (asC := [(4, 0), (4, 1)]) (LN := [(0, (4, 0)), (1, (4, 1)), (2, (1, 1)), (4, (1, 1))]) (stN := []) (hsC := [jgh, (101, [], [0, r7, r8, 0, 0, 0])]) (ex := []) (v := (1, -r7 - r8)) (st2 := [(1, -r7 - r8)]) (hs2 := [(8, [(4, 2), (4, 3)], []), (101, [], [0, r7, r8, 0, 0, 0]), jgh, jgh]) (jQ_39_43 (d := 0) (by omega) (by omega) (by omega) (by omega) (by omega)) (by rfl) (by rfl) (by rfl) (by rfl) ⟨rfl, rfl, trivial⟩ (by rfl) (by rfl) (by omega) (by show 4 ≤ 4; omega) (by omega) (by omega) rfl rfl ?_
        refine jT_xlstore (v := (1, -r7 - r8)) (LN := [(6, (1, -r7 - r8)), (0, (4, 0)), (1, (4, 1)), (2, (1, 1)), (4, (1, 1))]) (pcN := 22) jIQ_45_20 rfl rfl rfl rfl ?_
        refine jT_xlload (v := (1, -r7 - r8)) (pcN := 24) jIQ_45_22 rfl rfl rfl ?_
        refine jT_xlconst (z := 0) (pcN := 25) jIQ_45_24 rfl rfl ?_
        refine jT_lcmp (a := -r7 - r8) (b := 0) (z := 1) (by rfl) (by rfl) (jwl_idd (by omega) (by omega)) (jwl_idd (by omega) (by omega)) (by rw [decide_eq_true (show (0 : Int) < -r7 - r8 by omega)]; rfl) ?_
        refine jT_xifT (pcN := 40) jIQ_45_26 rfl (by decide +kernel) rfl ?_
        refine jT_xaload_n (v := (4, 0)) (pcN := 41) jIQ_45_40 rfl rfl rfl ?_
        refine jT_xaload_n (v := (4, 1)) (pcN := 42) jIQ_45_41 rfl rfl rfl ?_
        refine jT_xlload (v := (1, -r7 - r8)) (pcN := 44) jIQ_45_42 rfl rfl rfl ?_
        refine jT_callA [0, 1] (y := 40) (pcN := 47) (dC := 0) (bc1 := 0) (bc2 := 0) (c1 := 0) (c2 := 0) (as := [(4, 0), (4, 1), (1, -r7 - r8)]) (asC := [(4, 0), (4, 1), (1, -r7 - r8)]) (LN := [(6, (1, -r7 - r8)), (0, (4, 0)), (1, (4, 1)), (2, (1, 1)), (4, (1, 1))]) (stN := []) (hsC := [jgh, (101, [], [0, r7, r8, 0, 0, 0])]) (ex := []) (v := (0, 1)) (st2 := [(0, 1)]) (hs2 := [(8, [(4, 2), (4, 3)], []), (101, [], [0, r7, r8, 0, 0, 0]), jgh, jgh]) (jQ_40_44 (d := 0) (by omega) (by omega) (by omega) (by omega) (by omega)) (by rfl) (by rfl) (by rfl) (by rfl) ⟨rfl, rfl, trivial⟩ (by rfl) (by rfl) (by omega) (by show 4 ≤ 4; omega) (by omega) (by omega) rfl rfl ?_
        refine jT_xifF (t := 120) (pcN := 50) jIQ_45_47 rfl (by decide +kernel) rfl rfl ?_
        refine jT_xaload_n (v := (4, 0)) (pcN := 51) jIQ_45_50 rfl rfl rfl ?_
        refine jT_xaload_n (v := (4, 1)) (pcN := 52) jIQ_45_51 rfl rfl rfl ?_
        refine jT_callA [0, 1] (y := 41) (pcN := 55) (dC := 0) (bc1 := 0) (bc2 := 0) (c1 := 0) (c2 := 0) (as := [(4, 0), (4, 1)]) (asC := [(4, 0), (4, 1)]) (LN := [(6, (1, -r7 - r8)), (0, (4, 0)), (1, (4, 1)), (2, (1, 1)), (4, (1, 1))]) (stN := []) (hsC := [jgh, (101, [], [0, r7, r8, 0, 0, 0])]) (ex := []) (v := (1, 108917793695 * r7 + 159561683699 * r8)) (st2 := [(1, 108917793695 * r7 + 159561683699 * r8)]) (hs2 := [(8, [(4, 2), (4, 3)], []), (101, [], [0, r7, r8, 0, 0, 0]), jgh, jgh]) (jQ_41_45 (d := 0) (by omega) (by omega) (by omega) (by omega) (by omega)) (by rfl) (by rfl) (by rfl) (by rfl) ⟨rfl, rfl, trivial⟩ (by rfl) (by rfl) (by omega) (by show 4 ≤ 4; omega) (by omega) (by omega) rfl rfl ?_
        refine jT_xlstore (v := (1, 108917793695 * r7 + 159561683699 * r8)) (LN := [(8, (1, 108917793695 * r7 + 159561683699 * r8)), (6, (1, -r7 - r8)), (0, (4, 0)), (1, (4, 1)), (2, (1, 1)), (4, (1, 1))]) (pcN := 57) jIQ_45_55 rfl rfl rfl rfl ?_
        refine jT_xlload (v := (1, 108917793695 * r7 + 159561683699 * r8)) (pcN := 59) jIQ_45_57 rfl rfl rfl ?_
        refine jT_labs (z := (-108917793695) * r7 - 159561683699 * r8) (by rfl) (by rfl) (by rfl) (by rfl) (by rw [show jwl (108917793695 * r7 + 159561683699 * r8) = 108917793695 * r7 + 159561683699 * r8 from jwl_idd (by omega) (by omega), decide_eq_true (by omega)]; first | (simp only [cond_true, cond_false]; done) | (simp only [cond_true, cond_false]; omega) | rfl) ?_
        refine jT_xlload (v := (1, -r7 - r8)) (pcN := 64) jIQ_45_62 rfl rfl rfl ?_
        refine jT_xladd (x := (-108917793695) * r7 - 159561683699 * r8) (y := -r7 - r8) (z := (-108917793696) * r7 - 159561683700 * r8) (pcN := 65) jIQ_45_64 rfl (by omega) rfl ?_
        refine jT_adv 1 (pcN := 68) (LN := [(8, (1, 108917793695 * r7 + 159561683699 * r8)), (6, (1, -r7 - r8)), (0, (4, 0)), (1, (4, 1)), (2, (1, 1)), (4, (1, 1))]) (stN := [(1, 9223372036854775807), (1, (-108917793696) * r7 - 159561683700 * r8)]) (hsN := [(8, [(4, 2), (4, 3)], []), (101, [], [0, r7, r8, 0, 0, 0]), jgh, jgh]) (c1 := 0) (s1 := 0) (c2 := 0) (s2 := 0) (by exact rfl) ?_ (by omega) (by omega)
        refine jT_xlload (v := (1, 1)) (pcN := 70) jIQ_45_68 rfl rfl rfl ?_
        refine jT_ldiv (a := 9223372036854775807) (b := 1) (by rfl) (by rfl) (by decide +kernel) (by decide +kernel) (by decide) ?_
        refine jT_eq (LN := [(8, (1, 108917793695 * r7 + 159561683699 * r8)), (6, (1, -r7 - r8)), (0, (4, 0)), (1, (4, 1)), (2, (1, 1)), (4, (1, 1))]) (stN := [(1, 9223372036854775807), (1, (-108917793696) * r7 - 159561683700 * r8)]) (hsN := [(8, [(4, 2), (4, 3)], []), (101, [], [0, r7, r8, 0, 0, 0]), jgh, jgh]) rfl (by rw [show (9223372036854775807 : Int).tdiv 1 = 9223372036854775807 by decide +kernel]) rfl ?_
        refine jT_lcmp (a := (-108917793696) * r7 - 159561683700 * r8) (b := 9223372036854775807) (z := (-1)) (by rfl) (by rfl) (jwl_idd (by omega) (by omega)) (jwl_idd (by omega) (by omega)) (by rw [decide_eq_false (show ¬ ((9223372036854775807 : Int) < (-108917793696) * r7 - 159561683700 * r8) by omega), decide_eq_false (show ¬ (((-108917793696) * r7 - 159561683700 * r8 : Int) = 9223372036854775807) by omega)]; rfl) ?_
        refine jT_xifF (t := 120) (pcN := 75) jIQ_45_72 rfl (by decide +kernel) rfl rfl ?_
        refine jT_xlload (v := (1, 108917793695 * r7 + 159561683699 * r8)) (pcN := 77) jIQ_45_75 rfl rfl rfl ?_
        refine jT_xlload (v := (1, -r7 - r8)) (pcN := 79) jIQ_45_77 rfl rfl rfl ?_
        refine jT_xlsub (x := 108917793695 * r7 + 159561683699 * r8) (y := -r7 - r8) (z := 108917793696 * r7 + 159561683700 * r8) (pcN := 80) jIQ_45_79 rfl (by omega) rfl ?_
        refine jT_xlload (v := (1, 1)) (pcN := 82) jIQ_45_80 rfl rfl rfl ?_
        refine jT_xlmul (x := 108917793696 * r7 + 159561683700 * r8) (y := 1) (z := 108917793696 * r7 + 159561683700 * r8) (pcN := 83) jIQ_45_82 rfl (by omega) rfl ?_
        refine jT_xlload_n (v := (1, 1)) (pcN := 84) jIQ_45_83 rfl rfl rfl ?_
        refine jT_xbipush (k := 36) (pcN := 86) jIQ_45_84 (by decide) rfl ?_
        refine jT_lshl (x := 1) (y := 36) (z := 68719476736) (by rfl) (by rfl) (by decide +kernel) ?_
        refine jT_callA [] (y := 373) (pcN := 90) (dC := 0) (bc1 := 0) (bc2 := 0) (c1 := 0) (c2 := 0) (as := [(1, 108917793696 * r7 + 159561683700 * r8), (1, 68719476736)]) (asC := [(1, 108917793696 * r7 + 159561683700 * r8), (1, 68719476736)]) (LN := [(8, (1, 108917793695 * r7 + 159561683699 * r8)), (6, (1, -r7 - r8)), (0, (4, 0)), (1, (4, 1)), (2, (1, 1)), (4, (1, 1))]) (stN := []) (hsC := []) (ex := []) (v := (1, (108917793695 * r7 + 159561683699 * r8) / 68719476736)) (st2 := [(1, (108917793695 * r7 + 159561683699 * r8) / 68719476736)]) (hs2 := [(8, [(4, 2), (4, 3)], []), (101, [], [0, r7, r8, 0, 0, 0]), jgh, jgh]) (jT_fdJK2 (d := 0) (x := 108917793696 * r7 + 159561683700 * r8) (y := 108917793695 * r7 + 159561683699 * r8) (by omega) (jcf (b := r7) (c := r8) (by omega) (by omega) (by omega) (by omega))) (by rfl) (by rfl) (by rfl) (by rfl) trivial (by rfl) (by rfl) (by omega) (by show 4 ≤ 4; omega) (by omega) (by omega) rfl rfl ?_
        have hb_q1 : (-60) ≤ (108917793695 * r7 + 159561683699 * r8) / 68719476736 ∧ (108917793695 * r7 + 159561683699 * r8) / 68719476736 ≤ 60 := ⟨by omega, by omega⟩
        generalize hq_q1 : (108917793695 * r7 + 159561683699 * r8) / 68719476736 = q1 at hb_q1 ⊢
        refine jT_xlstore (v := (1, q1)) (LN := [(10, (1, q1)), (8, (1, 108917793695 * r7 + 159561683699 * r8)), (6, (1, -r7 - r8)), (0, (4, 0)), (1, (4, 1)), (2, (1, 1)), (4, (1, 1))]) (pcN := 92) jIQ_45_90 rfl rfl rfl rfl ?_
        refine jT_xlload (v := (1, 108917793695 * r7 + 159561683699 * r8)) (pcN := 94) jIQ_45_92 rfl rfl rfl ?_
        refine jT_xlload (v := (1, -r7 - r8)) (pcN := 96) jIQ_45_94 rfl rfl rfl ?_
        refine jT_xladd (x := 108917793695 * r7 + 159561683699 * r8) (y := -r7 - r8) (z := 108917793694 * r7 + 159561683698 * r8) (pcN := 97) jIQ_45_96 rfl (by omega) rfl ?_
        refine jT_xlload (v := (1, 1)) (pcN := 99) jIQ_45_97 rfl rfl rfl ?_
        refine jT_xlmul (x := 108917793694 * r7 + 159561683698 * r8) (y := 1) (z := 108917793694 * r7 + 159561683698 * r8) (pcN := 100) jIQ_45_99 rfl (by omega) rfl ?_
        refine jT_xlload_n (v := (1, 1)) (pcN := 101) jIQ_45_100 rfl rfl rfl ?_
        refine jT_xbipush (k := 36) (pcN := 103) jIQ_45_101 (by decide) rfl ?_
        refine jT_lshl (x := 1) (y := 36) (z := 68719476736) (by rfl) (by rfl) (by decide +kernel) ?_
        refine jT_callA [] (y := 373) (pcN := 107) (dC := 0) (bc1 := 0) (bc2 := 0) (c1 := 0) (c2 := 0) (as := [(1, 108917793694 * r7 + 159561683698 * r8), (1, 68719476736)]) (asC := [(1, 108917793694 * r7 + 159561683698 * r8), (1, 68719476736)]) (LN := [(10, (1, q1)), (8, (1, 108917793695 * r7 + 159561683699 * r8)), (6, (1, -r7 - r8)), (0, (4, 0)), (1, (4, 1)), (2, (1, 1)), (4, (1, 1))]) (stN := []) (hsC := []) (ex := []) (v := (1, (108917793695 * r7 + 159561683699 * r8) / 68719476736)) (st2 := [(1, (108917793695 * r7 + 159561683699 * r8) / 68719476736)]) (hs2 := [(8, [(4, 2), (4, 3)], []), (101, [], [0, r7, r8, 0, 0, 0]), jgh, jgh]) (jT_fdJK2 (d := 0) (x := 108917793694 * r7 + 159561683698 * r8) (y := 108917793695 * r7 + 159561683699 * r8) (by omega) (jcf (b := r7) (c := r8) (by omega) (by omega) (by omega) (by omega))) (by rfl) (by rfl) (by rfl) (by rfl) trivial (by rfl) (by rfl) (by omega) (by show 4 ≤ 4; omega) (by omega) (by omega) rfl rfl ?_
        rw [hq_q1]
        refine jT_xlstore (v := (1, q1)) (LN := [(12, (1, q1)), (10, (1, q1)), (8, (1, 108917793695 * r7 + 159561683699 * r8)), (6, (1, -r7 - r8)), (0, (4, 0)), (1, (4, 1)), (2, (1, 1)), (4, (1, 1))]) (pcN := 109) jIQ_45_107 rfl rfl rfl rfl ?_
        refine jT_xlload (v := (1, q1)) (pcN := 111) jIQ_45_109 rfl rfl rfl ?_
        refine jT_xlload (v := (1, q1)) (pcN := 113) jIQ_45_111 rfl rfl rfl ?_
        refine jT_lcmp (a := q1) (b := q1) (z := 0) (by rfl) (by rfl) (jwl_idd (by omega) (by omega)) (jwl_idd (by omega) (by omega)) (by rw [decide_eq_false (show ¬ ((q1 : Int) < q1) by omega), decide_eq_true (show (q1 : Int) = q1 by omega)]; rfl) ?_
        refine jT_xifF (t := 120) (pcN := 117) jIQ_45_114 rfl (by decide +kernel) rfl rfl ?_
        refine jT_xlload (v := (1, q1)) (pcN := 119) jIQ_45_117 rfl rfl rfl ?_
        exact jT_ret rfl (by decide) (by show 4 ≤ 4; decide) (by omega) (by omega) ⟨rfl, by rw [hq_q1], rfl⟩
theorem jIQ_161_69 : jmI (jm 161) 69 = (.lstore 5, 2) := by rfl
theorem jIQ_161_71 : jmI (jm 161) 71 = (.iload 4, 2) := by rfl
theorem jIQ_161_73 : jmI (jm 161) 73 = (.ifCond .le 34, 3) := by rfl
theorem jIQ_161_107 : jmI (jm 161) 107 = (.aload_n 0, 1) := by rfl
theorem jIQ_161_108 : jmI (jm 161) 108 = (.getfield 50, 3) := by rfl
theorem jIQ_161_111 : jmI (jm 161) 111 = (.iconst 0, 1) := by rfl
theorem jIQ_161_112 : jmI (jm 161) 112 = (.lload 5, 2) := by rfl
theorem jIQ_161_116 : jmI (jm 161) 116 = (.iconst 0, 1) := by rfl
theorem jIQ_161_117 : jmI (jm 161) 117 = (.istore 7, 2) := by rfl
theorem jIQ_161_119 : jmI (jm 161) 119 = (.iload 7, 2) := by rfl
theorem jIQ_161_121 : jmI (jm 161) 121 = (.bipush 6, 2) := by rfl
theorem jIQ_161_123 : jmI (jm 161) 123 = (.if_icmp .ge 36, 3) := by rfl
theorem jIQ_161_126 : jmI (jm 161) 126 = (.aload_n 0, 1) := by rfl
theorem jIQ_161_127 : jmI (jm 161) 127 = (.getfield 50, 3) := by rfl
theorem jIQ_161_130 : jmI (jm 161) 130 = (.iload 7, 2) := by rfl
theorem jIQ_161_132 : jmI (jm 161) 132 = (.aload_n 3, 1) := by rfl
theorem jIQ_161_133 : jmI (jm 161) 133 = (.getfield 209, 3) := by rfl
theorem jIQ_161_136 : jmI (jm 161) 136 = (.iload 7, 2) := by rfl
theorem jIQ_161_138 : jmI (jm 161) 138 = (.laload, 1) := by rfl
theorem jIQ_161_139 : jmI (jm 161) 139 = (.aload_n 0, 1) := by rfl
theorem jIQ_161_140 : jmI (jm 161) 140 = (.getfield 50, 3) := by rfl
theorem jIQ_161_143 : jmI (jm 161) 143 = (.iload 7, 2) := by rfl
theorem jIQ_161_145 : jmI (jm 161) 145 = (.laload, 1) := by rfl
theorem jIQ_161_146 : jmI (jm 161) 146 = (.aload_n 3, 1) := by rfl
theorem jIQ_161_147 : jmI (jm 161) 147 = (.getfield 102, 3) := by rfl
theorem jIQ_161_150 : jmI (jm 161) 150 = (.lmul, 1) := by rfl
theorem jIQ_161_151 : jmI (jm 161) 151 = (.lsub, 1) := by rfl
theorem jIQ_161_153 : jmI (jm 161) 153 = (.iinc 7 1, 3) := by rfl
theorem jIQ_161_156 : jmI (jm 161) 156 = (.goto (-37), 3) := by rfl
theorem jIQ_161_159 : jmI (jm 161) 159 = (.aload_n 0, 1) := by rfl
theorem jIQ_161_160 : jmI (jm 161) 160 = (.getfield 10, 3) := by rfl
theorem jIQ_161_163 : jmI (jm 161) 163 = (.aload_n 0, 1) := by rfl
theorem jIQ_161_164 : jmI (jm 161) 164 = (.getfield 50, 3) := by rfl
theorem jIQ_38_0 : jmI (jm 38) 0 = (.aload_n 0, 1) := by rfl
theorem jIQ_38_1 : jmI (jm 38) 1 = (.aload_n 1, 1) := by rfl
theorem jIQ_38_5 : jmI (jm 38) 5 = (.lstore_n 2, 1) := by rfl
theorem jIQ_38_6 : jmI (jm 38) 6 = (.lload_n 2, 1) := by rfl
theorem jIQ_38_7 : jmI (jm 38) 7 = (.lconst 0, 1) := by rfl
theorem jIQ_38_9 : jmI (jm 38) 9 = (.ifCond .ne 11, 3) := by rfl
theorem jIQ_38_20 : jmI (jm 38) 20 = (.aload_n 0, 1) := by rfl
theorem jIQ_38_21 : jmI (jm 38) 21 = (.aload_n 1, 1) := by rfl
theorem jIQ_38_22 : jmI (jm 38) 22 = (.lload_n 2, 1) := by rfl
theorem jIQ_38_26 : jmI (jm 38) 26 = (.ifCond .eq 38, 3) := by rfl
theorem jIQ_38_29 : jmI (jm 38) 29 = (.aload_n 0, 1) := by rfl
theorem jIQ_38_30 : jmI (jm 38) 30 = (.aload_n 1, 1) := by rfl
theorem jIQ_38_34 : jmI (jm 38) 34 = (.lstore 4, 2) := by rfl
theorem jIQ_38_36 : jmI (jm 38) 36 = (.lload 4, 2) := by rfl
theorem jIQ_38_38 : jmI (jm 38) 38 = (.lload_n 2, 1) := by rfl
theorem jIQ_38_40 : jmI (jm 38) 40 = (.ifCond .gt 11, 3) := by rfl
theorem jIQ_38_43 : jmI (jm 38) 43 = (.lload 4, 2) := by rfl
theorem jIQ_38_45 : jmI (jm 38) 45 = (.lload_n 2, 1) := by rfl
theorem jIQ_38_48 : jmI (jm 38) 48 = (.ifCond .ge 16, 3) := by rfl
theorem jIQ_38_51 : jmI (jm 38) 51 = (.lload 4, 2) := by rfl
theorem jIQ_38_53 : jmI (jm 38) 53 = (.lconst 0, 1) := by rfl
theorem jIQ_38_55 : jmI (jm 38) 55 = (.ifCond .ge 7, 3) := by rfl
theorem jIQ_38_58 : jmI (jm 38) 58 = (.iconst (-1), 1) := by rfl
theorem jIQ_38_59 : jmI (jm 38) 59 = (.goto 4, 3) := by rfl
theorem jIQ_38_12 : jmI (jm 38) 12 = (.aload_n 1, 1) := by rfl
theorem jIQ_38_13 : jmI (jm 38) 13 = (.iconst 0, 1) := by rfl
theorem jIQ_38_14 : jmI (jm 38) 14 = (.laload, 1) := by rfl
theorem jIQ_38_15 : jmI (jm 38) 15 = (.lconst 0, 1) := by rfl
theorem jIQ_38_62 : jmI (jm 38) 62 = (.iconst 1, 1) := by rfl
