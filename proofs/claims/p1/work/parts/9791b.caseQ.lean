/-! the law, case by case: 38 -/
theorem jQl_sp45_116 {xs : List Int} {d : Nat} {r7 r8 : Int} (h_r7 : (-20) ≤ r7 ∧ r7 ≤ 20) (h_r8 : (-10) ≤ r8 ∧ r8 ≤ 10) : jT xs (d + 1) 45 4 0 [(0, (4, 0)), (1, (4, 1)), (2, (1, 1)), (4, (1, 1))] [] [(8, [(4, 2), (4, 3)], []), (101, [], [0, r7, r8, 0, 0, 0]), jgh, jgh] 0 0 (fun k v hsN => k = 0 ∧ v = (1, (108917793695 * r7 + 159561683699 * r8) / 68719476736) ∧ hsN = [(8, [(4, 2), (4, 3)], []), (101, [], [0, r7, r8, 0, 0, 0]), jgh, jgh]) := by
  rcases (show (0 ≤ r7) ∨ (r7 < 0) by omega) with g_0 | g_0
  · rcases (show (0 ≤ r8) ∨ (r8 < 0) by omega) with g_1 | g_1
    · rcases (show (0 ≤ r7 + r8 - 1) ∨ (r7 + r8 - 1 < 0) by omega) with g_2 | g_2
      · rcases (show (0 ≤ 108917793695 * r7 + 159561683699 * r8) ∨ (108917793695 * r7 + 159561683699 * r8 < 0) by omega) with g_3 | g_3
        · refine jT_xlload_n (v := (1, 1)) (pcN := 1) jIQ_45_0 rfl rfl rfl ?_
          refine jT_xlconst (z := 1) (pcN := 2) jIQ_45_1 rfl rfl ?_
          refine jT_lcmp (a := 1) (b := 1) (z := 0) (by rfl) (by rfl) (by decide +kernel) (by decide +kernel) (by decide) ?_
          refine jT_xifF (t := 13) (pcN := 6) jIQ_45_3 rfl (by decide +kernel) rfl rfl ?_
          refine jT_xlload (v := (1, 1)) (pcN := 8) jIQ_45_6 rfl rfl rfl ?_
          refine jT_xlconst (z := 1) (pcN := 9) jIQ_45_8 rfl rfl ?_
          refine jT_lcmp (a := 1) (b := 1) (z := 0) (by rfl) (by rfl) (by decide +kernel) (by decide +kernel) (by decide) ?_
          refine jT_xifT (pcN := 15) jIQ_45_10 rfl (by decide +kernel) rfl ?_
          refine jT_xaload_n (v := (4, 0)) (pcN := 16) jIQ_45_15 rfl rfl rfl ?_
          refine jT_xaload_n (v := (4, 1)) (pcN := 17) jIQ_45_16 rfl rfl rfl ?_
          refine jT_callA [0, 1] (y := 39) (pcN := 20) (dC := 0) (bc1 := 0) (bc2 := 0) (c1 := 0) (c2 := 0) (as := [(4, 0), (4, 1)]) (asC := [(4, 0), (4, 1)]) (LN := [(0, (4, 0)), (1, (4, 1)), (2, (1, 1)), (4, (1, 1))]) (stN := []) (hsC := [jgh, (101, [], [0, r7, r8, 0, 0, 0])]) (ex := []) (v := (1, r7 + r8)) (st2 := [(1, r7 + r8)]) (hs2 := [(8, [(4, 2), (4, 3)], []), (101, [], [0, r7, r8, 0, 0, 0]), jgh, jgh]) (jQ_39_76 (d := 0) (by omega) (by omega) (by omega) (by omega) (by omega) (by omega)) (by rfl) (by rfl) (by rfl) (by rfl) ⟨rfl, rfl, trivial⟩ (by rfl) (by rfl) (by omega) (by show 4 ≤ 4; omega) (by omega) (by omega) rfl rfl ?_
          refine jT_xlstore (v := (1, r7 + r8)) (LN := [(6, (1, r7 + r8)), (0, (4, 0)), (1, (4, 1)), (2, (1, 1)), (4, (1, 1))]) (pcN := 22) jIQ_45_20 rfl rfl rfl rfl ?_
          refine jT_xlload (v := (1, r7 + r8)) (pcN := 24) jIQ_45_22 rfl rfl rfl ?_
          refine jT_xlconst (z := 0) (pcN := 25) jIQ_45_24 rfl rfl ?_
          refine jT_lcmp (a := r7 + r8) (b := 0) (z := 1) (by rfl) (by rfl) (jwl_idd (by omega) (by omega)) (jwl_idd (by omega) (by omega)) (by rw [decide_eq_true (show (0 : Int) < r7 + r8 by omega)]; rfl) ?_
          refine jT_xifT (pcN := 40) jIQ_45_26 rfl (by decide +kernel) rfl ?_
          refine jT_xaload_n (v := (4, 0)) (pcN := 41) jIQ_45_40 rfl rfl rfl ?_
          refine jT_xaload_n (v := (4, 1)) (pcN := 42) jIQ_45_41 rfl rfl rfl ?_
          refine jT_xlload (v := (1, r7 + r8)) (pcN := 44) jIQ_45_42 rfl rfl rfl ?_
          refine jT_callA [0, 1] (y := 40) (pcN := 47) (dC := 0) (bc1 := 0) (bc2 := 0) (c1 := 0) (c2 := 0) (as := [(4, 0), (4, 1), (1, r7 + r8)]) (asC := [(4, 0), (4, 1), (1, r7 + r8)]) (LN := [(6, (1, r7 + r8)), (0, (4, 0)), (1, (4, 1)), (2, (1, 1)), (4, (1, 1))]) (stN := []) (hsC := [jgh, (101, [], [0, r7, r8, 0, 0, 0])]) (ex := []) (v := (0, 1)) (st2 := [(0, 1)]) (hs2 := [(8, [(4, 2), (4, 3)], []), (101, [], [0, r7, r8, 0, 0, 0]), jgh, jgh]) (jQ_40_77 (d := 0) (by omega) (by omega) (by omega) (by omega) (by omega) (by omega)) (by rfl) (by rfl) (by rfl) (by rfl) ⟨rfl, rfl, trivial⟩ (by rfl) (by rfl) (by omega) (by show 4 ≤ 4; omega) (by omega) (by omega) rfl rfl ?_
          refine jT_xifF (t := 120) (pcN := 50) jIQ_45_47 rfl (by decide +kernel) rfl rfl ?_
          refine jT_xaload_n (v := (4, 0)) (pcN := 51) jIQ_45_50 rfl rfl rfl ?_
          refine jT_xaload_n (v := (4, 1)) (pcN := 52) jIQ_45_51 rfl rfl rfl ?_
          refine jT_callA [0, 1] (y := 41) (pcN := 55) (dC := 0) (bc1 := 0) (bc2 := 0) (c1 := 0) (c2 := 0) (as := [(4, 0), (4, 1)]) (asC := [(4, 0), (4, 1)]) (LN := [(6, (1, r7 + r8)), (0, (4, 0)), (1, (4, 1)), (2, (1, 1)), (4, (1, 1))]) (stN := []) (hsC := [jgh, (101, [], [0, r7, r8, 0, 0, 0])]) (ex := []) (v := (1, 108917793695 * r7 + 159561683699 * r8)) (st2 := [(1, 108917793695 * r7 + 159561683699 * r8)]) (hs2 := [(8, [(4, 2), (4, 3)], []), (101, [], [0, r7, r8, 0, 0, 0]), jgh, jgh]) (jQ_41_78 (d := 0) (by omega) (by omega) (by omega) (by omega) (by omega) (by omega)) (by rfl) (by rfl) (by rfl) (by rfl) ⟨rfl, rfl, trivial⟩ (by rfl) (by rfl) (by omega) (by show 4 ≤ 4; omega) (by omega) (by omega) rfl rfl ?_
          refine jT_xlstore (v := (1, 108917793695 * r7 + 159561683699 * r8)) (LN := [(8, (1, 108917793695 * r7 + 159561683699 * r8)), (6, (1, r7 + r8)), (0, (4, 0)), (1, (4, 1)), (2, (1, 1)), (4, (1, 1))]) (pcN := 57) jIQ_45_55 rfl rfl rfl rfl ?_
          refine jT_xlload (v := (1, 108917793695 * r7 + 159561683699 * r8)) (pcN := 59) jIQ_45_57 rfl rfl rfl ?_
          refine jT_labs (z := 108917793695 * r7 + 159561683699 * r8) (by rfl) (by rfl) (by rfl) (by rfl) (by rw [show jwl (108917793695 * r7 + 159561683699 * r8) = 108917793695 * r7 + 159561683699 * r8 from jwl_idd (by omega) (by omega), decide_eq_false (by omega)]; first | (simp only [cond_true, cond_false]; done) | (simp only [cond_true, cond_false]; omega) | rfl) ?_
          refine jT_xlload (v := (1, r7 + r8)) (pcN := 64) jIQ_45_62 rfl rfl rfl ?_
          refine jT_xladd (x := 108917793695 * r7 + 159561683699 * r8) (y := r7 + r8) (z := 108917793696 * r7 + 159561683700 * r8) (pcN := 65) jIQ_45_64 rfl (by omega) rfl ?_
          refine jT_adv 1 (pcN := 68) (LN := [(8, (1, 108917793695 * r7 + 159561683699 * r8)), (6, (1, r7 + r8)), (0, (4, 0)), (1, (4, 1)), (2, (1, 1)), (4, (1, 1))]) (stN := [(1, 9223372036854775807), (1, 108917793696 * r7 + 159561683700 * r8)]) (hsN := [(8, [(4, 2), (4, 3)], []), (101, [], [0, r7, r8, 0, 0, 0]), jgh, jgh]) (c1 := 0) (s1 := 0) (c2 := 0) (s2 := 0) (by exact rfl) ?_ (by omega) (by omega)
          refine jT_xlload (v := (1, 1)) (pcN := 70) jIQ_45_68 rfl rfl rfl ?_
          refine jT_ldiv (a := 9223372036854775807) (b := 1) (by rfl) (by rfl) (by decide +kernel) (by decide +kernel) (by decide) ?_
          refine jT_eq (LN := [(8, (1, 108917793695 * r7 + 159561683699 * r8)), (6, (1, r7 + r8)), (0, (4, 0)), (1, (4, 1)), (2, (1, 1)), (4, (1, 1))]) (stN := [(1, 9223372036854775807), (1, 108917793696 * r7 + 159561683700 * r8)]) (hsN := [(8, [(4, 2), (4, 3)], []), (101, [], [0, r7, r8, 0, 0, 0]), jgh, jgh]) rfl (by rw [show (9223372036854775807 : Int).tdiv 1 = 9223372036854775807 by decide +kernel]) rfl ?_
          refine jT_lcmp (a := 108917793696 * r7 + 159561683700 * r8) (b := 9223372036854775807) (z := (-1)) (by rfl) (by rfl) (jwl_idd (by omega) (by omega)) (jwl_idd (by omega) (by omega)) (by rw [decide_eq_false (show ¬ ((9223372036854775807 : Int) < 108917793696 * r7 + 159561683700 * r8) by omega), decide_eq_false (show ¬ ((108917793696 * r7 + 159561683700 * r8 : Int) = 9223372036854775807) by omega)]; rfl) ?_
          refine jT_xifF (t := 120) (pcN := 75) jIQ_45_72 rfl (by decide +kernel) rfl rfl ?_
          refine jT_xlload (v := (1, 108917793695 * r7 + 159561683699 * r8)) (pcN := 77) jIQ_45_75 rfl rfl rfl ?_
          refine jT_xlload (v := (1, r7 + r8)) (pcN := 79) jIQ_45_77 rfl rfl rfl ?_
          refine jT_xlsub (x := 108917793695 * r7 + 159561683699 * r8) (y := r7 + r8) (z := 108917793694 * r7 + 159561683698 * r8) (pcN := 80) jIQ_45_79 rfl (by omega) rfl ?_
          refine jT_xlload (v := (1, 1)) (pcN := 82) jIQ_45_80 rfl rfl rfl ?_
          refine jT_xlmul (x := 108917793694 * r7 + 159561683698 * r8) (y := 1) (z := 108917793694 * r7 + 159561683698 * r8) (pcN := 83) jIQ_45_82 rfl (by omega) rfl ?_
          refine jT_xlload_n (v := (1, 1)) (pcN := 84) jIQ_45_83 rfl rfl rfl ?_
          refine jT_xbipush (k := 36) (pcN := 86) jIQ_45_84 (by decide) rfl ?_
          refine jT_lshl (x := 1) (y := 36) (z := 68719476736) (by rfl) (by rfl) (by decide +kernel) ?_
          refine jT_callA [] (y := 373) (pcN := 90) (dC := 0) (bc1 := 0) (bc2 := 0) (c1 := 0) (c2 := 0) (as := [(1, 108917793694 * r7 + 159561683698 * r8), (1, 68719476736)]) (asC := [(1, 108917793694 * r7 + 159561683698 * r8), (1, 68719476736)]) (LN := [(8, (1, 108917793695 * r7 + 159561683699 * r8)), (6, (1, r7 + r8)), (0, (4, 0)), (1, (4, 1)), (2, (1, 1)), (4, (1, 1))]) (stN := []) (hsC := []) (ex := []) (v := (1, (108917793695 * r7 + 159561683699 * r8) / 68719476736)) (st2 := [(1, (108917793695 * r7 + 159561683699 * r8) / 68719476736)]) (hs2 := [(8, [(4, 2), (4, 3)], []), (101, [], [0, r7, r8, 0, 0, 0]), jgh, jgh]) (jT_fdJK2 (d := 0) (x := 108917793694 * r7 + 159561683698 * r8) (y := 108917793695 * r7 + 159561683699 * r8) (by omega) (jcf (b := r7) (c := r8) (by omega) (by omega) (by omega) (by omega))) (by rfl) (by rfl) (by rfl) (by rfl) trivial (by rfl) (by rfl) (by omega) (by show 4 ≤ 4; omega) (by omega) (by omega) rfl rfl ?_
          have hb_q1 : (-60) ≤ (108917793695 * r7 + 159561683699 * r8) / 68719476736 ∧ (108917793695 * r7 + 159561683699 * r8) / 68719476736 ≤ 60 := ⟨by omega, by omega⟩
          generalize hq_q1 : (108917793695 * r7 + 159561683699 * r8) / 68719476736 = q1 at hb_q1 ⊢
          refine jT_xlstore (v := (1, q1)) (LN := [(10, (1, q1)), (8, (1, 108917793695 * r7 + 159561683699 * r8)), (6, (1, r7 + r8)), (0, (4, 0)), (1, (4, 1)), (2, (1, 1)), (4, (1, 1))]) (pcN := 92) jIQ_45_90 rfl rfl rfl rfl ?_
          refine jT_xlload (v := (1, 108917793695 * r7 + 159561683699 * r8)) (pcN := 94) jIQ_45_92 rfl rfl rfl ?_
          refine jT_xlload (v := (1, r7 + r8)) (pcN := 96) jIQ_45_94 rfl rfl rfl ?_
          refine jT_xladd (x := 108917793695 * r7 + 159561683699 * r8) (y := r7 + r8) (z := 108917793696 * r7 + 159561683700 * r8) (pcN := 97) jIQ_45_96 rfl (by omega) rfl ?_
          refine jT_xlload (v := (1, 1)) (pcN := 99) jIQ_45_97 rfl rfl rfl ?_
          refine jT_xlmul (x := 108917793696 * r7 + 159561683700 * r8) (y := 1) (z := 108917793696 * r7 + 159561683700 * r8) (pcN := 100) jIQ_45_99 rfl (by omega) rfl ?_
          refine jT_xlload_n (v := (1, 1)) (pcN := 101) jIQ_45_100 rfl rfl rfl ?_
          refine jT_xbipush (k := 36) (pcN := 103) jIQ_45_101 (by decide) rfl ?_
          refine jT_lshl (x := 1) (y := 36) (z := 68719476736) (by rfl) (by rfl) (by decide +kernel) ?_
          refine jT_callA [] (y := 373) (pcN := 107) (dC := 0) (bc1 := 0) (bc2 := 0) (c1 := 0) (c2 := 0) (as := [(1, 108917793696 * r7 + 159561683700 * r8), (1, 68719476736)]) (asC := [(1, 108917793696 * r7 + 159561683700 * r8), (1, 68719476736)]) (LN := [(10, (1, q1)), (8, (1, 108917793695 * r7 + 159561683699 * r8)), (6, (1, r7 + r8)), (0, (4, 0)), (1, (4, 1)), (2, (1, 1)), (4, (1, 1))]) (stN := []) (hsC := []) (ex := []) (v := (1, (108917793695 * r7 + 159561683699 * r8) / 68719476736)) (st2 := [(1, (108917793695 * r7 + 159561683699 * r8) / 68719476736)]) (hs2 := [(8, [(4, 2), (4, 3)], []), (101, [], [0, r7, r8, 0, 0, 0]), jgh, jgh]) (jT_fdJK2 (d := 0) (x := 108917793696 * r7 + 159561683700 * r8) (y := 108917793695 * r7 + 159561683699 * r8) (by omega) (jcf (b := r7) (c := r8) (by omega) (by omega) (by omega) (by omega))) (by rfl) (by rfl) (by rfl) (by rfl) trivial (by rfl) (by rfl) (by omega) (by show 4 ≤ 4; omega) (by omega) (by omega) rfl rfl ?_
          rw [hq_q1]
          refine jT_xlstore (v := (1, q1)) (LN := [(12, (1, q1)), (10, (1, q1)), (8, (1, 108917793695 * r7 + 159561683699 * r8)), (6, (1, r7 + r8)), (0, (4, 0)), (1, (4, 1)), (2, (1, 1)), (4, (1, 1))]) (pcN := 109) jIQ_45_107 rfl rfl rfl rfl ?_
          refine jT_xlload (v := (1, q1)) (pcN := 111) jIQ_45_109 rfl rfl rfl ?_
          refine jT_xlload (v := (1, q1)) (pcN := 113) jIQ_45_111 rfl rfl rfl ?_
          refine jT_lcmp (a := q1) (b := q1) (z := 0) (by rfl) (by rfl) (jwl_idd (by omega) (by omega)) (jwl_idd (by omega) (by omega)) (by rw [decide_eq_false (show ¬ ((q1 : Int) < q1) by omega), decide_eq_true (show (q1 : Int) = q1 by omega)]; rfl) ?_
          refine jT_xifF (t := 120) (pcN := 117) jIQ_45_114 rfl (by decide +kernel) rfl rfl ?_
          refine jT_xlload (v := (1, q1)) (pcN := 119) jIQ_45_117 rfl rfl rfl ?_
          exact jT_ret rfl (by decide) (by show 4 ≤ 4; decide) (by omega) (by omega) ⟨rfl, by first | rfl | rw [hq_q1], rfl⟩
        · refine jT_xlload_n (v := (1, 1)) (pcN := 1) jIQ_45_0 rfl rfl rfl ?_
          refine jT_xlconst (z := 1) (pcN := 2) jIQ_45_1 rfl rfl ?_
          refine jT_lcmp (a := 1) (b := 1) (z := 0) (by rfl) (by rfl) (by decide +kernel) (by decide +kernel) (by decide) ?_
          refine jT_xifF (t := 13) (pcN := 6) jIQ_45_3 rfl (by decide +kernel) rfl rfl ?_
          refine jT_xlload (v := (1, 1)) (pcN := 8) jIQ_45_6 rfl rfl rfl ?_
          refine jT_xlconst (z := 1) (pcN := 9) jIQ_45_8 rfl rfl ?_
          refine jT_lcmp (a := 1) (b := 1) (z := 0) (by rfl) (by rfl) (by decide +kernel) (by decide +kernel) (by decide) ?_
          refine jT_xifT (pcN := 15) jIQ_45_10 rfl (by decide +kernel) rfl ?_
          refine jT_xaload_n (v := (4, 0)) (pcN := 16) jIQ_45_15 rfl rfl rfl ?_
          refine jT_xaload_n (v := (4, 1)) (pcN := 17) jIQ_45_16 rfl rfl rfl ?_
          refine jT_callA [0, 1] (y := 39) (pcN := 20) (dC := 0) (bc1 := 0) (bc2 := 0) (c1 := 0) (c2 := 0) (as := [(4, 0), (4, 1)]) (asC := [(4, 0), (4, 1)]) (LN := [(0, (4, 0)), (1, (4, 1)), (2, (1, 1)), (4, (1, 1))]) (stN := []) (hsC := [jgh, (101, [], [0, r7, r8, 0, 0, 0])]) (ex := []) (v := (1, r7 + r8)) (st2 := [(1, r7 + r8)]) (hs2 := [(8, [(4, 2), (4, 3)], []), (101, [], [0, r7, r8, 0, 0, 0]), jgh, jgh]) (jQ_39_73 (d := 0) (by omega) (by omega) (by omega) (by omega) (by omega) (by omega)) (by rfl) (by rfl) (by rfl) (by rfl) ⟨rfl, rfl, trivial⟩ (by rfl) (by rfl) (by omega) (by show 4 ≤ 4; omega) (by omega) (by omega) rfl rfl ?_
          refine jT_xlstore (v := (1, r7 + r8)) (LN := [(6, (1, r7 + r8)), (0, (4, 0)), (1, (4, 1)), (2, (1, 1)), (4, (1, 1))]) (pcN := 22) jIQ_45_20 rfl rfl rfl rfl ?_
          refine jT_xlload (v := (1, r7 + r8)) (pcN := 24) jIQ_45_22 rfl rfl rfl ?_
          refine jT_xlconst (z := 0) (pcN := 25) jIQ_45_24 rfl rfl ?_
          refine jT_lcmp (a := r7 + r8) (b := 0) (z := 1) (by rfl) (by rfl) (jwl_idd (by omega) (by omega)) (jwl_idd (by omega) (by omega)) (by rw [decide_eq_true (show (0 : Int) < r7 + r8 by omega)]; rfl) ?_
          refine jT_xifT (pcN := 40) jIQ_45_26 rfl (by decide +kernel) rfl ?_
          refine jT_xaload_n (v := (4, 0)) (pcN := 41) jIQ_45_40 rfl rfl rfl ?_
          refine jT_xaload_n (v := (4, 1)) (pcN := 42) jIQ_45_41 rfl rfl rfl ?_
          refine jT_xlload (v := (1, r7 + r8)) (pcN := 44) jIQ_45_42 rfl rfl rfl ?_
          refine jT_callA [0, 1] (y := 40) (pcN := 47) (dC := 0) (bc1 := 0) (bc2 := 0) (c1 := 0) (c2 := 0) (as := [(4, 0), (4, 1), (1, r7 + r8)]) (asC := [(4, 0), (4, 1), (1, r7 + r8)]) (LN := [(6, (1, r7 + r8)), (0, (4, 0)), (1, (4, 1)), (2, (1, 1)), (4, (1, 1))]) (stN := []) (hsC := [jgh, (101, [], [0, r7, r8, 0, 0, 0])]) (ex := []) (v := (0, 1)) (st2 := [(0, 1)]) (hs2 := [(8, [(4, 2), (4, 3)], []), (101, [], [0, r7, r8, 0, 0, 0]), jgh, jgh]) (jQ_40_74 (d := 0) (by omega) (by omega) (by omega) (by omega) (by omega) (by omega)) (by rfl) (by rfl) (by rfl) (by rfl) ⟨rfl, rfl, trivial⟩ (by rfl) (by rfl) (by omega) (by show 4 ≤ 4; omega) (by omega) (by omega) rfl rfl ?_
          refine jT_xifF (t := 120) (pcN := 50) jIQ_45_47 rfl (by decide +kernel) rfl rfl ?_
          refine jT_xaload_n (v := (4, 0)) (pcN := 51) jIQ_45_50 rfl rfl rfl ?_
          refine jT_xaload_n (v := (4, 1)) (pcN := 52) jIQ_45_51 rfl rfl rfl ?_
          refine jT_callA [0, 1] (y := 41) (pcN := 55) (dC := 0) (bc1 := 0) (bc2 := 0) (c1 := 0) (c2 := 0) (as := [(4, 0), (4, 1)]) (asC := [(4, 0), (4, 1)]) (LN := [(6, (1, r7 + r8)), (0, (4, 0)), (1, (4, 1)), (2, (1, 1)), (4, (1, 1))]) (stN := []) (hsC := [jgh, (101, [], [0, r7, r8, 0, 0, 0])]) (ex := []) (v := (1, 108917793695 * r7 + 159561683699 * r8)) (st2 := [(1, 108917793695 * r7 + 159561683699 * r8)]) (hs2 := [(8, [(4, 2), (4, 3)], []), (101, [], [0, r7, r8, 0, 0, 0]), jgh, jgh]) (jQ_41_75 (d := 0) (by omega) (by omega) (by omega) (by omega) (by omega) (by omega)) (by rfl) (by rfl) (by rfl) (by rfl) ⟨rfl, rfl, trivial⟩ (by rfl) (by rfl) (by omega) (by show 4 ≤ 4; omega) (by omega) (by omega) rfl rfl ?_
          refine jT_xlstore (v := (1, 108917793695 * r7 + 159561683699 * r8)) (LN := [(8, (1, 108917793695 * r7 + 159561683699 * r8)), (6, (1, r7 + r8)), (0, (4, 0)), (1, (4, 1)), (2, (1, 1)), (4, (1, 1))]) (pcN := 57) jIQ_45_55 rfl rfl rfl rfl ?_
          refine jT_xlload (v := (1, 108917793695 * r7 + 159561683699 * r8)) (pcN := 59) jIQ_45_57 rfl rfl rfl ?_
          refine jT_labs (z := (-108917793695) * r7 - 159561683699 * r8) (by rfl) (by rfl) (by rfl) (by rfl) (by rw [show jwl (108917793695 * r7 + 159561683699 * r8) = 108917793695 * r7 + 159561683699 * r8 from jwl_idd (by omega) (by omega), decide_eq_true (by omega)]; first | (simp only [cond_true, cond_false]; done) | (simp only [cond_true, cond_false]; omega) | rfl) ?_
          refine jT_xlload (v := (1, r7 + r8)) (pcN := 64) jIQ_45_62 rfl rfl rfl ?_
          refine jT_xladd (x := (-108917793695) * r7 - 159561683699 * r8) (y := r7 + r8) (z := (-108917793694) * r7 - 159561683698 * r8) (pcN := 65) jIQ_45_64 rfl (by omega) rfl ?_
          refine jT_adv 1 (pcN := 68) (LN := [(8, (1, 108917793695 * r7 + 159561683699 * r8)), (6, (1, r7 + r8)), (0, (4, 0)), (1, (4, 1)), (2, (1, 1)), (4, (1, 1))]) (stN := [(1, 9223372036854775807), (1, (-108917793694) * r7 - 159561683698 * r8)]) (hsN := [(8, [(4, 2), (4, 3)], []), (101, [], [0, r7, r8, 0, 0, 0]), jgh, jgh]) (c1 := 0) (s1 := 0) (c2 := 0) (s2 := 0) (by exact rfl) ?_ (by omega) (by omega)
          refine jT_xlload (v := (1, 1)) (pcN := 70) jIQ_45_68 rfl rfl rfl ?_
          refine jT_ldiv (a := 9223372036854775807) (b := 1) (by rfl) (by rfl) (by decide +kernel) (by decide +kernel) (by decide) ?_
          refine jT_eq (LN := [(8, (1, 108917793695 * r7 + 159561683699 * r8)), (6, (1, r7 + r8)), (0, (4, 0)), (1, (4, 1)), (2, (1, 1)), (4, (1, 1))]) (stN := [(1, 9223372036854775807), (1, (-108917793694) * r7 - 159561683698 * r8)]) (hsN := [(8, [(4, 2), (4, 3)], []), (101, [], [0, r7, r8, 0, 0, 0]), jgh, jgh]) rfl (by rw [show (9223372036854775807 : Int).tdiv 1 = 9223372036854775807 by decide +kernel]) rfl ?_
          refine jT_lcmp (a := (-108917793694) * r7 - 159561683698 * r8) (b := 9223372036854775807) (z := (-1)) (by rfl) (by rfl) (jwl_idd (by omega) (by omega)) (jwl_idd (by omega) (by omega)) (by rw [decide_eq_false (show ¬ ((9223372036854775807 : Int) < (-108917793694) * r7 - 159561683698 * r8) by omega), decide_eq_false (show ¬ (((-108917793694) * r7 - 159561683698 * r8 : Int) = 9223372036854775807) by omega)]; rfl) ?_
          refine jT_xifF (t := 120) (pcN := 75) jIQ_45_72 rfl (by decide +kernel) rfl rfl ?_
          refine jT_xlload (v := (1, 108917793695 * r7 + 159561683699 * r8)) (pcN := 77) jIQ_45_75 rfl rfl rfl ?_
          refine jT_xlload (v := (1, r7 + r8)) (pcN := 79) jIQ_45_77 rfl rfl rfl ?_
          refine jT_xlsub (x := 108917793695 * r7 + 159561683699 * r8) (y := r7 + r8) (z := 108917793694 * r7 + 159561683698 * r8) (pcN := 80) jIQ_45_79 rfl (by omega) rfl ?_
          refine jT_xlload (v := (1, 1)) (pcN := 82) jIQ_45_80 rfl rfl rfl ?_
          refine jT_xlmul (x := 108917793694 * r7 + 159561683698 * r8) (y := 1) (z := 108917793694 * r7 + 159561683698 * r8) (pcN := 83) jIQ_45_82 rfl (by omega) rfl ?_
          refine jT_xlload_n (v := (1, 1)) (pcN := 84) jIQ_45_83 rfl rfl rfl ?_
          refine jT_xbipush (k := 36) (pcN := 86) jIQ_45_84 (by decide) rfl ?_
          refine jT_lshl (x := 1) (y := 36) (z := 68719476736) (by rfl) (by rfl) (by decide +kernel) ?_
          refine jT_callA [] (y := 373) (pcN := 90) (dC := 0) (bc1 := 0) (bc2 := 0) (c1 := 0) (c2 := 0) (as := [(1, 108917793694 * r7 + 159561683698 * r8), (1, 68719476736)]) (asC := [(1, 108917793694 * r7 + 159561683698 * r8), (1, 68719476736)]) (LN := [(8, (1, 108917793695 * r7 + 159561683699 * r8)), (6, (1, r7 + r8)), (0, (4, 0)), (1, (4, 1)), (2, (1, 1)), (4, (1, 1))]) (stN := []) (hsC := []) (ex := []) (v := (1, (108917793695 * r7 + 159561683699 * r8) / 68719476736)) (st2 := [(1, (108917793695 * r7 + 159561683699 * r8) / 68719476736)]) (hs2 := [(8, [(4, 2), (4, 3)], []), (101, [], [0, r7, r8, 0, 0, 0]), jgh, jgh]) (jT_fdJK2 (d := 0) (x := 108917793694 * r7 + 159561683698 * r8) (y := 108917793695 * r7 + 159561683699 * r8) (by omega) (jcf (b := r7) (c := r8) (by omega) (by omega) (by omega) (by omega))) (by rfl) (by rfl) (by rfl) (by rfl) trivial (by rfl) (by rfl) (by omega) (by show 4 ≤ 4; omega) (by omega) (by omega) rfl rfl ?_
          have hb_q1 : (-60) ≤ (108917793695 * r7 + 159561683699 * r8) / 68719476736 ∧ (108917793695 * r7 + 159561683699 * r8) / 68719476736 ≤ 60 := ⟨by omega, by omega⟩
          generalize hq_q1 : (108917793695 * r7 + 159561683699 * r8) / 68719476736 = q1 at hb_q1 ⊢
          refine jT_xlstore (v := (1, q1)) (LN := [(10, (1, q1)), (8, (1, 108917793695 * r7 + 159561683699 * r8)), (6, (1, r7 + r8)), (0, (4, 0)), (1, (4, 1)), (2, (1, 1)), (4, (1, 1))]) (pcN := 92) jIQ_45_90 rfl rfl rfl rfl ?_
          refine jT_xlload (v := (1, 108917793695 * r7 + 159561683699 * r8)) (pcN := 94) jIQ_45_92 rfl rfl rfl ?_
          refine jT_xlload (v := (1, r7 + r8)) (pcN := 96) jIQ_45_94 rfl rfl rfl ?_
          refine jT_xladd (x := 108917793695 * r7 + 159561683699 * r8) (y := r7 + r8) (z := 108917793696 * r7 + 159561683700 * r8) (pcN := 97) jIQ_45_96 rfl (by omega) rfl ?_
          refine jT_xlload (v := (1, 1)) (pcN := 99) jIQ_45_97 rfl rfl rfl ?_
          refine jT_xlmul (x := 108917793696 * r7 + 159561683700 * r8) (y := 1) (z := 108917793696 * r7 + 159561683700 * r8) (pcN := 100) jIQ_45_99 rfl (by omega) rfl ?_
          refine jT_xlload_n (v := (1, 1)) (pcN := 101) jIQ_45_100 rfl rfl rfl ?_
          refine jT_xbipush (k := 36) (pcN := 103) jIQ_45_101 (by decide) rfl ?_
          refine jT_lshl (x := 1) (y := 36) (z := 68719476736) (by rfl) (by rfl) (by decide +kernel) ?_
          refine jT_callA [] (y := 373) (pcN := 107) (dC := 0) (bc1 := 0) (bc2 := 0) (c1 := 0) (c2 := 0) (as := [(1, 108917793696 * r7 + 159561683700 * r8), (1, 68719476736)]) (asC := [(1, 108917793696 * r7 + 159561683700 * r8), (1, 68719476736)]) (LN := [(10, (1, q1)), (8, (1, 108917793695 * r7 + 159561683699 * r8)), (6, (1, r7 + r8)), (0, (4, 0)), (1, (4, 1)), (2, (1, 1)), (4, (1, 1))]) (stN := []) (hsC := []) (ex := []) (v := (1, (108917793695 * r7 + 159561683699 * r8) / 68719476736)) (st2 := [(1, (108917793695 * r7 + 159561683699 * r8) / 68719476736)]) (hs2 := [(8, [(4, 2), (4, 3)], []), (101, [], [0, r7, r8, 0, 0, 0]), jgh, jgh]) (jT_fdJK2 (d := 0) (x := 108917793696 * r7 + 159561683700 * r8) (y := 108917793695 * r7 + 159561683699 * r8) (by omega) (jcf (b := r7) (c := r8) (by omega) (by omega) (by omega) (by omega))) (by rfl) (by rfl) (by rfl) (by rfl) trivial (by rfl) (by rfl) (by omega) (by show 4 ≤ 4; omega) (by omega) (by omega) rfl rfl ?_
          rw [hq_q1]
          refine jT_xlstore (v := (1, q1)) (LN := [(12, (1, q1)), (10, (1, q1)), (8, (1, 108917793695 * r7 + 159561683699 * r8)), (6, (1, r7 + r8)), (0, (4, 0)), (1, (4, 1)), (2, (1, 1)), (4, (1, 1))]) (pcN := 109) jIQ_45_107 rfl rfl rfl rfl ?_
          refine jT_xlload (v := (1, q1)) (pcN := 111) jIQ_45_109 rfl rfl rfl ?_
          refine jT_xlload (v := (1, q1)) (pcN := 113) jIQ_45_111 rfl rfl rfl ?_
          refine jT_lcmp (a := q1) (b := q1) (z := 0) (by rfl) (by rfl) (jwl_idd (by omega) (by omega)) (jwl_idd (by omega) (by omega)) (by rw [decide_eq_false (show ¬ ((q1 : Int) < q1) by omega), decide_eq_true (show (q1 : Int) = q1 by omega)]; rfl) ?_
          refine jT_xifF (t := 120) (pcN := 117) jIQ_45_114 rfl (by decide +kernel) rfl rfl ?_
          refine jT_xlload (v := (1, q1)) (pcN := 119) jIQ_45_117 rfl rfl rfl ?_
          exact jT_ret rfl (by decide) (by show 4 ≤ 4; decide) (by omega) (by omega) ⟨rfl, by first | rfl | rw [hq_q1], rfl⟩
      · refine jT_xlload_n (v := (1, 1)) (pcN := 1) jIQ_45_0 rfl rfl rfl ?_
        refine jT_xlconst (z := 1) (pcN := 2) jIQ_45_1 rfl rfl ?_
        refine jT_lcmp (a := 1) (b := 1) (z := 0) (by rfl) (by rfl) (by decide +kernel) (by decide +kernel) (by decide) ?_
        refine jT_xifF (t := 13) (pcN := 6) jIQ_45_3 rfl (by decide +kernel) rfl rfl ?_
        refine jT_xlload (v := (1, 1)) (pcN := 8) jIQ_45_6 rfl rfl rfl ?_
        refine jT_xlconst (z := 1) (pcN := 9) jIQ_45_8 rfl rfl ?_
        refine jT_lcmp (a := 1) (b := 1) (z := 0) (by rfl) (by rfl) (by decide +kernel) (by decide +kernel) (by decide) ?_
        refine jT_xifT (pcN := 15) jIQ_45_10 rfl (by decide +kernel) rfl ?_
        refine jT_xaload_n (v := (4, 0)) (pcN := 16) jIQ_45_15 rfl rfl rfl ?_
        refine jT_xaload_n (v := (4, 1)) (pcN := 17) jIQ_45_16 rfl rfl rfl ?_
        refine jT_callA [0, 1] (y := 39) (pcN := 20) (dC := 0) (bc1 := 0) (bc2 := 0) (c1 := 0) (c2 := 0) (as := [(4, 0), (4, 1)]) (asC := [(4, 0), (4, 1)]) (LN := [(0, (4, 0)), (1, (4, 1)), (2, (1, 1)), (4, (1, 1))]) (stN := []) (hsC := [jgh, (101, [], [0, r7, r8, 0, 0, 0])]) (ex := []) (v := (1, r7 + r8)) (st2 := [(1, r7 + r8)]) (hs2 := [(8, [(4, 2), (4, 3)], []), (101, [], [0, r7, r8, 0, 0, 0]), jgh, jgh]) (jQ_39_68 (d := 0) (by omega) (by omega) (by omega) (by omega) (by omega)) (by rfl) (by rfl) (by rfl) (by rfl) ⟨rfl, rfl, trivial⟩ (by rfl) (by rfl) (by omega) (by show 4 ≤ 4; omega) (by omega) (by omega) rfl rfl ?_
        refine jT_xlstore (v := (1, r7 + r8)) (LN := [(6, (1, r7 + r8)), (0, (4, 0)), (1, (4, 1)), (2, (1, 1)), (4, (1, 1))]) (pcN := 22) jIQ_45_20 rfl rfl rfl rfl ?_
        refine jT_xlload (v := (1, r7 + r8)) (pcN := 24) jIQ_45_22 rfl rfl rfl ?_
        refine jT_xlconst (z := 0) (pcN := 25) jIQ_45_24 rfl rfl ?_
        refine jT_lcmp (a := r7 + r8) (b := 0) (z := 0) (by rfl) (by rfl) (jwl_idd (by omega) (by omega)) (jwl_idd (by omega) (by omega)) (by rw [decide_eq_false (show ¬ ((0 : Int) < r7 + r8) by omega), decide_eq_true (show (r7 + r8 : Int) = 0 by omega)]; rfl) ?_
        refine jT_xifF (t := 40) (pcN := 29) jIQ_45_26 rfl (by decide +kernel) rfl rfl ?_
        refine jT_xaload_n (v := (4, 1)) (pcN := 30) jIQ_45_29 rfl rfl rfl ?_
        refine jT_xiconst (k := 0) (pcN := 31) jIQ_45_30 rfl ?_
        refine jT_lald (x := 0) (a := 1) (j := 0) (fs := []) (X := [0, r7, r8, 0, 0, 0]) jIQ_45_31 rfl rfl rfl rfl ?_
        refine jT_eq (LN := [(6, (1, r7 + r8)), (0, (4, 0)), (1, (4, 1)), (2, (1, 1)), (4, (1, 1))]) (stN := [(1, 0)]) (hsN := [(8, [(4, 2), (4, 3)], []), (101, [], [0, r7, r8, 0, 0, 0]), jgh, jgh]) rfl rfl rfl ?_
        refine jT_xlload (v := (1, 1)) (pcN := 34) jIQ_45_32 rfl rfl rfl ?_
        refine jT_xlmul (x := 0) (y := 1) (z := 0) (pcN := 35) jIQ_45_34 rfl (by decide) rfl ?_
        refine jT_xlload_n (v := (1, 1)) (pcN := 36) jIQ_45_35 rfl rfl rfl ?_
        refine jT_callA [] (y := 373) (pcN := 39) (dC := 0) (bc1 := 0) (bc2 := 0) (c1 := 0) (c2 := 0) (as := [(1, 0), (1, 1)]) (asC := [(1, 0), (1, 1)]) (LN := [(6, (1, r7 + r8)), (0, (4, 0)), (1, (4, 1)), (2, (1, 1)), (4, (1, 1))]) (stN := []) (hsC := []) (ex := []) (v := (1, 0)) (st2 := [(1, 0)]) (hs2 := [(8, [(4, 2), (4, 3)], []), (101, [], [0, r7, r8, 0, 0, 0]), jgh, jgh]) (jQ_373_69 (d := 0)) (by rfl) (by rfl) (by rfl) (by rfl) trivial (by rfl) (by rfl) (by omega) (by show 4 ≤ 4; omega) (by omega) (by omega) rfl rfl ?_
        exact jT_ret rfl (by decide) (by show 4 ≤ 4; decide) (by omega) (by omega) ⟨rfl, by rw [show ((108917793695 * r7 + 159561683699 * r8) / 68719476736 : Int) = 0 by omega], rfl⟩
    · rcases (show (0 ≤ 108917793695 * r7 + 159561683699 * r8) ∨ (108917793695 * r7 + 159561683699 * r8 < 0) by omega) with g_2 | g_2
      · refine jT_xlload_n (v := (1, 1)) (pcN := 1) jIQ_45_0 rfl rfl rfl ?_
        refine jT_xlconst (z := 1) (pcN := 2) jIQ_45_1 rfl rfl ?_
        refine jT_lcmp (a := 1) (b := 1) (z := 0) (by rfl) (by rfl) (by decide +kernel) (by decide +kernel) (by decide) ?_
        refine jT_xifF (t := 13) (pcN := 6) jIQ_45_3 rfl (by decide +kernel) rfl rfl ?_
        refine jT_xlload (v := (1, 1)) (pcN := 8) jIQ_45_6 rfl rfl rfl ?_
        refine jT_xlconst (z := 1) (pcN := 9) jIQ_45_8 rfl rfl ?_
        refine jT_lcmp (a := 1) (b := 1) (z := 0) (by rfl) (by rfl) (by decide +kernel) (by decide +kernel) (by decide) ?_
        refine jT_xifT (pcN := 15) jIQ_45_10 rfl (by decide +kernel) rfl ?_
        refine jT_xaload_n (v := (4, 0)) (pcN := 16) jIQ_45_15 rfl rfl rfl ?_
        refine jT_xaload_n (v := (4, 1)) (pcN := 17) jIQ_45_16 rfl rfl rfl ?_
        refine jT_callA [0, 1] (y := 39) (pcN := 20) (dC := 0) (bc1 := 0) (bc2 := 0) (c1 := 0) (c2 := 0) (as := [(4, 0), (4, 1)]) (asC := [(4, 0), (4, 1)]) (LN := [(0, (4, 0)), (1, (4, 1)), (2, (1, 1)), (4, (1, 1))]) (stN := []) (hsC := [jgh, (101, [], [0, r7, r8, 0, 0, 0])]) (ex := []) (v := (1, r7 - r8)) (st2 := [(1, r7 - r8)]) (hs2 := [(8, [(4, 2), (4, 3)], []), (101, [], [0, r7, r8, 0, 0, 0]), jgh, jgh]) (jQ_39_64 (d := 0) (by omega) (by omega) (by omega) (by omega) (by omega)) (by rfl) (by rfl) (by rfl) (by rfl) ⟨rfl, rfl, trivial⟩ (by rfl) (by rfl) (by omega) (by show 4 ≤ 4; omega) (by omega) (by omega) rfl rfl ?_
        refine jT_xlstore (v := (1, r7 - r8)) (LN := [(6, (1, r7 - r8)), (0, (4, 0)), (1, (4, 1)), (2, (1, 1)), (4, (1, 1))]) (pcN := 22) jIQ_45_20 rfl rfl rfl rfl ?_
        refine jT_xlload (v := (1, r7 - r8)) (pcN := 24) jIQ_45_22 rfl rfl rfl ?_
        refine jT_xlconst (z := 0) (pcN := 25) jIQ_45_24 rfl rfl ?_
        refine jT_lcmp (a := r7 - r8) (b := 0) (z := 1) (by rfl) (by rfl) (jwl_idd (by omega) (by omega)) (jwl_idd (by omega) (by omega)) (by rw [decide_eq_true (show (0 : Int) < r7 - r8 by omega)]; rfl) ?_
        refine jT_xifT (pcN := 40) jIQ_45_26 rfl (by decide +kernel) rfl ?_
        refine jT_xaload_n (v := (4, 0)) (pcN := 41) jIQ_45_40 rfl rfl rfl ?_
        refine jT_xaload_n (v := (4, 1)) (pcN := 42) jIQ_45_41 rfl rfl rfl ?_
        refine jT_xlload (v := (1, r7 - r8)) (pcN := 44) jIQ_45_42 rfl rfl rfl ?_
        refine jT_callA [0, 1] (y := 40) (pcN := 47) (dC := 0) (bc1 := 0) (bc2 := 0) (c1 := 0) (c2 := 0) (as := [(4, 0), (4, 1), (1, r7 - r8)]) (asC := [(4, 0), (4, 1), (1, r7 - r8)]) (LN := [(6, (1, r7 - r8)), (0, (4, 0)), (1, (4, 1)), (2, (1, 1)), (4, (1, 1))]) (stN := []) (hsC := [jgh, (101, [], [0, r7, r8, 0, 0, 0])]) (ex := []) (v := (0, 1)) (st2 := [(0, 1)]) (hs2 := [(8, [(4, 2), (4, 3)], []), (101, [], [0, r7, r8, 0, 0, 0]), jgh, jgh]) (jQ_40_65 (d := 0) (by omega) (by omega) (by omega) (by omega) (by omega)) (by rfl) (by rfl) (by rfl) (by rfl) ⟨rfl, rfl, trivial⟩ (by rfl) (by rfl) (by omega) (by show 4 ≤ 4; omega) (by omega) (by omega) rfl rfl ?_
        refine jT_xifF (t := 120) (pcN := 50) jIQ_45_47 rfl (by decide +kernel) rfl rfl ?_
        refine jT_xaload_n (v := (4, 0)) (pcN := 51) jIQ_45_50 rfl rfl rfl ?_
        refine jT_xaload_n (v := (4, 1)) (pcN := 52) jIQ_45_51 rfl rfl rfl ?_
        refine jT_callA [0, 1] (y := 41) (pcN := 55) (dC := 0) (bc1 := 0) (bc2 := 0) (c1 := 0) (c2 := 0) (as := [(4, 0), (4, 1)]) (asC := [(4, 0), (4, 1)]) (LN := [(6, (1, r7 - r8)), (0, (4, 0)), (1, (4, 1)), (2, (1, 1)), (4, (1, 1))]) (stN := []) (hsC := [jgh, (101, [], [0, r7, r8, 0, 0, 0])]) (ex := []) (v := (1, 108917793695 * r7 + 159561683699 * r8)) (st2 := [(1, 108917793695 * r7 + 159561683699 * r8)]) (hs2 := [(8, [(4, 2), (4, 3)], []), (101, [], [0, r7, r8, 0, 0, 0]), jgh, jgh]) (jQ_41_66 (d := 0) (by omega) (by omega) (by omega) (by omega) (by omega)) (by rfl) (by rfl) (by rfl) (by rfl) ⟨rfl, rfl, trivial⟩ (by rfl) (by rfl) (by omega) (by show 4 ≤ 4; omega) (by omega) (by omega) rfl rfl ?_
        refine jT_xlstore (v := (1, 108917793695 * r7 + 159561683699 * r8)) (LN := [(8, (1, 108917793695 * r7 + 159561683699 * r8)), (6, (1, r7 - r8)), (0, (4, 0)), (1, (4, 1)), (2, (1, 1)), (4, (1, 1))]) (pcN := 57) jIQ_45_55 rfl rfl rfl rfl ?_
        refine jT_xlload (v := (1, 108917793695 * r7 + 159561683699 * r8)) (pcN := 59) jIQ_45_57 rfl rfl rfl ?_
        refine jT_labs (z := 108917793695 * r7 + 159561683699 * r8) (by rfl) (by rfl) (by rfl) (by rfl) (by rw [show jwl (108917793695 * r7 + 159561683699 * r8) = 108917793695 * r7 + 159561683699 * r8 from jwl_idd (by omega) (by omega), decide_eq_false (by omega)]; first | (simp only [cond_true, cond_false]; done) | (simp only [cond_true, cond_false]; omega) | rfl) ?_
        refine jT_xlload (v := (1, r7 - r8)) (pcN := 64) jIQ_45_62 rfl rfl rfl ?_
        refine jT_xladd (x := 108917793695 * r7 + 159561683699 * r8) (y := r7 - r8) (z := 108917793696 * r7 + 159561683698 * r8) (pcN := 65) jIQ_45_64 rfl (by omega) rfl ?_
        refine jT_adv 1 (pcN := 68) (LN := [(8, (1, 108917793695 * r7 + 159561683699 * r8)), (6, (1, r7 - r8)), (0, (4, 0)), (1, (4, 1)), (2, (1, 1)), (4, (1, 1))]) (stN := [(1, 9223372036854775807), (1, 108917793696 * r7 + 159561683698 * r8)]) (hsN := [(8, [(4, 2), (4, 3)], []), (101, [], [0, r7, r8, 0, 0, 0]), jgh, jgh]) (c1 := 0) (s1 := 0) (c2 := 0) (s2 := 0) (by exact rfl) ?_ (by omega) (by omega)
        refine jT_xlload (v := (1, 1)) (pcN := 70) jIQ_45_68 rfl rfl rfl ?_
        refine jT_ldiv (a := 9223372036854775807) (b := 1) (by rfl) (by rfl) (by decide +kernel) (by decide +kernel) (by decide) ?_
        refine jT_eq (LN := [(8, (1, 108917793695 * r7 + 159561683699 * r8)), (6, (1, r7 - r8)), (0, (4, 0)), (1, (4, 1)), (2, (1, 1)), (4, (1, 1))]) (stN := [(1, 9223372036854775807), (1, 108917793696 * r7 + 159561683698 * r8)]) (hsN := [(8, [(4, 2), (4, 3)], []), (101, [], [0, r7, r8, 0, 0, 0]), jgh, jgh]) rfl (by rw [show (9223372036854775807 : Int).tdiv 1 = 9223372036854775807 by decide +kernel]) rfl ?_
        refine jT_lcmp (a := 108917793696 * r7 + 159561683698 * r8) (b := 9223372036854775807) (z := (-1)) (by rfl) (by rfl) (jwl_idd (by omega) (by omega)) (jwl_idd (by omega) (by omega)) (by rw [decide_eq_false (show ¬ ((9223372036854775807 : Int) < 108917793696 * r7 + 159561683698 * r8) by omega), decide_eq_false (show ¬ ((108917793696 * r7 + 159561683698 * r8 : Int) = 9223372036854775807) by omega)]; rfl) ?_
        refine jT_xifF (t := 120) (pcN := 75) jIQ_45_72 rfl (by decide +kernel) rfl rfl ?_
        refine jT_xlload (v := (1, 108917793695 * r7 + 159561683699 * r8)) (pcN := 77) jIQ_45_75 rfl rfl rfl ?_
        refine jT_xlload (v := (1, r7 - r8)) (pcN := 79) jIQ_45_77 rfl rfl rfl ?_
        refine jT_xlsub (x := 108917793695 * r7 + 159561683699 * r8) (y := r7 - r8) (z := 108917793694 * r7 + 159561683700 * r8) (pcN := 80) jIQ_45_79 rfl (by omega) rfl ?_
        refine jT_xlload (v := (1, 1)) (pcN := 82) jIQ_45_80 rfl rfl rfl ?_
        refine jT_xlmul (x := 108917793694 * r7 + 159561683700 * r8) (y := 1) (z := 108917793694 * r7 + 159561683700 * r8) (pcN := 83) jIQ_45_82 rfl (by omega) rfl ?_
        refine jT_xlload_n (v := (1, 1)) (pcN := 84) jIQ_45_83 rfl rfl rfl ?_
        refine jT_xbipush (k := 36) (pcN := 86) jIQ_45_84 (by decide) rfl ?_
        refine jT_lshl (x := 1) (y := 36) (z := 68719476736) (by rfl) (by rfl) (by decide +kernel) ?_
        refine jT_callA [] (y := 373) (pcN := 90) (dC := 0) (bc1 := 0) (bc2 := 0) (c1 := 0) (c2 := 0) (as := [(1, 108917793694 * r7 + 159561683700 * r8), (1, 68719476736)]) (asC := [(1, 108917793694 * r7 + 159561683700 * r8), (1, 68719476736)]) (LN := [(8, (1, 108917793695 * r7 + 159561683699 * r8)), (6, (1, r7 - r8)), (0, (4, 0)), (1, (4, 1)), (2, (1, 1)), (4, (1, 1))]) (stN := []) (hsC := []) (ex := []) (v := (1, (108917793695 * r7 + 159561683699 * r8) / 68719476736)) (st2 := [(1, (108917793695 * r7 + 159561683699 * r8) / 68719476736)]) (hs2 := [(8, [(4, 2), (4, 3)], []), (101, [], [0, r7, r8, 0, 0, 0]), jgh, jgh]) (jT_fdJK2 (d := 0) (x := 108917793694 * r7 + 159561683700 * r8) (y := 108917793695 * r7 + 159561683699 * r8) (by omega) (jcf (b := r7) (c := r8) (by omega) (by omega) (by omega) (by omega))) (by rfl) (by rfl) (by rfl) (by rfl) trivial (by rfl) (by rfl) (by omega) (by show 4 ≤ 4; omega) (by omega) (by omega) rfl rfl ?_
        have hb_q1 : (-60) ≤ (108917793695 * r7 + 159561683699 * r8) / 68719476736 ∧ (108917793695 * r7 + 159561683699 * r8) / 68719476736 ≤ 60 := ⟨by omega, by omega⟩
        generalize hq_q1 : (108917793695 * r7 + 159561683699 * r8) / 68719476736 = q1 at hb_q1 ⊢
        refine jT_xlstore (v := (1, q1)) (LN := [(10, (1, q1)), (8, (1, 108917793695 * r7 + 159561683699 * r8)), (6, (1, r7 - r8)), (0, (4, 0)), (1, (4, 1)), (2, (1, 1)), (4, (1, 1))]) (pcN := 92) jIQ_45_90 rfl rfl rfl rfl ?_
        refine jT_xlload (v := (1, 108917793695 * r7 + 159561683699 * r8)) (pcN := 94) jIQ_45_92 rfl rfl rfl ?_
        refine jT_xlload (v := (1, r7 - r8)) (pcN := 96) jIQ_45_94 rfl rfl rfl ?_
        refine jT_xladd (x := 108917793695 * r7 + 159561683699 * r8) (y := r7 - r8) (z := 108917793696 * r7 + 159561683698 * r8) (pcN := 97) jIQ_45_96 rfl (by omega) rfl ?_
        refine jT_xlload (v := (1, 1)) (pcN := 99) jIQ_45_97 rfl rfl rfl ?_
        refine jT_xlmul (x := 108917793696 * r7 + 159561683698 * r8) (y := 1) (z := 108917793696 * r7 + 159561683698 * r8) (pcN := 100) jIQ_45_99 rfl (by omega) rfl ?_
        refine jT_xlload_n (v := (1, 1)) (pcN := 101) jIQ_45_100 rfl rfl rfl ?_
        refine jT_xbipush (k := 36) (pcN := 103) jIQ_45_101 (by decide) rfl ?_
        refine jT_lshl (x := 1) (y := 36) (z := 68719476736) (by rfl) (by rfl) (by decide +kernel) ?_
        refine jT_callA [] (y := 373) (pcN := 107) (dC := 0) (bc1 := 0) (bc2 := 0) (c1 := 0) (c2 := 0) (as := [(1, 108917793696 * r7 + 159561683698 * r8), (1, 68719476736)]) (asC := [(1, 108917793696 * r7 + 159561683698 * r8), (1, 68719476736)]) (LN := [(10, (1, q1)), (8, (1, 108917793695 * r7 + 159561683699 * r8)), (6, (1, r7 - r8)), (0, (4, 0)), (1, (4, 1)), (2, (1, 1)), (4, (1, 1))]) (stN := []) (hsC := []) (ex := []) (v := (1, (108917793695 * r7 + 159561683699 * r8) / 68719476736)) (st2 := [(1, (108917793695 * r7 + 159561683699 * r8) / 68719476736)]) (hs2 := [(8, [(4, 2), (4, 3)], []), (101, [], [0, r7, r8, 0, 0, 0]), jgh, jgh]) (jT_fdJK2 (d := 0) (x := 108917793696 * r7 + 159561683698 * r8) (y := 108917793695 * r7 + 159561683699 * r8) (by omega) (jcf (b := r7) (c := r8) (by omega) (by omega) (by omega) (by omega))) (by rfl) (by rfl) (by rfl) (by rfl) trivial (by rfl) (by rfl) (by omega) (by show 4 ≤ 4; omega) (by omega) (by omega) rfl rfl ?_
        rw [hq_q1]
        refine jT_xlstore (v := (1, q1)) (LN := [(12, (1, q1)), (10, (1, q1)), (8, (1, 108917793695 * r7 + 159561683699 * r8)), (6, (1, r7 - r8)), (0, (4, 0)), (1, (4, 1)), (2, (1, 1)), (4, (1, 1))]) (pcN := 109) jIQ_45_107 rfl rfl rfl rfl ?_
        refine jT_xlload (v := (1, q1)) (pcN := 111) jIQ_45_109 rfl rfl rfl ?_
        refine jT_xlload (v := (1, q1)) (pcN := 113) jIQ_45_111 rfl rfl rfl ?_
        refine jT_lcmp (a := q1) (b := q1) (z := 0) (by rfl) (by rfl) (jwl_idd (by omega) (by omega)) (jwl_idd (by omega) (by omega)) (by rw [decide_eq_false (show ¬ ((q1 : Int) < q1) by omega), decide_eq_true (show (q1 : Int) = q1 by omega)]; rfl) ?_
        refine jT_xifF (t := 120) (pcN := 117) jIQ_45_114 rfl (by decide +kernel) rfl rfl ?_
        refine jT_xlload (v := (1, q1)) (pcN := 119) jIQ_45_117 rfl rfl rfl ?_
        exact jT_ret rfl (by decide) (by show 4 ≤ 4; decide) (by omega) (by omega) ⟨rfl, by first | rfl | rw [hq_q1], rfl⟩
      · refine jT_xlload_n (v := (1, 1)) (pcN := 1) jIQ_45_0 rfl rfl rfl ?_
        refine jT_xlconst (z := 1) (pcN := 2) jIQ_45_1 rfl rfl ?_
        refine jT_lcmp (a := 1) (b := 1) (z := 0) (by rfl) (by rfl) (by decide +kernel) (by decide +kernel) (by decide) ?_
        refine jT_xifF (t := 13) (pcN := 6) jIQ_45_3 rfl (by decide +kernel) rfl rfl ?_
        refine jT_xlload (v := (1, 1)) (pcN := 8) jIQ_45_6 rfl rfl rfl ?_
        refine jT_xlconst (z := 1) (pcN := 9) jIQ_45_8 rfl rfl ?_
        refine jT_lcmp (a := 1) (b := 1) (z := 0) (by rfl) (by rfl) (by decide +kernel) (by decide +kernel) (by decide) ?_
        refine jT_xifT (pcN := 15) jIQ_45_10 rfl (by decide +kernel) rfl ?_
        refine jT_xaload_n (v := (4, 0)) (pcN := 16) jIQ_45_15 rfl rfl rfl ?_
        refine jT_xaload_n (v := (4, 1)) (pcN := 17) jIQ_45_16 rfl rfl rfl ?_
        refine jT_callA [0, 1] (y := 39) (pcN := 20) (dC := 0) (bc1 := 0) (bc2 := 0) (c1 := 0) (c2 := 0) (as := [(4, 0), (4, 1)]) (asC := [(4, 0), (4, 1)]) (LN := [(0, (4, 0)), (1, (4, 1)), (2, (1, 1)), (4, (1, 1))]) (stN := []) (hsC := [jgh, (101, [], [0, r7, r8, 0, 0, 0])]) (ex := []) (v := (1, r7 - r8)) (st2 := [(1, r7 - r8)]) (hs2 := [(8, [(4, 2), (4, 3)], []), (101, [], [0, r7, r8, 0, 0, 0]), jgh, jgh]) (jQ_39_61 (d := 0) (by omega) (by omega) (by omega) (by omega) (by omega)) (by rfl) (by rfl) (by rfl) (by rfl) ⟨rfl, rfl, trivial⟩ (by rfl) (by rfl) (by omega) (by show 4 ≤ 4; omega) (by omega) (by omega) rfl rfl ?_
        refine jT_xlstore (v := (1, r7 - r8)) (LN := [(6, (1, r7 - r8)), (0, (4, 0)), (1, (4, 1)), (2, (1, 1)), (4, (1, 1))]) (pcN := 22) jIQ_45_20 rfl rfl rfl rfl ?_
        refine jT_xlload (v := (1, r7 - r8)) (pcN := 24) jIQ_45_22 rfl rfl rfl ?_
        refine jT_xlconst (z := 0) (pcN := 25) jIQ_45_24 rfl rfl ?_
        refine jT_lcmp (a := r7 - r8) (b := 0) (z := 1) (by rfl) (by rfl) (jwl_idd (by omega) (by omega)) (jwl_idd (by omega) (by omega)) (by rw [decide_eq_true (show (0 : Int) < r7 - r8 by omega)]; rfl) ?_
        refine jT_xifT (pcN := 40) jIQ_45_26 rfl (by decide +kernel) rfl ?_
        refine jT_xaload_n (v := (4, 0)) (pcN := 41) jIQ_45_40 rfl rfl rfl ?_
        refine jT_xaload_n (v := (4, 1)) (pcN := 42) jIQ_45_41 rfl rfl rfl ?_
        refine jT_xlload (v := (1, r7 - r8)) (pcN := 44) jIQ_45_42 rfl rfl rfl ?_
        refine jT_callA [0, 1] (y := 40) (pcN := 47) (dC := 0) (bc1 := 0) (bc2 := 0) (c1 := 0) (c2 := 0) (as := [(4, 0), (4, 1), (1, r7 - r8)]) (asC := [(4, 0), (4, 1), (1, r7 - r8)]) (LN := [(6, (1, r7 - r8)), (0, (4, 0)), (1, (4, 1)), (2, (1, 1)), (4, (1, 1))]) (stN := []) (hsC := [jgh, (101, [], [0, r7, r8, 0, 0, 0])]) (ex := []) (v := (0, 1)) (st2 := [(0, 1)]) (hs2 := [(8, [(4, 2), (4, 3)], []), (101, [], [0, r7, r8, 0, 0, 0]), jgh, jgh]) (jQ_40_62 (d := 0) (by omega) (by omega) (by omega) (by omega) (by omega)) (by rfl) (by rfl) (by rfl) (by rfl) ⟨rfl, rfl, trivial⟩ (by rfl) (by rfl) (by omega) (by show 4 ≤ 4; omega) (by omega) (by omega) rfl rfl ?_
        refine jT_xifF (t := 120) (pcN := 50) jIQ_45_47 rfl (by decide +kernel) rfl rfl ?_
        refine jT_xaload_n (v := (4, 0)) (pcN := 51) jIQ_45_50 rfl rfl rfl ?_
        refine jT_xaload_n (v := (4, 1)) (pcN := 52) jIQ_45_51 rfl rfl rfl ?_
        refine jT_callA [0, 1] (y := 41) (pcN := 55) (dC := 0) (bc1 := 0) (bc2 := 0) (c1 := 0) (c2 := 0) (as := [(4, 0), (4, 1)]) (asC := [(4, 0), (4, 1)]) (LN := [(6, (1, r7 - r8)), (0, (4, 0)), (1, (4, 1)), (2, (1, 1)), (4, (1, 1))]) (stN := []) (hsC := [jgh, (101, [], [0, r7, r8, 0, 0, 0])]) (ex := []) (v := (1, 108917793695 * r7 + 159561683699 * r8)) (st2 := [(1, 108917793695 * r7 + 159561683699 * r8)]) (hs2 := [(8, [(4, 2), (4, 3)], []), (101, [], [0, r7, r8, 0, 0, 0]), jgh, jgh]) (jQ_41_63 (d := 0) (by omega) (by omega) (by omega) (by omega) (by omega)) (by rfl) (by rfl) (by rfl) (by rfl) ⟨rfl, rfl, trivial⟩ (by rfl) (by rfl) (by omega) (by show 4 ≤ 4; omega) (by omega) (by omega) rfl rfl ?_
        refine jT_xlstore (v := (1, 108917793695 * r7 + 159561683699 * r8)) (LN := [(8, (1, 108917793695 * r7 + 159561683699 * r8)), (6, (1, r7 - r8)), (0, (4, 0)), (1, (4, 1)), (2, (1, 1)), (4, (1, 1))]) (pcN := 57) jIQ_45_55 rfl rfl rfl rfl ?_
        refine jT_xlload (v := (1, 108917793695 * r7 + 159561683699 * r8)) (pcN := 59) jIQ_45_57 rfl rfl rfl ?_
        refine jT_labs (z := (-108917793695) * r7 - 159561683699 * r8) (by rfl) (by rfl) (by rfl) (by rfl) (by rw [show jwl (108917793695 * r7 + 159561683699 * r8) = 108917793695 * r7 + 159561683699 * r8 from jwl_idd (by omega) (by omega), decide_eq_true (by omega)]; first | (simp only [cond_true, cond_false]; done) | (simp only [cond_true, cond_false]; omega) | rfl) ?_
        refine jT_xlload (v := (1, r7 - r8)) (pcN := 64) jIQ_45_62 rfl rfl rfl ?_
        refine jT_xladd (x := (-108917793695) * r7 - 159561683699 * r8) (y := r7 - r8) (z := (-108917793694) * r7 - 159561683700 * r8) (pcN := 65) jIQ_45_64 rfl (by omega) rfl ?_
        refine jT_adv 1 (pcN := 68) (LN := [(8, (1, 108917793695 * r7 + 159561683699 * r8)), (6, (1, r7 - r8)), (0, (4, 0)), (1, (4, 1)), (2, (1, 1)), (4, (1, 1))]) (stN := [(1, 9223372036854775807), (1, (-108917793694) * r7 - 159561683700 * r8)]) (hsN := [(8, [(4, 2), (4, 3)], []), (101, [], [0, r7, r8, 0, 0, 0]), jgh, jgh]) (c1 := 0) (s1 := 0) (c2 := 0) (s2 := 0) (by exact rfl) ?_ (by omega) (by omega)
        refine jT_xlload (v := (1, 1)) (pcN := 70) jIQ_45_68 rfl rfl rfl ?_
        refine jT_ldiv (a := 9223372036854775807) (b := 1) (by rfl) (by rfl) (by decide +kernel) (by decide +kernel) (by decide) ?_
        refine jT_eq (LN := [(8, (1, 108917793695 * r7 + 159561683699 * r8)), (6, (1, r7 - r8)), (0, (4, 0)), (1, (4, 1)), (2, (1, 1)), (4, (1, 1))]) (stN := [(1, 9223372036854775807), (1, (-108917793694) * r7 - 159561683700 * r8)]) (hsN := [(8, [(4, 2), (4, 3)], []), (101, [], [0, r7, r8, 0, 0, 0]), jgh, jgh]) rfl (by rw [show (9223372036854775807 : Int).tdiv 1 = 9223372036854775807 by decide +kernel]) rfl ?_
        refine jT_lcmp (a := (-108917793694) * r7 - 159561683700 * r8) (b := 9223372036854775807) (z := (-1)) (by rfl) (by rfl) (jwl_idd (by omega) (by omega)) (jwl_idd (by omega) (by omega)) (by rw [decide_eq_false (show ¬ ((9223372036854775807 : Int) < (-108917793694) * r7 - 159561683700 * r8) by omega), decide_eq_false (show ¬ (((-108917793694) * r7 - 159561683700 * r8 : Int) = 9223372036854775807) by omega)]; rfl) ?_
        refine jT_xifF (t := 120) (pcN := 75) jIQ_45_72 rfl (by decide +kernel) rfl rfl ?_
        refine jT_xlload (v := (1, 108917793695 * r7 + 159561683699 * r8)) (pcN := 77) jIQ_45_75 rfl rfl rfl ?_
        refine jT_xlload (v := (1, r7 - r8)) (pcN := 79) jIQ_45_77 rfl rfl rfl ?_
        refine jT_xlsub (x := 108917793695 * r7 + 159561683699 * r8) (y := r7 - r8) (z := 108917793694 * r7 + 159561683700 * r8) (pcN := 80) jIQ_45_79 rfl (by omega) rfl ?_
        refine jT_xlload (v := (1, 1)) (pcN := 82) jIQ_45_80 rfl rfl rfl ?_
        refine jT_xlmul (x := 108917793694 * r7 + 159561683700 * r8) (y := 1) (z := 108917793694 * r7 + 159561683700 * r8) (pcN := 83) jIQ_45_82 rfl (by omega) rfl ?_
        refine jT_xlload_n (v := (1, 1)) (pcN := 84) jIQ_45_83 rfl rfl rfl ?_
        refine jT_xbipush (k := 36) (pcN := 86) jIQ_45_84 (by decide) rfl ?_
        refine jT_lshl (x := 1) (y := 36) (z := 68719476736) (by rfl) (by rfl) (by decide +kernel) ?_
        refine jT_callA [] (y := 373) (pcN := 90) (dC := 0) (bc1 := 0) (bc2 := 0) (c1 := 0) (c2 := 0) (as := [(1, 108917793694 * r7 + 159561683700 * r8), (1, 68719476736)]) (asC := [(1, 108917793694 * r7 + 159561683700 * r8), (1, 68719476736)]) (LN := [(8, (1, 108917793695 * r7 + 159561683699 * r8)), (6, (1, r7 - r8)), (0, (4, 0)), (1, (4, 1)), (2, (1, 1)), (4, (1, 1))]) (stN := []) (hsC := []) (ex := []) (v := (1, (108917793695 * r7 + 159561683699 * r8) / 68719476736)) (st2 := [(1, (108917793695 * r7 + 159561683699 * r8) / 68719476736)]) (hs2 := [(8, [(4, 2), (4, 3)], []), (101, [], [0, r7, r8, 0, 0, 0]), jgh, jgh]) (jT_fdJK2 (d := 0) (x := 108917793694 * r7 + 159561683700 * r8) (y := 108917793695 * r7 + 159561683699 * r8) (by omega) (jcf (b := r7) (c := r8) (by omega) (by omega) (by omega) (by omega))) (by rfl) (by rfl) (by rfl) (by rfl) trivial (by rfl) (by rfl) (by omega) (by show 4 ≤ 4; omega) (by omega) (by omega) rfl rfl ?_
        have hb_q1 : (-60) ≤ (108917793695 * r7 + 159561683699 * r8) / 68719476736 ∧ (108917793695 * r7 + 159561683699 * r8) / 68719476736 ≤ 60 := ⟨by omega, by omega⟩
        generalize hq_q1 : (108917793695 * r7 + 159561683699 * r8) / 68719476736 = q1 at hb_q1 ⊢
        refine jT_xlstore (v := (1, q1)) (LN := [(10, (1, q1)), (8, (1, 108917793695 * r7 + 159561683699 * r8)), (6, (1, r7 - r8)), (0, (4, 0)), (1, (4, 1)), (2, (1, 1)), (4, (1, 1))]) (pcN := 92) jIQ_45_90 rfl rfl rfl rfl ?_
        refine jT_xlload (v := (1, 108917793695 * r7 + 159561683699 * r8)) (pcN := 94) jIQ_45_92 rfl rfl rfl ?_
        refine jT_xlload (v := (1, r7 - r8)) (pcN := 96) jIQ_45_94 rfl rfl rfl ?_
        refine jT_xladd (x := 108917793695 * r7 + 159561683699 * r8) (y := r7 - r8) (z := 108917793696 * r7 + 159561683698 * r8) (pcN := 97) jIQ_45_96 rfl (by omega) rfl ?_
        refine jT_xlload (v := (1, 1)) (pcN := 99) jIQ_45_97 rfl rfl rfl ?_
        refine jT_xlmul (x := 108917793696 * r7 + 159561683698 * r8) (y := 1) (z := 108917793696 * r7 + 159561683698 * r8) (pcN := 100) jIQ_45_99 rfl (by omega) rfl ?_
        refine jT_xlload_n (v := (1, 1)) (pcN := 101) jIQ_45_100 rfl rfl rfl ?_
        refine jT_xbipush (k := 36) (pcN := 103) jIQ_45_101 (by decide) rfl ?_
        refine jT_lshl (x := 1) (y := 36) (z := 68719476736) (by rfl) (by rfl) (by decide +kernel) ?_
        refine jT_callA [] (y := 373) (pcN := 107) (dC := 0) (bc1 := 0) (bc2 := 0) (c1 := 0) (c2 := 0) (as := [(1, 108917793696 * r7 + 159561683698 * r8), (1, 68719476736)]) (asC := [(1, 108917793696 * r7 + 159561683698 * r8), (1, 68719476736)]) (LN := [(10, (1, q1)), (8, (1, 108917793695 * r7 + 159561683699 * r8)), (6, (1, r7 - r8)), (0, (4, 0)), (1, (4, 1)), (2, (1, 1)), (4, (1, 1))]) (stN := []) (hsC := []) (ex := []) (v := (1, (108917793695 * r7 + 159561683699 * r8) / 68719476736)) (st2 := [(1, (108917793695 * r7 + 159561683699 * r8) / 68719476736)]) (hs2 := [(8, [(4, 2), (4, 3)], []), (101, [], [0, r7, r8, 0, 0, 0]), jgh, jgh]) (jT_fdJK2 (d := 0) (x := 108917793696 * r7 + 159561683698 * r8) (y := 108917793695 * r7 + 159561683699 * r8) (by omega) (jcf (b := r7) (c := r8) (by omega) (by omega) (by omega) (by omega))) (by rfl) (by rfl) (by rfl) (by rfl) trivial (by rfl) (by rfl) (by omega) (by show 4 ≤ 4; omega) (by omega) (by omega) rfl rfl ?_
        rw [hq_q1]
        refine jT_xlstore (v := (1, q1)) (LN := [(12, (1, q1)), (10, (1, q1)), (8, (1, 108917793695 * r7 + 159561683699 * r8)), (6, (1, r7 - r8)), (0, (4, 0)), (1, (4, 1)), (2, (1, 1)), (4, (1, 1))]) (pcN := 109) jIQ_45_107 rfl rfl rfl rfl ?_
        refine jT_xlload (v := (1, q1)) (pcN := 111) jIQ_45_109 rfl rfl rfl ?_
        refine jT_xlload (v := (1, q1)) (pcN := 113) jIQ_45_111 rfl rfl rfl ?_
        refine jT_lcmp (a := q1) (b := q1) (z := 0) (by rfl) (by rfl) (jwl_idd (by omega) (by omega)) (jwl_idd (by omega) (by omega)) (by rw [decide_eq_false (show ¬ ((q1 : Int) < q1) by omega), decide_eq_true (show (q1 : Int) = q1 by omega)]; rfl) ?_
        refine jT_xifF (t := 120) (pcN := 117) jIQ_45_114 rfl (by decide +kernel) rfl rfl ?_
        refine jT_xlload (v := (1, q1)) (pcN := 119) jIQ_45_117 rfl rfl rfl ?_
        exact jT_ret rfl (by decide) (by show 4 ≤ 4; decide) (by omega) (by omega) ⟨rfl, by first | rfl | rw [hq_q1], rfl⟩
  · rcases (show (0 ≤ r8) ∨ (r8 < 0) by omega) with g_1 | g_1
    · rcases (show (0 ≤ 108917793695 * r7 + 159561683699 * r8) ∨ (108917793695 * r7 + 159561683699 * r8 < 0) by omega) with g_2 | g_2
      · refine jT_xlload_n (v := (1, 1)) (pcN := 1) jIQ_45_0 rfl rfl rfl ?_
        refine jT_xlconst (z := 1) (pcN := 2) jIQ_45_1 rfl rfl ?_
        refine jT_lcmp (a := 1) (b := 1) (z := 0) (by rfl) (by rfl) (by decide +kernel) (by decide +kernel) (by decide) ?_
        refine jT_xifF (t := 13) (pcN := 6) jIQ_45_3 rfl (by decide +kernel) rfl rfl ?_
        refine jT_xlload (v := (1, 1)) (pcN := 8) jIQ_45_6 rfl rfl rfl ?_
        refine jT_xlconst (z := 1) (pcN := 9) jIQ_45_8 rfl rfl ?_
        refine jT_lcmp (a := 1) (b := 1) (z := 0) (by rfl) (by rfl) (by decide +kernel) (by decide +kernel) (by decide) ?_
        refine jT_xifT (pcN := 15) jIQ_45_10 rfl (by decide +kernel) rfl ?_
        refine jT_xaload_n (v := (4, 0)) (pcN := 16) jIQ_45_15 rfl rfl rfl ?_
        refine jT_xaload_n (v := (4, 1)) (pcN := 17) jIQ_45_16 rfl rfl rfl ?_
        refine jT_callA [0, 1] (y := 39) (pcN := 20) (dC := 0) (bc1 := 0) (bc2 := 0) (c1 := 0) (c2 := 0) (as := [(4, 0), (4, 1)]) (asC := [(4, 0), (4, 1)]) (LN := [(0, (4, 0)), (1, (4, 1)), (2, (1, 1)), (4, (1, 1))]) (stN := []) (hsC := [jgh, (101, [], [0, r7, r8, 0, 0, 0])]) (ex := []) (v := (1, -r7 + r8)) (st2 := [(1, -r7 + r8)]) (hs2 := [(8, [(4, 2), (4, 3)], []), (101, [], [0, r7, r8, 0, 0, 0]), jgh, jgh]) (jQ_39_55 (d := 0) (by omega) (by omega) (by omega) (by omega) (by omega)) (by rfl) (by rfl) (by rfl) (by rfl) ⟨rfl, rfl, trivial⟩ (by rfl) (by rfl) (by omega) (by show 4 ≤ 4; omega) (by omega) (by omega) rfl rfl ?_
        refine jT_xlstore (v := (1, -r7 + r8)) (LN := [(6, (1, -r7 + r8)), (0, (4, 0)), (1, (4, 1)), (2, (1, 1)), (4, (1, 1))]) (pcN := 22) jIQ_45_20 rfl rfl rfl rfl ?_
        refine jT_xlload (v := (1, -r7 + r8)) (pcN := 24) jIQ_45_22 rfl rfl rfl ?_
        refine jT_xlconst (z := 0) (pcN := 25) jIQ_45_24 rfl rfl ?_
        refine jT_lcmp (a := -r7 + r8) (b := 0) (z := 1) (by rfl) (by rfl) (jwl_idd (by omega) (by omega)) (jwl_idd (by omega) (by omega)) (by rw [decide_eq_true (show (0 : Int) < -r7 + r8 by omega)]; rfl) ?_
        refine jT_xifT (pcN := 40) jIQ_45_26 rfl (by decide +kernel) rfl ?_
        refine jT_xaload_n (v := (4, 0)) (pcN := 41) jIQ_45_40 rfl rfl rfl ?_
        refine jT_xaload_n (v := (4, 1)) (pcN := 42) jIQ_45_41 rfl rfl rfl ?_
        refine jT_xlload (v := (1, -r7 + r8)) (pcN := 44) jIQ_45_42 rfl rfl rfl ?_
        refine jT_callA [0, 1] (y := 40) (pcN := 47) (dC := 0) (bc1 := 0) (bc2 := 0) (c1 := 0) (c2 := 0) (as := [(4, 0), (4, 1), (1, -r7 + r8)]) (asC := [(4, 0), (4, 1), (1, -r7 + r8)]) (LN := [(6, (1, -r7 + r8)), (0, (4, 0)), (1, (4, 1)), (2, (1, 1)), (4, (1, 1))]) (stN := []) (hsC := [jgh, (101, [], [0, r7, r8, 0, 0, 0])]) (ex := []) (v := (0, 1)) (st2 := [(0, 1)]) (hs2 := [(8, [(4, 2), (4, 3)], []), (101, [], [0, r7, r8, 0, 0, 0]), jgh, jgh]) (jQ_40_56 (d := 0) (by omega) (by omega) (by omega) (by omega) (by omega)) (by rfl) (by rfl) (by rfl) (by rfl) ⟨rfl, rfl, trivial⟩ (by rfl) (by rfl) (by omega) (by show 4 ≤ 4; omega) (by omega) (by omega) rfl rfl ?_
        refine jT_xifF (t := 120) (pcN := 50) jIQ_45_47 rfl (by decide +kernel) rfl rfl ?_
        refine jT_xaload_n (v := (4, 0)) (pcN := 51) jIQ_45_50 rfl rfl rfl ?_
        refine jT_xaload_n (v := (4, 1)) (pcN := 52) jIQ_45_51 rfl rfl rfl ?_
        refine jT_callA [0, 1] (y := 41) (pcN := 55) (dC := 0) (bc1 := 0) (bc2 := 0) (c1 := 0) (c2 := 0) (as := [(4, 0), (4, 1)]) (asC := [(4, 0), (4, 1)]) (LN := [(6, (1, -r7 + r8)), (0, (4, 0)), (1, (4, 1)), (2, (1, 1)), (4, (1, 1))]) (stN := []) (hsC := [jgh, (101, [], [0, r7, r8, 0, 0, 0])]) (ex := []) (v := (1, 108917793695 * r7 + 159561683699 * r8)) (st2 := [(1, 108917793695 * r7 + 159561683699 * r8)]) (hs2 := [(8, [(4, 2), (4, 3)], []), (101, [], [0, r7, r8, 0, 0, 0]), jgh, jgh]) (jQ_41_57 (d := 0) (by omega) (by omega) (by omega) (by omega) (by omega)) (by rfl) (by rfl) (by rfl) (by rfl) ⟨rfl, rfl, trivial⟩ (by rfl) (by rfl) (by omega) (by show 4 ≤ 4; omega) (by omega) (by omega) rfl rfl ?_
        refine jT_xlstore (v := (1, 108917793695 * r7 + 159561683699 * r8)) (LN := [(8, (1, 108917793695 * r7 + 159561683699 * r8)), (6, (1, -r7 + r8)), (0, (4, 0)), (1, (4, 1)), (2, (1, 1)), (4, (1, 1))]) (pcN := 57) jIQ_45_55 rfl rfl rfl rfl ?_
        refine jT_xlload (v := (1, 108917793695 * r7 + 159561683699 * r8)) (pcN := 59) jIQ_45_57 rfl rfl rfl ?_
        refine jT_labs (z := 108917793695 * r7 + 159561683699 * r8) (by rfl) (by rfl) (by rfl) (by rfl) (by rw [show jwl (108917793695 * r7 + 159561683699 * r8) = 108917793695 * r7 + 159561683699 * r8 from jwl_idd (by omega) (by omega), decide_eq_false (by omega)]; first | (simp only [cond_true, cond_false]; done) | (simp only [cond_true, cond_false]; omega) | rfl) ?_
        refine jT_xlload (v := (1, -r7 + r8)) (pcN := 64) jIQ_45_62 rfl rfl rfl ?_
        refine jT_xladd (x := 108917793695 * r7 + 159561683699 * r8) (y := -r7 + r8) (z := 108917793694 * r7 + 159561683700 * r8) (pcN := 65) jIQ_45_64 rfl (by omega) rfl ?_
        refine jT_adv 1 (pcN := 68) (LN := [(8, (1, 108917793695 * r7 + 159561683699 * r8)), (6, (1, -r7 + r8)), (0, (4, 0)), (1, (4, 1)), (2, (1, 1)), (4, (1, 1))]) (stN := [(1, 9223372036854775807), (1, 108917793694 * r7 + 159561683700 * r8)]) (hsN := [(8, [(4, 2), (4, 3)], []), (101, [], [0, r7, r8, 0, 0, 0]), jgh, jgh]) (c1 := 0) (s1 := 0) (c2 := 0) (s2 := 0) (by exact rfl) ?_ (by omega) (by omega)
        refine jT_xlload (v := (1, 1)) (pcN := 70) jIQ_45_68 rfl rfl rfl ?_
        refine jT_ldiv (a := 9223372036854775807) (b := 1) (by rfl) (by rfl) (by decide +kernel) (by decide +kernel) (by decide) ?_
        refine jT_eq (LN := [(8, (1, 108917793695 * r7 + 159561683699 * r8)), (6, (1, -r7 + r8)), (0, (4, 0)), (1, (4, 1)), (2, (1, 1)), (4, (1, 1))]) (stN := [(1, 9223372036854775807), (1, 108917793694 * r7 + 159561683700 * r8)]) (hsN := [(8, [(4, 2), (4, 3)], []), (101, [], [0, r7, r8, 0, 0, 0]), jgh, jgh]) rfl (by rw [show (9223372036854775807 : Int).tdiv 1 = 9223372036854775807 by decide +kernel]) rfl ?_
        refine jT_lcmp (a := 108917793694 * r7 + 159561683700 * r8) (b := 9223372036854775807) (z := (-1)) (by rfl) (by rfl) (jwl_idd (by omega) (by omega)) (jwl_idd (by omega) (by omega)) (by rw [decide_eq_false (show ¬ ((9223372036854775807 : Int) < 108917793694 * r7 + 159561683700 * r8) by omega), decide_eq_false (show ¬ ((108917793694 * r7 + 159561683700 * r8 : Int) = 9223372036854775807) by omega)]; rfl) ?_
        refine jT_xifF (t := 120) (pcN := 75) jIQ_45_72 rfl (by decide +kernel) rfl rfl ?_
        refine jT_xlload (v := (1, 108917793695 * r7 + 159561683699 * r8)) (pcN := 77) jIQ_45_75 rfl rfl rfl ?_
        refine jT_xlload (v := (1, -r7 + r8)) (pcN := 79) jIQ_45_77 rfl rfl rfl ?_
        refine jT_xlsub (x := 108917793695 * r7 + 159561683699 * r8) (y := -r7 + r8) (z := 108917793696 * r7 + 159561683698 * r8) (pcN := 80) jIQ_45_79 rfl (by omega) rfl ?_
        refine jT_xlload (v := (1, 1)) (pcN := 82) jIQ_45_80 rfl rfl rfl ?_
        refine jT_xlmul (x := 108917793696 * r7 + 159561683698 * r8) (y := 1) (z := 108917793696 * r7 + 159561683698 * r8) (pcN := 83) jIQ_45_82 rfl (by omega) rfl ?_
        refine jT_xlload_n (v := (1, 1)) (pcN := 84) jIQ_45_83 rfl rfl rfl ?_
        refine jT_xbipush (k := 36) (pcN := 86) jIQ_45_84 (by decide) rfl ?_
        refine jT_lshl (x := 1) (y := 36) (z := 68719476736) (by rfl) (by rfl) (by decide +kernel) ?_
        refine jT_callA [] (y := 373) (pcN := 90) (dC := 0) (bc1 := 0) (bc2 := 0) (c1 := 0) (c2 := 0) (as := [(1, 108917793696 * r7 + 159561683698 * r8), (1, 68719476736)]) (asC := [(1, 108917793696 * r7 + 159561683698 * r8), (1, 68719476736)]) (LN := [(8, (1, 108917793695 * r7 + 159561683699 * r8)), (6, (1, -r7 + r8)), (0, (4, 0)), (1, (4, 1)), (2, (1, 1)), (4, (1, 1))]) (stN := []) (hsC := []) (ex := []) (v := (1, (108917793695 * r7 + 159561683699 * r8) / 68719476736)) (st2 := [(1, (108917793695 * r7 + 159561683699 * r8) / 68719476736)]) (hs2 := [(8, [(4, 2), (4, 3)], []), (101, [], [0, r7, r8, 0, 0, 0]), jgh, jgh]) (jT_fdJK2 (d := 0) (x := 108917793696 * r7 + 159561683698 * r8) (y := 108917793695 * r7 + 159561683699 * r8) (by omega) (jcf (b := r7) (c := r8) (by omega) (by omega) (by omega) (by omega))) (by rfl) (by rfl) (by rfl) (by rfl) trivial (by rfl) (by rfl) (by omega) (by show 4 ≤ 4; omega) (by omega) (by omega) rfl rfl ?_
        have hb_q1 : (-60) ≤ (108917793695 * r7 + 159561683699 * r8) / 68719476736 ∧ (108917793695 * r7 + 159561683699 * r8) / 68719476736 ≤ 60 := ⟨by omega, by omega⟩
        generalize hq_q1 : (108917793695 * r7 + 159561683699 * r8) / 68719476736 = q1 at hb_q1 ⊢
        refine jT_xlstore (v := (1, q1)) (LN := [(10, (1, q1)), (8, (1, 108917793695 * r7 + 159561683699 * r8)), (6, (1, -r7 + r8)), (0, (4, 0)), (1, (4, 1)), (2, (1, 1)), (4, (1, 1))]) (pcN := 92) jIQ_45_90 rfl rfl rfl rfl ?_
        refine jT_xlload (v := (1, 108917793695 * r7 + 159561683699 * r8)) (pcN := 94) jIQ_45_92 rfl rfl rfl ?_
        refine jT_xlload (v := (1, -r7 + r8)) (pcN := 96) jIQ_45_94 rfl rfl rfl ?_
        refine jT_xladd (x := 108917793695 * r7 + 159561683699 * r8) (y := -r7 + r8) (z := 108917793694 * r7 + 159561683700 * r8) (pcN := 97) jIQ_45_96 rfl (by omega) rfl ?_
        refine jT_xlload (v := (1, 1)) (pcN := 99) jIQ_45_97 rfl rfl rfl ?_
        refine jT_xlmul (x := 108917793694 * r7 + 159561683700 * r8) (y := 1) (z := 108917793694 * r7 + 159561683700 * r8) (pcN := 100) jIQ_45_99 rfl (by omega) rfl ?_
        refine jT_xlload_n (v := (1, 1)) (pcN := 101) jIQ_45_100 rfl rfl rfl ?_
        refine jT_xbipush (k := 36) (pcN := 103) jIQ_45_101 (by decide) rfl ?_
        refine jT_lshl (x := 1) (y := 36) (z := 68719476736) (by rfl) (by rfl) (by decide +kernel) ?_
        refine jT_callA [] (y := 373) (pcN := 107) (dC := 0) (bc1 := 0) (bc2 := 0) (c1 := 0) (c2 := 0) (as := [(1, 108917793694 * r7 + 159561683700 * r8), (1, 68719476736)]) (asC := [(1, 108917793694 * r7 + 159561683700 * r8), (1, 68719476736)]) (LN := [(10, (1, q1)), (8, (1, 108917793695 * r7 + 159561683699 * r8)), (6, (1, -r7 + r8)), (0, (4, 0)), (1, (4, 1)), (2, (1, 1)), (4, (1, 1))]) (stN := []) (hsC := []) (ex := []) (v := (1, (108917793695 * r7 + 159561683699 * r8) / 68719476736)) (st2 := [(1, (108917793695 * r7 + 159561683699 * r8) / 68719476736)]) (hs2 := [(8, [(4, 2), (4, 3)], []), (101, [], [0, r7, r8, 0, 0, 0]), jgh, jgh]) (jT_fdJK2 (d := 0) (x := 108917793694 * r7 + 159561683700 * r8) (y := 108917793695 * r7 + 159561683699 * r8) (by omega) (jcf (b := r7) (c := r8) (by omega) (by omega) (by omega) (by omega))) (by rfl) (by rfl) (by rfl) (by rfl) trivial (by rfl) (by rfl) (by omega) (by show 4 ≤ 4; omega) (by omega) (by omega) rfl rfl ?_
        rw [hq_q1]
        refine jT_xlstore (v := (1, q1)) (LN := [(12, (1, q1)), (10, (1, q1)), (8, (1, 108917793695 * r7 + 159561683699 * r8)), (6, (1, -r7 + r8)), (0, (4, 0)), (1, (4, 1)), (2, (1, 1)), (4, (1, 1))]) (pcN := 109) jIQ_45_107 rfl rfl rfl rfl ?_
        refine jT_xlload (v := (1, q1)) (pcN := 111) jIQ_45_109 rfl rfl rfl ?_
        refine jT_xlload (v := (1, q1)) (pcN := 113) jIQ_45_111 rfl rfl rfl ?_
        refine jT_lcmp (a := q1) (b := q1) (z := 0) (by rfl) (by rfl) (jwl_idd (by omega) (by omega)) (jwl_idd (by omega) (by omega)) (by rw [decide_eq_false (show ¬ ((q1 : Int) < q1) by omega), decide_eq_true (show (q1 : Int) = q1 by omega)]; rfl) ?_
        refine jT_xifF (t := 120) (pcN := 117) jIQ_45_114 rfl (by decide +kernel) rfl rfl ?_
        refine jT_xlload (v := (1, q1)) (pcN := 119) jIQ_45_117 rfl rfl rfl ?_
        exact jT_ret rfl (by decide) (by show 4 ≤ 4; decide) (by omega) (by omega) ⟨rfl, by first | rfl | rw [hq_q1], rfl⟩
      · refine jT_xlload_n (v := (1, 1)) (pcN := 1) jIQ_45_0 rfl rfl rfl ?_
        refine jT_xlconst (z := 1) (pcN := 2) jIQ_45_1 rfl rfl ?_
        refine jT_lcmp (a := 1) (b := 1) (z := 0) (by rfl) (by rfl) (by decide +kernel) (by decide +kernel) (by decide) ?_
        refine jT_xifF (t := 13) (pcN := 6) jIQ_45_3 rfl (by decide +kernel) rfl rfl ?_
        refine jT_xlload (v := (1, 1)) (pcN := 8) jIQ_45_6 rfl rfl rfl ?_
        refine jT_xlconst (z := 1) (pcN := 9) jIQ_45_8 rfl rfl ?_
        refine jT_lcmp (a := 1) (b := 1) (z := 0) (by rfl) (by rfl) (by decide +kernel) (by decide +kernel) (by decide) ?_
        refine jT_xifT (pcN := 15) jIQ_45_10 rfl (by decide +kernel) rfl ?_
        refine jT_xaload_n (v := (4, 0)) (pcN := 16) jIQ_45_15 rfl rfl rfl ?_
        refine jT_xaload_n (v := (4, 1)) (pcN := 17) jIQ_45_16 rfl rfl rfl ?_
        refine jT_callA [0, 1] (y := 39) (pcN := 20) (dC := 0) (bc1 := 0) (bc2 := 0) (c1 := 0) (c2 := 0) (as := [(4, 0), (4, 1)]) (asC := [(4, 0), (4, 1)]) (LN := [(0, (4, 0)), (1, (4, 1)), (2, (1, 1)), (4, (1, 1))]) (stN := []) (hsC := [jgh, (101, [], [0, r7, r8, 0, 0, 0])]) (ex := []) (v := (1, -r7 + r8)) (st2 := [(1, -r7 + r8)]) (hs2 := [(8, [(4, 2), (4, 3)], []), (101, [], [0, r7, r8, 0, 0, 0]), jgh, jgh]) (jQ_39_52 (d := 0) (by omega) (by omega) (by omega) (by omega) (by omega)) (by rfl) (by rfl) (by rfl) (by rfl) ⟨rfl, rfl, trivial⟩ (by rfl) (by rfl) (by omega) (by show 4 ≤ 4; omega) (by omega) (by omega) rfl rfl ?_
        refine jT_xlstore (v := (1, -r7 + r8)) (LN := [(6, (1, -r7 + r8)), (0, (4, 0)), (1, (4, 1)), (2, (1, 1)), (4, (1, 1))]) (pcN := 22) jIQ_45_20 rfl rfl rfl rfl ?_
        refine jT_xlload (v := (1, -r7 + r8)) (pcN := 24) jIQ_45_22 rfl rfl rfl ?_
        refine jT_xlconst (z := 0) (pcN := 25) jIQ_45_24 rfl rfl ?_
        refine jT_lcmp (a := -r7 + r8) (b := 0) (z := 1) (by rfl) (by rfl) (jwl_idd (by omega) (by omega)) (jwl_idd (by omega) (by omega)) (by rw [decide_eq_true (show (0 : Int) < -r7 + r8 by omega)]; rfl) ?_
        refine jT_xifT (pcN := 40) jIQ_45_26 rfl (by decide +kernel) rfl ?_
        refine jT_xaload_n (v := (4, 0)) (pcN := 41) jIQ_45_40 rfl rfl rfl ?_
        refine jT_xaload_n (v := (4, 1)) (pcN := 42) jIQ_45_41 rfl rfl rfl ?_
        refine jT_xlload (v := (1, -r7 + r8)) (pcN := 44) jIQ_45_42 rfl rfl rfl ?_
        refine jT_callA [0, 1] (y := 40) (pcN := 47) (dC := 0) (bc1 := 0) (bc2 := 0) (c1 := 0) (c2 := 0) (as := [(4, 0), (4, 1), (1, -r7 + r8)]) (asC := [(4, 0), (4, 1), (1, -r7 + r8)]) (LN := [(6, (1, -r7 + r8)), (0, (4, 0)), (1, (4, 1)), (2, (1, 1)), (4, (1, 1))]) (stN := []) (hsC := [jgh, (101, [], [0, r7, r8, 0, 0, 0])]) (ex := []) (v := (0, 1)) (st2 := [(0, 1)]) (hs2 := [(8, [(4, 2), (4, 3)], []), (101, [], [0, r7, r8, 0, 0, 0]), jgh, jgh]) (jQ_40_53 (d := 0) (by omega) (by omega) (by omega) (by omega) (by omega)) (by rfl) (by rfl) (by rfl) (by rfl) ⟨rfl, rfl, trivial⟩ (by rfl) (by rfl) (by omega) (by show 4 ≤ 4; omega) (by omega) (by omega) rfl rfl ?_
        refine jT_xifF (t := 120) (pcN := 50) jIQ_45_47 rfl (by decide +kernel) rfl rfl ?_
        refine jT_xaload_n (v := (4, 0)) (pcN := 51) jIQ_45_50 rfl rfl rfl ?_
        refine jT_xaload_n (v := (4, 1)) (pcN := 52) jIQ_45_51 rfl rfl rfl ?_
        refine jT_callA [0, 1] (y := 41) (pcN := 55) (dC := 0) (bc1 := 0) (bc2 := 0) (c1 := 0) (c2 := 0) (as := [(4, 0), (4, 1)]) (asC := [(4, 0), (4, 1)]) (LN := [(6, (1, -r7 + r8)), (0, (4, 0)), (1, (4, 1)), (2, (1, 1)), (4, (1, 1))]) (stN := []) (hsC := [jgh, (101, [], [0, r7, r8, 0, 0, 0])]) (ex := []) (v := (1, 108917793695 * r7 + 159561683699 * r8)) (st2 := [(1, 108917793695 * r7 + 159561683699 * r8)]) (hs2 := [(8, [(4, 2), (4, 3)], []), (101, [], [0, r7, r8, 0, 0, 0]), jgh, jgh]) (jQ_41_54 (d := 0) (by omega) (by omega) (by omega) (by omega) (by omega)) (by rfl) (by rfl) (by rfl) (by rfl) ⟨rfl, rfl, trivial⟩ (by rfl) (by rfl) (by omega) (by show 4 ≤ 4; omega) (by omega) (by omega) rfl rfl ?_
        refine jT_xlstore (v := (1, 108917793695 * r7 + 159561683699 * r8)) (LN := [(8, (1, 108917793695 * r7 + 159561683699 * r8)), (6, (1, -r7 + r8)), (0, (4, 0)), (1, (4, 1)), (2, (1, 1)), (4, (1, 1))]) (pcN := 57) jIQ_45_55 rfl rfl rfl rfl ?_
        refine jT_xlload (v := (1, 108917793695 * r7 + 159561683699 * r8)) (pcN := 59) jIQ_45_57 rfl rfl rfl ?_
        refine jT_labs (z := (-108917793695) * r7 - 159561683699 * r8) (by rfl) (by rfl) (by rfl) (by rfl) (by rw [show jwl (108917793695 * r7 + 159561683699 * r8) = 108917793695 * r7 + 159561683699 * r8 from jwl_idd (by omega) (by omega), decide_eq_true (by omega)]; first | (simp only [cond_true, cond_false]; done) | (simp only [cond_true, cond_false]; omega) | rfl) ?_
        refine jT_xlload (v := (1, -r7 + r8)) (pcN := 64) jIQ_45_62 rfl rfl rfl ?_
        refine jT_xladd (x := (-108917793695) * r7 - 159561683699 * r8) (y := -r7 + r8) (z := (-108917793696) * r7 - 159561683698 * r8) (pcN := 65) jIQ_45_64 rfl (by omega) rfl ?_
        refine jT_adv 1 (pcN := 68) (LN := [(8, (1, 108917793695 * r7 + 159561683699 * r8)), (6, (1, -r7 + r8)), (0, (4, 0)), (1, (4, 1)), (2, (1, 1)), (4, (1, 1))]) (stN := [(1, 9223372036854775807), (1, (-108917793696) * r7 - 159561683698 * r8)]) (hsN := [(8, [(4, 2), (4, 3)], []), (101, [], [0, r7, r8, 0, 0, 0]), jgh, jgh]) (c1 := 0) (s1 := 0) (c2 := 0) (s2 := 0) (by exact rfl) ?_ (by omega) (by omega)
        refine jT_xlload (v := (1, 1)) (pcN := 70) jIQ_45_68 rfl rfl rfl ?_
        refine jT_ldiv (a := 9223372036854775807) (b := 1) (by rfl) (by rfl) (by decide +kernel) (by decide +kernel) (by decide) ?_
        refine jT_eq (LN := [(8, (1, 108917793695 * r7 + 159561683699 * r8)), (6, (1, -r7 + r8)), (0, (4, 0)), (1, (4, 1)), (2, (1, 1)), (4, (1, 1))]) (stN := [(1, 9223372036854775807), (1, (-108917793696) * r7 - 159561683698 * r8)]) (hsN := [(8, [(4, 2), (4, 3)], []), (101, [], [0, r7, r8, 0, 0, 0]), jgh, jgh]) rfl (by rw [show (9223372036854775807 : Int).tdiv 1 = 9223372036854775807 by decide +kernel]) rfl ?_
        refine jT_lcmp (a := (-108917793696) * r7 - 159561683698 * r8) (b := 9223372036854775807) (z := (-1)) (by rfl) (by rfl) (jwl_idd (by omega) (by omega)) (jwl_idd (by omega) (by omega)) (by rw [decide_eq_false (show ¬ ((9223372036854775807 : Int) < (-108917793696) * r7 - 159561683698 * r8) by omega), decide_eq_false (show ¬ (((-108917793696) * r7 - 159561683698 * r8 : Int) = 9223372036854775807) by omega)]; rfl) ?_
        refine jT_xifF (t := 120) (pcN := 75) jIQ_45_72 rfl (by decide +kernel) rfl rfl ?_
        refine jT_xlload (v := (1, 108917793695 * r7 + 159561683699 * r8)) (pcN := 77) jIQ_45_75 rfl rfl rfl ?_
        refine jT_xlload (v := (1, -r7 + r8)) (pcN := 79) jIQ_45_77 rfl rfl rfl ?_
        refine jT_xlsub (x := 108917793695 * r7 + 159561683699 * r8) (y := -r7 + r8) (z := 108917793696 * r7 + 159561683698 * r8) (pcN := 80) jIQ_45_79 rfl (by omega) rfl ?_
        refine jT_xlload (v := (1, 1)) (pcN := 82) jIQ_45_80 rfl rfl rfl ?_
        refine jT_xlmul (x := 108917793696 * r7 + 159561683698 * r8) (y := 1) (z := 108917793696 * r7 + 159561683698 * r8) (pcN := 83) jIQ_45_82 rfl (by omega) rfl ?_
        refine jT_xlload_n (v := (1, 1)) (pcN := 84) jIQ_45_83 rfl rfl rfl ?_
        refine jT_xbipush (k := 36) (pcN := 86) jIQ_45_84 (by decide) rfl ?_
        refine jT_lshl (x := 1) (y := 36) (z := 68719476736) (by rfl) (by rfl) (by decide +kernel) ?_
        refine jT_callA [] (y := 373) (pcN := 90) (dC := 0) (bc1 := 0) (bc2 := 0) (c1 := 0) (c2 := 0) (as := [(1, 108917793696 * r7 + 159561683698 * r8), (1, 68719476736)]) (asC := [(1, 108917793696 * r7 + 159561683698 * r8), (1, 68719476736)]) (LN := [(8, (1, 108917793695 * r7 + 159561683699 * r8)), (6, (1, -r7 + r8)), (0, (4, 0)), (1, (4, 1)), (2, (1, 1)), (4, (1, 1))]) (stN := []) (hsC := []) (ex := []) (v := (1, (108917793695 * r7 + 159561683699 * r8) / 68719476736)) (st2 := [(1, (108917793695 * r7 + 159561683699 * r8) / 68719476736)]) (hs2 := [(8, [(4, 2), (4, 3)], []), (101, [], [0, r7, r8, 0, 0, 0]), jgh, jgh]) (jT_fdJK2 (d := 0) (x := 108917793696 * r7 + 159561683698 * r8) (y := 108917793695 * r7 + 159561683699 * r8) (by omega) (jcf (b := r7) (c := r8) (by omega) (by omega) (by omega) (by omega))) (by rfl) (by rfl) (by rfl) (by rfl) trivial (by rfl) (by rfl) (by omega) (by show 4 ≤ 4; omega) (by omega) (by omega) rfl rfl ?_
        have hb_q1 : (-60) ≤ (108917793695 * r7 + 159561683699 * r8) / 68719476736 ∧ (108917793695 * r7 + 159561683699 * r8) / 68719476736 ≤ 60 := ⟨by omega, by omega⟩
        generalize hq_q1 : (108917793695 * r7 + 159561683699 * r8) / 68719476736 = q1 at hb_q1 ⊢
        refine jT_xlstore (v := (1, q1)) (LN := [(10, (1, q1)), (8, (1, 108917793695 * r7 + 159561683699 * r8)), (6, (1, -r7 + r8)), (0, (4, 0)), (1, (4, 1)), (2, (1, 1)), (4, (1, 1))]) (pcN := 92) jIQ_45_90 rfl rfl rfl rfl ?_
        refine jT_xlload (v := (1, 108917793695 * r7 + 159561683699 * r8)) (pcN := 94) jIQ_45_92 rfl rfl rfl ?_
        refine jT_xlload (v := (1, -r7 + r8)) (pcN := 96) jIQ_45_94 rfl rfl rfl ?_
        refine jT_xladd (x := 108917793695 * r7 + 159561683699 * r8) (y := -r7 + r8) (z := 108917793694 * r7 + 159561683700 * r8) (pcN := 97) jIQ_45_96 rfl (by omega) rfl ?_
        refine jT_xlload (v := (1, 1)) (pcN := 99) jIQ_45_97 rfl rfl rfl ?_
        refine jT_xlmul (x := 108917793694 * r7 + 159561683700 * r8) (y := 1) (z := 108917793694 * r7 + 159561683700 * r8) (pcN := 100) jIQ_45_99 rfl (by omega) rfl ?_
        refine jT_xlload_n (v := (1, 1)) (pcN := 101) jIQ_45_100 rfl rfl rfl ?_
        refine jT_xbipush (k := 36) (pcN := 103) jIQ_45_101 (by decide) rfl ?_
        refine jT_lshl (x := 1) (y := 36) (z := 68719476736) (by rfl) (by rfl) (by decide +kernel) ?_
        refine jT_callA [] (y := 373) (pcN := 107) (dC := 0) (bc1 := 0) (bc2 := 0) (c1 := 0) (c2 := 0) (as := [(1, 108917793694 * r7 + 159561683700 * r8), (1, 68719476736)]) (asC := [(1, 108917793694 * r7 + 159561683700 * r8), (1, 68719476736)]) (LN := [(10, (1, q1)), (8, (1, 108917793695 * r7 + 159561683699 * r8)), (6, (1, -r7 + r8)), (0, (4, 0)), (1, (4, 1)), (2, (1, 1)), (4, (1, 1))]) (stN := []) (hsC := []) (ex := []) (v := (1, (108917793695 * r7 + 159561683699 * r8) / 68719476736)) (st2 := [(1, (108917793695 * r7 + 159561683699 * r8) / 68719476736)]) (hs2 := [(8, [(4, 2), (4, 3)], []), (101, [], [0, r7, r8, 0, 0, 0]), jgh, jgh]) (jT_fdJK2 (d := 0) (x := 108917793694 * r7 + 159561683700 * r8) (y := 108917793695 * r7 + 159561683699 * r8) (by omega) (jcf (b := r7) (c := r8) (by omega) (by omega) (by omega) (by omega))) (by rfl) (by rfl) (by rfl) (by rfl) trivial (by rfl) (by rfl) (by omega) (by show 4 ≤ 4; omega) (by omega) (by omega) rfl rfl ?_
        rw [hq_q1]
        refine jT_xlstore (v := (1, q1)) (LN := [(12, (1, q1)), (10, (1, q1)), (8, (1, 108917793695 * r7 + 159561683699 * r8)), (6, (1, -r7 + r8)), (0, (4, 0)), (1, (4, 1)), (2, (1, 1)), (4, (1, 1))]) (pcN := 109) jIQ_45_107 rfl rfl rfl rfl ?_
        refine jT_xlload (v := (1, q1)) (pcN := 111) jIQ_45_109 rfl rfl rfl ?_
        refine jT_xlload (v := (1, q1)) (pcN := 113) jIQ_45_111 rfl rfl rfl ?_
        refine jT_lcmp (a := q1) (b := q1) (z := 0) (by rfl) (by rfl) (jwl_idd (by omega) (by omega)) (jwl_idd (by omega) (by omega)) (by rw [decide_eq_false (show ¬ ((q1 : Int) < q1) by omega), decide_eq_true (show (q1 : Int) = q1 by omega)]; rfl) ?_
        refine jT_xifF (t := 120) (pcN := 117) jIQ_45_114 rfl (by decide +kernel) rfl rfl ?_
        refine jT_xlload (v := (1, q1)) (pcN := 119) jIQ_45_117 rfl rfl rfl ?_
        exact jT_ret rfl (by decide) (by show 4 ≤ 4; decide) (by omega) (by omega) ⟨rfl, by first | rfl | rw [hq_q1], rfl⟩
    · rcases (show (0 ≤ 108917793695 * r7 + 159561683699 * r8) ∨ (108917793695 * r7 + 159561683699 * r8 < 0) by omega) with g_2 | g_2
      · refine jT_xlload_n (v := (1, 1)) (pcN := 1) jIQ_45_0 rfl rfl rfl ?_
        refine jT_xlconst (z := 1) (pcN := 2) jIQ_45_1 rfl rfl ?_
        refine jT_lcmp (a := 1) (b := 1) (z := 0) (by rfl) (by rfl) (by decide +kernel) (by decide +kernel) (by decide) ?_
        refine jT_xifF (t := 13) (pcN := 6) jIQ_45_3 rfl (by decide +kernel) rfl rfl ?_
        refine jT_xlload (v := (1, 1)) (pcN := 8) jIQ_45_6 rfl rfl rfl ?_
        refine jT_xlconst (z := 1) (pcN := 9) jIQ_45_8 rfl rfl ?_
        refine jT_lcmp (a := 1) (b := 1) (z := 0) (by rfl) (by rfl) (by decide +kernel) (by decide +kernel) (by decide) ?_
        refine jT_xifT (pcN := 15) jIQ_45_10 rfl (by decide +kernel) rfl ?_
        refine jT_xaload_n (v := (4, 0)) (pcN := 16) jIQ_45_15 rfl rfl rfl ?_
        refine jT_xaload_n (v := (4, 1)) (pcN := 17) jIQ_45_16 rfl rfl rfl ?_
        refine jT_callA [0, 1] (y := 39) (pcN := 20) (dC := 0) (bc1 := 0) (bc2 := 0) (c1 := 0) (c2 := 0) (as := [(4, 0), (4, 1)]) (asC := [(4, 0), (4, 1)]) (LN := [(0, (4, 0)), (1, (4, 1)), (2, (1, 1)), (4, (1, 1))]) (stN := []) (hsC := [jgh, (101, [], [0, r7, r8, 0, 0, 0])]) (ex := []) (v := (1, -r7 - r8)) (st2 := [(1, -r7 - r8)]) (hs2 := [(8, [(4, 2), (4, 3)], []), (101, [], [0, r7, r8, 0, 0, 0]), jgh, jgh]) (jQ_39_46 (d := 0) (by omega) (by omega) (by omega) (by omega) (by omega)) (by rfl) (by rfl) (by rfl) (by rfl) ⟨rfl, rfl, trivial⟩ (by rfl) (by rfl) (by omega) (by show 4 ≤ 4; omega) (by omega) (by omega) rfl rfl ?_
        refine jT_xlstore (v := (1, -r7 - r8)) (LN := [(6, (1, -r7 - r8)), (0, (4, 0)), (1, (4, 1)), (2, (1, 1)), (4, (1, 1))]) (pcN := 22) jIQ_45_20 rfl rfl rfl rfl ?_
        refine jT_xlload (v := (1, -r7 - r8)) (pcN := 24) jIQ_45_22 rfl rfl rfl ?_
        refine jT_xlconst (z := 0) (pcN := 25) jIQ_45_24 rfl rfl ?_
        refine jT_lcmp (a := -r7 - r8) (b := 0) (z := 1) (by rfl) (by rfl) (jwl_idd (by omega) (by omega)) (jwl_idd (by omega) (by omega)) (by rw [decide_eq_true (show (0 : Int) < -r7 - r8 by omega)]; rfl) ?_
        refine jT_xifT (pcN := 40) jIQ_45_26 rfl (by decide +kernel) rfl ?_
        refine jT_xaload_n (v := (4, 0)) (pcN := 41) jIQ_45_40 rfl rfl rfl ?_
        refine jT_xaload_n (v := (4, 1)) (pcN := 42) jIQ_45_41 rfl rfl rfl ?_
        refine jT_xlload (v := (1, -r7 - r8)) (pcN := 44) jIQ_45_42 rfl rfl rfl ?_
        refine jT_callA [0, 1] (y := 40) (pcN := 47) (dC := 0) (bc1 := 0) (bc2 := 0) (c1 := 0) (c2 := 0) (as := [(4, 0), (4, 1), (1, -r7 - r8)]) (asC := [(4, 0), (4, 1), (1, -r7 - r8)]) (LN := [(6, (1, -r7 - r8)), (0, (4, 0)), (1, (4, 1)), (2, (1, 1)), (4, (1, 1))]) (stN := []) (hsC := [jgh, (101, [], [0, r7, r8, 0, 0, 0])]) (ex := []) (v := (0, 1)) (st2 := [(0, 1)]) (hs2 := [(8, [(4, 2), (4, 3)], []), (101, [], [0, r7, r8, 0, 0, 0]), jgh, jgh]) (jQ_40_47 (d := 0) (by omega) (by omega) (by omega) (by omega) (by omega)) (by rfl) (by rfl) (by rfl) (by rfl) ⟨rfl, rfl, trivial⟩ (by rfl) (by rfl) (by omega) (by show 4 ≤ 4; omega) (by omega) (by omega) rfl rfl ?_
        refine jT_xifF (t := 120) (pcN := 50) jIQ_45_47 rfl (by decide +kernel) rfl rfl ?_
        refine jT_xaload_n (v := (4, 0)) (pcN := 51) jIQ_45_50 rfl rfl rfl ?_
        refine jT_xaload_n (v := (4, 1)) (pcN := 52) jIQ_45_51 rfl rfl rfl ?_
        refine jT_callA [0, 1] (y := 41) (pcN := 55) (dC := 0) (bc1 := 0) (bc2 := 0) (c1 := 0) (c2 := 0) (as := [(4, 0), (4, 1)]) (asC := [(4, 0), (4, 1)]) (LN := [(6, (1, -r7 - r8)), (0, (4, 0)), (1, (4, 1)), (2, (1, 1)), (4, (1, 1))]) (stN := []) (hsC := [jgh, (101, [], [0, r7, r8, 0, 0, 0])]) (ex := []) (v := (1, 108917793695 * r7 + 159561683699 * r8)) (st2 := [(1, 108917793695 * r7 + 159561683699 * r8)]) (hs2 := [(8, [(4, 2), (4, 3)], []), (101, [], [0, r7, r8, 0, 0, 0]), jgh, jgh]) (jQ_41_48 (d := 0) (by omega) (by omega) (by omega) (by omega) (by omega)) (by rfl) (by rfl) (by rfl) (by rfl) ⟨rfl, rfl, trivial⟩ (by rfl) (by rfl) (by omega) (by show 4 ≤ 4; omega) (by omega) (by omega) rfl rfl ?_
        refine jT_xlstore (v := (1, 108917793695 * r7 + 159561683699 * r8)) (LN := [(8, (1, 108917793695 * r7 + 159561683699 * r8)), (6, (1, -r7 - r8)), (0, (4, 0)), (1, (4, 1)), (2, (1, 1)), (4, (1, 1))]) (pcN := 57) jIQ_45_55 rfl rfl rfl rfl ?_
        refine jT_xlload (v := (1, 108917793695 * r7 + 159561683699 * r8)) (pcN := 59) jIQ_45_57 rfl rfl rfl ?_
        refine jT_labs (z := 108917793695 * r7 + 159561683699 * r8) (by rfl) (by rfl) (by rfl) (by rfl) (by rw [show jwl (108917793695 * r7 + 159561683699 * r8) = 108917793695 * r7 + 159561683699 * r8 from jwl_idd (by omega) (by omega), decide_eq_false (by omega)]; first | (simp only [cond_true, cond_false]; done) | (simp only [cond_true, cond_false]; omega) | rfl) ?_
        refine jT_xlload (v := (1, -r7 - r8)) (pcN := 64) jIQ_45_62 rfl rfl rfl ?_
        refine jT_xladd (x := 108917793695 * r7 + 159561683699 * r8) (y := -r7 - r8) (z := 108917793694 * r7 + 159561683698 * r8) (pcN := 65) jIQ_45_64 rfl (by omega) rfl ?_
        refine jT_adv 1 (pcN := 68) (LN := [(8, (1, 108917793695 * r7 + 159561683699 * r8)), (6, (1, -r7 - r8)), (0, (4, 0)), (1, (4, 1)), (2, (1, 1)), (4, (1, 1))]) (stN := [(1, 9223372036854775807), (1, 108917793694 * r7 + 159561683698 * r8)]) (hsN := [(8, [(4, 2), (4, 3)], []), (101, [], [0, r7, r8, 0, 0, 0]), jgh, jgh]) (c1 := 0) (s1 := 0) (c2 := 0) (s2 := 0) (by exact rfl) ?_ (by omega) (by omega)
        refine jT_xlload (v := (1, 1)) (pcN := 70) jIQ_45_68 rfl rfl rfl ?_
        refine jT_ldiv (a := 9223372036854775807) (b := 1) (by rfl) (by rfl) (by decide +kernel) (by decide +kernel) (by decide) ?_
        refine jT_eq (LN := [(8, (1, 108917793695 * r7 + 159561683699 * r8)), (6, (1, -r7 - r8)), (0, (4, 0)), (1, (4, 1)), (2, (1, 1)), (4, (1, 1))]) (stN := [(1, 9223372036854775807), (1, 108917793694 * r7 + 159561683698 * r8)]) (hsN := [(8, [(4, 2), (4, 3)], []), (101, [], [0, r7, r8, 0, 0, 0]), jgh, jgh]) rfl (by rw [show (9223372036854775807 : Int).tdiv 1 = 9223372036854775807 by decide +kernel]) rfl ?_
        refine jT_lcmp (a := 108917793694 * r7 + 159561683698 * r8) (b := 9223372036854775807) (z := (-1)) (by rfl) (by rfl) (jwl_idd (by omega) (by omega)) (jwl_idd (by omega) (by omega)) (by rw [decide_eq_false (show ¬ ((9223372036854775807 : Int) < 108917793694 * r7 + 159561683698 * r8) by omega), decide_eq_false (show ¬ ((108917793694 * r7 + 159561683698 * r8 : Int) = 9223372036854775807) by omega)]; rfl) ?_
        refine jT_xifF (t := 120) (pcN := 75) jIQ_45_72 rfl (by decide +kernel) rfl rfl ?_
        refine jT_xlload (v := (1, 108917793695 * r7 + 159561683699 * r8)) (pcN := 77) jIQ_45_75 rfl rfl rfl ?_
        refine jT_xlload (v := (1, -r7 - r8)) (pcN := 79) jIQ_45_77 rfl rfl rfl ?_
        refine jT_xlsub (x := 108917793695 * r7 + 159561683699 * r8) (y := -r7 - r8) (z := 108917793696 * r7 + 159561683700 * r8) (pcN := 80) jIQ_45_79 rfl (by omega) rfl ?_
        refine jT_xlload (v := (1, 1)) (pcN := 82) jIQ_45_80 rfl rfl rfl ?_
        refine jT_xlmul (x := 108917793696 * r7 + 159561683700 * r8) (y := 1) (z := 108917793696 * r7 + 159561683700 * r8) (pcN := 83) jIQ_45_82 rfl (by omega) rfl ?_
        refine jT_xlload_n (v := (1, 1)) (pcN := 84) jIQ_45_83 rfl rfl rfl ?_
        refine jT_xbipush (k := 36) (pcN := 86) jIQ_45_84 (by decide) rfl ?_
        refine jT_lshl (x := 1) (y := 36) (z := 68719476736) (by rfl) (by rfl) (by decide +kernel) ?_
        refine jT_callA [] (y := 373) (pcN := 90) (dC := 0) (bc1 := 0) (bc2 := 0) (c1 := 0) (c2 := 0) (as := [(1, 108917793696 * r7 + 159561683700 * r8), (1, 68719476736)]) (asC := [(1, 108917793696 * r7 + 159561683700 * r8), (1, 68719476736)]) (LN := [(8, (1, 108917793695 * r7 + 159561683699 * r8)), (6, (1, -r7 - r8)), (0, (4, 0)), (1, (4, 1)), (2, (1, 1)), (4, (1, 1))]) (stN := []) (hsC := []) (ex := []) (v := (1, (108917793695 * r7 + 159561683699 * r8) / 68719476736)) (st2 := [(1, (108917793695 * r7 + 159561683699 * r8) / 68719476736)]) (hs2 := [(8, [(4, 2), (4, 3)], []), (101, [], [0, r7, r8, 0, 0, 0]), jgh, jgh]) (jT_fdJK2 (d := 0) (x := 108917793696 * r7 + 159561683700 * r8) (y := 108917793695 * r7 + 159561683699 * r8) (by omega) (jcf (b := r7) (c := r8) (by omega) (by omega) (by omega) (by omega))) (by rfl) (by rfl) (by rfl) (by rfl) trivial (by rfl) (by rfl) (by omega) (by show 4 ≤ 4; omega) (by omega) (by omega) rfl rfl ?_
        have hb_q1 : (-60) ≤ (108917793695 * r7 + 159561683699 * r8) / 68719476736 ∧ (108917793695 * r7 + 159561683699 * r8) / 68719476736 ≤ 60 := ⟨by omega, by omega⟩
        generalize hq_q1 : (108917793695 * r7 + 159561683699 * r8) / 68719476736 = q1 at hb_q1 ⊢
        refine jT_xlstore (v := (1, q1)) (LN := [(10, (1, q1)), (8, (1, 108917793695 * r7 + 159561683699 * r8)), (6, (1, -r7 - r8)), (0, (4, 0)), (1, (4, 1)), (2, (1, 1)), (4, (1, 1))]) (pcN := 92) jIQ_45_90 rfl rfl rfl rfl ?_
        refine jT_xlload (v := (1, 108917793695 * r7 + 159561683699 * r8)) (pcN := 94) jIQ_45_92 rfl rfl rfl ?_
        refine jT_xlload (v := (1, -r7 - r8)) (pcN := 96) jIQ_45_94 rfl rfl rfl ?_
        refine jT_xladd (x := 108917793695 * r7 + 159561683699 * r8) (y := -r7 - r8) (z := 108917793694 * r7 + 159561683698 * r8) (pcN := 97) jIQ_45_96 rfl (by omega) rfl ?_
        refine jT_xlload (v := (1, 1)) (pcN := 99) jIQ_45_97 rfl rfl rfl ?_
        refine jT_xlmul (x := 108917793694 * r7 + 159561683698 * r8) (y := 1) (z := 108917793694 * r7 + 159561683698 * r8) (pcN := 100) jIQ_45_99 rfl (by omega) rfl ?_
        refine jT_xlload_n (v := (1, 1)) (pcN := 101) jIQ_45_100 rfl rfl rfl ?_
        refine jT_xbipush (k := 36) (pcN := 103) jIQ_45_101 (by decide) rfl ?_
        refine jT_lshl (x := 1) (y := 36) (z := 68719476736) (by rfl) (by rfl) (by decide +kernel) ?_
        refine jT_callA [] (y := 373) (pcN := 107) (dC := 0) (bc1 := 0) (bc2 := 0) (c1 := 0) (c2 := 0) (as := [(1, 108917793694 * r7 + 159561683698 * r8), (1, 68719476736)]) (asC := [(1, 108917793694 * r7 + 159561683698 * r8), (1, 68719476736)]) (LN := [(10, (1, q1)), (8, (1, 108917793695 * r7 + 159561683699 * r8)), (6, (1, -r7 - r8)), (0, (4, 0)), (1, (4, 1)), (2, (1, 1)), (4, (1, 1))]) (stN := []) (hsC := []) (ex := []) (v := (1, (108917793695 * r7 + 159561683699 * r8) / 68719476736)) (st2 := [(1, (108917793695 * r7 + 159561683699 * r8) / 68719476736)]) (hs2 := [(8, [(4, 2), (4, 3)], []), (101, [], [0, r7, r8, 0, 0, 0]), jgh, jgh]) (jT_fdJK2 (d := 0) (x := 108917793694 * r7 + 159561683698 * r8) (y := 108917793695 * r7 + 159561683699 * r8) (by omega) (jcf (b := r7) (c := r8) (by omega) (by omega) (by omega) (by omega))) (by rfl) (by rfl) (by rfl) (by rfl) trivial (by rfl) (by rfl) (by omega) (by show 4 ≤ 4; omega) (by omega) (by omega) rfl rfl ?_
        rw [hq_q1]
        refine jT_xlstore (v := (1, q1)) (LN := [(12, (1, q1)), (10, (1, q1)), (8, (1, 108917793695 * r7 + 159561683699 * r8)), (6, (1, -r7 - r8)), (0, (4, 0)), (1, (4, 1)), (2, (1, 1)), (4, (1, 1))]) (pcN := 109) jIQ_45_107 rfl rfl rfl rfl ?_
        refine jT_xlload (v := (1, q1)) (pcN := 111) jIQ_45_109 rfl rfl rfl ?_
        refine jT_xlload (v := (1, q1)) (pcN := 113) jIQ_45_111 rfl rfl rfl ?_
        refine jT_lcmp (a := q1) (b := q1) (z := 0) (by rfl) (by rfl) (jwl_idd (by omega) (by omega)) (jwl_idd (by omega) (by omega)) (by rw [decide_eq_false (show ¬ ((q1 : Int) < q1) by omega), decide_eq_true (show (q1 : Int) = q1 by omega)]; rfl) ?_
        refine jT_xifF (t := 120) (pcN := 117) jIQ_45_114 rfl (by decide +kernel) rfl rfl ?_
        refine jT_xlload (v := (1, q1)) (pcN := 119) jIQ_45_117 rfl rfl rfl ?_
        exact jT_ret rfl (by decide) (by show 4 ≤ 4; decide) (by omega) (by omega) ⟨rfl, by first | rfl | rw [hq_q1], rfl⟩
      · refine jT_xlload_n (v := (1, 1)) (pcN := 1) jIQ_45_0 rfl rfl rfl ?_
        refine jT_xlconst (z := 1) (pcN := 2) jIQ_45_1 rfl rfl ?_
        refine jT_lcmp (a := 1) (b := 1) (z := 0) (by rfl) (by rfl) (by decide +kernel) (by decide +kernel) (by decide) ?_
        refine jT_xifF (t := 13) (pcN := 6) jIQ_45_3 rfl (by decide +kernel) rfl rfl ?_
        refine jT_xlload (v := (1, 1)) (pcN := 8) jIQ_45_6 rfl rfl rfl ?_
        refine jT_xlconst (z := 1) (pcN := 9) jIQ_45_8 rfl rfl ?_
        refine jT_lcmp (a := 1) (b := 1) (z := 0) (by rfl) (by rfl) (by decide +kernel) (by decide +kernel) (by decide) ?_
        refine jT_xifT (pcN := 15) jIQ_45_10 rfl (by decide +kernel) rfl ?_
        refine jT_xaload_n (v := (4, 0)) (pcN := 16) jIQ_45_15 rfl rfl rfl ?_
        refine jT_xaload_n (v := (4, 1)) (pcN := 17) jIQ_45_16 rfl rfl rfl ?_
        refine jT_callA [0, 1] (y := 39) (pcN := 20) (dC := 0) (bc1 := 0) (bc2 := 0) (c1 := 0) (c2 := 0) (as := [(4, 0), (4, 1)]) (asC := [(4, 0), (4, 1)]) (LN := [(0, (4, 0)), (1, (4, 1)), (2, (1, 1)), (4, (1, 1))]) (stN := []) (hsC := [jgh, (101, [], [0, r7, r8, 0, 0, 0])]) (ex := []) (v := (1, -r7 - r8)) (st2 := [(1, -r7 - r8)]) (hs2 := [(8, [(4, 2), (4, 3)], []), (101, [], [0, r7, r8, 0, 0, 0]), jgh, jgh]) (jQ_39_43 (d := 0) (by omega) (by omega) (by omega) (by omega) (by omega)) (by rfl) (by rfl) (by rfl) (by rfl) ⟨rfl, rfl, trivial⟩ (by rfl) (by rfl) (by omega) (by show 4 ≤ 4; omega) (by omega) (by omega) rfl rfl ?_
        refine jT_xlstore (v := (1, -r7 - r8)) (LN := [(6, (1, -r7 - r8)), (0, (4, 0)), (1, (4, 1)), (2, (1, 1)), (4, (1, 1))]) (pcN := 22) jIQ_45_20 rfl rfl rfl rfl ?_
        refine jT_xlload (v := (1, -r7 - r8)) (pcN := 24) jIQ_45_22 rfl rfl rfl ?_
        refine jT_xlconst (z := 0) (pcN := 25) jIQ_45_24 rfl rfl ?_
        refine jT_lcmp (a := -r7 - r8) (b := 0) (z := 1) (by rfl) (by rfl) (jwl_idd (by omega) (by omega)) (jwl_idd (by omega) (by omega)) (by rw [decide_eq_true (show (0 : Int) < -r7 - r8 by omega)]; rfl) ?_
        refine jT_xifT (pcN := 40) jIQ_45_26 rfl (by decide +kernel) rfl ?_
        refine jT_xaload_n (v := (4, 0)) (pcN := 41) jIQ_45_40 rfl rfl rfl ?_
        refine jT_xaload_n (v := (4, 1)) (pcN := 42) jIQ_45_41 rfl rfl rfl ?_
        refine jT_xlload (v := (1, -r7 - r8)) (pcN := 44) jIQ_45_42 rfl rfl rfl ?_
        refine jT_callA [0, 1] (y := 40) (pcN := 47) (dC := 0) (bc1 := 0) (bc2 := 0) (c1 := 0) (c2 := 0) (as := [(4, 0), (4, 1), (1, -r7 - r8)]) (asC := [(4, 0), (4, 1), (1, -r7 - r8)]) (LN := [(6, (1, -r7 - r8)), (0, (4, 0)), (1, (4, 1)), (2, (1, 1)), (4, (1, 1))]) (stN := []) (hsC := [jgh, (101, [], [0, r7, r8, 0, 0, 0])]) (ex := []) (v := (0, 1)) (st2 := [(0, 1)]) (hs2 := [(8, [(4, 2), (4, 3)], []), (101, [], [0, r7, r8, 0, 0, 0]), jgh, jgh]) (jQ_40_44 (d := 0) (by omega) (by omega) (by omega) (by omega) (by omega)) (by rfl) (by rfl) (by rfl) (by rfl) ⟨rfl, rfl, trivial⟩ (by rfl) (by rfl) (by omega) (by show 4 ≤ 4; omega) (by omega) (by omega) rfl rfl ?_
        refine jT_xifF (t := 120) (pcN := 50) jIQ_45_47 rfl (by decide +kernel) rfl rfl ?_
        refine jT_xaload_n (v := (4, 0)) (pcN := 51) jIQ_45_50 rfl rfl rfl ?_
        refine jT_xaload_n (v := (4, 1)) (pcN := 52) jIQ_45_51 rfl rfl rfl ?_
        refine jT_callA [0, 1] (y := 41) (pcN := 55) (dC := 0) (bc1 := 0) (bc2 := 0) (c1 := 0) (c2 := 0) (as := [(4, 0), (4, 1)]) (asC := [(4, 0), (4, 1)]) (LN := [(6, (1, -r7 - r8)), (0, (4, 0)), (1, (4, 1)), (2, (1, 1)), (4, (1, 1))]) (stN := []) (hsC := [jgh, (101, [], [0, r7, r8, 0, 0, 0])]) (ex := []) (v := (1, 108917793695 * r7 + 159561683699 * r8)) (st2 := [(1, 108917793695 * r7 + 159561683699 * r8)]) (hs2 := [(8, [(4, 2), (4, 3)], []), (101, [], [0, r7, r8, 0, 0, 0]), jgh, jgh]) (jQ_41_45 (d := 0) (by omega) (by omega) (by omega) (by omega) (by omega)) (by rfl) (by rfl) (by rfl) (by rfl) ⟨rfl, rfl, trivial⟩ (by rfl) (by rfl) (by omega) (by show 4 ≤ 4; omega) (by omega) (by omega) rfl rfl ?_
        refine jT_xlstore (v := (1, 108917793695 * r7 + 159561683699 * r8)) (LN := [(8, (1, 108917793695 * r7 + 159561683699 * r8)), (6, (1, -r7 - r8)), (0, (4, 0)), (1, (4, 1)), (2, (1, 1)), (4, (1, 1))]) (pcN := 57) jIQ_45_55 rfl rfl rfl rfl ?_
        refine jT_xlload (v := (1, 108917793695 * r7 + 159561683699 * r8)) (pcN := 59) jIQ_45_57 rfl rfl rfl ?_
        refine jT_labs (z := (-108917793695) * r7 - 159561683699 * r8) (by rfl) (by rfl) (by rfl) (by rfl) (by rw [show jwl (108917793695 * r7 + 159561683699 * r8) = 108917793695 * r7 + 159561683699 * r8 from jwl_idd (by omega) (by omega), decide_eq_true (by omega)]; first | (simp only [cond_true, cond_false]; done) | (simp only [cond_true, cond_false]; omega) | rfl) ?_
        refine jT_xlload (v := (1, -r7 - r8)) (pcN := 64) jIQ_45_62 rfl rfl rfl ?_
        refine jT_xladd (x := (-108917793695) * r7 - 159561683699 * r8) (y := -r7 - r8) (z := (-108917793696) * r7 - 159561683700 * r8) (pcN := 65) jIQ_45_64 rfl (by omega) rfl ?_
        refine jT_adv 1 (pcN := 68) (LN := [(8, (1, 108917793695 * r7 + 159561683699 * r8)), (6, (1, -r7 - r8)), (0, (4, 0)), (1, (4, 1)), (2, (1, 1)), (4, (1, 1))]) (stN := [(1, 9223372036854775807), (1, (-108917793696) * r7 - 159561683700 * r8)]) (hsN := [(8, [(4, 2), (4, 3)], []), (101, [], [0, r7, r8, 0, 0, 0]), jgh, jgh]) (c1 := 0) (s1 := 0) (c2 := 0) (s2 := 0) (by exact rfl) ?_ (by omega) (by omega)
        refine jT_xlload (v := (1, 1)) (pcN := 70) jIQ_45_68 rfl rfl rfl ?_
        refine jT_ldiv (a := 9223372036854775807) (b := 1) (by rfl) (by rfl) (by decide +kernel) (by decide +kernel) (by decide) ?_
        refine jT_eq (LN := [(8, (1, 108917793695 * r7 + 159561683699 * r8)), (6, (1, -r7 - r8)), (0, (4, 0)), (1, (4, 1)), (2, (1, 1)), (4, (1, 1))]) (stN := [(1, 9223372036854775807), (1, (-108917793696) * r7 - 159561683700 * r8)]) (hsN := [(8, [(4, 2), (4, 3)], []), (101, [], [0, r7, r8, 0, 0, 0]), jgh, jgh]) rfl (by rw [show (9223372036854775807 : Int).tdiv 1 = 9223372036854775807 by decide +kernel]) rfl ?_
        refine jT_lcmp (a := (-108917793696) * r7 - 159561683700 * r8) (b := 9223372036854775807) (z := (-1)) (by rfl) (by rfl) (jwl_idd (by omega) (by omega)) (jwl_idd (by omega) (by omega)) (by rw [decide_eq_false (show ¬ ((9223372036854775807 : Int) < (-108917793696) * r7 - 159561683700 * r8) by omega), decide_eq_false (show ¬ (((-108917793696) * r7 - 159561683700 * r8 : Int) = 9223372036854775807) by omega)]; rfl) ?_
        refine jT_xifF (t := 120) (pcN := 75) jIQ_45_72 rfl (by decide +kernel) rfl rfl ?_
        refine jT_xlload (v := (1, 108917793695 * r7 + 159561683699 * r8)) (pcN := 77) jIQ_45_75 rfl rfl rfl ?_
        refine jT_xlload (v := (1, -r7 - r8)) (pcN := 79) jIQ_45_77 rfl rfl rfl ?_
        refine jT_xlsub (x := 108917793695 * r7 + 159561683699 * r8) (y := -r7 - r8) (z := 108917793696 * r7 + 159561683700 * r8) (pcN := 80) jIQ_45_79 rfl (by omega) rfl ?_
        refine jT_xlload (v := (1, 1)) (pcN := 82) jIQ_45_80 rfl rfl rfl ?_
        refine jT_xlmul (x := 108917793696 * r7 + 159561683700 * r8) (y := 1) (z := 108917793696 * r7 + 159561683700 * r8) (pcN := 83) jIQ_45_82 rfl (by omega) rfl ?_
        refine jT_xlload_n (v := (1, 1)) (pcN := 84) jIQ_45_83 rfl rfl rfl ?_
        refine jT_xbipush (k := 36) (pcN := 86) jIQ_45_84 (by decide) rfl ?_
        refine jT_lshl (x := 1) (y := 36) (z := 68719476736) (by rfl) (by rfl) (by decide +kernel) ?_
        refine jT_callA [] (y := 373) (pcN := 90) (dC := 0) (bc1 := 0) (bc2 := 0) (c1 := 0) (c2 := 0) (as := [(1, 108917793696 * r7 + 159561683700 * r8), (1, 68719476736)]) (asC := [(1, 108917793696 * r7 + 159561683700 * r8), (1, 68719476736)]) (LN := [(8, (1, 108917793695 * r7 + 159561683699 * r8)), (6, (1, -r7 - r8)), (0, (4, 0)), (1, (4, 1)), (2, (1, 1)), (4, (1, 1))]) (stN := []) (hsC := []) (ex := []) (v := (1, (108917793695 * r7 + 159561683699 * r8) / 68719476736)) (st2 := [(1, (108917793695 * r7 + 159561683699 * r8) / 68719476736)]) (hs2 := [(8, [(4, 2), (4, 3)], []), (101, [], [0, r7, r8, 0, 0, 0]), jgh, jgh]) (jT_fdJK2 (d := 0) (x := 108917793696 * r7 + 159561683700 * r8) (y := 108917793695 * r7 + 159561683699 * r8) (by omega) (jcf (b := r7) (c := r8) (by omega) (by omega) (by omega) (by omega))) (by rfl) (by rfl) (by rfl) (by rfl) trivial (by rfl) (by rfl) (by omega) (by show 4 ≤ 4; omega) (by omega) (by omega) rfl rfl ?_
        have hb_q1 : (-60) ≤ (108917793695 * r7 + 159561683699 * r8) / 68719476736 ∧ (108917793695 * r7 + 159561683699 * r8) / 68719476736 ≤ 60 := ⟨by omega, by omega⟩
        generalize hq_q1 : (108917793695 * r7 + 159561683699 * r8) / 68719476736 = q1 at hb_q1 ⊢
        refine jT_xlstore (v := (1, q1)) (LN := [(10, (1, q1)), (8, (1, 108917793695 * r7 + 159561683699 * r8)), (6, (1, -r7 - r8)), (0, (4, 0)), (1, (4, 1)), (2, (1, 1)), (4, (1, 1))]) (pcN := 92) jIQ_45_90 rfl rfl rfl rfl ?_
        refine jT_xlload (v := (1, 108917793695 * r7 + 159561683699 * r8)) (pcN := 94) jIQ_45_92 rfl rfl rfl ?_
        refine jT_xlload (v := (1, -r7 - r8)) (pcN := 96) jIQ_45_94 rfl rfl rfl ?_
        refine jT_xladd (x := 108917793695 * r7 + 159561683699 * r8) (y := -r7 - r8) (z := 108917793694 * r7 + 159561683698 * r8) (pcN := 97) jIQ_45_96 rfl (by omega) rfl ?_
        refine jT_xlload (v := (1, 1)) (pcN := 99) jIQ_45_97 rfl rfl rfl ?_
        refine jT_xlmul (x := 108917793694 * r7 + 159561683698 * r8) (y := 1) (z := 108917793694 * r7 + 159561683698 * r8) (pcN := 100) jIQ_45_99 rfl (by omega) rfl ?_
        refine jT_xlload_n (v := (1, 1)) (pcN := 101) jIQ_45_100 rfl rfl rfl ?_
        refine jT_xbipush (k := 36) (pcN := 103) jIQ_45_101 (by decide) rfl ?_
        refine jT_lshl (x := 1) (y := 36) (z := 68719476736) (by rfl) (by rfl) (by decide +kernel) ?_
        refine jT_callA [] (y := 373) (pcN := 107) (dC := 0) (bc1 := 0) (bc2 := 0) (c1 := 0) (c2 := 0) (as := [(1, 108917793694 * r7 + 159561683698 * r8), (1, 68719476736)]) (asC := [(1, 108917793694 * r7 + 159561683698 * r8), (1, 68719476736)]) (LN := [(10, (1, q1)), (8, (1, 108917793695 * r7 + 159561683699 * r8)), (6, (1, -r7 - r8)), (0, (4, 0)), (1, (4, 1)), (2, (1, 1)), (4, (1, 1))]) (stN := []) (hsC := []) (ex := []) (v := (1, (108917793695 * r7 + 159561683699 * r8) / 68719476736)) (st2 := [(1, (108917793695 * r7 + 159561683699 * r8) / 68719476736)]) (hs2 := [(8, [(4, 2), (4, 3)], []), (101, [], [0, r7, r8, 0, 0, 0]), jgh, jgh]) (jT_fdJK2 (d := 0) (x := 108917793694 * r7 + 159561683698 * r8) (y := 108917793695 * r7 + 159561683699 * r8) (by omega) (jcf (b := r7) (c := r8) (by omega) (by omega) (by omega) (by omega))) (by rfl) (by rfl) (by rfl) (by rfl) trivial (by rfl) (by rfl) (by omega) (by show 4 ≤ 4; omega) (by omega) (by omega) rfl rfl ?_
        rw [hq_q1]
        refine jT_xlstore (v := (1, q1)) (LN := [(12, (1, q1)), (10, (1, q1)), (8, (1, 108917793695 * r7 + 159561683699 * r8)), (6, (1, -r7 - r8)), (0, (4, 0)), (1, (4, 1)), (2, (1, 1)), (4, (1, 1))]) (pcN := 109) jIQ_45_107 rfl rfl rfl rfl ?_
        refine jT_xlload (v := (1, q1)) (pcN := 111) jIQ_45_109 rfl rfl rfl ?_
        refine jT_xlload (v := (1, q1)) (pcN := 113) jIQ_45_111 rfl rfl rfl ?_
        refine jT_lcmp (a := q1) (b := q1) (z := 0) (by rfl) (by rfl) (jwl_idd (by omega) (by omega)) (jwl_idd (by omega) (by omega)) (by rw [decide_eq_false (show ¬ ((q1 : Int) < q1) by omega), decide_eq_true (show (q1 : Int) = q1 by omega)]; rfl) ?_
        refine jT_xifF (t := 120) (pcN := 117) jIQ_45_114 rfl (by decide +kernel) rfl rfl ?_
        refine jT_xlload (v := (1, q1)) (pcN := 119) jIQ_45_117 rfl rfl rfl ?_
        exact jT_ret rfl (by decide) (by show 4 ≤ 4; decide) (by omega) (by omega) ⟨rfl, by first | rfl | rw [hq_q1], rfl⟩
theorem jIQ_161_69 : jmI (jm 161) 69 = (.lstore 5, 2) := by rfl
theorem jIQ_161_71 : jmI (jm 161) 71 = (.iload 4, 2) := by rfl
theorem jIQ_161_73 : jmI (jm 161) 73 = (.ifCond .le 34, 3) := by rfl
theorem jIQ_161_107 : jmI (jm 161) 107 = (.aload_n 0, 1) := by rfl
theorem jIQ_161_108 : jmI (jm 161) 108 = (.getfield 50, 3) := by rfl
theorem jIQ_161_111 : jmI (jm 161) 111 = (.iconst 0, 1) := by rfl
theorem jIQ_161_112 : jmI (jm 161) 112 = (.lload 5, 2) := by rfl
theorem jIQ_161_116 : jmI (jm 161) 116 = (.iconst 0, 1) := by rfl
theorem jIQ_161_117 : jmI (jm 161) 117 = (.istore 7, 2) := by rfl
theorem jIQ_161_119 : jmI (jm 161) 119 = (.iload 7, 2) := by rfl
theorem jIQ_161_121 : jmI (jm 161) 121 = (.bipush 6, 2) := by rfl
theorem jIQ_161_123 : jmI (jm 161) 123 = (.if_icmp .ge 36, 3) := by rfl
theorem jIQ_161_126 : jmI (jm 161) 126 = (.aload_n 0, 1) := by rfl
theorem jIQ_161_127 : jmI (jm 161) 127 = (.getfield 50, 3) := by rfl
theorem jIQ_161_130 : jmI (jm 161) 130 = (.iload 7, 2) := by rfl
theorem jIQ_161_132 : jmI (jm 161) 132 = (.aload_n 3, 1) := by rfl
theorem jIQ_161_133 : jmI (jm 161) 133 = (.getfield 209, 3) := by rfl
theorem jIQ_161_136 : jmI (jm 161) 136 = (.iload 7, 2) := by rfl
theorem jIQ_161_138 : jmI (jm 161) 138 = (.laload, 1) := by rfl
theorem jIQ_161_139 : jmI (jm 161) 139 = (.aload_n 0, 1) := by rfl
theorem jIQ_161_140 : jmI (jm 161) 140 = (.getfield 50, 3) := by rfl
theorem jIQ_161_143 : jmI (jm 161) 143 = (.iload 7, 2) := by rfl
theorem jIQ_161_145 : jmI (jm 161) 145 = (.laload, 1) := by rfl
theorem jIQ_161_146 : jmI (jm 161) 146 = (.aload_n 3, 1) := by rfl
theorem jIQ_161_147 : jmI (jm 161) 147 = (.getfield 102, 3) := by rfl
theorem jIQ_161_150 : jmI (jm 161) 150 = (.lmul, 1) := by rfl
theorem jIQ_161_151 : jmI (jm 161) 151 = (.lsub, 1) := by rfl
theorem jIQ_161_153 : jmI (jm 161) 153 = (.iinc 7 1, 3) := by rfl
theorem jIQ_161_156 : jmI (jm 161) 156 = (.goto (-37), 3) := by rfl
theorem jIQ_161_159 : jmI (jm 161) 159 = (.aload_n 0, 1) := by rfl
theorem jIQ_161_160 : jmI (jm 161) 160 = (.getfield 10, 3) := by rfl
theorem jIQ_161_163 : jmI (jm 161) 163 = (.aload_n 0, 1) := by rfl
theorem jIQ_161_164 : jmI (jm 161) 164 = (.getfield 50, 3) := by rfl
theorem jIQ_38_0 : jmI (jm 38) 0 = (.aload_n 0, 1) := by rfl
theorem jIQ_38_1 : jmI (jm 38) 1 = (.aload_n 1, 1) := by rfl
theorem jIQ_38_5 : jmI (jm 38) 5 = (.lstore_n 2, 1) := by rfl
theorem jIQ_38_6 : jmI (jm 38) 6 = (.lload_n 2, 1) := by rfl
theorem jIQ_38_7 : jmI (jm 38) 7 = (.lconst 0, 1) := by rfl
theorem jIQ_38_9 : jmI (jm 38) 9 = (.ifCond .ne 11, 3) := by rfl
theorem jIQ_38_20 : jmI (jm 38) 20 = (.aload_n 0, 1) := by rfl
theorem jIQ_38_21 : jmI (jm 38) 21 = (.aload_n 1, 1) := by rfl
theorem jIQ_38_22 : jmI (jm 38) 22 = (.lload_n 2, 1) := by rfl
theorem jIQ_38_26 : jmI (jm 38) 26 = (.ifCond .eq 38, 3) := by rfl
theorem jIQ_38_29 : jmI (jm 38) 29 = (.aload_n 0, 1) := by rfl
theorem jIQ_38_30 : jmI (jm 38) 30 = (.aload_n 1, 1) := by rfl
theorem jIQ_38_34 : jmI (jm 38) 34 = (.lstore 4, 2) := by rfl
theorem jIQ_38_36 : jmI (jm 38) 36 = (.lload 4, 2) := by rfl
theorem jIQ_38_38 : jmI (jm 38) 38 = (.lload_n 2, 1) := by rfl
theorem jIQ_38_40 : jmI (jm 38) 40 = (.ifCond .gt 11, 3) := by rfl
theorem jIQ_38_43 : jmI (jm 38) 43 = (.lload 4, 2) := by rfl
theorem jIQ_38_45 : jmI (jm 38) 45 = (.lload_n 2, 1) := by rfl
theorem jIQ_38_48 : jmI (jm 38) 48 = (.ifCond .ge 16, 3) := by rfl
theorem jIQ_38_51 : jmI (jm 38) 51 = (.lload 4, 2) := by rfl
theorem jIQ_38_53 : jmI (jm 38) 53 = (.lconst 0, 1) := by rfl
theorem jIQ_38_55 : jmI (jm 38) 55 = (.ifCond .ge 7, 3) := by rfl
theorem jIQ_38_58 : jmI (jm 38) 58 = (.iconst (-1), 1) := by rfl
theorem jIQ_38_59 : jmI (jm 38) 59 = (.goto 4, 3) := by rfl
theorem jIQ_38_12 : jmI (jm 38) 12 = (.aload_n 1, 1) := by rfl
theorem jIQ_38_13 : jmI (jm 38) 13 = (.iconst 0, 1) := by rfl
theorem jIQ_38_14 : jmI (jm 38) 14 = (.laload, 1) := by rfl
theorem jIQ_38_15 : jmI (jm 38) 15 = (.lconst 0, 1) := by rfl
set_option maxHeartbeats 8000000 in
theorem jQl_sp38_117 {xs : List Int} {d : Nat} {p7 p8 q1 : Int} (h_p7 : (-20) ≤ p7 ∧ p7 ≤ 20) (h_p8 : (-10) ≤ p8 ∧ p8 ≤ 10) (h_q1 : (-60) ≤ q1 ∧ q1 ≤ 60) (g_0 : 0 ≤ (-108917793694) * p7 - 159561683698 * p8 - 68719476736 * q1 - 1) (g_1 : 0 ≤ (-108917793694) * p7 - 159561683700 * p8 - 68719476736 * q1 - 1) (g_2 : 0 ≤ (-108917793696) * p7 - 159561683698 * p8 - 68719476736 * q1 - 1) (g_3 : 0 ≤ (-108917793696) * p7 - 159561683700 * p8 - 68719476736 * q1 - 1) : jT xs (d + 1) 38 4 0 [(0, (4, 0)), (1, (4, 1))] [] [(8, [(4, 2), (4, 3)], []), (101, [], [q1, p7, p8, 0, 0, 0]), jgh, jgh] 0 0 (fun k v hsN => k = 0 ∧ v = (0, (-1)) ∧ hsN = [(8, [(4, 2), (4, 3)], []), (101, [], [q1, p7, p8, 0, 0, 0]), jgh, jgh]) := by
  rcases (show (0 ≤ p7) ∨ (p7 < 0) by (first | (clear g_0 g_1 g_2 g_3; omega) | (clear g_0 g_1 g_2 g_3; omega) | (clear g_1 g_2 g_3; omega) | (clear g_0 g_2 g_3; omega) | (clear g_0 g_1 g_3; omega) | (clear g_0 g_1 g_2; omega) | omega)) with g_4 | g_4
  · rcases (show (0 ≤ p8) ∨ (p8 < 0) by (first | (clear g_0 g_1 g_2 g_3 g_4; omega) | (clear g_0 g_1 g_2 g_3; omega) | (clear g_1 g_2 g_3; omega) | (clear g_0 g_2 g_3; omega) | (clear g_0 g_1 g_3; omega) | (clear g_0 g_1 g_2; omega) | omega)) with g_5 | g_5
    · rcases (show (0 ≤ p7 + p8 - 1) ∨ (p7 + p8 - 1 < 0) by (first | (clear g_0 g_1 g_2 g_3 g_4 g_5; omega) | (clear g_0 g_1 g_2 g_3; omega) | (clear g_1 g_2 g_3; omega) | (clear g_0 g_2 g_3; omega) | (clear g_0 g_1 g_3; omega) | (clear g_0 g_1 g_2; omega) | omega)) with g_6 | g_6
      · rcases (show (0 ≤ q1) ∨ (q1 < 0) by (first | (clear g_0 g_1 g_2 g_3 g_4 g_5 g_6; omega) | (clear g_0 g_1 g_2 g_3; omega) | (clear g_1 g_2 g_3; omega) | (clear g_0 g_2 g_3; omega) | (clear g_0 g_1 g_3; omega) | (clear g_0 g_1 g_2; omega) | omega)) with g_7 | g_7
        · exfalso; clear g_1 g_2 g_3; omega
        · refine jT_xaload_n (v := (4, 0)) (pcN := 1) jIQ_38_0 rfl rfl rfl ?_
          refine jT_xaload_n (v := (4, 1)) (pcN := 2) jIQ_38_1 rfl rfl rfl ?_
          refine jT_callA [0, 1] (y := 39) (pcN := 5) (dC := 0) (bc1 := 0) (bc2 := 0) (c1 := 0) (c2 := 0) (as := [(4, 0), (4, 1)]) (asC := [(4, 0), (4, 1)]) (LN := [(0, (4, 0)), (1, (4, 1))]) (stN := []) (hsC := [jgh, (101, [], [q1, p7, p8, 0, 0, 0])]) (ex := []) (v := (1, p7 + p8)) (st2 := [(1, p7 + p8)]) (hs2 := [(8, [(4, 2), (4, 3)], []), (101, [], [q1, p7, p8, 0, 0, 0]), jgh, jgh]) (jQ_39_110 (d := 0) (by first | assumption | decide | (first | (clear g_0 g_1 g_2 g_3 g_4 g_5 g_6 g_7; omega) | (clear g_0 g_1 g_2 g_3; omega) | (clear g_1 g_2 g_3; omega) | (clear g_0 g_2 g_3; omega) | (clear g_0 g_1 g_3; omega) | (clear g_0 g_1 g_2; omega) | omega)) (by first | assumption | decide | (first | (clear g_0 g_1 g_2 g_3 g_4 g_5 g_6 g_7; omega) | (clear g_0 g_1 g_2 g_3; omega) | (clear g_1 g_2 g_3; omega) | (clear g_0 g_2 g_3; omega) | (clear g_0 g_1 g_3; omega) | (clear g_0 g_1 g_2; omega) | omega)) (by first | assumption | decide | (first | (clear g_0 g_1 g_2 g_3 g_4 g_5 g_6 g_7; omega) | (clear g_0 g_1 g_2 g_3; omega) | (clear g_1 g_2 g_3; omega) | (clear g_0 g_2 g_3; omega) | (clear g_0 g_1 g_3; omega) | (clear g_0 g_1 g_2; omega) | omega)) (by first | assumption | decide | (first | (clear g_0 g_1 g_2 g_3 g_4 g_5 g_6 g_7; omega) | (clear g_0 g_1 g_2 g_3; omega) | (clear g_1 g_2 g_3; omega) | (clear g_0 g_2 g_3; omega) | (clear g_0 g_1 g_3; omega) | (clear g_0 g_1 g_2; omega) | omega)) (by first | assumption | decide | (first | (clear g_0 g_1 g_2 g_3 g_4 g_5 g_6 g_7; omega) | (clear g_0 g_1 g_2 g_3; omega) | (clear g_1 g_2 g_3; omega) | (clear g_0 g_2 g_3; omega) | (clear g_0 g_1 g_3; omega) | (clear g_0 g_1 g_2; omega) | omega)) (by first | assumption | decide | (first | (clear g_0 g_1 g_2 g_3 g_4 g_5 g_6 g_7; omega) | (clear g_0 g_1 g_2 g_3; omega) | (clear g_1 g_2 g_3; omega) | (clear g_0 g_2 g_3; omega) | (clear g_0 g_1 g_3; omega) | (clear g_0 g_1 g_2; omega) | omega)) (by first | assumption | decide | (first | (clear g_0 g_1 g_2 g_3 g_4 g_5 g_6 g_7; omega) | (clear g_0 g_1 g_2 g_3; omega) | (clear g_1 g_2 g_3; omega) | (clear g_0 g_2 g_3; omega) | (clear g_0 g_1 g_3; omega) | (clear g_0 g_1 g_2; omega) | omega)) (by first | assumption | decide | (first | (clear g_0 g_1 g_2 g_3 g_4 g_5 g_6 g_7; omega) | (clear g_0 g_1 g_2 g_3; omega) | (clear g_1 g_2 g_3; omega) | (clear g_0 g_2 g_3; omega) | (clear g_0 g_1 g_3; omega) | (clear g_0 g_1 g_2; omega) | omega)) (by first | assumption | decide | (first | (clear g_0 g_1 g_2 g_3 g_4 g_5 g_6 g_7; omega) | (clear g_0 g_1 g_2 g_3; omega) | (clear g_1 g_2 g_3; omega) | (clear g_0 g_2 g_3; omega) | (clear g_0 g_1 g_3; omega) | (clear g_0 g_1 g_2; omega) | omega)) (by first | assumption | decide | (first | (clear g_0 g_1 g_2 g_3 g_4 g_5 g_6 g_7; omega) | (clear g_0 g_1 g_2 g_3; omega) | (clear g_1 g_2 g_3; omega) | (clear g_0 g_2 g_3; omega) | (clear g_0 g_1 g_3; omega) | (clear g_0 g_1 g_2; omega) | omega)) (by first | assumption | decide | (first | (clear g_0 g_1 g_2 g_3 g_4 g_5 g_6 g_7; omega) | (clear g_0 g_1 g_2 g_3; omega) | (clear g_1 g_2 g_3; omega) | (clear g_0 g_2 g_3; omega) | (clear g_0 g_1 g_3; omega) | (clear g_0 g_1 g_2; omega) | omega))) (by rfl) (by rfl) (by rfl) (by rfl) ⟨rfl, rfl, trivial⟩ (by rfl) (by rfl) (by first | assumption | decide | (first | (clear g_0 g_1 g_2 g_3 g_4 g_5 g_6 g_7; omega) | (clear g_0 g_1 g_2 g_3; omega) | (clear g_1 g_2 g_3; omega) | (clear g_0 g_2 g_3; omega) | (clear g_0 g_1 g_3; omega) | (clear g_0 g_1 g_2; omega) | omega)) (by show 4 ≤ 4; (first | (clear g_0 g_1 g_2 g_3 g_4 g_5 g_6 g_7; omega) | (clear g_0 g_1 g_2 g_3; omega) | (clear g_1 g_2 g_3; omega) | (clear g_0 g_2 g_3; omega) | (clear g_0 g_1 g_3; omega) | (clear g_0 g_1 g_2; omega) | omega)) (by first | assumption | decide | (first | (clear g_0 g_1 g_2 g_3 g_4 g_5 g_6 g_7; omega) | (clear g_0 g_1 g_2 g_3; omega) | (clear g_1 g_2 g_3; omega) | (clear g_0 g_2 g_3; omega) | (clear g_0 g_1 g_3; omega) | (clear g_0 g_1 g_2; omega) | omega)) (by first | assumption | decide | (first | (clear g_0 g_1 g_2 g_3 g_4 g_5 g_6 g_7; omega) | (clear g_0 g_1 g_2 g_3; omega) | (clear g_1 g_2 g_3; omega) | (clear g_0 g_2 g_3; omega) | (clear g_0 g_1 g_3; omega) | (clear g_0 g_1 g_2; omega) | omega)) rfl rfl ?_
          refine jT_xlstore_n (v := (1, p7 + p8)) (LN := [(2, (1, p7 + p8)), (0, (4, 0)), (1, (4, 1))]) (pcN := 6) jIQ_38_5 rfl rfl rfl rfl ?_
          refine jT_xlload_n (v := (1, p7 + p8)) (pcN := 7) jIQ_38_6 rfl rfl rfl ?_
          refine jT_xlconst (z := 0) (pcN := 8) jIQ_38_7 rfl rfl ?_
          refine jT_lcmp (a := p7 + p8) (b := 0) (z := 1) (by rfl) (by rfl) (jwl_idd (by (first | (clear g_0 g_1 g_2 g_3 g_4 g_5 g_6 g_7; omega) | (clear g_0 g_1 g_2 g_3; omega) | (clear g_1 g_2 g_3; omega) | (clear g_0 g_2 g_3; omega) | (clear g_0 g_1 g_3; omega) | (clear g_0 g_1 g_2; omega) | omega)) (by (first | (clear g_0 g_1 g_2 g_3 g_4 g_5 g_6 g_7; omega) | (clear g_0 g_1 g_2 g_3; omega) | (clear g_1 g_2 g_3; omega) | (clear g_0 g_2 g_3; omega) | (clear g_0 g_1 g_3; omega) | (clear g_0 g_1 g_2; omega) | omega))) (jwl_idd (by (first | (clear g_0 g_1 g_2 g_3 g_4 g_5 g_6 g_7; omega) | (clear g_0 g_1 g_2 g_3; omega) | (clear g_1 g_2 g_3; omega) | (clear g_0 g_2 g_3; omega) | (clear g_0 g_1 g_3; omega) | (clear g_0 g_1 g_2; omega) | omega)) (by (first | (clear g_0 g_1 g_2 g_3 g_4 g_5 g_6 g_7; omega) | (clear g_0 g_1 g_2 g_3; omega) | (clear g_1 g_2 g_3; omega) | (clear g_0 g_2 g_3; omega) | (clear g_0 g_1 g_3; omega) | (clear g_0 g_1 g_2; omega) | omega))) (by rw [decide_eq_true (show (0 : Int) < p7 + p8 by (first | (clear g_0 g_1 g_2 g_3 g_4 g_5 g_6 g_7; omega) | (clear g_0 g_1 g_2 g_3; omega) | (clear g_1 g_2 g_3; omega) | (clear g_0 g_2 g_3; omega) | (clear g_0 g_1 g_3; omega) | (clear g_0 g_1 g_2; omega) | omega))]; rfl) ?_
          refine jT_xifT (pcN := 20) jIQ_38_9 rfl (by decide +kernel) rfl ?_
          refine jT_xaload_n (v := (4, 0)) (pcN := 21) jIQ_38_20 rfl rfl rfl ?_
          refine jT_xaload_n (v := (4, 1)) (pcN := 22) jIQ_38_21 rfl rfl rfl ?_
          refine jT_xlload_n (v := (1, p7 + p8)) (pcN := 23) jIQ_38_22 rfl rfl rfl ?_
          refine jT_callA [0, 1] (y := 40) (pcN := 26) (dC := 0) (bc1 := 0) (bc2 := 0) (c1 := 0) (c2 := 0) (as := [(4, 0), (4, 1), (1, p7 + p8)]) (asC := [(4, 0), (4, 1), (1, p7 + p8)]) (LN := [(2, (1, p7 + p8)), (0, (4, 0)), (1, (4, 1))]) (stN := []) (hsC := [jgh, (101, [], [q1, p7, p8, 0, 0, 0])]) (ex := []) (v := (0, 1)) (st2 := [(0, 1)]) (hs2 := [(8, [(4, 2), (4, 3)], []), (101, [], [q1, p7, p8, 0, 0, 0]), jgh, jgh]) (jQ_40_111 (d := 0) (by first | assumption | decide | (first | (clear g_0 g_1 g_2 g_3 g_4 g_5 g_6 g_7; omega) | (clear g_0 g_1 g_2 g_3; omega) | (clear g_1 g_2 g_3; omega) | (clear g_0 g_2 g_3; omega) | (clear g_0 g_1 g_3; omega) | (clear g_0 g_1 g_2; omega) | omega)) (by first | assumption | decide | (first | (clear g_0 g_1 g_2 g_3 g_4 g_5 g_6 g_7; omega) | (clear g_0 g_1 g_2 g_3; omega) | (clear g_1 g_2 g_3; omega) | (clear g_0 g_2 g_3; omega) | (clear g_0 g_1 g_3; omega) | (clear g_0 g_1 g_2; omega) | omega)) (by first | assumption | decide | (first | (clear g_0 g_1 g_2 g_3 g_4 g_5 g_6 g_7; omega) | (clear g_0 g_1 g_2 g_3; omega) | (clear g_1 g_2 g_3; omega) | (clear g_0 g_2 g_3; omega) | (clear g_0 g_1 g_3; omega) | (clear g_0 g_1 g_2; omega) | omega)) (by first | assumption | decide | (first | (clear g_0 g_1 g_2 g_3 g_4 g_5 g_6 g_7; omega) | (clear g_0 g_1 g_2 g_3; omega) | (clear g_1 g_2 g_3; omega) | (clear g_0 g_2 g_3; omega) | (clear g_0 g_1 g_3; omega) | (clear g_0 g_1 g_2; omega) | omega)) (by first | assumption | decide | (first | (clear g_0 g_1 g_2 g_3 g_4 g_5 g_6 g_7; omega) | (clear g_0 g_1 g_2 g_3; omega) | (clear g_1 g_2 g_3; omega) | (clear g_0 g_2 g_3; omega) | (clear g_0 g_1 g_3; omega) | (clear g_0 g_1 g_2; omega) | omega)) (by first | assumption | decide | (first | (clear g_0 g_1 g_2 g_3 g_4 g_5 g_6 g_7; omega) | (clear g_0 g_1 g_2 g_3; omega) | (clear g_1 g_2 g_3; omega) | (clear g_0 g_2 g_3; omega) | (clear g_0 g_1 g_3; omega) | (clear g_0 g_1 g_2; omega) | omega)) (by first | assumption | decide | (first | (clear g_0 g_1 g_2 g_3 g_4 g_5 g_6 g_7; omega) | (clear g_0 g_1 g_2 g_3; omega) | (clear g_1 g_2 g_3; omega) | (clear g_0 g_2 g_3; omega) | (clear g_0 g_1 g_3; omega) | (clear g_0 g_1 g_2; omega) | omega)) (by first | assumption | decide | (first | (clear g_0 g_1 g_2 g_3 g_4 g_5 g_6 g_7; omega) | (clear g_0 g_1 g_2 g_3; omega) | (clear g_1 g_2 g_3; omega) | (clear g_0 g_2 g_3; omega) | (clear g_0 g_1 g_3; omega) | (clear g_0 g_1 g_2; omega) | omega)) (by first | assumption | decide | (first | (clear g_0 g_1 g_2 g_3 g_4 g_5 g_6 g_7; omega) | (clear g_0 g_1 g_2 g_3; omega) | (clear g_1 g_2 g_3; omega) | (clear g_0 g_2 g_3; omega) | (clear g_0 g_1 g_3; omega) | (clear g_0 g_1 g_2; omega) | omega)) (by first | assumption | decide | (first | (clear g_0 g_1 g_2 g_3 g_4 g_5 g_6 g_7; omega) | (clear g_0 g_1 g_2 g_3; omega) | (clear g_1 g_2 g_3; omega) | (clear g_0 g_2 g_3; omega) | (clear g_0 g_1 g_3; omega) | (clear g_0 g_1 g_2; omega) | omega)) (by first | assumption | decide | (first | (clear g_0 g_1 g_2 g_3 g_4 g_5 g_6 g_7; omega) | (clear g_0 g_1 g_2 g_3; omega) | (clear g_1 g_2 g_3; omega) | (clear g_0 g_2 g_3; omega) | (clear g_0 g_1 g_3; omega) | (clear g_0 g_1 g_2; omega) | omega))) (by rfl) (by rfl) (by rfl) (by rfl) ⟨rfl, rfl, trivial⟩ (by rfl) (by rfl) (by first | assumption | decide | (first | (clear g_0 g_1 g_2 g_3 g_4 g_5 g_6 g_7; omega) | (clear g_0 g_1 g_2 g_3; omega) | (clear g_1 g_2 g_3; omega) | (clear g_0 g_2 g_3; omega) | (clear g_0 g_1 g_3; omega) | (clear g_0 g_1 g_2; omega) | omega)) (by show 4 ≤ 4; (first | (clear g_0 g_1 g_2 g_3 g_4 g_5 g_6 g_7; omega) | (clear g_0 g_1 g_2 g_3; omega) | (clear g_1 g_2 g_3; omega) | (clear g_0 g_2 g_3; omega) | (clear g_0 g_1 g_3; omega) | (clear g_0 g_1 g_2; omega) | omega)) (by first | assumption | decide | (first | (clear g_0 g_1 g_2 g_3 g_4 g_5 g_6 g_7; omega) | (clear g_0 g_1 g_2 g_3; omega) | (clear g_1 g_2 g_3; omega) | (clear g_0 g_2 g_3; omega) | (clear g_0 g_1 g_3; omega) | (clear g_0 g_1 g_2; omega) | omega)) (by first | assumption | decide | (first | (clear g_0 g_1 g_2 g_3 g_4 g_5 g_6 g_7; omega) | (clear g_0 g_1 g_2 g_3; omega) | (clear g_1 g_2 g_3; omega) | (clear g_0 g_2 g_3; omega) | (clear g_0 g_1 g_3; omega) | (clear g_0 g_1 g_2; omega) | omega)) rfl rfl ?_
          refine jT_xifF (t := 64) (pcN := 29) jIQ_38_26 rfl (by decide +kernel) rfl rfl ?_
          refine jT_xaload_n (v := (4, 0)) (pcN := 30) jIQ_38_29 rfl rfl rfl ?_
          refine jT_xaload_n (v := (4, 1)) (pcN := 31) jIQ_38_30 rfl rfl rfl ?_
          refine jT_callA [0, 1] (y := 41) (pcN := 34) (dC := 0) (bc1 := 0) (bc2 := 0) (c1 := 0) (c2 := 0) (as := [(4, 0), (4, 1)]) (asC := [(4, 0), (4, 1)]) (LN := [(2, (1, p7 + p8)), (0, (4, 0)), (1, (4, 1))]) (stN := []) (hsC := [jgh, (101, [], [q1, p7, p8, 0, 0, 0])]) (ex := []) (v := (1, 108917793695 * p7 + 159561683699 * p8 + 68719476736 * q1)) (st2 := [(1, 108917793695 * p7 + 159561683699 * p8 + 68719476736 * q1)]) (hs2 := [(8, [(4, 2), (4, 3)], []), (101, [], [q1, p7, p8, 0, 0, 0]), jgh, jgh]) (jQ_41_112 (d := 0) (by first | assumption | decide | (first | (clear g_0 g_1 g_2 g_3 g_4 g_5 g_6 g_7; omega) | (clear g_0 g_1 g_2 g_3; omega) | (clear g_1 g_2 g_3; omega) | (clear g_0 g_2 g_3; omega) | (clear g_0 g_1 g_3; omega) | (clear g_0 g_1 g_2; omega) | omega)) (by first | assumption | decide | (first | (clear g_0 g_1 g_2 g_3 g_4 g_5 g_6 g_7; omega) | (clear g_0 g_1 g_2 g_3; omega) | (clear g_1 g_2 g_3; omega) | (clear g_0 g_2 g_3; omega) | (clear g_0 g_1 g_3; omega) | (clear g_0 g_1 g_2; omega) | omega)) (by first | assumption | decide | (first | (clear g_0 g_1 g_2 g_3 g_4 g_5 g_6 g_7; omega) | (clear g_0 g_1 g_2 g_3; omega) | (clear g_1 g_2 g_3; omega) | (clear g_0 g_2 g_3; omega) | (clear g_0 g_1 g_3; omega) | (clear g_0 g_1 g_2; omega) | omega)) (by first | assumption | decide | (first | (clear g_0 g_1 g_2 g_3 g_4 g_5 g_6 g_7; omega) | (clear g_0 g_1 g_2 g_3; omega) | (clear g_1 g_2 g_3; omega) | (clear g_0 g_2 g_3; omega) | (clear g_0 g_1 g_3; omega) | (clear g_0 g_1 g_2; omega) | omega)) (by first | assumption | decide | (first | (clear g_0 g_1 g_2 g_3 g_4 g_5 g_6 g_7; omega) | (clear g_0 g_1 g_2 g_3; omega) | (clear g_1 g_2 g_3; omega) | (clear g_0 g_2 g_3; omega) | (clear g_0 g_1 g_3; omega) | (clear g_0 g_1 g_2; omega) | omega)) (by first | assumption | decide | (first | (clear g_0 g_1 g_2 g_3 g_4 g_5 g_6 g_7; omega) | (clear g_0 g_1 g_2 g_3; omega) | (clear g_1 g_2 g_3; omega) | (clear g_0 g_2 g_3; omega) | (clear g_0 g_1 g_3; omega) | (clear g_0 g_1 g_2; omega) | omega)) (by first | assumption | decide | (first | (clear g_0 g_1 g_2 g_3 g_4 g_5 g_6 g_7; omega) | (clear g_0 g_1 g_2 g_3; omega) | (clear g_1 g_2 g_3; omega) | (clear g_0 g_2 g_3; omega) | (clear g_0 g_1 g_3; omega) | (clear g_0 g_1 g_2; omega) | omega)) (by first | assumption | decide | (first | (clear g_0 g_1 g_2 g_3 g_4 g_5 g_6 g_7; omega) | (clear g_0 g_1 g_2 g_3; omega) | (clear g_1 g_2 g_3; omega) | (clear g_0 g_2 g_3; omega) | (clear g_0 g_1 g_3; omega) | (clear g_0 g_1 g_2; omega) | omega)) (by first | assumption | decide | (first | (clear g_0 g_1 g_2 g_3 g_4 g_5 g_6 g_7; omega) | (clear g_0 g_1 g_2 g_3; omega) | (clear g_1 g_2 g_3; omega) | (clear g_0 g_2 g_3; omega) | (clear g_0 g_1 g_3; omega) | (clear g_0 g_1 g_2; omega) | omega)) (by first | assumption | decide | (first | (clear g_0 g_1 g_2 g_3 g_4 g_5 g_6 g_7; omega) | (clear g_0 g_1 g_2 g_3; omega) | (clear g_1 g_2 g_3; omega) | (clear g_0 g_2 g_3; omega) | (clear g_0 g_1 g_3; omega) | (clear g_0 g_1 g_2; omega) | omega)) (by first | assumption | decide | (first | (clear g_0 g_1 g_2 g_3 g_4 g_5 g_6 g_7; omega) | (clear g_0 g_1 g_2 g_3; omega) | (clear g_1 g_2 g_3; omega) | (clear g_0 g_2 g_3; omega) | (clear g_0 g_1 g_3; omega) | (clear g_0 g_1 g_2; omega) | omega))) (by rfl) (by rfl) (by rfl) (by rfl) ⟨rfl, rfl, trivial⟩ (by rfl) (by rfl) (by first | assumption | decide | (first | (clear g_0 g_1 g_2 g_3 g_4 g_5 g_6 g_7; omega) | (clear g_0 g_1 g_2 g_3; omega) | (clear g_1 g_2 g_3; omega) | (clear g_0 g_2 g_3; omega) | (clear g_0 g_1 g_3; omega) | (clear g_0 g_1 g_2; omega) | omega)) (by show 4 ≤ 4; (first | (clear g_0 g_1 g_2 g_3 g_4 g_5 g_6 g_7; omega) | (clear g_0 g_1 g_2 g_3; omega) | (clear g_1 g_2 g_3; omega) | (clear g_0 g_2 g_3; omega) | (clear g_0 g_1 g_3; omega) | (clear g_0 g_1 g_2; omega) | omega)) (by first | assumption | decide | (first | (clear g_0 g_1 g_2 g_3 g_4 g_5 g_6 g_7; omega) | (clear g_0 g_1 g_2 g_3; omega) | (clear g_1 g_2 g_3; omega) | (clear g_0 g_2 g_3; omega) | (clear g_0 g_1 g_3; omega) | (clear g_0 g_1 g_2; omega) | omega)) (by first | assumption | decide | (first | (clear g_0 g_1 g_2 g_3 g_4 g_5 g_6 g_7; omega) | (clear g_0 g_1 g_2 g_3; omega) | (clear g_1 g_2 g_3; omega) | (clear g_0 g_2 g_3; omega) | (clear g_0 g_1 g_3; omega) | (clear g_0 g_1 g_2; omega) | omega)) rfl rfl ?_
          refine jT_xlstore (v := (1, 108917793695 * p7 + 159561683699 * p8 + 68719476736 * q1)) (LN := [(4, (1, 108917793695 * p7 + 159561683699 * p8 + 68719476736 * q1)), (2, (1, p7 + p8)), (0, (4, 0)), (1, (4, 1))]) (pcN := 36) jIQ_38_34 rfl rfl rfl rfl ?_
          refine jT_xlload (v := (1, 108917793695 * p7 + 159561683699 * p8 + 68719476736 * q1)) (pcN := 38) jIQ_38_36 rfl rfl rfl ?_
          refine jT_xlload_n (v := (1, p7 + p8)) (pcN := 39) jIQ_38_38 rfl rfl rfl ?_
          refine jT_lcmp (a := 108917793695 * p7 + 159561683699 * p8 + 68719476736 * q1) (b := p7 + p8) (z := (-1)) (by rfl) (by rfl) (jwl_idd (by (first | (clear g_0 g_1 g_2 g_3 g_4 g_5 g_6 g_7; omega) | (clear g_0 g_1 g_2 g_3; omega) | (clear g_1 g_2 g_3; omega) | (clear g_0 g_2 g_3; omega) | (clear g_0 g_1 g_3; omega) | (clear g_0 g_1 g_2; omega) | omega)) (by (first | (clear g_0 g_1 g_2 g_3 g_4 g_5 g_6 g_7; omega) | (clear g_0 g_1 g_2 g_3; omega) | (clear g_1 g_2 g_3; omega) | (clear g_0 g_2 g_3; omega) | (clear g_0 g_1 g_3; omega) | (clear g_0 g_1 g_2; omega) | omega))) (jwl_idd (by (first | (clear g_0 g_1 g_2 g_3 g_4 g_5 g_6 g_7; omega) | (clear g_0 g_1 g_2 g_3; omega) | (clear g_1 g_2 g_3; omega) | (clear g_0 g_2 g_3; omega) | (clear g_0 g_1 g_3; omega) | (clear g_0 g_1 g_2; omega) | omega)) (by (first | (clear g_0 g_1 g_2 g_3 g_4 g_5 g_6 g_7; omega) | (clear g_0 g_1 g_2 g_3; omega) | (clear g_1 g_2 g_3; omega) | (clear g_0 g_2 g_3; omega) | (clear g_0 g_1 g_3; omega) | (clear g_0 g_1 g_2; omega) | omega))) (by rw [decide_eq_false (show ¬ ((p7 + p8 : Int) < 108917793695 * p7 + 159561683699 * p8 + 68719476736 * q1) by (first | (clear g_0 g_1 g_2 g_3 g_4 g_5 g_6 g_7; omega) | (clear g_0 g_1 g_2 g_3; omega) | (clear g_1 g_2 g_3; omega) | (clear g_0 g_2 g_3; omega) | (clear g_0 g_1 g_3; omega) | (clear g_0 g_1 g_2; omega) | omega)), decide_eq_false (Int.ne_of_lt (show (108917793695 * p7 + 159561683699 * p8 + 68719476736 * q1 : Int) < p7 + p8 by (first | (clear g_0 g_1 g_2 g_3 g_4 g_5 g_6 g_7; omega) | (clear g_0 g_1 g_2 g_3; omega) | (clear g_1 g_2 g_3; omega) | (clear g_0 g_2 g_3; omega) | (clear g_0 g_1 g_3; omega) | (clear g_0 g_1 g_2; omega) | omega)))]; rfl) ?_
          refine jT_xifF (t := 51) (pcN := 43) jIQ_38_40 rfl (by decide +kernel) rfl rfl ?_
          refine jT_xlload (v := (1, 108917793695 * p7 + 159561683699 * p8 + 68719476736 * q1)) (pcN := 45) jIQ_38_43 rfl rfl rfl ?_
          refine jT_xlload_n (v := (1, p7 + p8)) (pcN := 46) jIQ_38_45 rfl rfl rfl ?_
          refine jT_adv 1 (pcN := 47) (LN := [(4, (1, 108917793695 * p7 + 159561683699 * p8 + 68719476736 * q1)), (2, (1, p7 + p8)), (0, (4, 0)), (1, (4, 1))]) (stN := [(1, -(p7 + p8)), (1, 108917793695 * p7 + 159561683699 * p8 + 68719476736 * q1)]) (hsN := [(8, [(4, 2), (4, 3)], []), (101, [], [q1, p7, p8, 0, 0, 0]), jgh, jgh]) (c1 := 0) (s1 := 0) (c2 := 0) (s2 := 0) (by exact rfl) ?_ (by first | assumption | decide | (first | (clear g_0 g_1 g_2 g_3 g_4 g_5 g_6 g_7; omega) | (clear g_0 g_1 g_2 g_3; omega) | (clear g_1 g_2 g_3; omega) | (clear g_0 g_2 g_3; omega) | (clear g_0 g_1 g_3; omega) | (clear g_0 g_1 g_2; omega) | omega)) (by first | assumption | decide | (first | (clear g_0 g_1 g_2 g_3 g_4 g_5 g_6 g_7; omega) | (clear g_0 g_1 g_2 g_3; omega) | (clear g_1 g_2 g_3; omega) | (clear g_0 g_2 g_3; omega) | (clear g_0 g_1 g_3; omega) | (clear g_0 g_1 g_2; omega) | omega))
          refine jT_eq (LN := [(4, (1, 108917793695 * p7 + 159561683699 * p8 + 68719476736 * q1)), (2, (1, p7 + p8)), (0, (4, 0)), (1, (4, 1))]) (stN := [(1, -p7 - p8), (1, 108917793695 * p7 + 159561683699 * p8 + 68719476736 * q1)]) (hsN := [(8, [(4, 2), (4, 3)], []), (101, [], [q1, p7, p8, 0, 0, 0]), jgh, jgh]) (rfl) (by simp only [List.cons.injEq, Prod.mk.injEq, and_true, true_and] <;> ((try unfold jw); (try unfold jwl); (first | (clear g_0 g_1 g_2 g_3 g_4 g_5 g_6 g_7; omega) | (clear g_0 g_1 g_2 g_3; omega) | (clear g_1 g_2 g_3; omega) | (clear g_0 g_2 g_3; omega) | (clear g_0 g_1 g_3; omega) | (clear g_0 g_1 g_2; omega) | omega))) (rfl) ?_
          refine jT_lcmp (a := 108917793695 * p7 + 159561683699 * p8 + 68719476736 * q1) (b := -p7 - p8) (z := (-1)) (by rfl) (by rfl) (jwl_idd (by (first | (clear g_0 g_1 g_2 g_3 g_4 g_5 g_6 g_7; omega) | (clear g_0 g_1 g_2 g_3; omega) | (clear g_1 g_2 g_3; omega) | (clear g_0 g_2 g_3; omega) | (clear g_0 g_1 g_3; omega) | (clear g_0 g_1 g_2; omega) | omega)) (by (first | (clear g_0 g_1 g_2 g_3 g_4 g_5 g_6 g_7; omega) | (clear g_0 g_1 g_2 g_3; omega) | (clear g_1 g_2 g_3; omega) | (clear g_0 g_2 g_3; omega) | (clear g_0 g_1 g_3; omega) | (clear g_0 g_1 g_2; omega) | omega))) (jwl_idd (by (first | (clear g_0 g_1 g_2 g_3 g_4 g_5 g_6 g_7; omega) | (clear g_0 g_1 g_2 g_3; omega) | (clear g_1 g_2 g_3; omega) | (clear g_0 g_2 g_3; omega) | (clear g_0 g_1 g_3; omega) | (clear g_0 g_1 g_2; omega) | omega)) (by (first | (clear g_0 g_1 g_2 g_3 g_4 g_5 g_6 g_7; omega) | (clear g_0 g_1 g_2 g_3; omega) | (clear g_1 g_2 g_3; omega) | (clear g_0 g_2 g_3; omega) | (clear g_0 g_1 g_3; omega) | (clear g_0 g_1 g_2; omega) | omega))) (by rw [decide_eq_false (show ¬ ((-p7 - p8 : Int) < 108917793695 * p7 + 159561683699 * p8 + 68719476736 * q1) by (first | (clear g_0 g_1 g_2 g_3 g_4 g_5 g_6 g_7; omega) | (clear g_0 g_1 g_2 g_3; omega) | (clear g_1 g_2 g_3; omega) | (clear g_0 g_2 g_3; omega) | (clear g_0 g_1 g_3; omega) | (clear g_0 g_1 g_2; omega) | omega)), decide_eq_false (Int.ne_of_lt (show (108917793695 * p7 + 159561683699 * p8 + 68719476736 * q1 : Int) < -p7 - p8 by (first | (clear g_0 g_1 g_2 g_3 g_4 g_5 g_6 g_7; omega) | (clear g_0 g_1 g_2 g_3; omega) | (clear g_1 g_2 g_3; omega) | (clear g_0 g_2 g_3; omega) | (clear g_0 g_1 g_3; omega) | (clear g_0 g_1 g_2; omega) | omega)))]; rfl) ?_
          refine jT_xifF (t := 64) (pcN := 51) jIQ_38_48 rfl (by decide +kernel) rfl rfl ?_
          refine jT_xlload (v := (1, 108917793695 * p7 + 159561683699 * p8 + 68719476736 * q1)) (pcN := 53) jIQ_38_51 rfl rfl rfl ?_
          refine jT_xlconst (z := 0) (pcN := 54) jIQ_38_53 rfl rfl ?_
          refine jT_lcmp (a := 108917793695 * p7 + 159561683699 * p8 + 68719476736 * q1) (b := 0) (z := (-1)) (by rfl) (by rfl) (jwl_idd (by (first | (clear g_0 g_1 g_2 g_3 g_4 g_5 g_6 g_7; omega) | (clear g_0 g_1 g_2 g_3; omega) | (clear g_1 g_2 g_3; omega) | (clear g_0 g_2 g_3; omega) | (clear g_0 g_1 g_3; omega) | (clear g_0 g_1 g_2; omega) | omega)) (by (first | (clear g_0 g_1 g_2 g_3 g_4 g_5 g_6 g_7; omega) | (clear g_0 g_1 g_2 g_3; omega) | (clear g_1 g_2 g_3; omega) | (clear g_0 g_2 g_3; omega) | (clear g_0 g_1 g_3; omega) | (clear g_0 g_1 g_2; omega) | omega))) (jwl_idd (by (first | (clear g_0 g_1 g_2 g_3 g_4 g_5 g_6 g_7; omega) | (clear g_0 g_1 g_2 g_3; omega) | (clear g_1 g_2 g_3; omega) | (clear g_0 g_2 g_3; omega) | (clear g_0 g_1 g_3; omega) | (clear g_0 g_1 g_2; omega) | omega)) (by (first | (clear g_0 g_1 g_2 g_3 g_4 g_5 g_6 g_7; omega) | (clear g_0 g_1 g_2 g_3; omega) | (clear g_1 g_2 g_3; omega) | (clear g_0 g_2 g_3; omega) | (clear g_0 g_1 g_3; omega) | (clear g_0 g_1 g_2; omega) | omega))) (by rw [decide_eq_false (show ¬ ((0 : Int) < 108917793695 * p7 + 159561683699 * p8 + 68719476736 * q1) by (first | (clear g_0 g_1 g_2 g_3 g_4 g_5 g_6 g_7; omega) | (clear g_0 g_1 g_2 g_3; omega) | (clear g_1 g_2 g_3; omega) | (clear g_0 g_2 g_3; omega) | (clear g_0 g_1 g_3; omega) | (clear g_0 g_1 g_2; omega) | omega)), decide_eq_false (Int.ne_of_lt (show (108917793695 * p7 + 159561683699 * p8 + 68719476736 * q1 : Int) < 0 by (first | (clear g_0 g_1 g_2 g_3 g_4 g_5 g_6 g_7; omega) | (clear g_0 g_1 g_2 g_3; omega) | (clear g_1 g_2 g_3; omega) | (clear g_0 g_2 g_3; omega) | (clear g_0 g_1 g_3; omega) | (clear g_0 g_1 g_2; omega) | omega)))]; rfl) ?_
          refine jT_xifF (t := 62) (pcN := 58) jIQ_38_55 rfl (by decide +kernel) rfl rfl ?_
          refine jT_xiconst (k := (-1)) (pcN := 59) jIQ_38_58 rfl ?_
          refine jT_xgoto (pcN := 63) jIQ_38_59 rfl ?_
          exact jT_ret rfl (by decide) (by show 4 ≤ 4; decide) (by first | assumption | decide | (first | (clear g_0 g_1 g_2 g_3 g_4 g_5 g_6 g_7; omega) | (clear g_0 g_1 g_2 g_3; omega) | (clear g_1 g_2 g_3; omega) | (clear g_0 g_2 g_3; omega) | (clear g_0 g_1 g_3; omega) | (clear g_0 g_1 g_2; omega) | omega)) (by first | assumption | decide | (first | (clear g_0 g_1 g_2 g_3 g_4 g_5 g_6 g_7; omega) | (clear g_0 g_1 g_2 g_3; omega) | (clear g_1 g_2 g_3; omega) | (clear g_0 g_2 g_3; omega) | (clear g_0 g_1 g_3; omega) | (clear g_0 g_1 g_2; omega) | omega)) ⟨rfl, rfl, rfl⟩
      · rcases (show (0 ≤ q1 - 1) ∨ (q1 - 1 < 0) by (first | (clear g_0 g_1 g_2 g_3 g_4 g_5 g_6; omega) | (clear g_0 g_1 g_2 g_3; omega) | (clear g_1 g_2 g_3; omega) | (clear g_0 g_2 g_3; omega) | (clear g_0 g_1 g_3; omega) | (clear g_0 g_1 g_2; omega) | omega)) with g_7 | g_7
        · exfalso; clear g_1 g_2 g_3; omega
        · rcases (show (0 ≤ q1) ∨ (q1 < 0) by (first | (clear g_0 g_1 g_2 g_3 g_4 g_5 g_6 g_7; omega) | (clear g_0 g_1 g_2 g_3; omega) | (clear g_1 g_2 g_3; omega) | (clear g_0 g_2 g_3; omega) | (clear g_0 g_1 g_3; omega) | (clear g_0 g_1 g_2; omega) | omega)) with g_8 | g_8
          · exfalso; clear g_1 g_2 g_3; omega
          · refine jT_xaload_n (v := (4, 0)) (pcN := 1) jIQ_38_0 rfl rfl rfl ?_
            refine jT_xaload_n (v := (4, 1)) (pcN := 2) jIQ_38_1 rfl rfl rfl ?_
            refine jT_callA [0, 1] (y := 39) (pcN := 5) (dC := 0) (bc1 := 0) (bc2 := 0) (c1 := 0) (c2 := 0) (as := [(4, 0), (4, 1)]) (asC := [(4, 0), (4, 1)]) (LN := [(0, (4, 0)), (1, (4, 1))]) (stN := []) (hsC := [jgh, (101, [], [q1, p7, p8, 0, 0, 0])]) (ex := []) (v := (1, p7 + p8)) (st2 := [(1, p7 + p8)]) (hs2 := [(8, [(4, 2), (4, 3)], []), (101, [], [q1, p7, p8, 0, 0, 0]), jgh, jgh]) (jQ_39_103 (d := 0) (by first | assumption | decide | (first | (clear g_0 g_1 g_2 g_3 g_4 g_5 g_6 g_7 g_8; omega) | (clear g_0 g_1 g_2 g_3; omega) | (clear g_1 g_2 g_3; omega) | (clear g_0 g_2 g_3; omega) | (clear g_0 g_1 g_3; omega) | (clear g_0 g_1 g_2; omega) | omega)) (by first | assumption | decide | (first | (clear g_0 g_1 g_2 g_3 g_4 g_5 g_6 g_7 g_8; omega) | (clear g_0 g_1 g_2 g_3; omega) | (clear g_1 g_2 g_3; omega) | (clear g_0 g_2 g_3; omega) | (clear g_0 g_1 g_3; omega) | (clear g_0 g_1 g_2; omega) | omega)) (by first | assumption | decide | (first | (clear g_0 g_1 g_2 g_3 g_4 g_5 g_6 g_7 g_8; omega) | (clear g_0 g_1 g_2 g_3; omega) | (clear g_1 g_2 g_3; omega) | (clear g_0 g_2 g_3; omega) | (clear g_0 g_1 g_3; omega) | (clear g_0 g_1 g_2; omega) | omega)) (by first | assumption | decide | (first | (clear g_0 g_1 g_2 g_3 g_4 g_5 g_6 g_7 g_8; omega) | (clear g_0 g_1 g_2 g_3; omega) | (clear g_1 g_2 g_3; omega) | (clear g_0 g_2 g_3; omega) | (clear g_0 g_1 g_3; omega) | (clear g_0 g_1 g_2; omega) | omega)) (by first | assumption | decide | (first | (clear g_0 g_1 g_2 g_3 g_4 g_5 g_6 g_7 g_8; omega) | (clear g_0 g_1 g_2 g_3; omega) | (clear g_1 g_2 g_3; omega) | (clear g_0 g_2 g_3; omega) | (clear g_0 g_1 g_3; omega) | (clear g_0 g_1 g_2; omega) | omega)) (by first | assumption | decide | (first | (clear g_0 g_1 g_2 g_3 g_4 g_5 g_6 g_7 g_8; omega) | (clear g_0 g_1 g_2 g_3; omega) | (clear g_1 g_2 g_3; omega) | (clear g_0 g_2 g_3; omega) | (clear g_0 g_1 g_3; omega) | (clear g_0 g_1 g_2; omega) | omega)) (by first | assumption | decide | (first | (clear g_0 g_1 g_2 g_3 g_4 g_5 g_6 g_7 g_8; omega) | (clear g_0 g_1 g_2 g_3; omega) | (clear g_1 g_2 g_3; omega) | (clear g_0 g_2 g_3; omega) | (clear g_0 g_1 g_3; omega) | (clear g_0 g_1 g_2; omega) | omega)) (by first | assumption | decide | (first | (clear g_0 g_1 g_2 g_3 g_4 g_5 g_6 g_7 g_8; omega) | (clear g_0 g_1 g_2 g_3; omega) | (clear g_1 g_2 g_3; omega) | (clear g_0 g_2 g_3; omega) | (clear g_0 g_1 g_3; omega) | (clear g_0 g_1 g_2; omega) | omega)) (by first | assumption | decide | (first | (clear g_0 g_1 g_2 g_3 g_4 g_5 g_6 g_7 g_8; omega) | (clear g_0 g_1 g_2 g_3; omega) | (clear g_1 g_2 g_3; omega) | (clear g_0 g_2 g_3; omega) | (clear g_0 g_1 g_3; omega) | (clear g_0 g_1 g_2; omega) | omega)) (by first | assumption | decide | (first | (clear g_0 g_1 g_2 g_3 g_4 g_5 g_6 g_7 g_8; omega) | (clear g_0 g_1 g_2 g_3; omega) | (clear g_1 g_2 g_3; omega) | (clear g_0 g_2 g_3; omega) | (clear g_0 g_1 g_3; omega) | (clear g_0 g_1 g_2; omega) | omega)) (by first | assumption | decide | (first | (clear g_0 g_1 g_2 g_3 g_4 g_5 g_6 g_7 g_8; omega) | (clear g_0 g_1 g_2 g_3; omega) | (clear g_1 g_2 g_3; omega) | (clear g_0 g_2 g_3; omega) | (clear g_0 g_1 g_3; omega) | (clear g_0 g_1 g_2; omega) | omega)) (by first | assumption | decide | (first | (clear g_0 g_1 g_2 g_3 g_4 g_5 g_6 g_7 g_8; omega) | (clear g_0 g_1 g_2 g_3; omega) | (clear g_1 g_2 g_3; omega) | (clear g_0 g_2 g_3; omega) | (clear g_0 g_1 g_3; omega) | (clear g_0 g_1 g_2; omega) | omega))) (by rfl) (by rfl) (by rfl) (by rfl) ⟨rfl, rfl, trivial⟩ (by rfl) (by rfl) (by first | assumption | decide | (first | (clear g_0 g_1 g_2 g_3 g_4 g_5 g_6 g_7 g_8; omega) | (clear g_0 g_1 g_2 g_3; omega) | (clear g_1 g_2 g_3; omega) | (clear g_0 g_2 g_3; omega) | (clear g_0 g_1 g_3; omega) | (clear g_0 g_1 g_2; omega) | omega)) (by show 4 ≤ 4; (first | (clear g_0 g_1 g_2 g_3 g_4 g_5 g_6 g_7 g_8; omega) | (clear g_0 g_1 g_2 g_3; omega) | (clear g_1 g_2 g_3; omega) | (clear g_0 g_2 g_3; omega) | (clear g_0 g_1 g_3; omega) | (clear g_0 g_1 g_2; omega) | omega)) (by first | assumption | decide | (first | (clear g_0 g_1 g_2 g_3 g_4 g_5 g_6 g_7 g_8; omega) | (clear g_0 g_1 g_2 g_3; omega) | (clear g_1 g_2 g_3; omega) | (clear g_0 g_2 g_3; omega) | (clear g_0 g_1 g_3; omega) | (clear g_0 g_1 g_2; omega) | omega)) (by first | assumption | decide | (first | (clear g_0 g_1 g_2 g_3 g_4 g_5 g_6 g_7 g_8; omega) | (clear g_0 g_1 g_2 g_3; omega) | (clear g_1 g_2 g_3; omega) | (clear g_0 g_2 g_3; omega) | (clear g_0 g_1 g_3; omega) | (clear g_0 g_1 g_2; omega) | omega)) rfl rfl ?_
            refine jT_xlstore_n (v := (1, p7 + p8)) (LN := [(2, (1, p7 + p8)), (0, (4, 0)), (1, (4, 1))]) (pcN := 6) jIQ_38_5 rfl rfl rfl rfl ?_
            refine jT_xlload_n (v := (1, p7 + p8)) (pcN := 7) jIQ_38_6 rfl rfl rfl ?_
            refine jT_xlconst (z := 0) (pcN := 8) jIQ_38_7 rfl rfl ?_
            refine jT_lcmp (a := p7 + p8) (b := 0) (z := 0) (by rfl) (by rfl) (jwl_idd (by (first | (clear g_0 g_1 g_2 g_3 g_4 g_5 g_6 g_7 g_8; omega) | (clear g_0 g_1 g_2 g_3; omega) | (clear g_1 g_2 g_3; omega) | (clear g_0 g_2 g_3; omega) | (clear g_0 g_1 g_3; omega) | (clear g_0 g_1 g_2; omega) | omega)) (by (first | (clear g_0 g_1 g_2 g_3 g_4 g_5 g_6 g_7 g_8; omega) | (clear g_0 g_1 g_2 g_3; omega) | (clear g_1 g_2 g_3; omega) | (clear g_0 g_2 g_3; omega) | (clear g_0 g_1 g_3; omega) | (clear g_0 g_1 g_2; omega) | omega))) (jwl_idd (by (first | (clear g_0 g_1 g_2 g_3 g_4 g_5 g_6 g_7 g_8; omega) | (clear g_0 g_1 g_2 g_3; omega) | (clear g_1 g_2 g_3; omega) | (clear g_0 g_2 g_3; omega) | (clear g_0 g_1 g_3; omega) | (clear g_0 g_1 g_2; omega) | omega)) (by (first | (clear g_0 g_1 g_2 g_3 g_4 g_5 g_6 g_7 g_8; omega) | (clear g_0 g_1 g_2 g_3; omega) | (clear g_1 g_2 g_3; omega) | (clear g_0 g_2 g_3; omega) | (clear g_0 g_1 g_3; omega) | (clear g_0 g_1 g_2; omega) | omega))) (by rw [decide_eq_false (show ¬ ((0 : Int) < p7 + p8) by (first | (clear g_0 g_1 g_2 g_3 g_4 g_5 g_6 g_7 g_8; omega) | (clear g_0 g_1 g_2 g_3; omega) | (clear g_1 g_2 g_3; omega) | (clear g_0 g_2 g_3; omega) | (clear g_0 g_1 g_3; omega) | (clear g_0 g_1 g_2; omega) | omega)), decide_eq_true (show (p7 + p8 : Int) = 0 by (first | (clear g_0 g_1 g_2 g_3 g_4 g_5 g_6 g_7 g_8; omega) | (clear g_0 g_1 g_2 g_3; omega) | (clear g_1 g_2 g_3; omega) | (clear g_0 g_2 g_3; omega) | (clear g_0 g_1 g_3; omega) | (clear g_0 g_1 g_2; omega) | omega))]; rfl) ?_
            refine jT_xifF (t := 20) (pcN := 12) jIQ_38_9 rfl (by decide +kernel) rfl rfl ?_
            refine jT_xaload_n (v := (4, 1)) (pcN := 13) jIQ_38_12 rfl rfl rfl ?_
            refine jT_xiconst (k := 0) (pcN := 14) jIQ_38_13 rfl ?_
            refine jT_lald (x := q1) (a := 1) (j := 0) (fs := []) (X := [q1, p7, p8, 0, 0, 0]) jIQ_38_14 rfl rfl rfl rfl ?_
            refine jT_eq (LN := [(2, (1, p7 + p8)), (0, (4, 0)), (1, (4, 1))]) (stN := [(1, q1)]) (hsN := [(8, [(4, 2), (4, 3)], []), (101, [], [q1, p7, p8, 0, 0, 0]), jgh, jgh]) rfl rfl rfl ?_
            refine jT_xlconst (z := 0) (pcN := 16) jIQ_38_15 rfl rfl ?_
            refine jT_callA [] (y := 372) (pcN := 19) (dC := 0) (bc1 := 0) (bc2 := 0) (c1 := 0) (c2 := 0) (as := [(1, q1), (1, 0)]) (asC := [(1, q1), (1, 0)]) (LN := [(2, (1, p7 + p8)), (0, (4, 0)), (1, (4, 1))]) (stN := []) (hsC := []) (ex := []) (v := (0, (-1))) (st2 := [(0, (-1))]) (hs2 := [(8, [(4, 2), (4, 3)], []), (101, [], [q1, p7, p8, 0, 0, 0]), jgh, jgh]) (jQ_372_104 (d := 0) (by first | assumption | decide | (first | (clear g_0 g_1 g_2 g_3 g_4 g_5 g_6 g_7 g_8; omega) | (clear g_0 g_1 g_2 g_3; omega) | (clear g_1 g_2 g_3; omega) | (clear g_0 g_2 g_3; omega) | (clear g_0 g_1 g_3; omega) | (clear g_0 g_1 g_2; omega) | omega)) (by first | assumption | decide | (first | (clear g_0 g_1 g_2 g_3 g_4 g_5 g_6 g_7 g_8; omega) | (clear g_0 g_1 g_2 g_3; omega) | (clear g_1 g_2 g_3; omega) | (clear g_0 g_2 g_3; omega) | (clear g_0 g_1 g_3; omega) | (clear g_0 g_1 g_2; omega) | omega)) (by first | assumption | decide | (first | (clear g_0 g_1 g_2 g_3 g_4 g_5 g_6 g_7 g_8; omega) | (clear g_0 g_1 g_2 g_3; omega) | (clear g_1 g_2 g_3; omega) | (clear g_0 g_2 g_3; omega) | (clear g_0 g_1 g_3; omega) | (clear g_0 g_1 g_2; omega) | omega))) (by rfl) (by rfl) (by rfl) (by rfl) trivial (by rfl) (by rfl) (by first | assumption | decide | (first | (clear g_0 g_1 g_2 g_3 g_4 g_5 g_6 g_7 g_8; omega) | (clear g_0 g_1 g_2 g_3; omega) | (clear g_1 g_2 g_3; omega) | (clear g_0 g_2 g_3; omega) | (clear g_0 g_1 g_3; omega) | (clear g_0 g_1 g_2; omega) | omega)) (by show 4 ≤ 4; (first | (clear g_0 g_1 g_2 g_3 g_4 g_5 g_6 g_7 g_8; omega) | (clear g_0 g_1 g_2 g_3; omega) | (clear g_1 g_2 g_3; omega) | (clear g_0 g_2 g_3; omega) | (clear g_0 g_1 g_3; omega) | (clear g_0 g_1 g_2; omega) | omega)) (by first | assumption | decide | (first | (clear g_0 g_1 g_2 g_3 g_4 g_5 g_6 g_7 g_8; omega) | (clear g_0 g_1 g_2 g_3; omega) | (clear g_1 g_2 g_3; omega) | (clear g_0 g_2 g_3; omega) | (clear g_0 g_1 g_3; omega) | (clear g_0 g_1 g_2; omega) | omega)) (by first | assumption | decide | (first | (clear g_0 g_1 g_2 g_3 g_4 g_5 g_6 g_7 g_8; omega) | (clear g_0 g_1 g_2 g_3; omega) | (clear g_1 g_2 g_3; omega) | (clear g_0 g_2 g_3; omega) | (clear g_0 g_1 g_3; omega) | (clear g_0 g_1 g_2; omega) | omega)) rfl rfl ?_
            exact jT_ret rfl (by decide) (by show 4 ≤ 4; decide) (by first | assumption | decide | (first | (clear g_0 g_1 g_2 g_3 g_4 g_5 g_6 g_7 g_8; omega) | (clear g_0 g_1 g_2 g_3; omega) | (clear g_1 g_2 g_3; omega) | (clear g_0 g_2 g_3; omega) | (clear g_0 g_1 g_3; omega) | (clear g_0 g_1 g_2; omega) | omega)) (by first | assumption | decide | (first | (clear g_0 g_1 g_2 g_3 g_4 g_5 g_6 g_7 g_8; omega) | (clear g_0 g_1 g_2 g_3; omega) | (clear g_1 g_2 g_3; omega) | (clear g_0 g_2 g_3; omega) | (clear g_0 g_1 g_3; omega) | (clear g_0 g_1 g_2; omega) | omega)) ⟨rfl, rfl, rfl⟩
    · rcases (show (0 ≤ q1) ∨ (q1 < 0) by (first | (clear g_0 g_1 g_2 g_3 g_4 g_5; omega) | (clear g_0 g_1 g_2 g_3; omega) | (clear g_1 g_2 g_3; omega) | (clear g_0 g_2 g_3; omega) | (clear g_0 g_1 g_3; omega) | (clear g_0 g_1 g_2; omega) | omega)) with g_6 | g_6
      · refine jT_xaload_n (v := (4, 0)) (pcN := 1) jIQ_38_0 rfl rfl rfl ?_
        refine jT_xaload_n (v := (4, 1)) (pcN := 2) jIQ_38_1 rfl rfl rfl ?_
        refine jT_callA [0, 1] (y := 39) (pcN := 5) (dC := 0) (bc1 := 0) (bc2 := 0) (c1 := 0) (c2 := 0) (as := [(4, 0), (4, 1)]) (asC := [(4, 0), (4, 1)]) (LN := [(0, (4, 0)), (1, (4, 1))]) (stN := []) (hsC := [jgh, (101, [], [q1, p7, p8, 0, 0, 0])]) (ex := []) (v := (1, p7 - p8)) (st2 := [(1, p7 - p8)]) (hs2 := [(8, [(4, 2), (4, 3)], []), (101, [], [q1, p7, p8, 0, 0, 0]), jgh, jgh]) (jQ_39_97 (d := 0) (by first | assumption | decide | (first | (clear g_0 g_1 g_2 g_3 g_4 g_5 g_6; omega) | (clear g_0 g_1 g_2 g_3; omega) | (clear g_1 g_2 g_3; omega) | (clear g_0 g_2 g_3; omega) | (clear g_0 g_1 g_3; omega) | (clear g_0 g_1 g_2; omega) | omega)) (by first | assumption | decide | (first | (clear g_0 g_1 g_2 g_3 g_4 g_5 g_6; omega) | (clear g_0 g_1 g_2 g_3; omega) | (clear g_1 g_2 g_3; omega) | (clear g_0 g_2 g_3; omega) | (clear g_0 g_1 g_3; omega) | (clear g_0 g_1 g_2; omega) | omega)) (by first | assumption | decide | (first | (clear g_0 g_1 g_2 g_3 g_4 g_5 g_6; omega) | (clear g_0 g_1 g_2 g_3; omega) | (clear g_1 g_2 g_3; omega) | (clear g_0 g_2 g_3; omega) | (clear g_0 g_1 g_3; omega) | (clear g_0 g_1 g_2; omega) | omega)) (by first | assumption | decide | (first | (clear g_0 g_1 g_2 g_3 g_4 g_5 g_6; omega) | (clear g_0 g_1 g_2 g_3; omega) | (clear g_1 g_2 g_3; omega) | (clear g_0 g_2 g_3; omega) | (clear g_0 g_1 g_3; omega) | (clear g_0 g_1 g_2; omega) | omega)) (by first | assumption | decide | (first | (clear g_0 g_1 g_2 g_3 g_4 g_5 g_6; omega) | (clear g_0 g_1 g_2 g_3; omega) | (clear g_1 g_2 g_3; omega) | (clear g_0 g_2 g_3; omega) | (clear g_0 g_1 g_3; omega) | (clear g_0 g_1 g_2; omega) | omega)) (by first | assumption | decide | (first | (clear g_0 g_1 g_2 g_3 g_4 g_5 g_6; omega) | (clear g_0 g_1 g_2 g_3; omega) | (clear g_1 g_2 g_3; omega) | (clear g_0 g_2 g_3; omega) | (clear g_0 g_1 g_3; omega) | (clear g_0 g_1 g_2; omega) | omega)) (by first | assumption | decide | (first | (clear g_0 g_1 g_2 g_3 g_4 g_5 g_6; omega) | (clear g_0 g_1 g_2 g_3; omega) | (clear g_1 g_2 g_3; omega) | (clear g_0 g_2 g_3; omega) | (clear g_0 g_1 g_3; omega) | (clear g_0 g_1 g_2; omega) | omega)) (by first | assumption | decide | (first | (clear g_0 g_1 g_2 g_3 g_4 g_5 g_6; omega) | (clear g_0 g_1 g_2 g_3; omega) | (clear g_1 g_2 g_3; omega) | (clear g_0 g_2 g_3; omega) | (clear g_0 g_1 g_3; omega) | (clear g_0 g_1 g_2; omega) | omega)) (by first | assumption | decide | (first | (clear g_0 g_1 g_2 g_3 g_4 g_5 g_6; omega) | (clear g_0 g_1 g_2 g_3; omega) | (clear g_1 g_2 g_3; omega) | (clear g_0 g_2 g_3; omega) | (clear g_0 g_1 g_3; omega) | (clear g_0 g_1 g_2; omega) | omega)) (by first | assumption | decide | (first | (clear g_0 g_1 g_2 g_3 g_4 g_5 g_6; omega) | (clear g_0 g_1 g_2 g_3; omega) | (clear g_1 g_2 g_3; omega) | (clear g_0 g_2 g_3; omega) | (clear g_0 g_1 g_3; omega) | (clear g_0 g_1 g_2; omega) | omega))) (by rfl) (by rfl) (by rfl) (by rfl) ⟨rfl, rfl, trivial⟩ (by rfl) (by rfl) (by first | assumption | decide | (first | (clear g_0 g_1 g_2 g_3 g_4 g_5 g_6; omega) | (clear g_0 g_1 g_2 g_3; omega) | (clear g_1 g_2 g_3; omega) | (clear g_0 g_2 g_3; omega) | (clear g_0 g_1 g_3; omega) | (clear g_0 g_1 g_2; omega) | omega)) (by show 4 ≤ 4; (first | (clear g_0 g_1 g_2 g_3 g_4 g_5 g_6; omega) | (clear g_0 g_1 g_2 g_3; omega) | (clear g_1 g_2 g_3; omega) | (clear g_0 g_2 g_3; omega) | (clear g_0 g_1 g_3; omega) | (clear g_0 g_1 g_2; omega) | omega)) (by first | assumption | decide | (first | (clear g_0 g_1 g_2 g_3 g_4 g_5 g_6; omega) | (clear g_0 g_1 g_2 g_3; omega) | (clear g_1 g_2 g_3; omega) | (clear g_0 g_2 g_3; omega) | (clear g_0 g_1 g_3; omega) | (clear g_0 g_1 g_2; omega) | omega)) (by first | assumption | decide | (first | (clear g_0 g_1 g_2 g_3 g_4 g_5 g_6; omega) | (clear g_0 g_1 g_2 g_3; omega) | (clear g_1 g_2 g_3; omega) | (clear g_0 g_2 g_3; omega) | (clear g_0 g_1 g_3; omega) | (clear g_0 g_1 g_2; omega) | omega)) rfl rfl ?_
        refine jT_xlstore_n (v := (1, p7 - p8)) (LN := [(2, (1, p7 - p8)), (0, (4, 0)), (1, (4, 1))]) (pcN := 6) jIQ_38_5 rfl rfl rfl rfl ?_
        refine jT_xlload_n (v := (1, p7 - p8)) (pcN := 7) jIQ_38_6 rfl rfl rfl ?_
        refine jT_xlconst (z := 0) (pcN := 8) jIQ_38_7 rfl rfl ?_
        refine jT_lcmp (a := p7 - p8) (b := 0) (z := 1) (by rfl) (by rfl) (jwl_idd (by (first | (clear g_0 g_1 g_2 g_3 g_4 g_5 g_6; omega) | (clear g_0 g_1 g_2 g_3; omega) | (clear g_1 g_2 g_3; omega) | (clear g_0 g_2 g_3; omega) | (clear g_0 g_1 g_3; omega) | (clear g_0 g_1 g_2; omega) | omega)) (by (first | (clear g_0 g_1 g_2 g_3 g_4 g_5 g_6; omega) | (clear g_0 g_1 g_2 g_3; omega) | (clear g_1 g_2 g_3; omega) | (clear g_0 g_2 g_3; omega) | (clear g_0 g_1 g_3; omega) | (clear g_0 g_1 g_2; omega) | omega))) (jwl_idd (by (first | (clear g_0 g_1 g_2 g_3 g_4 g_5 g_6; omega) | (clear g_0 g_1 g_2 g_3; omega) | (clear g_1 g_2 g_3; omega) | (clear g_0 g_2 g_3; omega) | (clear g_0 g_1 g_3; omega) | (clear g_0 g_1 g_2; omega) | omega)) (by (first | (clear g_0 g_1 g_2 g_3 g_4 g_5 g_6; omega) | (clear g_0 g_1 g_2 g_3; omega) | (clear g_1 g_2 g_3; omega) | (clear g_0 g_2 g_3; omega) | (clear g_0 g_1 g_3; omega) | (clear g_0 g_1 g_2; omega) | omega))) (by rw [decide_eq_true (show (0 : Int) < p7 - p8 by (first | (clear g_0 g_1 g_2 g_3 g_4 g_5 g_6; omega) | (clear g_0 g_1 g_2 g_3; omega) | (clear g_1 g_2 g_3; omega) | (clear g_0 g_2 g_3; omega) | (clear g_0 g_1 g_3; omega) | (clear g_0 g_1 g_2; omega) | omega))]; rfl) ?_
        refine jT_xifT (pcN := 20) jIQ_38_9 rfl (by decide +kernel) rfl ?_
        refine jT_xaload_n (v := (4, 0)) (pcN := 21) jIQ_38_20 rfl rfl rfl ?_
        refine jT_xaload_n (v := (4, 1)) (pcN := 22) jIQ_38_21 rfl rfl rfl ?_
        refine jT_xlload_n (v := (1, p7 - p8)) (pcN := 23) jIQ_38_22 rfl rfl rfl ?_
        refine jT_callA [0, 1] (y := 40) (pcN := 26) (dC := 0) (bc1 := 0) (bc2 := 0) (c1 := 0) (c2 := 0) (as := [(4, 0), (4, 1), (1, p7 - p8)]) (asC := [(4, 0), (4, 1), (1, p7 - p8)]) (LN := [(2, (1, p7 - p8)), (0, (4, 0)), (1, (4, 1))]) (stN := []) (hsC := [jgh, (101, [], [q1, p7, p8, 0, 0, 0])]) (ex := []) (v := (0, 1)) (st2 := [(0, 1)]) (hs2 := [(8, [(4, 2), (4, 3)], []), (101, [], [q1, p7, p8, 0, 0, 0]), jgh, jgh]) (jQ_40_98 (d := 0) (by first | assumption | decide | (first | (clear g_0 g_1 g_2 g_3 g_4 g_5 g_6; omega) | (clear g_0 g_1 g_2 g_3; omega) | (clear g_1 g_2 g_3; omega) | (clear g_0 g_2 g_3; omega) | (clear g_0 g_1 g_3; omega) | (clear g_0 g_1 g_2; omega) | omega)) (by first | assumption | decide | (first | (clear g_0 g_1 g_2 g_3 g_4 g_5 g_6; omega) | (clear g_0 g_1 g_2 g_3; omega) | (clear g_1 g_2 g_3; omega) | (clear g_0 g_2 g_3; omega) | (clear g_0 g_1 g_3; omega) | (clear g_0 g_1 g_2; omega) | omega)) (by first | assumption | decide | (first | (clear g_0 g_1 g_2 g_3 g_4 g_5 g_6; omega) | (clear g_0 g_1 g_2 g_3; omega) | (clear g_1 g_2 g_3; omega) | (clear g_0 g_2 g_3; omega) | (clear g_0 g_1 g_3; omega) | (clear g_0 g_1 g_2; omega) | omega)) (by first | assumption | decide | (first | (clear g_0 g_1 g_2 g_3 g_4 g_5 g_6; omega) | (clear g_0 g_1 g_2 g_3; omega) | (clear g_1 g_2 g_3; omega) | (clear g_0 g_2 g_3; omega) | (clear g_0 g_1 g_3; omega) | (clear g_0 g_1 g_2; omega) | omega)) (by first | assumption | decide | (first | (clear g_0 g_1 g_2 g_3 g_4 g_5 g_6; omega) | (clear g_0 g_1 g_2 g_3; omega) | (clear g_1 g_2 g_3; omega) | (clear g_0 g_2 g_3; omega) | (clear g_0 g_1 g_3; omega) | (clear g_0 g_1 g_2; omega) | omega)) (by first | assumption | decide | (first | (clear g_0 g_1 g_2 g_3 g_4 g_5 g_6; omega) | (clear g_0 g_1 g_2 g_3; omega) | (clear g_1 g_2 g_3; omega) | (clear g_0 g_2 g_3; omega) | (clear g_0 g_1 g_3; omega) | (clear g_0 g_1 g_2; omega) | omega)) (by first | assumption | decide | (first | (clear g_0 g_1 g_2 g_3 g_4 g_5 g_6; omega) | (clear g_0 g_1 g_2 g_3; omega) | (clear g_1 g_2 g_3; omega) | (clear g_0 g_2 g_3; omega) | (clear g_0 g_1 g_3; omega) | (clear g_0 g_1 g_2; omega) | omega)) (by first | assumption | decide | (first | (clear g_0 g_1 g_2 g_3 g_4 g_5 g_6; omega) | (clear g_0 g_1 g_2 g_3; omega) | (clear g_1 g_2 g_3; omega) | (clear g_0 g_2 g_3; omega) | (clear g_0 g_1 g_3; omega) | (clear g_0 g_1 g_2; omega) | omega)) (by first | assumption | decide | (first | (clear g_0 g_1 g_2 g_3 g_4 g_5 g_6; omega) | (clear g_0 g_1 g_2 g_3; omega) | (clear g_1 g_2 g_3; omega) | (clear g_0 g_2 g_3; omega) | (clear g_0 g_1 g_3; omega) | (clear g_0 g_1 g_2; omega) | omega)) (by first | assumption | decide | (first | (clear g_0 g_1 g_2 g_3 g_4 g_5 g_6; omega) | (clear g_0 g_1 g_2 g_3; omega) | (clear g_1 g_2 g_3; omega) | (clear g_0 g_2 g_3; omega) | (clear g_0 g_1 g_3; omega) | (clear g_0 g_1 g_2; omega) | omega))) (by rfl) (by rfl) (by rfl) (by rfl) ⟨rfl, rfl, trivial⟩ (by rfl) (by rfl) (by first | assumption | decide | (first | (clear g_0 g_1 g_2 g_3 g_4 g_5 g_6; omega) | (clear g_0 g_1 g_2 g_3; omega) | (clear g_1 g_2 g_3; omega) | (clear g_0 g_2 g_3; omega) | (clear g_0 g_1 g_3; omega) | (clear g_0 g_1 g_2; omega) | omega)) (by show 4 ≤ 4; (first | (clear g_0 g_1 g_2 g_3 g_4 g_5 g_6; omega) | (clear g_0 g_1 g_2 g_3; omega) | (clear g_1 g_2 g_3; omega) | (clear g_0 g_2 g_3; omega) | (clear g_0 g_1 g_3; omega) | (clear g_0 g_1 g_2; omega) | omega)) (by first | assumption | decide | (first | (clear g_0 g_1 g_2 g_3 g_4 g_5 g_6; omega) | (clear g_0 g_1 g_2 g_3; omega) | (clear g_1 g_2 g_3; omega) | (clear g_0 g_2 g_3; omega) | (clear g_0 g_1 g_3; omega) | (clear g_0 g_1 g_2; omega) | omega)) (by first | assumption | decide | (first | (clear g_0 g_1 g_2 g_3 g_4 g_5 g_6; omega) | (clear g_0 g_1 g_2 g_3; omega) | (clear g_1 g_2 g_3; omega) | (clear g_0 g_2 g_3; omega) | (clear g_0 g_1 g_3; omega) | (clear g_0 g_1 g_2; omega) | omega)) rfl rfl ?_
        refine jT_xifF (t := 64) (pcN := 29) jIQ_38_26 rfl (by decide +kernel) rfl rfl ?_
        refine jT_xaload_n (v := (4, 0)) (pcN := 30) jIQ_38_29 rfl rfl rfl ?_
        refine jT_xaload_n (v := (4, 1)) (pcN := 31) jIQ_38_30 rfl rfl rfl ?_
        refine jT_callA [0, 1] (y := 41) (pcN := 34) (dC := 0) (bc1 := 0) (bc2 := 0) (c1 := 0) (c2 := 0) (as := [(4, 0), (4, 1)]) (asC := [(4, 0), (4, 1)]) (LN := [(2, (1, p7 - p8)), (0, (4, 0)), (1, (4, 1))]) (stN := []) (hsC := [jgh, (101, [], [q1, p7, p8, 0, 0, 0])]) (ex := []) (v := (1, 108917793695 * p7 + 159561683699 * p8 + 68719476736 * q1)) (st2 := [(1, 108917793695 * p7 + 159561683699 * p8 + 68719476736 * q1)]) (hs2 := [(8, [(4, 2), (4, 3)], []), (101, [], [q1, p7, p8, 0, 0, 0]), jgh, jgh]) (jQ_41_99 (d := 0) (by first | assumption | decide | (first | (clear g_0 g_1 g_2 g_3 g_4 g_5 g_6; omega) | (clear g_0 g_1 g_2 g_3; omega) | (clear g_1 g_2 g_3; omega) | (clear g_0 g_2 g_3; omega) | (clear g_0 g_1 g_3; omega) | (clear g_0 g_1 g_2; omega) | omega)) (by first | assumption | decide | (first | (clear g_0 g_1 g_2 g_3 g_4 g_5 g_6; omega) | (clear g_0 g_1 g_2 g_3; omega) | (clear g_1 g_2 g_3; omega) | (clear g_0 g_2 g_3; omega) | (clear g_0 g_1 g_3; omega) | (clear g_0 g_1 g_2; omega) | omega)) (by first | assumption | decide | (first | (clear g_0 g_1 g_2 g_3 g_4 g_5 g_6; omega) | (clear g_0 g_1 g_2 g_3; omega) | (clear g_1 g_2 g_3; omega) | (clear g_0 g_2 g_3; omega) | (clear g_0 g_1 g_3; omega) | (clear g_0 g_1 g_2; omega) | omega)) (by first | assumption | decide | (first | (clear g_0 g_1 g_2 g_3 g_4 g_5 g_6; omega) | (clear g_0 g_1 g_2 g_3; omega) | (clear g_1 g_2 g_3; omega) | (clear g_0 g_2 g_3; omega) | (clear g_0 g_1 g_3; omega) | (clear g_0 g_1 g_2; omega) | omega)) (by first | assumption | decide | (first | (clear g_0 g_1 g_2 g_3 g_4 g_5 g_6; omega) | (clear g_0 g_1 g_2 g_3; omega) | (clear g_1 g_2 g_3; omega) | (clear g_0 g_2 g_3; omega) | (clear g_0 g_1 g_3; omega) | (clear g_0 g_1 g_2; omega) | omega)) (by first | assumption | decide | (first | (clear g_0 g_1 g_2 g_3 g_4 g_5 g_6; omega) | (clear g_0 g_1 g_2 g_3; omega) | (clear g_1 g_2 g_3; omega) | (clear g_0 g_2 g_3; omega) | (clear g_0 g_1 g_3; omega) | (clear g_0 g_1 g_2; omega) | omega)) (by first | assumption | decide | (first | (clear g_0 g_1 g_2 g_3 g_4 g_5 g_6; omega) | (clear g_0 g_1 g_2 g_3; omega) | (clear g_1 g_2 g_3; omega) | (clear g_0 g_2 g_3; omega) | (clear g_0 g_1 g_3; omega) | (clear g_0 g_1 g_2; omega) | omega)) (by first | assumption | decide | (first | (clear g_0 g_1 g_2 g_3 g_4 g_5 g_6; omega) | (clear g_0 g_1 g_2 g_3; omega) | (clear g_1 g_2 g_3; omega) | (clear g_0 g_2 g_3; omega) | (clear g_0 g_1 g_3; omega) | (clear g_0 g_1 g_2; omega) | omega)) (by first | assumption | decide | (first | (clear g_0 g_1 g_2 g_3 g_4 g_5 g_6; omega) | (clear g_0 g_1 g_2 g_3; omega) | (clear g_1 g_2 g_3; omega) | (clear g_0 g_2 g_3; omega) | (clear g_0 g_1 g_3; omega) | (clear g_0 g_1 g_2; omega) | omega)) (by first | assumption | decide | (first | (clear g_0 g_1 g_2 g_3 g_4 g_5 g_6; omega) | (clear g_0 g_1 g_2 g_3; omega) | (clear g_1 g_2 g_3; omega) | (clear g_0 g_2 g_3; omega) | (clear g_0 g_1 g_3; omega) | (clear g_0 g_1 g_2; omega) | omega))) (by rfl) (by rfl) (by rfl) (by rfl) ⟨rfl, rfl, trivial⟩ (by rfl) (by rfl) (by first | assumption | decide | (first | (clear g_0 g_1 g_2 g_3 g_4 g_5 g_6; omega) | (clear g_0 g_1 g_2 g_3; omega) | (clear g_1 g_2 g_3; omega) | (clear g_0 g_2 g_3; omega) | (clear g_0 g_1 g_3; omega) | (clear g_0 g_1 g_2; omega) | omega)) (by show 4 ≤ 4; (first | (clear g_0 g_1 g_2 g_3 g_4 g_5 g_6; omega) | (clear g_0 g_1 g_2 g_3; omega) | (clear g_1 g_2 g_3; omega) | (clear g_0 g_2 g_3; omega) | (clear g_0 g_1 g_3; omega) | (clear g_0 g_1 g_2; omega) | omega)) (by first | assumption | decide | (first | (clear g_0 g_1 g_2 g_3 g_4 g_5 g_6; omega) | (clear g_0 g_1 g_2 g_3; omega) | (clear g_1 g_2 g_3; omega) | (clear g_0 g_2 g_3; omega) | (clear g_0 g_1 g_3; omega) | (clear g_0 g_1 g_2; omega) | omega)) (by first | assumption | decide | (first | (clear g_0 g_1 g_2 g_3 g_4 g_5 g_6; omega) | (clear g_0 g_1 g_2 g_3; omega) | (clear g_1 g_2 g_3; omega) | (clear g_0 g_2 g_3; omega) | (clear g_0 g_1 g_3; omega) | (clear g_0 g_1 g_2; omega) | omega)) rfl rfl ?_
        refine jT_xlstore (v := (1, 108917793695 * p7 + 159561683699 * p8 + 68719476736 * q1)) (LN := [(4, (1, 108917793695 * p7 + 159561683699 * p8 + 68719476736 * q1)), (2, (1, p7 - p8)), (0, (4, 0)), (1, (4, 1))]) (pcN := 36) jIQ_38_34 rfl rfl rfl rfl ?_
        refine jT_xlload (v := (1, 108917793695 * p7 + 159561683699 * p8 + 68719476736 * q1)) (pcN := 38) jIQ_38_36 rfl rfl rfl ?_
        refine jT_xlload_n (v := (1, p7 - p8)) (pcN := 39) jIQ_38_38 rfl rfl rfl ?_
        refine jT_lcmp (a := 108917793695 * p7 + 159561683699 * p8 + 68719476736 * q1) (b := p7 - p8) (z := (-1)) (by rfl) (by rfl) (jwl_idd (by (first | (clear g_0 g_1 g_2 g_3 g_4 g_5 g_6; omega) | (clear g_0 g_1 g_2 g_3; omega) | (clear g_1 g_2 g_3; omega) | (clear g_0 g_2 g_3; omega) | (clear g_0 g_1 g_3; omega) | (clear g_0 g_1 g_2; omega) | omega)) (by (first | (clear g_0 g_1 g_2 g_3 g_4 g_5 g_6; omega) | (clear g_0 g_1 g_2 g_3; omega) | (clear g_1 g_2 g_3; omega) | (clear g_0 g_2 g_3; omega) | (clear g_0 g_1 g_3; omega) | (clear g_0 g_1 g_2; omega) | omega))) (jwl_idd (by (first | (clear g_0 g_1 g_2 g_3 g_4 g_5 g_6; omega) | (clear g_0 g_1 g_2 g_3; omega) | (clear g_1 g_2 g_3; omega) | (clear g_0 g_2 g_3; omega) | (clear g_0 g_1 g_3; omega) | (clear g_0 g_1 g_2; omega) | omega)) (by (first | (clear g_0 g_1 g_2 g_3 g_4 g_5 g_6; omega) | (clear g_0 g_1 g_2 g_3; omega) | (clear g_1 g_2 g_3; omega) | (clear g_0 g_2 g_3; omega) | (clear g_0 g_1 g_3; omega) | (clear g_0 g_1 g_2; omega) | omega))) (by rw [decide_eq_false (show ¬ ((p7 - p8 : Int) < 108917793695 * p7 + 159561683699 * p8 + 68719476736 * q1) by (first | (clear g_0 g_1 g_2 g_3 g_4 g_5 g_6; omega) | (clear g_0 g_1 g_2 g_3; omega) | (clear g_1 g_2 g_3; omega) | (clear g_0 g_2 g_3; omega) | (clear g_0 g_1 g_3; omega) | (clear g_0 g_1 g_2; omega) | omega)), decide_eq_false (Int.ne_of_lt (show (108917793695 * p7 + 159561683699 * p8 + 68719476736 * q1 : Int) < p7 - p8 by (first | (clear g_0 g_1 g_2 g_3 g_4 g_5 g_6; omega) | (clear g_0 g_1 g_2 g_3; omega) | (clear g_1 g_2 g_3; omega) | (clear g_0 g_2 g_3; omega) | (clear g_0 g_1 g_3; omega) | (clear g_0 g_1 g_2; omega) | omega)))]; rfl) ?_
        refine jT_xifF (t := 51) (pcN := 43) jIQ_38_40 rfl (by decide +kernel) rfl rfl ?_
        refine jT_xlload (v := (1, 108917793695 * p7 + 159561683699 * p8 + 68719476736 * q1)) (pcN := 45) jIQ_38_43 rfl rfl rfl ?_
        refine jT_xlload_n (v := (1, p7 - p8)) (pcN := 46) jIQ_38_45 rfl rfl rfl ?_
        refine jT_adv 1 (pcN := 47) (LN := [(4, (1, 108917793695 * p7 + 159561683699 * p8 + 68719476736 * q1)), (2, (1, p7 - p8)), (0, (4, 0)), (1, (4, 1))]) (stN := [(1, -(p7 - p8)), (1, 108917793695 * p7 + 159561683699 * p8 + 68719476736 * q1)]) (hsN := [(8, [(4, 2), (4, 3)], []), (101, [], [q1, p7, p8, 0, 0, 0]), jgh, jgh]) (c1 := 0) (s1 := 0) (c2 := 0) (s2 := 0) (by exact rfl) ?_ (by first | assumption | decide | (first | (clear g_0 g_1 g_2 g_3 g_4 g_5 g_6; omega) | (clear g_0 g_1 g_2 g_3; omega) | (clear g_1 g_2 g_3; omega) | (clear g_0 g_2 g_3; omega) | (clear g_0 g_1 g_3; omega) | (clear g_0 g_1 g_2; omega) | omega)) (by first | assumption | decide | (first | (clear g_0 g_1 g_2 g_3 g_4 g_5 g_6; omega) | (clear g_0 g_1 g_2 g_3; omega) | (clear g_1 g_2 g_3; omega) | (clear g_0 g_2 g_3; omega) | (clear g_0 g_1 g_3; omega) | (clear g_0 g_1 g_2; omega) | omega))
        refine jT_eq (LN := [(4, (1, 108917793695 * p7 + 159561683699 * p8 + 68719476736 * q1)), (2, (1, p7 - p8)), (0, (4, 0)), (1, (4, 1))]) (stN := [(1, -p7 + p8), (1, 108917793695 * p7 + 159561683699 * p8 + 68719476736 * q1)]) (hsN := [(8, [(4, 2), (4, 3)], []), (101, [], [q1, p7, p8, 0, 0, 0]), jgh, jgh]) (rfl) (by simp only [List.cons.injEq, Prod.mk.injEq, and_true, true_and] <;> ((try unfold jw); (try unfold jwl); (first | (clear g_0 g_1 g_2 g_3 g_4 g_5 g_6; omega) | (clear g_0 g_1 g_2 g_3; omega) | (clear g_1 g_2 g_3; omega) | (clear g_0 g_2 g_3; omega) | (clear g_0 g_1 g_3; omega) | (clear g_0 g_1 g_2; omega) | omega))) (rfl) ?_
        refine jT_lcmp (a := 108917793695 * p7 + 159561683699 * p8 + 68719476736 * q1) (b := -p7 + p8) (z := (-1)) (by rfl) (by rfl) (jwl_idd (by (first | (clear g_0 g_1 g_2 g_3 g_4 g_5 g_6; omega) | (clear g_0 g_1 g_2 g_3; omega) | (clear g_1 g_2 g_3; omega) | (clear g_0 g_2 g_3; omega) | (clear g_0 g_1 g_3; omega) | (clear g_0 g_1 g_2; omega) | omega)) (by (first | (clear g_0 g_1 g_2 g_3 g_4 g_5 g_6; omega) | (clear g_0 g_1 g_2 g_3; omega) | (clear g_1 g_2 g_3; omega) | (clear g_0 g_2 g_3; omega) | (clear g_0 g_1 g_3; omega) | (clear g_0 g_1 g_2; omega) | omega))) (jwl_idd (by (first | (clear g_0 g_1 g_2 g_3 g_4 g_5 g_6; omega) | (clear g_0 g_1 g_2 g_3; omega) | (clear g_1 g_2 g_3; omega) | (clear g_0 g_2 g_3; omega) | (clear g_0 g_1 g_3; omega) | (clear g_0 g_1 g_2; omega) | omega)) (by (first | (clear g_0 g_1 g_2 g_3 g_4 g_5 g_6; omega) | (clear g_0 g_1 g_2 g_3; omega) | (clear g_1 g_2 g_3; omega) | (clear g_0 g_2 g_3; omega) | (clear g_0 g_1 g_3; omega) | (clear g_0 g_1 g_2; omega) | omega))) (by rw [decide_eq_false (show ¬ ((-p7 + p8 : Int) < 108917793695 * p7 + 159561683699 * p8 + 68719476736 * q1) by (first | (clear g_0 g_1 g_2 g_3 g_4 g_5 g_6; omega) | (clear g_0 g_1 g_2 g_3; omega) | (clear g_1 g_2 g_3; omega) | (clear g_0 g_2 g_3; omega) | (clear g_0 g_1 g_3; omega) | (clear g_0 g_1 g_2; omega) | omega)), decide_eq_false (Int.ne_of_lt (show (108917793695 * p7 + 159561683699 * p8 + 68719476736 * q1 : Int) < -p7 + p8 by (first | (clear g_0 g_1 g_2 g_3 g_4 g_5 g_6; omega) | (clear g_0 g_1 g_2 g_3; omega) | (clear g_1 g_2 g_3; omega) | (clear g_0 g_2 g_3; omega) | (clear g_0 g_1 g_3; omega) | (clear g_0 g_1 g_2; omega) | omega)))]; rfl) ?_
        refine jT_xifF (t := 64) (pcN := 51) jIQ_38_48 rfl (by decide +kernel) rfl rfl ?_
        refine jT_xlload (v := (1, 108917793695 * p7 + 159561683699 * p8 + 68719476736 * q1)) (pcN := 53) jIQ_38_51 rfl rfl rfl ?_
        refine jT_xlconst (z := 0) (pcN := 54) jIQ_38_53 rfl rfl ?_
        refine jT_lcmp (a := 108917793695 * p7 + 159561683699 * p8 + 68719476736 * q1) (b := 0) (z := (-1)) (by rfl) (by rfl) (jwl_idd (by (first | (clear g_0 g_1 g_2 g_3 g_4 g_5 g_6; omega) | (clear g_0 g_1 g_2 g_3; omega) | (clear g_1 g_2 g_3; omega) | (clear g_0 g_2 g_3; omega) | (clear g_0 g_1 g_3; omega) | (clear g_0 g_1 g_2; omega) | omega)) (by (first | (clear g_0 g_1 g_2 g_3 g_4 g_5 g_6; omega) | (clear g_0 g_1 g_2 g_3; omega) | (clear g_1 g_2 g_3; omega) | (clear g_0 g_2 g_3; omega) | (clear g_0 g_1 g_3; omega) | (clear g_0 g_1 g_2; omega) | omega))) (jwl_idd (by (first | (clear g_0 g_1 g_2 g_3 g_4 g_5 g_6; omega) | (clear g_0 g_1 g_2 g_3; omega) | (clear g_1 g_2 g_3; omega) | (clear g_0 g_2 g_3; omega) | (clear g_0 g_1 g_3; omega) | (clear g_0 g_1 g_2; omega) | omega)) (by (first | (clear g_0 g_1 g_2 g_3 g_4 g_5 g_6; omega) | (clear g_0 g_1 g_2 g_3; omega) | (clear g_1 g_2 g_3; omega) | (clear g_0 g_2 g_3; omega) | (clear g_0 g_1 g_3; omega) | (clear g_0 g_1 g_2; omega) | omega))) (by rw [decide_eq_false (show ¬ ((0 : Int) < 108917793695 * p7 + 159561683699 * p8 + 68719476736 * q1) by (first | (clear g_0 g_1 g_2 g_3 g_4 g_5 g_6; omega) | (clear g_0 g_1 g_2 g_3; omega) | (clear g_1 g_2 g_3; omega) | (clear g_0 g_2 g_3; omega) | (clear g_0 g_1 g_3; omega) | (clear g_0 g_1 g_2; omega) | omega)), decide_eq_false (Int.ne_of_lt (show (108917793695 * p7 + 159561683699 * p8 + 68719476736 * q1 : Int) < 0 by (first | (clear g_0 g_1 g_2 g_3 g_4 g_5 g_6; omega) | (clear g_0 g_1 g_2 g_3; omega) | (clear g_1 g_2 g_3; omega) | (clear g_0 g_2 g_3; omega) | (clear g_0 g_1 g_3; omega) | (clear g_0 g_1 g_2; omega) | omega)))]; rfl) ?_
        refine jT_xifF (t := 62) (pcN := 58) jIQ_38_55 rfl (by decide +kernel) rfl rfl ?_
        refine jT_xiconst (k := (-1)) (pcN := 59) jIQ_38_58 rfl ?_
        refine jT_xgoto (pcN := 63) jIQ_38_59 rfl ?_
        exact jT_ret rfl (by decide) (by show 4 ≤ 4; decide) (by first | assumption | decide | (first | (clear g_0 g_1 g_2 g_3 g_4 g_5 g_6; omega) | (clear g_0 g_1 g_2 g_3; omega) | (clear g_1 g_2 g_3; omega) | (clear g_0 g_2 g_3; omega) | (clear g_0 g_1 g_3; omega) | (clear g_0 g_1 g_2; omega) | omega)) (by first | assumption | decide | (first | (clear g_0 g_1 g_2 g_3 g_4 g_5 g_6; omega) | (clear g_0 g_1 g_2 g_3; omega) | (clear g_1 g_2 g_3; omega) | (clear g_0 g_2 g_3; omega) | (clear g_0 g_1 g_3; omega) | (clear g_0 g_1 g_2; omega) | omega)) ⟨rfl, rfl, rfl⟩
      · refine jT_xaload_n (v := (4, 0)) (pcN := 1) jIQ_38_0 rfl rfl rfl ?_
        refine jT_xaload_n (v := (4, 1)) (pcN := 2) jIQ_38_1 rfl rfl rfl ?_
        refine jT_callA [0, 1] (y := 39) (pcN := 5) (dC := 0) (bc1 := 0) (bc2 := 0) (c1 := 0) (c2 := 0) (as := [(4, 0), (4, 1)]) (asC := [(4, 0), (4, 1)]) (LN := [(0, (4, 0)), (1, (4, 1))]) (stN := []) (hsC := [jgh, (101, [], [q1, p7, p8, 0, 0, 0])]) (ex := []) (v := (1, p7 - p8)) (st2 := [(1, p7 - p8)]) (hs2 := [(8, [(4, 2), (4, 3)], []), (101, [], [q1, p7, p8, 0, 0, 0]), jgh, jgh]) (jQ_39_94 (d := 0) (by first | assumption | decide | (first | (clear g_0 g_1 g_2 g_3 g_4 g_5 g_6; omega) | (clear g_0 g_1 g_2 g_3; omega) | (clear g_1 g_2 g_3; omega) | (clear g_0 g_2 g_3; omega) | (clear g_0 g_1 g_3; omega) | (clear g_0 g_1 g_2; omega) | omega)) (by first | assumption | decide | (first | (clear g_0 g_1 g_2 g_3 g_4 g_5 g_6; omega) | (clear g_0 g_1 g_2 g_3; omega) | (clear g_1 g_2 g_3; omega) | (clear g_0 g_2 g_3; omega) | (clear g_0 g_1 g_3; omega) | (clear g_0 g_1 g_2; omega) | omega)) (by first | assumption | decide | (first | (clear g_0 g_1 g_2 g_3 g_4 g_5 g_6; omega) | (clear g_0 g_1 g_2 g_3; omega) | (clear g_1 g_2 g_3; omega) | (clear g_0 g_2 g_3; omega) | (clear g_0 g_1 g_3; omega) | (clear g_0 g_1 g_2; omega) | omega)) (by first | assumption | decide | (first | (clear g_0 g_1 g_2 g_3 g_4 g_5 g_6; omega) | (clear g_0 g_1 g_2 g_3; omega) | (clear g_1 g_2 g_3; omega) | (clear g_0 g_2 g_3; omega) | (clear g_0 g_1 g_3; omega) | (clear g_0 g_1 g_2; omega) | omega)) (by first | assumption | decide | (first | (clear g_0 g_1 g_2 g_3 g_4 g_5 g_6; omega) | (clear g_0 g_1 g_2 g_3; omega) | (clear g_1 g_2 g_3; omega) | (clear g_0 g_2 g_3; omega) | (clear g_0 g_1 g_3; omega) | (clear g_0 g_1 g_2; omega) | omega)) (by first | assumption | decide | (first | (clear g_0 g_1 g_2 g_3 g_4 g_5 g_6; omega) | (clear g_0 g_1 g_2 g_3; omega) | (clear g_1 g_2 g_3; omega) | (clear g_0 g_2 g_3; omega) | (clear g_0 g_1 g_3; omega) | (clear g_0 g_1 g_2; omega) | omega)) (by first | assumption | decide | (first | (clear g_0 g_1 g_2 g_3 g_4 g_5 g_6; omega) | (clear g_0 g_1 g_2 g_3; omega) | (clear g_1 g_2 g_3; omega) | (clear g_0 g_2 g_3; omega) | (clear g_0 g_1 g_3; omega) | (clear g_0 g_1 g_2; omega) | omega)) (by first | assumption | decide | (first | (clear g_0 g_1 g_2 g_3 g_4 g_5 g_6; omega) | (clear g_0 g_1 g_2 g_3; omega) | (clear g_1 g_2 g_3; omega) | (clear g_0 g_2 g_3; omega) | (clear g_0 g_1 g_3; omega) | (clear g_0 g_1 g_2; omega) | omega)) (by first | assumption | decide | (first | (clear g_0 g_1 g_2 g_3 g_4 g_5 g_6; omega) | (clear g_0 g_1 g_2 g_3; omega) | (clear g_1 g_2 g_3; omega) | (clear g_0 g_2 g_3; omega) | (clear g_0 g_1 g_3; omega) | (clear g_0 g_1 g_2; omega) | omega)) (by first | assumption | decide | (first | (clear g_0 g_1 g_2 g_3 g_4 g_5 g_6; omega) | (clear g_0 g_1 g_2 g_3; omega) | (clear g_1 g_2 g_3; omega) | (clear g_0 g_2 g_3; omega) | (clear g_0 g_1 g_3; omega) | (clear g_0 g_1 g_2; omega) | omega))) (by rfl) (by rfl) (by rfl) (by rfl) ⟨rfl, rfl, trivial⟩ (by rfl) (by rfl) (by first | assumption | decide | (first | (clear g_0 g_1 g_2 g_3 g_4 g_5 g_6; omega) | (clear g_0 g_1 g_2 g_3; omega) | (clear g_1 g_2 g_3; omega) | (clear g_0 g_2 g_3; omega) | (clear g_0 g_1 g_3; omega) | (clear g_0 g_1 g_2; omega) | omega)) (by show 4 ≤ 4; (first | (clear g_0 g_1 g_2 g_3 g_4 g_5 g_6; omega) | (clear g_0 g_1 g_2 g_3; omega) | (clear g_1 g_2 g_3; omega) | (clear g_0 g_2 g_3; omega) | (clear g_0 g_1 g_3; omega) | (clear g_0 g_1 g_2; omega) | omega)) (by first | assumption | decide | (first | (clear g_0 g_1 g_2 g_3 g_4 g_5 g_6; omega) | (clear g_0 g_1 g_2 g_3; omega) | (clear g_1 g_2 g_3; omega) | (clear g_0 g_2 g_3; omega) | (clear g_0 g_1 g_3; omega) | (clear g_0 g_1 g_2; omega) | omega)) (by first | assumption | decide | (first | (clear g_0 g_1 g_2 g_3 g_4 g_5 g_6; omega) | (clear g_0 g_1 g_2 g_3; omega) | (clear g_1 g_2 g_3; omega) | (clear g_0 g_2 g_3; omega) | (clear g_0 g_1 g_3; omega) | (clear g_0 g_1 g_2; omega) | omega)) rfl rfl ?_
        refine jT_xlstore_n (v := (1, p7 - p8)) (LN := [(2, (1, p7 - p8)), (0, (4, 0)), (1, (4, 1))]) (pcN := 6) jIQ_38_5 rfl rfl rfl rfl ?_
        refine jT_xlload_n (v := (1, p7 - p8)) (pcN := 7) jIQ_38_6 rfl rfl rfl ?_
        refine jT_xlconst (z := 0) (pcN := 8) jIQ_38_7 rfl rfl ?_
        refine jT_lcmp (a := p7 - p8) (b := 0) (z := 1) (by rfl) (by rfl) (jwl_idd (by (first | (clear g_0 g_1 g_2 g_3 g_4 g_5 g_6; omega) | (clear g_0 g_1 g_2 g_3; omega) | (clear g_1 g_2 g_3; omega) | (clear g_0 g_2 g_3; omega) | (clear g_0 g_1 g_3; omega) | (clear g_0 g_1 g_2; omega) | omega)) (by (first | (clear g_0 g_1 g_2 g_3 g_4 g_5 g_6; omega) | (clear g_0 g_1 g_2 g_3; omega) | (clear g_1 g_2 g_3; omega) | (clear g_0 g_2 g_3; omega) | (clear g_0 g_1 g_3; omega) | (clear g_0 g_1 g_2; omega) | omega))) (jwl_idd (by (first | (clear g_0 g_1 g_2 g_3 g_4 g_5 g_6; omega) | (clear g_0 g_1 g_2 g_3; omega) | (clear g_1 g_2 g_3; omega) | (clear g_0 g_2 g_3; omega) | (clear g_0 g_1 g_3; omega) | (clear g_0 g_1 g_2; omega) | omega)) (by (first | (clear g_0 g_1 g_2 g_3 g_4 g_5 g_6; omega) | (clear g_0 g_1 g_2 g_3; omega) | (clear g_1 g_2 g_3; omega) | (clear g_0 g_2 g_3; omega) | (clear g_0 g_1 g_3; omega) | (clear g_0 g_1 g_2; omega) | omega))) (by rw [decide_eq_true (show (0 : Int) < p7 - p8 by (first | (clear g_0 g_1 g_2 g_3 g_4 g_5 g_6; omega) | (clear g_0 g_1 g_2 g_3; omega) | (clear g_1 g_2 g_3; omega) | (clear g_0 g_2 g_3; omega) | (clear g_0 g_1 g_3; omega) | (clear g_0 g_1 g_2; omega) | omega))]; rfl) ?_
        refine jT_xifT (pcN := 20) jIQ_38_9 rfl (by decide +kernel) rfl ?_
        refine jT_xaload_n (v := (4, 0)) (pcN := 21) jIQ_38_20 rfl rfl rfl ?_
        refine jT_xaload_n (v := (4, 1)) (pcN := 22) jIQ_38_21 rfl rfl rfl ?_
        refine jT_xlload_n (v := (1, p7 - p8)) (pcN := 23) jIQ_38_22 rfl rfl rfl ?_
        refine jT_callA [0, 1] (y := 40) (pcN := 26) (dC := 0) (bc1 := 0) (bc2 := 0) (c1 := 0) (c2 := 0) (as := [(4, 0), (4, 1), (1, p7 - p8)]) (asC := [(4, 0), (4, 1), (1, p7 - p8)]) (LN := [(2, (1, p7 - p8)), (0, (4, 0)), (1, (4, 1))]) (stN := []) (hsC := [jgh, (101, [], [q1, p7, p8, 0, 0, 0])]) (ex := []) (v := (0, 1)) (st2 := [(0, 1)]) (hs2 := [(8, [(4, 2), (4, 3)], []), (101, [], [q1, p7, p8, 0, 0, 0]), jgh, jgh]) (jQ_40_95 (d := 0) (by first | assumption | decide | (first | (clear g_0 g_1 g_2 g_3 g_4 g_5 g_6; omega) | (clear g_0 g_1 g_2 g_3; omega) | (clear g_1 g_2 g_3; omega) | (clear g_0 g_2 g_3; omega) | (clear g_0 g_1 g_3; omega) | (clear g_0 g_1 g_2; omega) | omega)) (by first | assumption | decide | (first | (clear g_0 g_1 g_2 g_3 g_4 g_5 g_6; omega) | (clear g_0 g_1 g_2 g_3; omega) | (clear g_1 g_2 g_3; omega) | (clear g_0 g_2 g_3; omega) | (clear g_0 g_1 g_3; omega) | (clear g_0 g_1 g_2; omega) | omega)) (by first | assumption | decide | (first | (clear g_0 g_1 g_2 g_3 g_4 g_5 g_6; omega) | (clear g_0 g_1 g_2 g_3; omega) | (clear g_1 g_2 g_3; omega) | (clear g_0 g_2 g_3; omega) | (clear g_0 g_1 g_3; omega) | (clear g_0 g_1 g_2; omega) | omega)) (by first | assumption | decide | (first | (clear g_0 g_1 g_2 g_3 g_4 g_5 g_6; omega) | (clear g_0 g_1 g_2 g_3; omega) | (clear g_1 g_2 g_3; omega) | (clear g_0 g_2 g_3; omega) | (clear g_0 g_1 g_3; omega) | (clear g_0 g_1 g_2; omega) | omega)) (by first | assumption | decide | (first | (clear g_0 g_1 g_2 g_3 g_4 g_5 g_6; omega) | (clear g_0 g_1 g_2 g_3; omega) | (clear g_1 g_2 g_3; omega) | (clear g_0 g_2 g_3; omega) | (clear g_0 g_1 g_3; omega) | (clear g_0 g_1 g_2; omega) | omega)) (by first | assumption | decide | (first | (clear g_0 g_1 g_2 g_3 g_4 g_5 g_6; omega) | (clear g_0 g_1 g_2 g_3; omega) | (clear g_1 g_2 g_3; omega) | (clear g_0 g_2 g_3; omega) | (clear g_0 g_1 g_3; omega) | (clear g_0 g_1 g_2; omega) | omega)) (by first | assumption | decide | (first | (clear g_0 g_1 g_2 g_3 g_4 g_5 g_6; omega) | (clear g_0 g_1 g_2 g_3; omega) | (clear g_1 g_2 g_3; omega) | (clear g_0 g_2 g_3; omega) | (clear g_0 g_1 g_3; omega) | (clear g_0 g_1 g_2; omega) | omega)) (by first | assumption | decide | (first | (clear g_0 g_1 g_2 g_3 g_4 g_5 g_6; omega) | (clear g_0 g_1 g_2 g_3; omega) | (clear g_1 g_2 g_3; omega) | (clear g_0 g_2 g_3; omega) | (clear g_0 g_1 g_3; omega) | (clear g_0 g_1 g_2; omega) | omega)) (by first | assumption | decide | (first | (clear g_0 g_1 g_2 g_3 g_4 g_5 g_6; omega) | (clear g_0 g_1 g_2 g_3; omega) | (clear g_1 g_2 g_3; omega) | (clear g_0 g_2 g_3; omega) | (clear g_0 g_1 g_3; omega) | (clear g_0 g_1 g_2; omega) | omega)) (by first | assumption | decide | (first | (clear g_0 g_1 g_2 g_3 g_4 g_5 g_6; omega) | (clear g_0 g_1 g_2 g_3; omega) | (clear g_1 g_2 g_3; omega) | (clear g_0 g_2 g_3; omega) | (clear g_0 g_1 g_3; omega) | (clear g_0 g_1 g_2; omega) | omega))) (by rfl) (by rfl) (by rfl) (by rfl) ⟨rfl, rfl, trivial⟩ (by rfl) (by rfl) (by first | assumption | decide | (first | (clear g_0 g_1 g_2 g_3 g_4 g_5 g_6; omega) | (clear g_0 g_1 g_2 g_3; omega) | (clear g_1 g_2 g_3; omega) | (clear g_0 g_2 g_3; omega) | (clear g_0 g_1 g_3; omega) | (clear g_0 g_1 g_2; omega) | omega)) (by show 4 ≤ 4; (first | (clear g_0 g_1 g_2 g_3 g_4 g_5 g_6; omega) | (clear g_0 g_1 g_2 g_3; omega) | (clear g_1 g_2 g_3; omega) | (clear g_0 g_2 g_3; omega) | (clear g_0 g_1 g_3; omega) | (clear g_0 g_1 g_2; omega) | omega)) (by first | assumption | decide | (first | (clear g_0 g_1 g_2 g_3 g_4 g_5 g_6; omega) | (clear g_0 g_1 g_2 g_3; omega) | (clear g_1 g_2 g_3; omega) | (clear g_0 g_2 g_3; omega) | (clear g_0 g_1 g_3; omega) | (clear g_0 g_1 g_2; omega) | omega)) (by first | assumption | decide | (first | (clear g_0 g_1 g_2 g_3 g_4 g_5 g_6; omega) | (clear g_0 g_1 g_2 g_3; omega) | (clear g_1 g_2 g_3; omega) | (clear g_0 g_2 g_3; omega) | (clear g_0 g_1 g_3; omega) | (clear g_0 g_1 g_2; omega) | omega)) rfl rfl ?_
        refine jT_xifF (t := 64) (pcN := 29) jIQ_38_26 rfl (by decide +kernel) rfl rfl ?_
        refine jT_xaload_n (v := (4, 0)) (pcN := 30) jIQ_38_29 rfl rfl rfl ?_
        refine jT_xaload_n (v := (4, 1)) (pcN := 31) jIQ_38_30 rfl rfl rfl ?_
        refine jT_callA [0, 1] (y := 41) (pcN := 34) (dC := 0) (bc1 := 0) (bc2 := 0) (c1 := 0) (c2 := 0) (as := [(4, 0), (4, 1)]) (asC := [(4, 0), (4, 1)]) (LN := [(2, (1, p7 - p8)), (0, (4, 0)), (1, (4, 1))]) (stN := []) (hsC := [jgh, (101, [], [q1, p7, p8, 0, 0, 0])]) (ex := []) (v := (1, 108917793695 * p7 + 159561683699 * p8 + 68719476736 * q1)) (st2 := [(1, 108917793695 * p7 + 159561683699 * p8 + 68719476736 * q1)]) (hs2 := [(8, [(4, 2), (4, 3)], []), (101, [], [q1, p7, p8, 0, 0, 0]), jgh, jgh]) (jQ_41_96 (d := 0) (by first | assumption | decide | (first | (clear g_0 g_1 g_2 g_3 g_4 g_5 g_6; omega) | (clear g_0 g_1 g_2 g_3; omega) | (clear g_1 g_2 g_3; omega) | (clear g_0 g_2 g_3; omega) | (clear g_0 g_1 g_3; omega) | (clear g_0 g_1 g_2; omega) | omega)) (by first | assumption | decide | (first | (clear g_0 g_1 g_2 g_3 g_4 g_5 g_6; omega) | (clear g_0 g_1 g_2 g_3; omega) | (clear g_1 g_2 g_3; omega) | (clear g_0 g_2 g_3; omega) | (clear g_0 g_1 g_3; omega) | (clear g_0 g_1 g_2; omega) | omega)) (by first | assumption | decide | (first | (clear g_0 g_1 g_2 g_3 g_4 g_5 g_6; omega) | (clear g_0 g_1 g_2 g_3; omega) | (clear g_1 g_2 g_3; omega) | (clear g_0 g_2 g_3; omega) | (clear g_0 g_1 g_3; omega) | (clear g_0 g_1 g_2; omega) | omega)) (by first | assumption | decide | (first | (clear g_0 g_1 g_2 g_3 g_4 g_5 g_6; omega) | (clear g_0 g_1 g_2 g_3; omega) | (clear g_1 g_2 g_3; omega) | (clear g_0 g_2 g_3; omega) | (clear g_0 g_1 g_3; omega) | (clear g_0 g_1 g_2; omega) | omega)) (by first | assumption | decide | (first | (clear g_0 g_1 g_2 g_3 g_4 g_5 g_6; omega) | (clear g_0 g_1 g_2 g_3; omega) | (clear g_1 g_2 g_3; omega) | (clear g_0 g_2 g_3; omega) | (clear g_0 g_1 g_3; omega) | (clear g_0 g_1 g_2; omega) | omega)) (by first | assumption | decide | (first | (clear g_0 g_1 g_2 g_3 g_4 g_5 g_6; omega) | (clear g_0 g_1 g_2 g_3; omega) | (clear g_1 g_2 g_3; omega) | (clear g_0 g_2 g_3; omega) | (clear g_0 g_1 g_3; omega) | (clear g_0 g_1 g_2; omega) | omega)) (by first | assumption | decide | (first | (clear g_0 g_1 g_2 g_3 g_4 g_5 g_6; omega) | (clear g_0 g_1 g_2 g_3; omega) | (clear g_1 g_2 g_3; omega) | (clear g_0 g_2 g_3; omega) | (clear g_0 g_1 g_3; omega) | (clear g_0 g_1 g_2; omega) | omega)) (by first | assumption | decide | (first | (clear g_0 g_1 g_2 g_3 g_4 g_5 g_6; omega) | (clear g_0 g_1 g_2 g_3; omega) | (clear g_1 g_2 g_3; omega) | (clear g_0 g_2 g_3; omega) | (clear g_0 g_1 g_3; omega) | (clear g_0 g_1 g_2; omega) | omega)) (by first | assumption | decide | (first | (clear g_0 g_1 g_2 g_3 g_4 g_5 g_6; omega) | (clear g_0 g_1 g_2 g_3; omega) | (clear g_1 g_2 g_3; omega) | (clear g_0 g_2 g_3; omega) | (clear g_0 g_1 g_3; omega) | (clear g_0 g_1 g_2; omega) | omega)) (by first | assumption | decide | (first | (clear g_0 g_1 g_2 g_3 g_4 g_5 g_6; omega) | (clear g_0 g_1 g_2 g_3; omega) | (clear g_1 g_2 g_3; omega) | (clear g_0 g_2 g_3; omega) | (clear g_0 g_1 g_3; omega) | (clear g_0 g_1 g_2; omega) | omega))) (by rfl) (by rfl) (by rfl) (by rfl) ⟨rfl, rfl, trivial⟩ (by rfl) (by rfl) (by first | assumption | decide | (first | (clear g_0 g_1 g_2 g_3 g_4 g_5 g_6; omega) | (clear g_0 g_1 g_2 g_3; omega) | (clear g_1 g_2 g_3; omega) | (clear g_0 g_2 g_3; omega) | (clear g_0 g_1 g_3; omega) | (clear g_0 g_1 g_2; omega) | omega)) (by show 4 ≤ 4; (first | (clear g_0 g_1 g_2 g_3 g_4 g_5 g_6; omega) | (clear g_0 g_1 g_2 g_3; omega) | (clear g_1 g_2 g_3; omega) | (clear g_0 g_2 g_3; omega) | (clear g_0 g_1 g_3; omega) | (clear g_0 g_1 g_2; omega) | omega)) (by first | assumption | decide | (first | (clear g_0 g_1 g_2 g_3 g_4 g_5 g_6; omega) | (clear g_0 g_1 g_2 g_3; omega) | (clear g_1 g_2 g_3; omega) | (clear g_0 g_2 g_3; omega) | (clear g_0 g_1 g_3; omega) | (clear g_0 g_1 g_2; omega) | omega)) (by first | assumption | decide | (first | (clear g_0 g_1 g_2 g_3 g_4 g_5 g_6; omega) | (clear g_0 g_1 g_2 g_3; omega) | (clear g_1 g_2 g_3; omega) | (clear g_0 g_2 g_3; omega) | (clear g_0 g_1 g_3; omega) | (clear g_0 g_1 g_2; omega) | omega)) rfl rfl ?_
        refine jT_xlstore (v := (1, 108917793695 * p7 + 159561683699 * p8 + 68719476736 * q1)) (LN := [(4, (1, 108917793695 * p7 + 159561683699 * p8 + 68719476736 * q1)), (2, (1, p7 - p8)), (0, (4, 0)), (1, (4, 1))]) (pcN := 36) jIQ_38_34 rfl rfl rfl rfl ?_
        refine jT_xlload (v := (1, 108917793695 * p7 + 159561683699 * p8 + 68719476736 * q1)) (pcN := 38) jIQ_38_36 rfl rfl rfl ?_
        refine jT_xlload_n (v := (1, p7 - p8)) (pcN := 39) jIQ_38_38 rfl rfl rfl ?_
        refine jT_lcmp (a := 108917793695 * p7 + 159561683699 * p8 + 68719476736 * q1) (b := p7 - p8) (z := (-1)) (by rfl) (by rfl) (jwl_idd (by (first | (clear g_0 g_1 g_2 g_3 g_4 g_5 g_6; omega) | (clear g_0 g_1 g_2 g_3; omega) | (clear g_1 g_2 g_3; omega) | (clear g_0 g_2 g_3; omega) | (clear g_0 g_1 g_3; omega) | (clear g_0 g_1 g_2; omega) | omega)) (by (first | (clear g_0 g_1 g_2 g_3 g_4 g_5 g_6; omega) | (clear g_0 g_1 g_2 g_3; omega) | (clear g_1 g_2 g_3; omega) | (clear g_0 g_2 g_3; omega) | (clear g_0 g_1 g_3; omega) | (clear g_0 g_1 g_2; omega) | omega))) (jwl_idd (by (first | (clear g_0 g_1 g_2 g_3 g_4 g_5 g_6; omega) | (clear g_0 g_1 g_2 g_3; omega) | (clear g_1 g_2 g_3; omega) | (clear g_0 g_2 g_3; omega) | (clear g_0 g_1 g_3; omega) | (clear g_0 g_1 g_2; omega) | omega)) (by (first | (clear g_0 g_1 g_2 g_3 g_4 g_5 g_6; omega) | (clear g_0 g_1 g_2 g_3; omega) | (clear g_1 g_2 g_3; omega) | (clear g_0 g_2 g_3; omega) | (clear g_0 g_1 g_3; omega) | (clear g_0 g_1 g_2; omega) | omega))) (by rw [decide_eq_false (show ¬ ((p7 - p8 : Int) < 108917793695 * p7 + 159561683699 * p8 + 68719476736 * q1) by (first | (clear g_0 g_1 g_2 g_3 g_4 g_5 g_6; omega) | (clear g_0 g_1 g_2 g_3; omega) | (clear g_1 g_2 g_3; omega) | (clear g_0 g_2 g_3; omega) | (clear g_0 g_1 g_3; omega) | (clear g_0 g_1 g_2; omega) | omega)), decide_eq_false (Int.ne_of_lt (show (108917793695 * p7 + 159561683699 * p8 + 68719476736 * q1 : Int) < p7 - p8 by (first | (clear g_0 g_1 g_2 g_3 g_4 g_5 g_6; omega) | (clear g_0 g_1 g_2 g_3; omega) | (clear g_1 g_2 g_3; omega) | (clear g_0 g_2 g_3; omega) | (clear g_0 g_1 g_3; omega) | (clear g_0 g_1 g_2; omega) | omega)))]; rfl) ?_
        refine jT_xifF (t := 51) (pcN := 43) jIQ_38_40 rfl (by decide +kernel) rfl rfl ?_
        refine jT_xlload (v := (1, 108917793695 * p7 + 159561683699 * p8 + 68719476736 * q1)) (pcN := 45) jIQ_38_43 rfl rfl rfl ?_
        refine jT_xlload_n (v := (1, p7 - p8)) (pcN := 46) jIQ_38_45 rfl rfl rfl ?_
        refine jT_adv 1 (pcN := 47) (LN := [(4, (1, 108917793695 * p7 + 159561683699 * p8 + 68719476736 * q1)), (2, (1, p7 - p8)), (0, (4, 0)), (1, (4, 1))]) (stN := [(1, -(p7 - p8)), (1, 108917793695 * p7 + 159561683699 * p8 + 68719476736 * q1)]) (hsN := [(8, [(4, 2), (4, 3)], []), (101, [], [q1, p7, p8, 0, 0, 0]), jgh, jgh]) (c1 := 0) (s1 := 0) (c2 := 0) (s2 := 0) (by exact rfl) ?_ (by first | assumption | decide | (first | (clear g_0 g_1 g_2 g_3 g_4 g_5 g_6; omega) | (clear g_0 g_1 g_2 g_3; omega) | (clear g_1 g_2 g_3; omega) | (clear g_0 g_2 g_3; omega) | (clear g_0 g_1 g_3; omega) | (clear g_0 g_1 g_2; omega) | omega)) (by first | assumption | decide | (first | (clear g_0 g_1 g_2 g_3 g_4 g_5 g_6; omega) | (clear g_0 g_1 g_2 g_3; omega) | (clear g_1 g_2 g_3; omega) | (clear g_0 g_2 g_3; omega) | (clear g_0 g_1 g_3; omega) | (clear g_0 g_1 g_2; omega) | omega))
        refine jT_eq (LN := [(4, (1, 108917793695 * p7 + 159561683699 * p8 + 68719476736 * q1)), (2, (1, p7 - p8)), (0, (4, 0)), (1, (4, 1))]) (stN := [(1, -p7 + p8), (1, 108917793695 * p7 + 159561683699 * p8 + 68719476736 * q1)]) (hsN := [(8, [(4, 2), (4, 3)], []), (101, [], [q1, p7, p8, 0, 0, 0]), jgh, jgh]) (rfl) (by simp only [List.cons.injEq, Prod.mk.injEq, and_true, true_and] <;> ((try unfold jw); (try unfold jwl); (first | (clear g_0 g_1 g_2 g_3 g_4 g_5 g_6; omega) | (clear g_0 g_1 g_2 g_3; omega) | (clear g_1 g_2 g_3; omega) | (clear g_0 g_2 g_3; omega) | (clear g_0 g_1 g_3; omega) | (clear g_0 g_1 g_2; omega) | omega))) (rfl) ?_
        refine jT_lcmp (a := 108917793695 * p7 + 159561683699 * p8 + 68719476736 * q1) (b := -p7 + p8) (z := (-1)) (by rfl) (by rfl) (jwl_idd (by (first | (clear g_0 g_1 g_2 g_3 g_4 g_5 g_6; omega) | (clear g_0 g_1 g_2 g_3; omega) | (clear g_1 g_2 g_3; omega) | (clear g_0 g_2 g_3; omega) | (clear g_0 g_1 g_3; omega) | (clear g_0 g_1 g_2; omega) | omega)) (by (first | (clear g_0 g_1 g_2 g_3 g_4 g_5 g_6; omega) | (clear g_0 g_1 g_2 g_3; omega) | (clear g_1 g_2 g_3; omega) | (clear g_0 g_2 g_3; omega) | (clear g_0 g_1 g_3; omega) | (clear g_0 g_1 g_2; omega) | omega))) (jwl_idd (by (first | (clear g_0 g_1 g_2 g_3 g_4 g_5 g_6; omega) | (clear g_0 g_1 g_2 g_3; omega) | (clear g_1 g_2 g_3; omega) | (clear g_0 g_2 g_3; omega) | (clear g_0 g_1 g_3; omega) | (clear g_0 g_1 g_2; omega) | omega)) (by (first | (clear g_0 g_1 g_2 g_3 g_4 g_5 g_6; omega) | (clear g_0 g_1 g_2 g_3; omega) | (clear g_1 g_2 g_3; omega) | (clear g_0 g_2 g_3; omega) | (clear g_0 g_1 g_3; omega) | (clear g_0 g_1 g_2; omega) | omega))) (by rw [decide_eq_false (show ¬ ((-p7 + p8 : Int) < 108917793695 * p7 + 159561683699 * p8 + 68719476736 * q1) by (first | (clear g_0 g_1 g_2 g_3 g_4 g_5 g_6; omega) | (clear g_0 g_1 g_2 g_3; omega) | (clear g_1 g_2 g_3; omega) | (clear g_0 g_2 g_3; omega) | (clear g_0 g_1 g_3; omega) | (clear g_0 g_1 g_2; omega) | omega)), decide_eq_false (Int.ne_of_lt (show (108917793695 * p7 + 159561683699 * p8 + 68719476736 * q1 : Int) < -p7 + p8 by (first | (clear g_0 g_1 g_2 g_3 g_4 g_5 g_6; omega) | (clear g_0 g_1 g_2 g_3; omega) | (clear g_1 g_2 g_3; omega) | (clear g_0 g_2 g_3; omega) | (clear g_0 g_1 g_3; omega) | (clear g_0 g_1 g_2; omega) | omega)))]; rfl) ?_
        refine jT_xifF (t := 64) (pcN := 51) jIQ_38_48 rfl (by decide +kernel) rfl rfl ?_
        refine jT_xlload (v := (1, 108917793695 * p7 + 159561683699 * p8 + 68719476736 * q1)) (pcN := 53) jIQ_38_51 rfl rfl rfl ?_
        refine jT_xlconst (z := 0) (pcN := 54) jIQ_38_53 rfl rfl ?_
        refine jT_lcmp (a := 108917793695 * p7 + 159561683699 * p8 + 68719476736 * q1) (b := 0) (z := (-1)) (by rfl) (by rfl) (jwl_idd (by (first | (clear g_0 g_1 g_2 g_3 g_4 g_5 g_6; omega) | (clear g_0 g_1 g_2 g_3; omega) | (clear g_1 g_2 g_3; omega) | (clear g_0 g_2 g_3; omega) | (clear g_0 g_1 g_3; omega) | (clear g_0 g_1 g_2; omega) | omega)) (by (first | (clear g_0 g_1 g_2 g_3 g_4 g_5 g_6; omega) | (clear g_0 g_1 g_2 g_3; omega) | (clear g_1 g_2 g_3; omega) | (clear g_0 g_2 g_3; omega) | (clear g_0 g_1 g_3; omega) | (clear g_0 g_1 g_2; omega) | omega))) (jwl_idd (by (first | (clear g_0 g_1 g_2 g_3 g_4 g_5 g_6; omega) | (clear g_0 g_1 g_2 g_3; omega) | (clear g_1 g_2 g_3; omega) | (clear g_0 g_2 g_3; omega) | (clear g_0 g_1 g_3; omega) | (clear g_0 g_1 g_2; omega) | omega)) (by (first | (clear g_0 g_1 g_2 g_3 g_4 g_5 g_6; omega) | (clear g_0 g_1 g_2 g_3; omega) | (clear g_1 g_2 g_3; omega) | (clear g_0 g_2 g_3; omega) | (clear g_0 g_1 g_3; omega) | (clear g_0 g_1 g_2; omega) | omega))) (by rw [decide_eq_false (show ¬ ((0 : Int) < 108917793695 * p7 + 159561683699 * p8 + 68719476736 * q1) by (first | (clear g_0 g_1 g_2 g_3 g_4 g_5 g_6; omega) | (clear g_0 g_1 g_2 g_3; omega) | (clear g_1 g_2 g_3; omega) | (clear g_0 g_2 g_3; omega) | (clear g_0 g_1 g_3; omega) | (clear g_0 g_1 g_2; omega) | omega)), decide_eq_false (Int.ne_of_lt (show (108917793695 * p7 + 159561683699 * p8 + 68719476736 * q1 : Int) < 0 by (first | (clear g_0 g_1 g_2 g_3 g_4 g_5 g_6; omega) | (clear g_0 g_1 g_2 g_3; omega) | (clear g_1 g_2 g_3; omega) | (clear g_0 g_2 g_3; omega) | (clear g_0 g_1 g_3; omega) | (clear g_0 g_1 g_2; omega) | omega)))]; rfl) ?_
        refine jT_xifF (t := 62) (pcN := 58) jIQ_38_55 rfl (by decide +kernel) rfl rfl ?_
        refine jT_xiconst (k := (-1)) (pcN := 59) jIQ_38_58 rfl ?_
        refine jT_xgoto (pcN := 63) jIQ_38_59 rfl ?_
        exact jT_ret rfl (by decide) (by show 4 ≤ 4; decide) (by first | assumption | decide | (first | (clear g_0 g_1 g_2 g_3 g_4 g_5 g_6; omega) | (clear g_0 g_1 g_2 g_3; omega) | (clear g_1 g_2 g_3; omega) | (clear g_0 g_2 g_3; omega) | (clear g_0 g_1 g_3; omega) | (clear g_0 g_1 g_2; omega) | omega)) (by first | assumption | decide | (first | (clear g_0 g_1 g_2 g_3 g_4 g_5 g_6; omega) | (clear g_0 g_1 g_2 g_3; omega) | (clear g_1 g_2 g_3; omega) | (clear g_0 g_2 g_3; omega) | (clear g_0 g_1 g_3; omega) | (clear g_0 g_1 g_2; omega) | omega)) ⟨rfl, rfl, rfl⟩
  · rcases (show (0 ≤ p8) ∨ (p8 < 0) by (first | (clear g_0 g_1 g_2 g_3 g_4; omega) | (clear g_0 g_1 g_2 g_3; omega) | (clear g_1 g_2 g_3; omega) | (clear g_0 g_2 g_3; omega) | (clear g_0 g_1 g_3; omega) | (clear g_0 g_1 g_2; omega) | omega)) with g_5 | g_5
    · rcases (show (0 ≤ q1) ∨ (q1 < 0) by (first | (clear g_0 g_1 g_2 g_3 g_4 g_5; omega) | (clear g_0 g_1 g_2 g_3; omega) | (clear g_1 g_2 g_3; omega) | (clear g_0 g_2 g_3; omega) | (clear g_0 g_1 g_3; omega) | (clear g_0 g_1 g_2; omega) | omega)) with g_6 | g_6
      · refine jT_xaload_n (v := (4, 0)) (pcN := 1) jIQ_38_0 rfl rfl rfl ?_
        refine jT_xaload_n (v := (4, 1)) (pcN := 2) jIQ_38_1 rfl rfl rfl ?_
        refine jT_callA [0, 1] (y := 39) (pcN := 5) (dC := 0) (bc1 := 0) (bc2 := 0) (c1 := 0) (c2 := 0) (as := [(4, 0), (4, 1)]) (asC := [(4, 0), (4, 1)]) (LN := [(0, (4, 0)), (1, (4, 1))]) (stN := []) (hsC := [jgh, (101, [], [q1, p7, p8, 0, 0, 0])]) (ex := []) (v := (1, -p7 + p8)) (st2 := [(1, -p7 + p8)]) (hs2 := [(8, [(4, 2), (4, 3)], []), (101, [], [q1, p7, p8, 0, 0, 0]), jgh, jgh]) (jQ_39_90 (d := 0) (by first | assumption | decide | (first | (clear g_0 g_1 g_2 g_3 g_4 g_5 g_6; omega) | (clear g_0 g_1 g_2 g_3; omega) | (clear g_1 g_2 g_3; omega) | (clear g_0 g_2 g_3; omega) | (clear g_0 g_1 g_3; omega) | (clear g_0 g_1 g_2; omega) | omega)) (by first | assumption | decide | (first | (clear g_0 g_1 g_2 g_3 g_4 g_5 g_6; omega) | (clear g_0 g_1 g_2 g_3; omega) | (clear g_1 g_2 g_3; omega) | (clear g_0 g_2 g_3; omega) | (clear g_0 g_1 g_3; omega) | (clear g_0 g_1 g_2; omega) | omega)) (by first | assumption | decide | (first | (clear g_0 g_1 g_2 g_3 g_4 g_5 g_6; omega) | (clear g_0 g_1 g_2 g_3; omega) | (clear g_1 g_2 g_3; omega) | (clear g_0 g_2 g_3; omega) | (clear g_0 g_1 g_3; omega) | (clear g_0 g_1 g_2; omega) | omega)) (by first | assumption | decide | (first | (clear g_0 g_1 g_2 g_3 g_4 g_5 g_6; omega) | (clear g_0 g_1 g_2 g_3; omega) | (clear g_1 g_2 g_3; omega) | (clear g_0 g_2 g_3; omega) | (clear g_0 g_1 g_3; omega) | (clear g_0 g_1 g_2; omega) | omega)) (by first | assumption | decide | (first | (clear g_0 g_1 g_2 g_3 g_4 g_5 g_6; omega) | (clear g_0 g_1 g_2 g_3; omega) | (clear g_1 g_2 g_3; omega) | (clear g_0 g_2 g_3; omega) | (clear g_0 g_1 g_3; omega) | (clear g_0 g_1 g_2; omega) | omega)) (by first | assumption | decide | (first | (clear g_0 g_1 g_2 g_3 g_4 g_5 g_6; omega) | (clear g_0 g_1 g_2 g_3; omega) | (clear g_1 g_2 g_3; omega) | (clear g_0 g_2 g_3; omega) | (clear g_0 g_1 g_3; omega) | (clear g_0 g_1 g_2; omega) | omega)) (by first | assumption | decide | (first | (clear g_0 g_1 g_2 g_3 g_4 g_5 g_6; omega) | (clear g_0 g_1 g_2 g_3; omega) | (clear g_1 g_2 g_3; omega) | (clear g_0 g_2 g_3; omega) | (clear g_0 g_1 g_3; omega) | (clear g_0 g_1 g_2; omega) | omega)) (by first | assumption | decide | (first | (clear g_0 g_1 g_2 g_3 g_4 g_5 g_6; omega) | (clear g_0 g_1 g_2 g_3; omega) | (clear g_1 g_2 g_3; omega) | (clear g_0 g_2 g_3; omega) | (clear g_0 g_1 g_3; omega) | (clear g_0 g_1 g_2; omega) | omega)) (by first | assumption | decide | (first | (clear g_0 g_1 g_2 g_3 g_4 g_5 g_6; omega) | (clear g_0 g_1 g_2 g_3; omega) | (clear g_1 g_2 g_3; omega) | (clear g_0 g_2 g_3; omega) | (clear g_0 g_1 g_3; omega) | (clear g_0 g_1 g_2; omega) | omega)) (by first | assumption | decide | (first | (clear g_0 g_1 g_2 g_3 g_4 g_5 g_6; omega) | (clear g_0 g_1 g_2 g_3; omega) | (clear g_1 g_2 g_3; omega) | (clear g_0 g_2 g_3; omega) | (clear g_0 g_1 g_3; omega) | (clear g_0 g_1 g_2; omega) | omega))) (by rfl) (by rfl) (by rfl) (by rfl) ⟨rfl, rfl, trivial⟩ (by rfl) (by rfl) (by first | assumption | decide | (first | (clear g_0 g_1 g_2 g_3 g_4 g_5 g_6; omega) | (clear g_0 g_1 g_2 g_3; omega) | (clear g_1 g_2 g_3; omega) | (clear g_0 g_2 g_3; omega) | (clear g_0 g_1 g_3; omega) | (clear g_0 g_1 g_2; omega) | omega)) (by show 4 ≤ 4; (first | (clear g_0 g_1 g_2 g_3 g_4 g_5 g_6; omega) | (clear g_0 g_1 g_2 g_3; omega) | (clear g_1 g_2 g_3; omega) | (clear g_0 g_2 g_3; omega) | (clear g_0 g_1 g_3; omega) | (clear g_0 g_1 g_2; omega) | omega)) (by first | assumption | decide | (first | (clear g_0 g_1 g_2 g_3 g_4 g_5 g_6; omega) | (clear g_0 g_1 g_2 g_3; omega) | (clear g_1 g_2 g_3; omega) | (clear g_0 g_2 g_3; omega) | (clear g_0 g_1 g_3; omega) | (clear g_0 g_1 g_2; omega) | omega)) (by first | assumption | decide | (first | (clear g_0 g_1 g_2 g_3 g_4 g_5 g_6; omega) | (clear g_0 g_1 g_2 g_3; omega) | (clear g_1 g_2 g_3; omega) | (clear g_0 g_2 g_3; omega) | (clear g_0 g_1 g_3; omega) | (clear g_0 g_1 g_2; omega) | omega)) rfl rfl ?_
        refine jT_xlstore_n (v := (1, -p7 + p8)) (LN := [(2, (1, -p7 + p8)), (0, (4, 0)), (1, (4, 1))]) (pcN := 6) jIQ_38_5 rfl rfl rfl rfl ?_
        refine jT_xlload_n (v := (1, -p7 + p8)) (pcN := 7) jIQ_38_6 rfl rfl rfl ?_
        refine jT_xlconst (z := 0) (pcN := 8) jIQ_38_7 rfl rfl ?_
        refine jT_lcmp (a := -p7 + p8) (b := 0) (z := 1) (by rfl) (by rfl) (jwl_idd (by (first | (clear g_0 g_1 g_2 g_3 g_4 g_5 g_6; omega) | (clear g_0 g_1 g_2 g_3; omega) | (clear g_1 g_2 g_3; omega) | (clear g_0 g_2 g_3; omega) | (clear g_0 g_1 g_3; omega) | (clear g_0 g_1 g_2; omega) | omega)) (by (first | (clear g_0 g_1 g_2 g_3 g_4 g_5 g_6; omega) | (clear g_0 g_1 g_2 g_3; omega) | (clear g_1 g_2 g_3; omega) | (clear g_0 g_2 g_3; omega) | (clear g_0 g_1 g_3; omega) | (clear g_0 g_1 g_2; omega) | omega))) (jwl_idd (by (first | (clear g_0 g_1 g_2 g_3 g_4 g_5 g_6; omega) | (clear g_0 g_1 g_2 g_3; omega) | (clear g_1 g_2 g_3; omega) | (clear g_0 g_2 g_3; omega) | (clear g_0 g_1 g_3; omega) | (clear g_0 g_1 g_2; omega) | omega)) (by (first | (clear g_0 g_1 g_2 g_3 g_4 g_5 g_6; omega) | (clear g_0 g_1 g_2 g_3; omega) | (clear g_1 g_2 g_3; omega) | (clear g_0 g_2 g_3; omega) | (clear g_0 g_1 g_3; omega) | (clear g_0 g_1 g_2; omega) | omega))) (by rw [decide_eq_true (show (0 : Int) < -p7 + p8 by (first | (clear g_0 g_1 g_2 g_3 g_4 g_5 g_6; omega) | (clear g_0 g_1 g_2 g_3; omega) | (clear g_1 g_2 g_3; omega) | (clear g_0 g_2 g_3; omega) | (clear g_0 g_1 g_3; omega) | (clear g_0 g_1 g_2; omega) | omega))]; rfl) ?_
        refine jT_xifT (pcN := 20) jIQ_38_9 rfl (by decide +kernel) rfl ?_
        refine jT_xaload_n (v := (4, 0)) (pcN := 21) jIQ_38_20 rfl rfl rfl ?_
        refine jT_xaload_n (v := (4, 1)) (pcN := 22) jIQ_38_21 rfl rfl rfl ?_
        refine jT_xlload_n (v := (1, -p7 + p8)) (pcN := 23) jIQ_38_22 rfl rfl rfl ?_
        refine jT_callA [0, 1] (y := 40) (pcN := 26) (dC := 0) (bc1 := 0) (bc2 := 0) (c1 := 0) (c2 := 0) (as := [(4, 0), (4, 1), (1, -p7 + p8)]) (asC := [(4, 0), (4, 1), (1, -p7 + p8)]) (LN := [(2, (1, -p7 + p8)), (0, (4, 0)), (1, (4, 1))]) (stN := []) (hsC := [jgh, (101, [], [q1, p7, p8, 0, 0, 0])]) (ex := []) (v := (0, 1)) (st2 := [(0, 1)]) (hs2 := [(8, [(4, 2), (4, 3)], []), (101, [], [q1, p7, p8, 0, 0, 0]), jgh, jgh]) (jQ_40_91 (d := 0) (by first | assumption | decide | (first | (clear g_0 g_1 g_2 g_3 g_4 g_5 g_6; omega) | (clear g_0 g_1 g_2 g_3; omega) | (clear g_1 g_2 g_3; omega) | (clear g_0 g_2 g_3; omega) | (clear g_0 g_1 g_3; omega) | (clear g_0 g_1 g_2; omega) | omega)) (by first | assumption | decide | (first | (clear g_0 g_1 g_2 g_3 g_4 g_5 g_6; omega) | (clear g_0 g_1 g_2 g_3; omega) | (clear g_1 g_2 g_3; omega) | (clear g_0 g_2 g_3; omega) | (clear g_0 g_1 g_3; omega) | (clear g_0 g_1 g_2; omega) | omega)) (by first | assumption | decide | (first | (clear g_0 g_1 g_2 g_3 g_4 g_5 g_6; omega) | (clear g_0 g_1 g_2 g_3; omega) | (clear g_1 g_2 g_3; omega) | (clear g_0 g_2 g_3; omega) | (clear g_0 g_1 g_3; omega) | (clear g_0 g_1 g_2; omega) | omega)) (by first | assumption | decide | (first | (clear g_0 g_1 g_2 g_3 g_4 g_5 g_6; omega) | (clear g_0 g_1 g_2 g_3; omega) | (clear g_1 g_2 g_3; omega) | (clear g_0 g_2 g_3; omega) | (clear g_0 g_1 g_3; omega) | (clear g_0 g_1 g_2; omega) | omega)) (by first | assumption | decide | (first | (clear g_0 g_1 g_2 g_3 g_4 g_5 g_6; omega) | (clear g_0 g_1 g_2 g_3; omega) | (clear g_1 g_2 g_3; omega) | (clear g_0 g_2 g_3; omega) | (clear g_0 g_1 g_3; omega) | (clear g_0 g_1 g_2; omega) | omega)) (by first | assumption | decide | (first | (clear g_0 g_1 g_2 g_3 g_4 g_5 g_6; omega) | (clear g_0 g_1 g_2 g_3; omega) | (clear g_1 g_2 g_3; omega) | (clear g_0 g_2 g_3; omega) | (clear g_0 g_1 g_3; omega) | (clear g_0 g_1 g_2; omega) | omega)) (by first | assumption | decide | (first | (clear g_0 g_1 g_2 g_3 g_4 g_5 g_6; omega) | (clear g_0 g_1 g_2 g_3; omega) | (clear g_1 g_2 g_3; omega) | (clear g_0 g_2 g_3; omega) | (clear g_0 g_1 g_3; omega) | (clear g_0 g_1 g_2; omega) | omega)) (by first | assumption | decide | (first | (clear g_0 g_1 g_2 g_3 g_4 g_5 g_6; omega) | (clear g_0 g_1 g_2 g_3; omega) | (clear g_1 g_2 g_3; omega) | (clear g_0 g_2 g_3; omega) | (clear g_0 g_1 g_3; omega) | (clear g_0 g_1 g_2; omega) | omega)) (by first | assumption | decide | (first | (clear g_0 g_1 g_2 g_3 g_4 g_5 g_6; omega) | (clear g_0 g_1 g_2 g_3; omega) | (clear g_1 g_2 g_3; omega) | (clear g_0 g_2 g_3; omega) | (clear g_0 g_1 g_3; omega) | (clear g_0 g_1 g_2; omega) | omega)) (by first | assumption | decide | (first | (clear g_0 g_1 g_2 g_3 g_4 g_5 g_6; omega) | (clear g_0 g_1 g_2 g_3; omega) | (clear g_1 g_2 g_3; omega) | (clear g_0 g_2 g_3; omega) | (clear g_0 g_1 g_3; omega) | (clear g_0 g_1 g_2; omega) | omega))) (by rfl) (by rfl) (by rfl) (by rfl) ⟨rfl, rfl, trivial⟩ (by rfl) (by rfl) (by first | assumption | decide | (first | (clear g_0 g_1 g_2 g_3 g_4 g_5 g_6; omega) | (clear g_0 g_1 g_2 g_3; omega) | (clear g_1 g_2 g_3; omega) | (clear g_0 g_2 g_3; omega) | (clear g_0 g_1 g_3; omega) | (clear g_0 g_1 g_2; omega) | omega)) (by show 4 ≤ 4; (first | (clear g_0 g_1 g_2 g_3 g_4 g_5 g_6; omega) | (clear g_0 g_1 g_2 g_3; omega) | (clear g_1 g_2 g_3; omega) | (clear g_0 g_2 g_3; omega) | (clear g_0 g_1 g_3; omega) | (clear g_0 g_1 g_2; omega) | omega)) (by first | assumption | decide | (first | (clear g_0 g_1 g_2 g_3 g_4 g_5 g_6; omega) | (clear g_0 g_1 g_2 g_3; omega) | (clear g_1 g_2 g_3; omega) | (clear g_0 g_2 g_3; omega) | (clear g_0 g_1 g_3; omega) | (clear g_0 g_1 g_2; omega) | omega)) (by first | assumption | decide | (first | (clear g_0 g_1 g_2 g_3 g_4 g_5 g_6; omega) | (clear g_0 g_1 g_2 g_3; omega) | (clear g_1 g_2 g_3; omega) | (clear g_0 g_2 g_3; omega) | (clear g_0 g_1 g_3; omega) | (clear g_0 g_1 g_2; omega) | omega)) rfl rfl ?_
        refine jT_xifF (t := 64) (pcN := 29) jIQ_38_26 rfl (by decide +kernel) rfl rfl ?_
        refine jT_xaload_n (v := (4, 0)) (pcN := 30) jIQ_38_29 rfl rfl rfl ?_
        refine jT_xaload_n (v := (4, 1)) (pcN := 31) jIQ_38_30 rfl rfl rfl ?_
        refine jT_callA [0, 1] (y := 41) (pcN := 34) (dC := 0) (bc1 := 0) (bc2 := 0) (c1 := 0) (c2 := 0) (as := [(4, 0), (4, 1)]) (asC := [(4, 0), (4, 1)]) (LN := [(2, (1, -p7 + p8)), (0, (4, 0)), (1, (4, 1))]) (stN := []) (hsC := [jgh, (101, [], [q1, p7, p8, 0, 0, 0])]) (ex := []) (v := (1, 108917793695 * p7 + 159561683699 * p8 + 68719476736 * q1)) (st2 := [(1, 108917793695 * p7 + 159561683699 * p8 + 68719476736 * q1)]) (hs2 := [(8, [(4, 2), (4, 3)], []), (101, [], [q1, p7, p8, 0, 0, 0]), jgh, jgh]) (jQ_41_92 (d := 0) (by first | assumption | decide | (first | (clear g_0 g_1 g_2 g_3 g_4 g_5 g_6; omega) | (clear g_0 g_1 g_2 g_3; omega) | (clear g_1 g_2 g_3; omega) | (clear g_0 g_2 g_3; omega) | (clear g_0 g_1 g_3; omega) | (clear g_0 g_1 g_2; omega) | omega)) (by first | assumption | decide | (first | (clear g_0 g_1 g_2 g_3 g_4 g_5 g_6; omega) | (clear g_0 g_1 g_2 g_3; omega) | (clear g_1 g_2 g_3; omega) | (clear g_0 g_2 g_3; omega) | (clear g_0 g_1 g_3; omega) | (clear g_0 g_1 g_2; omega) | omega)) (by first | assumption | decide | (first | (clear g_0 g_1 g_2 g_3 g_4 g_5 g_6; omega) | (clear g_0 g_1 g_2 g_3; omega) | (clear g_1 g_2 g_3; omega) | (clear g_0 g_2 g_3; omega) | (clear g_0 g_1 g_3; omega) | (clear g_0 g_1 g_2; omega) | omega)) (by first | assumption | decide | (first | (clear g_0 g_1 g_2 g_3 g_4 g_5 g_6; omega) | (clear g_0 g_1 g_2 g_3; omega) | (clear g_1 g_2 g_3; omega) | (clear g_0 g_2 g_3; omega) | (clear g_0 g_1 g_3; omega) | (clear g_0 g_1 g_2; omega) | omega)) (by first | assumption | decide | (first | (clear g_0 g_1 g_2 g_3 g_4 g_5 g_6; omega) | (clear g_0 g_1 g_2 g_3; omega) | (clear g_1 g_2 g_3; omega) | (clear g_0 g_2 g_3; omega) | (clear g_0 g_1 g_3; omega) | (clear g_0 g_1 g_2; omega) | omega)) (by first | assumption | decide | (first | (clear g_0 g_1 g_2 g_3 g_4 g_5 g_6; omega) | (clear g_0 g_1 g_2 g_3; omega) | (clear g_1 g_2 g_3; omega) | (clear g_0 g_2 g_3; omega) | (clear g_0 g_1 g_3; omega) | (clear g_0 g_1 g_2; omega) | omega)) (by first | assumption | decide | (first | (clear g_0 g_1 g_2 g_3 g_4 g_5 g_6; omega) | (clear g_0 g_1 g_2 g_3; omega) | (clear g_1 g_2 g_3; omega) | (clear g_0 g_2 g_3; omega) | (clear g_0 g_1 g_3; omega) | (clear g_0 g_1 g_2; omega) | omega)) (by first | assumption | decide | (first | (clear g_0 g_1 g_2 g_3 g_4 g_5 g_6; omega) | (clear g_0 g_1 g_2 g_3; omega) | (clear g_1 g_2 g_3; omega) | (clear g_0 g_2 g_3; omega) | (clear g_0 g_1 g_3; omega) | (clear g_0 g_1 g_2; omega) | omega)) (by first | assumption | decide | (first | (clear g_0 g_1 g_2 g_3 g_4 g_5 g_6; omega) | (clear g_0 g_1 g_2 g_3; omega) | (clear g_1 g_2 g_3; omega) | (clear g_0 g_2 g_3; omega) | (clear g_0 g_1 g_3; omega) | (clear g_0 g_1 g_2; omega) | omega)) (by first | assumption | decide | (first | (clear g_0 g_1 g_2 g_3 g_4 g_5 g_6; omega) | (clear g_0 g_1 g_2 g_3; omega) | (clear g_1 g_2 g_3; omega) | (clear g_0 g_2 g_3; omega) | (clear g_0 g_1 g_3; omega) | (clear g_0 g_1 g_2; omega) | omega))) (by rfl) (by rfl) (by rfl) (by rfl) ⟨rfl, rfl, trivial⟩ (by rfl) (by rfl) (by first | assumption | decide | (first | (clear g_0 g_1 g_2 g_3 g_4 g_5 g_6; omega) | (clear g_0 g_1 g_2 g_3; omega) | (clear g_1 g_2 g_3; omega) | (clear g_0 g_2 g_3; omega) | (clear g_0 g_1 g_3; omega) | (clear g_0 g_1 g_2; omega) | omega)) (by show 4 ≤ 4; (first | (clear g_0 g_1 g_2 g_3 g_4 g_5 g_6; omega) | (clear g_0 g_1 g_2 g_3; omega) | (clear g_1 g_2 g_3; omega) | (clear g_0 g_2 g_3; omega) | (clear g_0 g_1 g_3; omega) | (clear g_0 g_1 g_2; omega) | omega)) (by first | assumption | decide | (first | (clear g_0 g_1 g_2 g_3 g_4 g_5 g_6; omega) | (clear g_0 g_1 g_2 g_3; omega) | (clear g_1 g_2 g_3; omega) | (clear g_0 g_2 g_3; omega) | (clear g_0 g_1 g_3; omega) | (clear g_0 g_1 g_2; omega) | omega)) (by first | assumption | decide | (first | (clear g_0 g_1 g_2 g_3 g_4 g_5 g_6; omega) | (clear g_0 g_1 g_2 g_3; omega) | (clear g_1 g_2 g_3; omega) | (clear g_0 g_2 g_3; omega) | (clear g_0 g_1 g_3; omega) | (clear g_0 g_1 g_2; omega) | omega)) rfl rfl ?_
        refine jT_xlstore (v := (1, 108917793695 * p7 + 159561683699 * p8 + 68719476736 * q1)) (LN := [(4, (1, 108917793695 * p7 + 159561683699 * p8 + 68719476736 * q1)), (2, (1, -p7 + p8)), (0, (4, 0)), (1, (4, 1))]) (pcN := 36) jIQ_38_34 rfl rfl rfl rfl ?_
        refine jT_xlload (v := (1, 108917793695 * p7 + 159561683699 * p8 + 68719476736 * q1)) (pcN := 38) jIQ_38_36 rfl rfl rfl ?_
        refine jT_xlload_n (v := (1, -p7 + p8)) (pcN := 39) jIQ_38_38 rfl rfl rfl ?_
        refine jT_lcmp (a := 108917793695 * p7 + 159561683699 * p8 + 68719476736 * q1) (b := -p7 + p8) (z := (-1)) (by rfl) (by rfl) (jwl_idd (by (first | (clear g_0 g_1 g_2 g_3 g_4 g_5 g_6; omega) | (clear g_0 g_1 g_2 g_3; omega) | (clear g_1 g_2 g_3; omega) | (clear g_0 g_2 g_3; omega) | (clear g_0 g_1 g_3; omega) | (clear g_0 g_1 g_2; omega) | omega)) (by (first | (clear g_0 g_1 g_2 g_3 g_4 g_5 g_6; omega) | (clear g_0 g_1 g_2 g_3; omega) | (clear g_1 g_2 g_3; omega) | (clear g_0 g_2 g_3; omega) | (clear g_0 g_1 g_3; omega) | (clear g_0 g_1 g_2; omega) | omega))) (jwl_idd (by (first | (clear g_0 g_1 g_2 g_3 g_4 g_5 g_6; omega) | (clear g_0 g_1 g_2 g_3; omega) | (clear g_1 g_2 g_3; omega) | (clear g_0 g_2 g_3; omega) | (clear g_0 g_1 g_3; omega) | (clear g_0 g_1 g_2; omega) | omega)) (by (first | (clear g_0 g_1 g_2 g_3 g_4 g_5 g_6; omega) | (clear g_0 g_1 g_2 g_3; omega) | (clear g_1 g_2 g_3; omega) | (clear g_0 g_2 g_3; omega) | (clear g_0 g_1 g_3; omega) | (clear g_0 g_1 g_2; omega) | omega))) (by rw [decide_eq_false (show ¬ ((-p7 + p8 : Int) < 108917793695 * p7 + 159561683699 * p8 + 68719476736 * q1) by (first | (clear g_0 g_1 g_2 g_3 g_4 g_5 g_6; omega) | (clear g_0 g_1 g_2 g_3; omega) | (clear g_1 g_2 g_3; omega) | (clear g_0 g_2 g_3; omega) | (clear g_0 g_1 g_3; omega) | (clear g_0 g_1 g_2; omega) | omega)), decide_eq_false (Int.ne_of_lt (show (108917793695 * p7 + 159561683699 * p8 + 68719476736 * q1 : Int) < -p7 + p8 by (first | (clear g_0 g_1 g_2 g_3 g_4 g_5 g_6; omega) | (clear g_0 g_1 g_2 g_3; omega) | (clear g_1 g_2 g_3; omega) | (clear g_0 g_2 g_3; omega) | (clear g_0 g_1 g_3; omega) | (clear g_0 g_1 g_2; omega) | omega)))]; rfl) ?_
        refine jT_xifF (t := 51) (pcN := 43) jIQ_38_40 rfl (by decide +kernel) rfl rfl ?_
        refine jT_xlload (v := (1, 108917793695 * p7 + 159561683699 * p8 + 68719476736 * q1)) (pcN := 45) jIQ_38_43 rfl rfl rfl ?_
        refine jT_xlload_n (v := (1, -p7 + p8)) (pcN := 46) jIQ_38_45 rfl rfl rfl ?_
        refine jT_adv 1 (pcN := 47) (LN := [(4, (1, 108917793695 * p7 + 159561683699 * p8 + 68719476736 * q1)), (2, (1, -p7 + p8)), (0, (4, 0)), (1, (4, 1))]) (stN := [(1, -(-p7 + p8)), (1, 108917793695 * p7 + 159561683699 * p8 + 68719476736 * q1)]) (hsN := [(8, [(4, 2), (4, 3)], []), (101, [], [q1, p7, p8, 0, 0, 0]), jgh, jgh]) (c1 := 0) (s1 := 0) (c2 := 0) (s2 := 0) (by exact rfl) ?_ (by first | assumption | decide | (first | (clear g_0 g_1 g_2 g_3 g_4 g_5 g_6; omega) | (clear g_0 g_1 g_2 g_3; omega) | (clear g_1 g_2 g_3; omega) | (clear g_0 g_2 g_3; omega) | (clear g_0 g_1 g_3; omega) | (clear g_0 g_1 g_2; omega) | omega)) (by first | assumption | decide | (first | (clear g_0 g_1 g_2 g_3 g_4 g_5 g_6; omega) | (clear g_0 g_1 g_2 g_3; omega) | (clear g_1 g_2 g_3; omega) | (clear g_0 g_2 g_3; omega) | (clear g_0 g_1 g_3; omega) | (clear g_0 g_1 g_2; omega) | omega))
        refine jT_eq (LN := [(4, (1, 108917793695 * p7 + 159561683699 * p8 + 68719476736 * q1)), (2, (1, -p7 + p8)), (0, (4, 0)), (1, (4, 1))]) (stN := [(1, p7 - p8), (1, 108917793695 * p7 + 159561683699 * p8 + 68719476736 * q1)]) (hsN := [(8, [(4, 2), (4, 3)], []), (101, [], [q1, p7, p8, 0, 0, 0]), jgh, jgh]) (rfl) (by simp only [List.cons.injEq, Prod.mk.injEq, and_true, true_and] <;> ((try unfold jw); (try unfold jwl); (first | (clear g_0 g_1 g_2 g_3 g_4 g_5 g_6; omega) | (clear g_0 g_1 g_2 g_3; omega) | (clear g_1 g_2 g_3; omega) | (clear g_0 g_2 g_3; omega) | (clear g_0 g_1 g_3; omega) | (clear g_0 g_1 g_2; omega) | omega))) (rfl) ?_
        refine jT_lcmp (a := 108917793695 * p7 + 159561683699 * p8 + 68719476736 * q1) (b := p7 - p8) (z := (-1)) (by rfl) (by rfl) (jwl_idd (by (first | (clear g_0 g_1 g_2 g_3 g_4 g_5 g_6; omega) | (clear g_0 g_1 g_2 g_3; omega) | (clear g_1 g_2 g_3; omega) | (clear g_0 g_2 g_3; omega) | (clear g_0 g_1 g_3; omega) | (clear g_0 g_1 g_2; omega) | omega)) (by (first | (clear g_0 g_1 g_2 g_3 g_4 g_5 g_6; omega) | (clear g_0 g_1 g_2 g_3; omega) | (clear g_1 g_2 g_3; omega) | (clear g_0 g_2 g_3; omega) | (clear g_0 g_1 g_3; omega) | (clear g_0 g_1 g_2; omega) | omega))) (jwl_idd (by (first | (clear g_0 g_1 g_2 g_3 g_4 g_5 g_6; omega) | (clear g_0 g_1 g_2 g_3; omega) | (clear g_1 g_2 g_3; omega) | (clear g_0 g_2 g_3; omega) | (clear g_0 g_1 g_3; omega) | (clear g_0 g_1 g_2; omega) | omega)) (by (first | (clear g_0 g_1 g_2 g_3 g_4 g_5 g_6; omega) | (clear g_0 g_1 g_2 g_3; omega) | (clear g_1 g_2 g_3; omega) | (clear g_0 g_2 g_3; omega) | (clear g_0 g_1 g_3; omega) | (clear g_0 g_1 g_2; omega) | omega))) (by rw [decide_eq_false (show ¬ ((p7 - p8 : Int) < 108917793695 * p7 + 159561683699 * p8 + 68719476736 * q1) by (first | (clear g_0 g_1 g_2 g_3 g_4 g_5 g_6; omega) | (clear g_0 g_1 g_2 g_3; omega) | (clear g_1 g_2 g_3; omega) | (clear g_0 g_2 g_3; omega) | (clear g_0 g_1 g_3; omega) | (clear g_0 g_1 g_2; omega) | omega)), decide_eq_false (Int.ne_of_lt (show (108917793695 * p7 + 159561683699 * p8 + 68719476736 * q1 : Int) < p7 - p8 by (first | (clear g_0 g_1 g_2 g_3 g_4 g_5 g_6; omega) | (clear g_0 g_1 g_2 g_3; omega) | (clear g_1 g_2 g_3; omega) | (clear g_0 g_2 g_3; omega) | (clear g_0 g_1 g_3; omega) | (clear g_0 g_1 g_2; omega) | omega)))]; rfl) ?_
        refine jT_xifF (t := 64) (pcN := 51) jIQ_38_48 rfl (by decide +kernel) rfl rfl ?_
        refine jT_xlload (v := (1, 108917793695 * p7 + 159561683699 * p8 + 68719476736 * q1)) (pcN := 53) jIQ_38_51 rfl rfl rfl ?_
        refine jT_xlconst (z := 0) (pcN := 54) jIQ_38_53 rfl rfl ?_
        refine jT_lcmp (a := 108917793695 * p7 + 159561683699 * p8 + 68719476736 * q1) (b := 0) (z := (-1)) (by rfl) (by rfl) (jwl_idd (by (first | (clear g_0 g_1 g_2 g_3 g_4 g_5 g_6; omega) | (clear g_0 g_1 g_2 g_3; omega) | (clear g_1 g_2 g_3; omega) | (clear g_0 g_2 g_3; omega) | (clear g_0 g_1 g_3; omega) | (clear g_0 g_1 g_2; omega) | omega)) (by (first | (clear g_0 g_1 g_2 g_3 g_4 g_5 g_6; omega) | (clear g_0 g_1 g_2 g_3; omega) | (clear g_1 g_2 g_3; omega) | (clear g_0 g_2 g_3; omega) | (clear g_0 g_1 g_3; omega) | (clear g_0 g_1 g_2; omega) | omega))) (jwl_idd (by (first | (clear g_0 g_1 g_2 g_3 g_4 g_5 g_6; omega) | (clear g_0 g_1 g_2 g_3; omega) | (clear g_1 g_2 g_3; omega) | (clear g_0 g_2 g_3; omega) | (clear g_0 g_1 g_3; omega) | (clear g_0 g_1 g_2; omega) | omega)) (by (first | (clear g_0 g_1 g_2 g_3 g_4 g_5 g_6; omega) | (clear g_0 g_1 g_2 g_3; omega) | (clear g_1 g_2 g_3; omega) | (clear g_0 g_2 g_3; omega) | (clear g_0 g_1 g_3; omega) | (clear g_0 g_1 g_2; omega) | omega))) (by rw [decide_eq_false (show ¬ ((0 : Int) < 108917793695 * p7 + 159561683699 * p8 + 68719476736 * q1) by (first | (clear g_0 g_1 g_2 g_3 g_4 g_5 g_6; omega) | (clear g_0 g_1 g_2 g_3; omega) | (clear g_1 g_2 g_3; omega) | (clear g_0 g_2 g_3; omega) | (clear g_0 g_1 g_3; omega) | (clear g_0 g_1 g_2; omega) | omega)), decide_eq_false (Int.ne_of_lt (show (108917793695 * p7 + 159561683699 * p8 + 68719476736 * q1 : Int) < 0 by (first | (clear g_0 g_1 g_2 g_3 g_4 g_5 g_6; omega) | (clear g_0 g_1 g_2 g_3; omega) | (clear g_1 g_2 g_3; omega) | (clear g_0 g_2 g_3; omega) | (clear g_0 g_1 g_3; omega) | (clear g_0 g_1 g_2; omega) | omega)))]; rfl) ?_
        refine jT_xifF (t := 62) (pcN := 58) jIQ_38_55 rfl (by decide +kernel) rfl rfl ?_
        refine jT_xiconst (k := (-1)) (pcN := 59) jIQ_38_58 rfl ?_
        refine jT_xgoto (pcN := 63) jIQ_38_59 rfl ?_
        exact jT_ret rfl (by decide) (by show 4 ≤ 4; decide) (by first | assumption | decide | (first | (clear g_0 g_1 g_2 g_3 g_4 g_5 g_6; omega) | (clear g_0 g_1 g_2 g_3; omega) | (clear g_1 g_2 g_3; omega) | (clear g_0 g_2 g_3; omega) | (clear g_0 g_1 g_3; omega) | (clear g_0 g_1 g_2; omega) | omega)) (by first | assumption | decide | (first | (clear g_0 g_1 g_2 g_3 g_4 g_5 g_6; omega) | (clear g_0 g_1 g_2 g_3; omega) | (clear g_1 g_2 g_3; omega) | (clear g_0 g_2 g_3; omega) | (clear g_0 g_1 g_3; omega) | (clear g_0 g_1 g_2; omega) | omega)) ⟨rfl, rfl, rfl⟩
      · refine jT_xaload_n (v := (4, 0)) (pcN := 1) jIQ_38_0 rfl rfl rfl ?_
        refine jT_xaload_n (v := (4, 1)) (pcN := 2) jIQ_38_1 rfl rfl rfl ?_
        refine jT_callA [0, 1] (y := 39) (pcN := 5) (dC := 0) (bc1 := 0) (bc2 := 0) (c1 := 0) (c2 := 0) (as := [(4, 0), (4, 1)]) (asC := [(4, 0), (4, 1)]) (LN := [(0, (4, 0)), (1, (4, 1))]) (stN := []) (hsC := [jgh, (101, [], [q1, p7, p8, 0, 0, 0])]) (ex := []) (v := (1, -p7 + p8)) (st2 := [(1, -p7 + p8)]) (hs2 := [(8, [(4, 2), (4, 3)], []), (101, [], [q1, p7, p8, 0, 0, 0]), jgh, jgh]) (jQ_39_87 (d := 0) (by first | assumption | decide | (first | (clear g_0 g_1 g_2 g_3 g_4 g_5 g_6; omega) | (clear g_0 g_1 g_2 g_3; omega) | (clear g_1 g_2 g_3; omega) | (clear g_0 g_2 g_3; omega) | (clear g_0 g_1 g_3; omega) | (clear g_0 g_1 g_2; omega) | omega)) (by first | assumption | decide | (first | (clear g_0 g_1 g_2 g_3 g_4 g_5 g_6; omega) | (clear g_0 g_1 g_2 g_3; omega) | (clear g_1 g_2 g_3; omega) | (clear g_0 g_2 g_3; omega) | (clear g_0 g_1 g_3; omega) | (clear g_0 g_1 g_2; omega) | omega)) (by first | assumption | decide | (first | (clear g_0 g_1 g_2 g_3 g_4 g_5 g_6; omega) | (clear g_0 g_1 g_2 g_3; omega) | (clear g_1 g_2 g_3; omega) | (clear g_0 g_2 g_3; omega) | (clear g_0 g_1 g_3; omega) | (clear g_0 g_1 g_2; omega) | omega)) (by first | assumption | decide | (first | (clear g_0 g_1 g_2 g_3 g_4 g_5 g_6; omega) | (clear g_0 g_1 g_2 g_3; omega) | (clear g_1 g_2 g_3; omega) | (clear g_0 g_2 g_3; omega) | (clear g_0 g_1 g_3; omega) | (clear g_0 g_1 g_2; omega) | omega)) (by first | assumption | decide | (first | (clear g_0 g_1 g_2 g_3 g_4 g_5 g_6; omega) | (clear g_0 g_1 g_2 g_3; omega) | (clear g_1 g_2 g_3; omega) | (clear g_0 g_2 g_3; omega) | (clear g_0 g_1 g_3; omega) | (clear g_0 g_1 g_2; omega) | omega)) (by first | assumption | decide | (first | (clear g_0 g_1 g_2 g_3 g_4 g_5 g_6; omega) | (clear g_0 g_1 g_2 g_3; omega) | (clear g_1 g_2 g_3; omega) | (clear g_0 g_2 g_3; omega) | (clear g_0 g_1 g_3; omega) | (clear g_0 g_1 g_2; omega) | omega)) (by first | assumption | decide | (first | (clear g_0 g_1 g_2 g_3 g_4 g_5 g_6; omega) | (clear g_0 g_1 g_2 g_3; omega) | (clear g_1 g_2 g_3; omega) | (clear g_0 g_2 g_3; omega) | (clear g_0 g_1 g_3; omega) | (clear g_0 g_1 g_2; omega) | omega)) (by first | assumption | decide | (first | (clear g_0 g_1 g_2 g_3 g_4 g_5 g_6; omega) | (clear g_0 g_1 g_2 g_3; omega) | (clear g_1 g_2 g_3; omega) | (clear g_0 g_2 g_3; omega) | (clear g_0 g_1 g_3; omega) | (clear g_0 g_1 g_2; omega) | omega)) (by first | assumption | decide | (first | (clear g_0 g_1 g_2 g_3 g_4 g_5 g_6; omega) | (clear g_0 g_1 g_2 g_3; omega) | (clear g_1 g_2 g_3; omega) | (clear g_0 g_2 g_3; omega) | (clear g_0 g_1 g_3; omega) | (clear g_0 g_1 g_2; omega) | omega)) (by first | assumption | decide | (first | (clear g_0 g_1 g_2 g_3 g_4 g_5 g_6; omega) | (clear g_0 g_1 g_2 g_3; omega) | (clear g_1 g_2 g_3; omega) | (clear g_0 g_2 g_3; omega) | (clear g_0 g_1 g_3; omega) | (clear g_0 g_1 g_2; omega) | omega))) (by rfl) (by rfl) (by rfl) (by rfl) ⟨rfl, rfl, trivial⟩ (by rfl) (by rfl) (by first | assumption | decide | (first | (clear g_0 g_1 g_2 g_3 g_4 g_5 g_6; omega) | (clear g_0 g_1 g_2 g_3; omega) | (clear g_1 g_2 g_3; omega) | (clear g_0 g_2 g_3; omega) | (clear g_0 g_1 g_3; omega) | (clear g_0 g_1 g_2; omega) | omega)) (by show 4 ≤ 4; (first | (clear g_0 g_1 g_2 g_3 g_4 g_5 g_6; omega) | (clear g_0 g_1 g_2 g_3; omega) | (clear g_1 g_2 g_3; omega) | (clear g_0 g_2 g_3; omega) | (clear g_0 g_1 g_3; omega) | (clear g_0 g_1 g_2; omega) | omega)) (by first | assumption | decide | (first | (clear g_0 g_1 g_2 g_3 g_4 g_5 g_6; omega) | (clear g_0 g_1 g_2 g_3; omega) | (clear g_1 g_2 g_3; omega) | (clear g_0 g_2 g_3; omega) | (clear g_0 g_1 g_3; omega) | (clear g_0 g_1 g_2; omega) | omega)) (by first | assumption | decide | (first | (clear g_0 g_1 g_2 g_3 g_4 g_5 g_6; omega) | (clear g_0 g_1 g_2 g_3; omega) | (clear g_1 g_2 g_3; omega) | (clear g_0 g_2 g_3; omega) | (clear g_0 g_1 g_3; omega) | (clear g_0 g_1 g_2; omega) | omega)) rfl rfl ?_
        refine jT_xlstore_n (v := (1, -p7 + p8)) (LN := [(2, (1, -p7 + p8)), (0, (4, 0)), (1, (4, 1))]) (pcN := 6) jIQ_38_5 rfl rfl rfl rfl ?_
        refine jT_xlload_n (v := (1, -p7 + p8)) (pcN := 7) jIQ_38_6 rfl rfl rfl ?_
        refine jT_xlconst (z := 0) (pcN := 8) jIQ_38_7 rfl rfl ?_
        refine jT_lcmp (a := -p7 + p8) (b := 0) (z := 1) (by rfl) (by rfl) (jwl_idd (by (first | (clear g_0 g_1 g_2 g_3 g_4 g_5 g_6; omega) | (clear g_0 g_1 g_2 g_3; omega) | (clear g_1 g_2 g_3; omega) | (clear g_0 g_2 g_3; omega) | (clear g_0 g_1 g_3; omega) | (clear g_0 g_1 g_2; omega) | omega)) (by (first | (clear g_0 g_1 g_2 g_3 g_4 g_5 g_6; omega) | (clear g_0 g_1 g_2 g_3; omega) | (clear g_1 g_2 g_3; omega) | (clear g_0 g_2 g_3; omega) | (clear g_0 g_1 g_3; omega) | (clear g_0 g_1 g_2; omega) | omega))) (jwl_idd (by (first | (clear g_0 g_1 g_2 g_3 g_4 g_5 g_6; omega) | (clear g_0 g_1 g_2 g_3; omega) | (clear g_1 g_2 g_3; omega) | (clear g_0 g_2 g_3; omega) | (clear g_0 g_1 g_3; omega) | (clear g_0 g_1 g_2; omega) | omega)) (by (first | (clear g_0 g_1 g_2 g_3 g_4 g_5 g_6; omega) | (clear g_0 g_1 g_2 g_3; omega) | (clear g_1 g_2 g_3; omega) | (clear g_0 g_2 g_3; omega) | (clear g_0 g_1 g_3; omega) | (clear g_0 g_1 g_2; omega) | omega))) (by rw [decide_eq_true (show (0 : Int) < -p7 + p8 by (first | (clear g_0 g_1 g_2 g_3 g_4 g_5 g_6; omega) | (clear g_0 g_1 g_2 g_3; omega) | (clear g_1 g_2 g_3; omega) | (clear g_0 g_2 g_3; omega) | (clear g_0 g_1 g_3; omega) | (clear g_0 g_1 g_2; omega) | omega))]; rfl) ?_
        refine jT_xifT (pcN := 20) jIQ_38_9 rfl (by decide +kernel) rfl ?_
        refine jT_xaload_n (v := (4, 0)) (pcN := 21) jIQ_38_20 rfl rfl rfl ?_
        refine jT_xaload_n (v := (4, 1)) (pcN := 22) jIQ_38_21 rfl rfl rfl ?_
        refine jT_xlload_n (v := (1, -p7 + p8)) (pcN := 23) jIQ_38_22 rfl rfl rfl ?_
        refine jT_callA [0, 1] (y := 40) (pcN := 26) (dC := 0) (bc1 := 0) (bc2 := 0) (c1 := 0) (c2 := 0) (as := [(4, 0), (4, 1), (1, -p7 + p8)]) (asC := [(4, 0), (4, 1), (1, -p7 + p8)]) (LN := [(2, (1, -p7 + p8)), (0, (4, 0)), (1, (4, 1))]) (stN := []) (hsC := [jgh, (101, [], [q1, p7, p8, 0, 0, 0])]) (ex := []) (v := (0, 1)) (st2 := [(0, 1)]) (hs2 := [(8, [(4, 2), (4, 3)], []), (101, [], [q1, p7, p8, 0, 0, 0]), jgh, jgh]) (jQ_40_88 (d := 0) (by first | assumption | decide | (first | (clear g_0 g_1 g_2 g_3 g_4 g_5 g_6; omega) | (clear g_0 g_1 g_2 g_3; omega) | (clear g_1 g_2 g_3; omega) | (clear g_0 g_2 g_3; omega) | (clear g_0 g_1 g_3; omega) | (clear g_0 g_1 g_2; omega) | omega)) (by first | assumption | decide | (first | (clear g_0 g_1 g_2 g_3 g_4 g_5 g_6; omega) | (clear g_0 g_1 g_2 g_3; omega) | (clear g_1 g_2 g_3; omega) | (clear g_0 g_2 g_3; omega) | (clear g_0 g_1 g_3; omega) | (clear g_0 g_1 g_2; omega) | omega)) (by first | assumption | decide | (first | (clear g_0 g_1 g_2 g_3 g_4 g_5 g_6; omega) | (clear g_0 g_1 g_2 g_3; omega) | (clear g_1 g_2 g_3; omega) | (clear g_0 g_2 g_3; omega) | (clear g_0 g_1 g_3; omega) | (clear g_0 g_1 g_2; omega) | omega)) (by first | assumption | decide | (first | (clear g_0 g_1 g_2 g_3 g_4 g_5 g_6; omega) | (clear g_0 g_1 g_2 g_3; omega) | (clear g_1 g_2 g_3; omega) | (clear g_0 g_2 g_3; omega) | (clear g_0 g_1 g_3; omega) | (clear g_0 g_1 g_2; omega) | omega)) (by first | assumption | decide | (first | (clear g_0 g_1 g_2 g_3 g_4 g_5 g_6; omega) | (clear g_0 g_1 g_2 g_3; omega) | (clear g_1 g_2 g_3; omega) | (clear g_0 g_2 g_3; omega) | (clear g_0 g_1 g_3; omega) | (clear g_0 g_1 g_2; omega) | omega)) (by first | assumption | decide | (first | (clear g_0 g_1 g_2 g_3 g_4 g_5 g_6; omega) | (clear g_0 g_1 g_2 g_3; omega) | (clear g_1 g_2 g_3; omega) | (clear g_0 g_2 g_3; omega) | (clear g_0 g_1 g_3; omega) | (clear g_0 g_1 g_2; omega) | omega)) (by first | assumption | decide | (first | (clear g_0 g_1 g_2 g_3 g_4 g_5 g_6; omega) | (clear g_0 g_1 g_2 g_3; omega) | (clear g_1 g_2 g_3; omega) | (clear g_0 g_2 g_3; omega) | (clear g_0 g_1 g_3; omega) | (clear g_0 g_1 g_2; omega) | omega)) (by first | assumption | decide | (first | (clear g_0 g_1 g_2 g_3 g_4 g_5 g_6; omega) | (clear g_0 g_1 g_2 g_3; omega) | (clear g_1 g_2 g_3; omega) | (clear g_0 g_2 g_3; omega) | (clear g_0 g_1 g_3; omega) | (clear g_0 g_1 g_2; omega) | omega)) (by first | assumption | decide | (first | (clear g_0 g_1 g_2 g_3 g_4 g_5 g_6; omega) | (clear g_0 g_1 g_2 g_3; omega) | (clear g_1 g_2 g_3; omega) | (clear g_0 g_2 g_3; omega) | (clear g_0 g_1 g_3; omega) | (clear g_0 g_1 g_2; omega) | omega)) (by first | assumption | decide | (first | (clear g_0 g_1 g_2 g_3 g_4 g_5 g_6; omega) | (clear g_0 g_1 g_2 g_3; omega) | (clear g_1 g_2 g_3; omega) | (clear g_0 g_2 g_3; omega) | (clear g_0 g_1 g_3; omega) | (clear g_0 g_1 g_2; omega) | omega))) (by rfl) (by rfl) (by rfl) (by rfl) ⟨rfl, rfl, trivial⟩ (by rfl) (by rfl) (by first | assumption | decide | (first | (clear g_0 g_1 g_2 g_3 g_4 g_5 g_6; omega) | (clear g_0 g_1 g_2 g_3; omega) | (clear g_1 g_2 g_3; omega) | (clear g_0 g_2 g_3; omega) | (clear g_0 g_1 g_3; omega) | (clear g_0 g_1 g_2; omega) | omega)) (by show 4 ≤ 4; (first | (clear g_0 g_1 g_2 g_3 g_4 g_5 g_6; omega) | (clear g_0 g_1 g_2 g_3; omega) | (clear g_1 g_2 g_3; omega) | (clear g_0 g_2 g_3; omega) | (clear g_0 g_1 g_3; omega) | (clear g_0 g_1 g_2; omega) | omega)) (by first | assumption | decide | (first | (clear g_0 g_1 g_2 g_3 g_4 g_5 g_6; omega) | (clear g_0 g_1 g_2 g_3; omega) | (clear g_1 g_2 g_3; omega) | (clear g_0 g_2 g_3; omega) | (clear g_0 g_1 g_3; omega) | (clear g_0 g_1 g_2; omega) | omega)) (by first | assumption | decide | (first | (clear g_0 g_1 g_2 g_3 g_4 g_5 g_6; omega) | (clear g_0 g_1 g_2 g_3; omega) | (clear g_1 g_2 g_3; omega) | (clear g_0 g_2 g_3; omega) | (clear g_0 g_1 g_3; omega) | (clear g_0 g_1 g_2; omega) | omega)) rfl rfl ?_
        refine jT_xifF (t := 64) (pcN := 29) jIQ_38_26 rfl (by decide +kernel) rfl rfl ?_
        refine jT_xaload_n (v := (4, 0)) (pcN := 30) jIQ_38_29 rfl rfl rfl ?_
        refine jT_xaload_n (v := (4, 1)) (pcN := 31) jIQ_38_30 rfl rfl rfl ?_
        refine jT_callA [0, 1] (y := 41) (pcN := 34) (dC := 0) (bc1 := 0) (bc2 := 0) (c1 := 0) (c2 := 0) (as := [(4, 0), (4, 1)]) (asC := [(4, 0), (4, 1)]) (LN := [(2, (1, -p7 + p8)), (0, (4, 0)), (1, (4, 1))]) (stN := []) (hsC := [jgh, (101, [], [q1, p7, p8, 0, 0, 0])]) (ex := []) (v := (1, 108917793695 * p7 + 159561683699 * p8 + 68719476736 * q1)) (st2 := [(1, 108917793695 * p7 + 159561683699 * p8 + 68719476736 * q1)]) (hs2 := [(8, [(4, 2), (4, 3)], []), (101, [], [q1, p7, p8, 0, 0, 0]), jgh, jgh]) (jQ_41_89 (d := 0) (by first | assumption | decide | (first | (clear g_0 g_1 g_2 g_3 g_4 g_5 g_6; omega) | (clear g_0 g_1 g_2 g_3; omega) | (clear g_1 g_2 g_3; omega) | (clear g_0 g_2 g_3; omega) | (clear g_0 g_1 g_3; omega) | (clear g_0 g_1 g_2; omega) | omega)) (by first | assumption | decide | (first | (clear g_0 g_1 g_2 g_3 g_4 g_5 g_6; omega) | (clear g_0 g_1 g_2 g_3; omega) | (clear g_1 g_2 g_3; omega) | (clear g_0 g_2 g_3; omega) | (clear g_0 g_1 g_3; omega) | (clear g_0 g_1 g_2; omega) | omega)) (by first | assumption | decide | (first | (clear g_0 g_1 g_2 g_3 g_4 g_5 g_6; omega) | (clear g_0 g_1 g_2 g_3; omega) | (clear g_1 g_2 g_3; omega) | (clear g_0 g_2 g_3; omega) | (clear g_0 g_1 g_3; omega) | (clear g_0 g_1 g_2; omega) | omega)) (by first | assumption | decide | (first | (clear g_0 g_1 g_2 g_3 g_4 g_5 g_6; omega) | (clear g_0 g_1 g_2 g_3; omega) | (clear g_1 g_2 g_3; omega) | (clear g_0 g_2 g_3; omega) | (clear g_0 g_1 g_3; omega) | (clear g_0 g_1 g_2; omega) | omega)) (by first | assumption | decide | (first | (clear g_0 g_1 g_2 g_3 g_4 g_5 g_6; omega) | (clear g_0 g_1 g_2 g_3; omega) | (clear g_1 g_2 g_3; omega) | (clear g_0 g_2 g_3; omega) | (clear g_0 g_1 g_3; omega) | (clear g_0 g_1 g_2; omega) | omega)) (by first | assumption | decide | (first | (clear g_0 g_1 g_2 g_3 g_4 g_5 g_6; omega) | (clear g_0 g_1 g_2 g_3; omega) | (clear g_1 g_2 g_3; omega) | (clear g_0 g_2 g_3; omega) | (clear g_0 g_1 g_3; omega) | (clear g_0 g_1 g_2; omega) | omega)) (by first | assumption | decide | (first | (clear g_0 g_1 g_2 g_3 g_4 g_5 g_6; omega) | (clear g_0 g_1 g_2 g_3; omega) | (clear g_1 g_2 g_3; omega) | (clear g_0 g_2 g_3; omega) | (clear g_0 g_1 g_3; omega) | (clear g_0 g_1 g_2; omega) | omega)) (by first | assumption | decide | (first | (clear g_0 g_1 g_2 g_3 g_4 g_5 g_6; omega) | (clear g_0 g_1 g_2 g_3; omega) | (clear g_1 g_2 g_3; omega) | (clear g_0 g_2 g_3; omega) | (clear g_0 g_1 g_3; omega) | (clear g_0 g_1 g_2; omega) | omega)) (by first | assumption | decide | (first | (clear g_0 g_1 g_2 g_3 g_4 g_5 g_6; omega) | (clear g_0 g_1 g_2 g_3; omega) | (clear g_1 g_2 g_3; omega) | (clear g_0 g_2 g_3; omega) | (clear g_0 g_1 g_3; omega) | (clear g_0 g_1 g_2; omega) | omega)) (by first | assumption | decide | (first | (clear g_0 g_1 g_2 g_3 g_4 g_5 g_6; omega) | (clear g_0 g_1 g_2 g_3; omega) | (clear g_1 g_2 g_3; omega) | (clear g_0 g_2 g_3; omega) | (clear g_0 g_1 g_3; omega) | (clear g_0 g_1 g_2; omega) | omega))) (by rfl) (by rfl) (by rfl) (by rfl) ⟨rfl, rfl, trivial⟩ (by rfl) (by rfl) (by first | assumption | decide | (first | (clear g_0 g_1 g_2 g_3 g_4 g_5 g_6; omega) | (clear g_0 g_1 g_2 g_3; omega) | (clear g_1 g_2 g_3; omega) | (clear g_0 g_2 g_3; omega) | (clear g_0 g_1 g_3; omega) | (clear g_0 g_1 g_2; omega) | omega)) (by show 4 ≤ 4; (first | (clear g_0 g_1 g_2 g_3 g_4 g_5 g_6; omega) | (clear g_0 g_1 g_2 g_3; omega) | (clear g_1 g_2 g_3; omega) | (clear g_0 g_2 g_3; omega) | (clear g_0 g_1 g_3; omega) | (clear g_0 g_1 g_2; omega) | omega)) (by first | assumption | decide | (first | (clear g_0 g_1 g_2 g_3 g_4 g_5 g_6; omega) | (clear g_0 g_1 g_2 g_3; omega) | (clear g_1 g_2 g_3; omega) | (clear g_0 g_2 g_3; omega) | (clear g_0 g_1 g_3; omega) | (clear g_0 g_1 g_2; omega) | omega)) (by first | assumption | decide | (first | (clear g_0 g_1 g_2 g_3 g_4 g_5 g_6; omega) | (clear g_0 g_1 g_2 g_3; omega) | (clear g_1 g_2 g_3; omega) | (clear g_0 g_2 g_3; omega) | (clear g_0 g_1 g_3; omega) | (clear g_0 g_1 g_2; omega) | omega)) rfl rfl ?_
        refine jT_xlstore (v := (1, 108917793695 * p7 + 159561683699 * p8 + 68719476736 * q1)) (LN := [(4, (1, 108917793695 * p7 + 159561683699 * p8 + 68719476736 * q1)), (2, (1, -p7 + p8)), (0, (4, 0)), (1, (4, 1))]) (pcN := 36) jIQ_38_34 rfl rfl rfl rfl ?_
        refine jT_xlload (v := (1, 108917793695 * p7 + 159561683699 * p8 + 68719476736 * q1)) (pcN := 38) jIQ_38_36 rfl rfl rfl ?_
        refine jT_xlload_n (v := (1, -p7 + p8)) (pcN := 39) jIQ_38_38 rfl rfl rfl ?_
        refine jT_lcmp (a := 108917793695 * p7 + 159561683699 * p8 + 68719476736 * q1) (b := -p7 + p8) (z := (-1)) (by rfl) (by rfl) (jwl_idd (by (first | (clear g_0 g_1 g_2 g_3 g_4 g_5 g_6; omega) | (clear g_0 g_1 g_2 g_3; omega) | (clear g_1 g_2 g_3; omega) | (clear g_0 g_2 g_3; omega) | (clear g_0 g_1 g_3; omega) | (clear g_0 g_1 g_2; omega) | omega)) (by (first | (clear g_0 g_1 g_2 g_3 g_4 g_5 g_6; omega) | (clear g_0 g_1 g_2 g_3; omega) | (clear g_1 g_2 g_3; omega) | (clear g_0 g_2 g_3; omega) | (clear g_0 g_1 g_3; omega) | (clear g_0 g_1 g_2; omega) | omega))) (jwl_idd (by (first | (clear g_0 g_1 g_2 g_3 g_4 g_5 g_6; omega) | (clear g_0 g_1 g_2 g_3; omega) | (clear g_1 g_2 g_3; omega) | (clear g_0 g_2 g_3; omega) | (clear g_0 g_1 g_3; omega) | (clear g_0 g_1 g_2; omega) | omega)) (by (first | (clear g_0 g_1 g_2 g_3 g_4 g_5 g_6; omega) | (clear g_0 g_1 g_2 g_3; omega) | (clear g_1 g_2 g_3; omega) | (clear g_0 g_2 g_3; omega) | (clear g_0 g_1 g_3; omega) | (clear g_0 g_1 g_2; omega) | omega))) (by rw [decide_eq_false (show ¬ ((-p7 + p8 : Int) < 108917793695 * p7 + 159561683699 * p8 + 68719476736 * q1) by (first | (clear g_0 g_1 g_2 g_3 g_4 g_5 g_6; omega) | (clear g_0 g_1 g_2 g_3; omega) | (clear g_1 g_2 g_3; omega) | (clear g_0 g_2 g_3; omega) | (clear g_0 g_1 g_3; omega) | (clear g_0 g_1 g_2; omega) | omega)), decide_eq_false (Int.ne_of_lt (show (108917793695 * p7 + 159561683699 * p8 + 68719476736 * q1 : Int) < -p7 + p8 by (first | (clear g_0 g_1 g_2 g_3 g_4 g_5 g_6; omega) | (clear g_0 g_1 g_2 g_3; omega) | (clear g_1 g_2 g_3; omega) | (clear g_0 g_2 g_3; omega) | (clear g_0 g_1 g_3; omega) | (clear g_0 g_1 g_2; omega) | omega)))]; rfl) ?_
        refine jT_xifF (t := 51) (pcN := 43) jIQ_38_40 rfl (by decide +kernel) rfl rfl ?_
        refine jT_xlload (v := (1, 108917793695 * p7 + 159561683699 * p8 + 68719476736 * q1)) (pcN := 45) jIQ_38_43 rfl rfl rfl ?_
        refine jT_xlload_n (v := (1, -p7 + p8)) (pcN := 46) jIQ_38_45 rfl rfl rfl ?_
        refine jT_adv 1 (pcN := 47) (LN := [(4, (1, 108917793695 * p7 + 159561683699 * p8 + 68719476736 * q1)), (2, (1, -p7 + p8)), (0, (4, 0)), (1, (4, 1))]) (stN := [(1, -(-p7 + p8)), (1, 108917793695 * p7 + 159561683699 * p8 + 68719476736 * q1)]) (hsN := [(8, [(4, 2), (4, 3)], []), (101, [], [q1, p7, p8, 0, 0, 0]), jgh, jgh]) (c1 := 0) (s1 := 0) (c2 := 0) (s2 := 0) (by exact rfl) ?_ (by first | assumption | decide | (first | (clear g_0 g_1 g_2 g_3 g_4 g_5 g_6; omega) | (clear g_0 g_1 g_2 g_3; omega) | (clear g_1 g_2 g_3; omega) | (clear g_0 g_2 g_3; omega) | (clear g_0 g_1 g_3; omega) | (clear g_0 g_1 g_2; omega) | omega)) (by first | assumption | decide | (first | (clear g_0 g_1 g_2 g_3 g_4 g_5 g_6; omega) | (clear g_0 g_1 g_2 g_3; omega) | (clear g_1 g_2 g_3; omega) | (clear g_0 g_2 g_3; omega) | (clear g_0 g_1 g_3; omega) | (clear g_0 g_1 g_2; omega) | omega))
        refine jT_eq (LN := [(4, (1, 108917793695 * p7 + 159561683699 * p8 + 68719476736 * q1)), (2, (1, -p7 + p8)), (0, (4, 0)), (1, (4, 1))]) (stN := [(1, p7 - p8), (1, 108917793695 * p7 + 159561683699 * p8 + 68719476736 * q1)]) (hsN := [(8, [(4, 2), (4, 3)], []), (101, [], [q1, p7, p8, 0, 0, 0]), jgh, jgh]) (rfl) (by simp only [List.cons.injEq, Prod.mk.injEq, and_true, true_and] <;> ((try unfold jw); (try unfold jwl); (first | (clear g_0 g_1 g_2 g_3 g_4 g_5 g_6; omega) | (clear g_0 g_1 g_2 g_3; omega) | (clear g_1 g_2 g_3; omega) | (clear g_0 g_2 g_3; omega) | (clear g_0 g_1 g_3; omega) | (clear g_0 g_1 g_2; omega) | omega))) (rfl) ?_
        refine jT_lcmp (a := 108917793695 * p7 + 159561683699 * p8 + 68719476736 * q1) (b := p7 - p8) (z := (-1)) (by rfl) (by rfl) (jwl_idd (by (first | (clear g_0 g_1 g_2 g_3 g_4 g_5 g_6; omega) | (clear g_0 g_1 g_2 g_3; omega) | (clear g_1 g_2 g_3; omega) | (clear g_0 g_2 g_3; omega) | (clear g_0 g_1 g_3; omega) | (clear g_0 g_1 g_2; omega) | omega)) (by (first | (clear g_0 g_1 g_2 g_3 g_4 g_5 g_6; omega) | (clear g_0 g_1 g_2 g_3; omega) | (clear g_1 g_2 g_3; omega) | (clear g_0 g_2 g_3; omega) | (clear g_0 g_1 g_3; omega) | (clear g_0 g_1 g_2; omega) | omega))) (jwl_idd (by (first | (clear g_0 g_1 g_2 g_3 g_4 g_5 g_6; omega) | (clear g_0 g_1 g_2 g_3; omega) | (clear g_1 g_2 g_3; omega) | (clear g_0 g_2 g_3; omega) | (clear g_0 g_1 g_3; omega) | (clear g_0 g_1 g_2; omega) | omega)) (by (first | (clear g_0 g_1 g_2 g_3 g_4 g_5 g_6; omega) | (clear g_0 g_1 g_2 g_3; omega) | (clear g_1 g_2 g_3; omega) | (clear g_0 g_2 g_3; omega) | (clear g_0 g_1 g_3; omega) | (clear g_0 g_1 g_2; omega) | omega))) (by rw [decide_eq_false (show ¬ ((p7 - p8 : Int) < 108917793695 * p7 + 159561683699 * p8 + 68719476736 * q1) by (first | (clear g_0 g_1 g_2 g_3 g_4 g_5 g_6; omega) | (clear g_0 g_1 g_2 g_3; omega) | (clear g_1 g_2 g_3; omega) | (clear g_0 g_2 g_3; omega) | (clear g_0 g_1 g_3; omega) | (clear g_0 g_1 g_2; omega) | omega)), decide_eq_false (Int.ne_of_lt (show (108917793695 * p7 + 159561683699 * p8 + 68719476736 * q1 : Int) < p7 - p8 by (first | (clear g_0 g_1 g_2 g_3 g_4 g_5 g_6; omega) | (clear g_0 g_1 g_2 g_3; omega) | (clear g_1 g_2 g_3; omega) | (clear g_0 g_2 g_3; omega) | (clear g_0 g_1 g_3; omega) | (clear g_0 g_1 g_2; omega) | omega)))]; rfl) ?_
        refine jT_xifF (t := 64) (pcN := 51) jIQ_38_48 rfl (by decide +kernel) rfl rfl ?_
        refine jT_xlload (v := (1, 108917793695 * p7 + 159561683699 * p8 + 68719476736 * q1)) (pcN := 53) jIQ_38_51 rfl rfl rfl ?_
        refine jT_xlconst (z := 0) (pcN := 54) jIQ_38_53 rfl rfl ?_
        refine jT_lcmp (a := 108917793695 * p7 + 159561683699 * p8 + 68719476736 * q1) (b := 0) (z := (-1)) (by rfl) (by rfl) (jwl_idd (by (first | (clear g_0 g_1 g_2 g_3 g_4 g_5 g_6; omega) | (clear g_0 g_1 g_2 g_3; omega) | (clear g_1 g_2 g_3; omega) | (clear g_0 g_2 g_3; omega) | (clear g_0 g_1 g_3; omega) | (clear g_0 g_1 g_2; omega) | omega)) (by (first | (clear g_0 g_1 g_2 g_3 g_4 g_5 g_6; omega) | (clear g_0 g_1 g_2 g_3; omega) | (clear g_1 g_2 g_3; omega) | (clear g_0 g_2 g_3; omega) | (clear g_0 g_1 g_3; omega) | (clear g_0 g_1 g_2; omega) | omega))) (jwl_idd (by (first | (clear g_0 g_1 g_2 g_3 g_4 g_5 g_6; omega) | (clear g_0 g_1 g_2 g_3; omega) | (clear g_1 g_2 g_3; omega) | (clear g_0 g_2 g_3; omega) | (clear g_0 g_1 g_3; omega) | (clear g_0 g_1 g_2; omega) | omega)) (by (first | (clear g_0 g_1 g_2 g_3 g_4 g_5 g_6; omega) | (clear g_0 g_1 g_2 g_3; omega) | (clear g_1 g_2 g_3; omega) | (clear g_0 g_2 g_3; omega) | (clear g_0 g_1 g_3; omega) | (clear g_0 g_1 g_2; omega) | omega))) (by rw [decide_eq_false (show ¬ ((0 : Int) < 108917793695 * p7 + 159561683699 * p8 + 68719476736 * q1) by (first | (clear g_0 g_1 g_2 g_3 g_4 g_5 g_6; omega) | (clear g_0 g_1 g_2 g_3; omega) | (clear g_1 g_2 g_3; omega) | (clear g_0 g_2 g_3; omega) | (clear g_0 g_1 g_3; omega) | (clear g_0 g_1 g_2; omega) | omega)), decide_eq_false (Int.ne_of_lt (show (108917793695 * p7 + 159561683699 * p8 + 68719476736 * q1 : Int) < 0 by (first | (clear g_0 g_1 g_2 g_3 g_4 g_5 g_6; omega) | (clear g_0 g_1 g_2 g_3; omega) | (clear g_1 g_2 g_3; omega) | (clear g_0 g_2 g_3; omega) | (clear g_0 g_1 g_3; omega) | (clear g_0 g_1 g_2; omega) | omega)))]; rfl) ?_
        refine jT_xifF (t := 62) (pcN := 58) jIQ_38_55 rfl (by decide +kernel) rfl rfl ?_
        refine jT_xiconst (k := (-1)) (pcN := 59) jIQ_38_58 rfl ?_
        refine jT_xgoto (pcN := 63) jIQ_38_59 rfl ?_
        exact jT_ret rfl (by decide) (by show 4 ≤ 4; decide) (by first | assumption | decide | (first | (clear g_0 g_1 g_2 g_3 g_4 g_5 g_6; omega) | (clear g_0 g_1 g_2 g_3; omega) | (clear g_1 g_2 g_3; omega) | (clear g_0 g_2 g_3; omega) | (clear g_0 g_1 g_3; omega) | (clear g_0 g_1 g_2; omega) | omega)) (by first | assumption | decide | (first | (clear g_0 g_1 g_2 g_3 g_4 g_5 g_6; omega) | (clear g_0 g_1 g_2 g_3; omega) | (clear g_1 g_2 g_3; omega) | (clear g_0 g_2 g_3; omega) | (clear g_0 g_1 g_3; omega) | (clear g_0 g_1 g_2; omega) | omega)) ⟨rfl, rfl, rfl⟩
    · rcases (show (0 ≤ q1) ∨ (q1 < 0) by (first | (clear g_0 g_1 g_2 g_3 g_4 g_5; omega) | (clear g_0 g_1 g_2 g_3; omega) | (clear g_1 g_2 g_3; omega) | (clear g_0 g_2 g_3; omega) | (clear g_0 g_1 g_3; omega) | (clear g_0 g_1 g_2; omega) | omega)) with g_6 | g_6
      · refine jT_xaload_n (v := (4, 0)) (pcN := 1) jIQ_38_0 rfl rfl rfl ?_
        refine jT_xaload_n (v := (4, 1)) (pcN := 2) jIQ_38_1 rfl rfl rfl ?_
        refine jT_callA [0, 1] (y := 39) (pcN := 5) (dC := 0) (bc1 := 0) (bc2 := 0) (c1 := 0) (c2 := 0) (as := [(4, 0), (4, 1)]) (asC := [(4, 0), (4, 1)]) (LN := [(0, (4, 0)), (1, (4, 1))]) (stN := []) (hsC := [jgh, (101, [], [q1, p7, p8, 0, 0, 0])]) (ex := []) (v := (1, -p7 - p8)) (st2 := [(1, -p7 - p8)]) (hs2 := [(8, [(4, 2), (4, 3)], []), (101, [], [q1, p7, p8, 0, 0, 0]), jgh, jgh]) (jQ_39_83 (d := 0) (by first | assumption | decide | (first | (clear g_0 g_1 g_2 g_3 g_4 g_5 g_6; omega) | (clear g_0 g_1 g_2 g_3; omega) | (clear g_1 g_2 g_3; omega) | (clear g_0 g_2 g_3; omega) | (clear g_0 g_1 g_3; omega) | (clear g_0 g_1 g_2; omega) | omega)) (by first | assumption | decide | (first | (clear g_0 g_1 g_2 g_3 g_4 g_5 g_6; omega) | (clear g_0 g_1 g_2 g_3; omega) | (clear g_1 g_2 g_3; omega) | (clear g_0 g_2 g_3; omega) | (clear g_0 g_1 g_3; omega) | (clear g_0 g_1 g_2; omega) | omega)) (by first | assumption | decide | (first | (clear g_0 g_1 g_2 g_3 g_4 g_5 g_6; omega) | (clear g_0 g_1 g_2 g_3; omega) | (clear g_1 g_2 g_3; omega) | (clear g_0 g_2 g_3; omega) | (clear g_0 g_1 g_3; omega) | (clear g_0 g_1 g_2; omega) | omega)) (by first | assumption | decide | (first | (clear g_0 g_1 g_2 g_3 g_4 g_5 g_6; omega) | (clear g_0 g_1 g_2 g_3; omega) | (clear g_1 g_2 g_3; omega) | (clear g_0 g_2 g_3; omega) | (clear g_0 g_1 g_3; omega) | (clear g_0 g_1 g_2; omega) | omega)) (by first | assumption | decide | (first | (clear g_0 g_1 g_2 g_3 g_4 g_5 g_6; omega) | (clear g_0 g_1 g_2 g_3; omega) | (clear g_1 g_2 g_3; omega) | (clear g_0 g_2 g_3; omega) | (clear g_0 g_1 g_3; omega) | (clear g_0 g_1 g_2; omega) | omega)) (by first | assumption | decide | (first | (clear g_0 g_1 g_2 g_3 g_4 g_5 g_6; omega) | (clear g_0 g_1 g_2 g_3; omega) | (clear g_1 g_2 g_3; omega) | (clear g_0 g_2 g_3; omega) | (clear g_0 g_1 g_3; omega) | (clear g_0 g_1 g_2; omega) | omega)) (by first | assumption | decide | (first | (clear g_0 g_1 g_2 g_3 g_4 g_5 g_6; omega) | (clear g_0 g_1 g_2 g_3; omega) | (clear g_1 g_2 g_3; omega) | (clear g_0 g_2 g_3; omega) | (clear g_0 g_1 g_3; omega) | (clear g_0 g_1 g_2; omega) | omega)) (by first | assumption | decide | (first | (clear g_0 g_1 g_2 g_3 g_4 g_5 g_6; omega) | (clear g_0 g_1 g_2 g_3; omega) | (clear g_1 g_2 g_3; omega) | (clear g_0 g_2 g_3; omega) | (clear g_0 g_1 g_3; omega) | (clear g_0 g_1 g_2; omega) | omega)) (by first | assumption | decide | (first | (clear g_0 g_1 g_2 g_3 g_4 g_5 g_6; omega) | (clear g_0 g_1 g_2 g_3; omega) | (clear g_1 g_2 g_3; omega) | (clear g_0 g_2 g_3; omega) | (clear g_0 g_1 g_3; omega) | (clear g_0 g_1 g_2; omega) | omega)) (by first | assumption | decide | (first | (clear g_0 g_1 g_2 g_3 g_4 g_5 g_6; omega) | (clear g_0 g_1 g_2 g_3; omega) | (clear g_1 g_2 g_3; omega) | (clear g_0 g_2 g_3; omega) | (clear g_0 g_1 g_3; omega) | (clear g_0 g_1 g_2; omega) | omega))) (by rfl) (by rfl) (by rfl) (by rfl) ⟨rfl, rfl, trivial⟩ (by rfl) (by rfl) (by first | assumption | decide | (first | (clear g_0 g_1 g_2 g_3 g_4 g_5 g_6; omega) | (clear g_0 g_1 g_2 g_3; omega) | (clear g_1 g_2 g_3; omega) | (clear g_0 g_2 g_3; omega) | (clear g_0 g_1 g_3; omega) | (clear g_0 g_1 g_2; omega) | omega)) (by show 4 ≤ 4; (first | (clear g_0 g_1 g_2 g_3 g_4 g_5 g_6; omega) | (clear g_0 g_1 g_2 g_3; omega) | (clear g_1 g_2 g_3; omega) | (clear g_0 g_2 g_3; omega) | (clear g_0 g_1 g_3; omega) | (clear g_0 g_1 g_2; omega) | omega)) (by first | assumption | decide | (first | (clear g_0 g_1 g_2 g_3 g_4 g_5 g_6; omega) | (clear g_0 g_1 g_2 g_3; omega) | (clear g_1 g_2 g_3; omega) | (clear g_0 g_2 g_3; omega) | (clear g_0 g_1 g_3; omega) | (clear g_0 g_1 g_2; omega) | omega)) (by first | assumption | decide | (first | (clear g_0 g_1 g_2 g_3 g_4 g_5 g_6; omega) | (clear g_0 g_1 g_2 g_3; omega) | (clear g_1 g_2 g_3; omega) | (clear g_0 g_2 g_3; omega) | (clear g_0 g_1 g_3; omega) | (clear g_0 g_1 g_2; omega) | omega)) rfl rfl ?_
        refine jT_xlstore_n (v := (1, -p7 - p8)) (LN := [(2, (1, -p7 - p8)), (0, (4, 0)), (1, (4, 1))]) (pcN := 6) jIQ_38_5 rfl rfl rfl rfl ?_
        refine jT_xlload_n (v := (1, -p7 - p8)) (pcN := 7) jIQ_38_6 rfl rfl rfl ?_
        refine jT_xlconst (z := 0) (pcN := 8) jIQ_38_7 rfl rfl ?_
        refine jT_lcmp (a := -p7 - p8) (b := 0) (z := 1) (by rfl) (by rfl) (jwl_idd (by (first | (clear g_0 g_1 g_2 g_3 g_4 g_5 g_6; omega) | (clear g_0 g_1 g_2 g_3; omega) | (clear g_1 g_2 g_3; omega) | (clear g_0 g_2 g_3; omega) | (clear g_0 g_1 g_3; omega) | (clear g_0 g_1 g_2; omega) | omega)) (by (first | (clear g_0 g_1 g_2 g_3 g_4 g_5 g_6; omega) | (clear g_0 g_1 g_2 g_3; omega) | (clear g_1 g_2 g_3; omega) | (clear g_0 g_2 g_3; omega) | (clear g_0 g_1 g_3; omega) | (clear g_0 g_1 g_2; omega) | omega))) (jwl_idd (by (first | (clear g_0 g_1 g_2 g_3 g_4 g_5 g_6; omega) | (clear g_0 g_1 g_2 g_3; omega) | (clear g_1 g_2 g_3; omega) | (clear g_0 g_2 g_3; omega) | (clear g_0 g_1 g_3; omega) | (clear g_0 g_1 g_2; omega) | omega)) (by (first | (clear g_0 g_1 g_2 g_3 g_4 g_5 g_6; omega) | (clear g_0 g_1 g_2 g_3; omega) | (clear g_1 g_2 g_3; omega) | (clear g_0 g_2 g_3; omega) | (clear g_0 g_1 g_3; omega) | (clear g_0 g_1 g_2; omega) | omega))) (by rw [decide_eq_true (show (0 : Int) < -p7 - p8 by (first | (clear g_0 g_1 g_2 g_3 g_4 g_5 g_6; omega) | (clear g_0 g_1 g_2 g_3; omega) | (clear g_1 g_2 g_3; omega) | (clear g_0 g_2 g_3; omega) | (clear g_0 g_1 g_3; omega) | (clear g_0 g_1 g_2; omega) | omega))]; rfl) ?_
        refine jT_xifT (pcN := 20) jIQ_38_9 rfl (by decide +kernel) rfl ?_
        refine jT_xaload_n (v := (4, 0)) (pcN := 21) jIQ_38_20 rfl rfl rfl ?_
        refine jT_xaload_n (v := (4, 1)) (pcN := 22) jIQ_38_21 rfl rfl rfl ?_
        refine jT_xlload_n (v := (1, -p7 - p8)) (pcN := 23) jIQ_38_22 rfl rfl rfl ?_
        refine jT_callA [0, 1] (y := 40) (pcN := 26) (dC := 0) (bc1 := 0) (bc2 := 0) (c1 := 0) (c2 := 0) (as := [(4, 0), (4, 1), (1, -p7 - p8)]) (asC := [(4, 0), (4, 1), (1, -p7 - p8)]) (LN := [(2, (1, -p7 - p8)), (0, (4, 0)), (1, (4, 1))]) (stN := []) (hsC := [jgh, (101, [], [q1, p7, p8, 0, 0, 0])]) (ex := []) (v := (0, 1)) (st2 := [(0, 1)]) (hs2 := [(8, [(4, 2), (4, 3)], []), (101, [], [q1, p7, p8, 0, 0, 0]), jgh, jgh]) (jQ_40_84 (d := 0) (by first | assumption | decide | (first | (clear g_0 g_1 g_2 g_3 g_4 g_5 g_6; omega) | (clear g_0 g_1 g_2 g_3; omega) | (clear g_1 g_2 g_3; omega) | (clear g_0 g_2 g_3; omega) | (clear g_0 g_1 g_3; omega) | (clear g_0 g_1 g_2; omega) | omega)) (by first | assumption | decide | (first | (clear g_0 g_1 g_2 g_3 g_4 g_5 g_6; omega) | (clear g_0 g_1 g_2 g_3; omega) | (clear g_1 g_2 g_3; omega) | (clear g_0 g_2 g_3; omega) | (clear g_0 g_1 g_3; omega) | (clear g_0 g_1 g_2; omega) | omega)) (by first | assumption | decide | (first | (clear g_0 g_1 g_2 g_3 g_4 g_5 g_6; omega) | (clear g_0 g_1 g_2 g_3; omega) | (clear g_1 g_2 g_3; omega) | (clear g_0 g_2 g_3; omega) | (clear g_0 g_1 g_3; omega) | (clear g_0 g_1 g_2; omega) | omega)) (by first | assumption | decide | (first | (clear g_0 g_1 g_2 g_3 g_4 g_5 g_6; omega) | (clear g_0 g_1 g_2 g_3; omega) | (clear g_1 g_2 g_3; omega) | (clear g_0 g_2 g_3; omega) | (clear g_0 g_1 g_3; omega) | (clear g_0 g_1 g_2; omega) | omega)) (by first | assumption | decide | (first | (clear g_0 g_1 g_2 g_3 g_4 g_5 g_6; omega) | (clear g_0 g_1 g_2 g_3; omega) | (clear g_1 g_2 g_3; omega) | (clear g_0 g_2 g_3; omega) | (clear g_0 g_1 g_3; omega) | (clear g_0 g_1 g_2; omega) | omega)) (by first | assumption | decide | (first | (clear g_0 g_1 g_2 g_3 g_4 g_5 g_6; omega) | (clear g_0 g_1 g_2 g_3; omega) | (clear g_1 g_2 g_3; omega) | (clear g_0 g_2 g_3; omega) | (clear g_0 g_1 g_3; omega) | (clear g_0 g_1 g_2; omega) | omega)) (by first | assumption | decide | (first | (clear g_0 g_1 g_2 g_3 g_4 g_5 g_6; omega) | (clear g_0 g_1 g_2 g_3; omega) | (clear g_1 g_2 g_3; omega) | (clear g_0 g_2 g_3; omega) | (clear g_0 g_1 g_3; omega) | (clear g_0 g_1 g_2; omega) | omega)) (by first | assumption | decide | (first | (clear g_0 g_1 g_2 g_3 g_4 g_5 g_6; omega) | (clear g_0 g_1 g_2 g_3; omega) | (clear g_1 g_2 g_3; omega) | (clear g_0 g_2 g_3; omega) | (clear g_0 g_1 g_3; omega) | (clear g_0 g_1 g_2; omega) | omega)) (by first | assumption | decide | (first | (clear g_0 g_1 g_2 g_3 g_4 g_5 g_6; omega) | (clear g_0 g_1 g_2 g_3; omega) | (clear g_1 g_2 g_3; omega) | (clear g_0 g_2 g_3; omega) | (clear g_0 g_1 g_3; omega) | (clear g_0 g_1 g_2; omega) | omega)) (by first | assumption | decide | (first | (clear g_0 g_1 g_2 g_3 g_4 g_5 g_6; omega) | (clear g_0 g_1 g_2 g_3; omega) | (clear g_1 g_2 g_3; omega) | (clear g_0 g_2 g_3; omega) | (clear g_0 g_1 g_3; omega) | (clear g_0 g_1 g_2; omega) | omega))) (by rfl) (by rfl) (by rfl) (by rfl) ⟨rfl, rfl, trivial⟩ (by rfl) (by rfl) (by first | assumption | decide | (first | (clear g_0 g_1 g_2 g_3 g_4 g_5 g_6; omega) | (clear g_0 g_1 g_2 g_3; omega) | (clear g_1 g_2 g_3; omega) | (clear g_0 g_2 g_3; omega) | (clear g_0 g_1 g_3; omega) | (clear g_0 g_1 g_2; omega) | omega)) (by show 4 ≤ 4; (first | (clear g_0 g_1 g_2 g_3 g_4 g_5 g_6; omega) | (clear g_0 g_1 g_2 g_3; omega) | (clear g_1 g_2 g_3; omega) | (clear g_0 g_2 g_3; omega) | (clear g_0 g_1 g_3; omega) | (clear g_0 g_1 g_2; omega) | omega)) (by first | assumption | decide | (first | (clear g_0 g_1 g_2 g_3 g_4 g_5 g_6; omega) | (clear g_0 g_1 g_2 g_3; omega) | (clear g_1 g_2 g_3; omega) | (clear g_0 g_2 g_3; omega) | (clear g_0 g_1 g_3; omega) | (clear g_0 g_1 g_2; omega) | omega)) (by first | assumption | decide | (first | (clear g_0 g_1 g_2 g_3 g_4 g_5 g_6; omega) | (clear g_0 g_1 g_2 g_3; omega) | (clear g_1 g_2 g_3; omega) | (clear g_0 g_2 g_3; omega) | (clear g_0 g_1 g_3; omega) | (clear g_0 g_1 g_2; omega) | omega)) rfl rfl ?_
        refine jT_xifF (t := 64) (pcN := 29) jIQ_38_26 rfl (by decide +kernel) rfl rfl ?_
        refine jT_xaload_n (v := (4, 0)) (pcN := 30) jIQ_38_29 rfl rfl rfl ?_
        refine jT_xaload_n (v := (4, 1)) (pcN := 31) jIQ_38_30 rfl rfl rfl ?_
        refine jT_callA [0, 1] (y := 41) (pcN := 34) (dC := 0) (bc1 := 0) (bc2 := 0) (c1 := 0) (c2 := 0) (as := [(4, 0), (4, 1)]) (asC := [(4, 0), (4, 1)]) (LN := [(2, (1, -p7 - p8)), (0, (4, 0)), (1, (4, 1))]) (stN := []) (hsC := [jgh, (101, [], [q1, p7, p8, 0, 0, 0])]) (ex := []) (v := (1, 108917793695 * p7 + 159561683699 * p8 + 68719476736 * q1)) (st2 := [(1, 108917793695 * p7 + 159561683699 * p8 + 68719476736 * q1)]) (hs2 := [(8, [(4, 2), (4, 3)], []), (101, [], [q1, p7, p8, 0, 0, 0]), jgh, jgh]) (jQ_41_85 (d := 0) (by first | assumption | decide | (first | (clear g_0 g_1 g_2 g_3 g_4 g_5 g_6; omega) | (clear g_0 g_1 g_2 g_3; omega) | (clear g_1 g_2 g_3; omega) | (clear g_0 g_2 g_3; omega) | (clear g_0 g_1 g_3; omega) | (clear g_0 g_1 g_2; omega) | omega)) (by first | assumption | decide | (first | (clear g_0 g_1 g_2 g_3 g_4 g_5 g_6; omega) | (clear g_0 g_1 g_2 g_3; omega) | (clear g_1 g_2 g_3; omega) | (clear g_0 g_2 g_3; omega) | (clear g_0 g_1 g_3; omega) | (clear g_0 g_1 g_2; omega) | omega)) (by first | assumption | decide | (first | (clear g_0 g_1 g_2 g_3 g_4 g_5 g_6; omega) | (clear g_0 g_1 g_2 g_3; omega) | (clear g_1 g_2 g_3; omega) | (clear g_0 g_2 g_3; omega) | (clear g_0 g_1 g_3; omega) | (clear g_0 g_1 g_2; omega) | omega)) (by first | assumption | decide | (first | (clear g_0 g_1 g_2 g_3 g_4 g_5 g_6; omega) | (clear g_0 g_1 g_2 g_3; omega) | (clear g_1 g_2 g_3; omega) | (clear g_0 g_2 g_3; omega) | (clear g_0 g_1 g_3; omega) | (clear g_0 g_1 g_2; omega) | omega)) (by first | assumption | decide | (first | (clear g_0 g_1 g_2 g_3 g_4 g_5 g_6; omega) | (clear g_0 g_1 g_2 g_3; omega) | (clear g_1 g_2 g_3; omega) | (clear g_0 g_2 g_3; omega) | (clear g_0 g_1 g_3; omega) | (clear g_0 g_1 g_2; omega) | omega)) (by first | assumption | decide | (first | (clear g_0 g_1 g_2 g_3 g_4 g_5 g_6; omega) | (clear g_0 g_1 g_2 g_3; omega) | (clear g_1 g_2 g_3; omega) | (clear g_0 g_2 g_3; omega) | (clear g_0 g_1 g_3; omega) | (clear g_0 g_1 g_2; omega) | omega)) (by first | assumption | decide | (first | (clear g_0 g_1 g_2 g_3 g_4 g_5 g_6; omega) | (clear g_0 g_1 g_2 g_3; omega) | (clear g_1 g_2 g_3; omega) | (clear g_0 g_2 g_3; omega) | (clear g_0 g_1 g_3; omega) | (clear g_0 g_1 g_2; omega) | omega)) (by first | assumption | decide | (first | (clear g_0 g_1 g_2 g_3 g_4 g_5 g_6; omega) | (clear g_0 g_1 g_2 g_3; omega) | (clear g_1 g_2 g_3; omega) | (clear g_0 g_2 g_3; omega) | (clear g_0 g_1 g_3; omega) | (clear g_0 g_1 g_2; omega) | omega)) (by first | assumption | decide | (first | (clear g_0 g_1 g_2 g_3 g_4 g_5 g_6; omega) | (clear g_0 g_1 g_2 g_3; omega) | (clear g_1 g_2 g_3; omega) | (clear g_0 g_2 g_3; omega) | (clear g_0 g_1 g_3; omega) | (clear g_0 g_1 g_2; omega) | omega)) (by first | assumption | decide | (first | (clear g_0 g_1 g_2 g_3 g_4 g_5 g_6; omega) | (clear g_0 g_1 g_2 g_3; omega) | (clear g_1 g_2 g_3; omega) | (clear g_0 g_2 g_3; omega) | (clear g_0 g_1 g_3; omega) | (clear g_0 g_1 g_2; omega) | omega))) (by rfl) (by rfl) (by rfl) (by rfl) ⟨rfl, rfl, trivial⟩ (by rfl) (by rfl) (by first | assumption | decide | (first | (clear g_0 g_1 g_2 g_3 g_4 g_5 g_6; omega) | (clear g_0 g_1 g_2 g_3; omega) | (clear g_1 g_2 g_3; omega) | (clear g_0 g_2 g_3; omega) | (clear g_0 g_1 g_3; omega) | (clear g_0 g_1 g_2; omega) | omega)) (by show 4 ≤ 4; (first | (clear g_0 g_1 g_2 g_3 g_4 g_5 g_6; omega) | (clear g_0 g_1 g_2 g_3; omega) | (clear g_1 g_2 g_3; omega) | (clear g_0 g_2 g_3; omega) | (clear g_0 g_1 g_3; omega) | (clear g_0 g_1 g_2; omega) | omega)) (by first | assumption | decide | (first | (clear g_0 g_1 g_2 g_3 g_4 g_5 g_6; omega) | (clear g_0 g_1 g_2 g_3; omega) | (clear g_1 g_2 g_3; omega) | (clear g_0 g_2 g_3; omega) | (clear g_0 g_1 g_3; omega) | (clear g_0 g_1 g_2; omega) | omega)) (by first | assumption | decide | (first | (clear g_0 g_1 g_2 g_3 g_4 g_5 g_6; omega) | (clear g_0 g_1 g_2 g_3; omega) | (clear g_1 g_2 g_3; omega) | (clear g_0 g_2 g_3; omega) | (clear g_0 g_1 g_3; omega) | (clear g_0 g_1 g_2; omega) | omega)) rfl rfl ?_
        refine jT_xlstore (v := (1, 108917793695 * p7 + 159561683699 * p8 + 68719476736 * q1)) (LN := [(4, (1, 108917793695 * p7 + 159561683699 * p8 + 68719476736 * q1)), (2, (1, -p7 - p8)), (0, (4, 0)), (1, (4, 1))]) (pcN := 36) jIQ_38_34 rfl rfl rfl rfl ?_
        refine jT_xlload (v := (1, 108917793695 * p7 + 159561683699 * p8 + 68719476736 * q1)) (pcN := 38) jIQ_38_36 rfl rfl rfl ?_
        refine jT_xlload_n (v := (1, -p7 - p8)) (pcN := 39) jIQ_38_38 rfl rfl rfl ?_
        refine jT_lcmp (a := 108917793695 * p7 + 159561683699 * p8 + 68719476736 * q1) (b := -p7 - p8) (z := (-1)) (by rfl) (by rfl) (jwl_idd (by (first | (clear g_0 g_1 g_2 g_3 g_4 g_5 g_6; omega) | (clear g_0 g_1 g_2 g_3; omega) | (clear g_1 g_2 g_3; omega) | (clear g_0 g_2 g_3; omega) | (clear g_0 g_1 g_3; omega) | (clear g_0 g_1 g_2; omega) | omega)) (by (first | (clear g_0 g_1 g_2 g_3 g_4 g_5 g_6; omega) | (clear g_0 g_1 g_2 g_3; omega) | (clear g_1 g_2 g_3; omega) | (clear g_0 g_2 g_3; omega) | (clear g_0 g_1 g_3; omega) | (clear g_0 g_1 g_2; omega) | omega))) (jwl_idd (by (first | (clear g_0 g_1 g_2 g_3 g_4 g_5 g_6; omega) | (clear g_0 g_1 g_2 g_3; omega) | (clear g_1 g_2 g_3; omega) | (clear g_0 g_2 g_3; omega) | (clear g_0 g_1 g_3; omega) | (clear g_0 g_1 g_2; omega) | omega)) (by (first | (clear g_0 g_1 g_2 g_3 g_4 g_5 g_6; omega) | (clear g_0 g_1 g_2 g_3; omega) | (clear g_1 g_2 g_3; omega) | (clear g_0 g_2 g_3; omega) | (clear g_0 g_1 g_3; omega) | (clear g_0 g_1 g_2; omega) | omega))) (by rw [decide_eq_false (show ¬ ((-p7 - p8 : Int) < 108917793695 * p7 + 159561683699 * p8 + 68719476736 * q1) by (first | (clear g_0 g_1 g_2 g_3 g_4 g_5 g_6; omega) | (clear g_0 g_1 g_2 g_3; omega) | (clear g_1 g_2 g_3; omega) | (clear g_0 g_2 g_3; omega) | (clear g_0 g_1 g_3; omega) | (clear g_0 g_1 g_2; omega) | omega)), decide_eq_false (Int.ne_of_lt (show (108917793695 * p7 + 159561683699 * p8 + 68719476736 * q1 : Int) < -p7 - p8 by (first | (clear g_0 g_1 g_2 g_3 g_4 g_5 g_6; omega) | (clear g_0 g_1 g_2 g_3; omega) | (clear g_1 g_2 g_3; omega) | (clear g_0 g_2 g_3; omega) | (clear g_0 g_1 g_3; omega) | (clear g_0 g_1 g_2; omega) | omega)))]; rfl) ?_
        refine jT_xifF (t := 51) (pcN := 43) jIQ_38_40 rfl (by decide +kernel) rfl rfl ?_
        refine jT_xlload (v := (1, 108917793695 * p7 + 159561683699 * p8 + 68719476736 * q1)) (pcN := 45) jIQ_38_43 rfl rfl rfl ?_
        refine jT_xlload_n (v := (1, -p7 - p8)) (pcN := 46) jIQ_38_45 rfl rfl rfl ?_
        refine jT_adv 1 (pcN := 47) (LN := [(4, (1, 108917793695 * p7 + 159561683699 * p8 + 68719476736 * q1)), (2, (1, -p7 - p8)), (0, (4, 0)), (1, (4, 1))]) (stN := [(1, -(-p7 - p8)), (1, 108917793695 * p7 + 159561683699 * p8 + 68719476736 * q1)]) (hsN := [(8, [(4, 2), (4, 3)], []), (101, [], [q1, p7, p8, 0, 0, 0]), jgh, jgh]) (c1 := 0) (s1 := 0) (c2 := 0) (s2 := 0) (by exact rfl) ?_ (by first | assumption | decide | (first | (clear g_0 g_1 g_2 g_3 g_4 g_5 g_6; omega) | (clear g_0 g_1 g_2 g_3; omega) | (clear g_1 g_2 g_3; omega) | (clear g_0 g_2 g_3; omega) | (clear g_0 g_1 g_3; omega) | (clear g_0 g_1 g_2; omega) | omega)) (by first | assumption | decide | (first | (clear g_0 g_1 g_2 g_3 g_4 g_5 g_6; omega) | (clear g_0 g_1 g_2 g_3; omega) | (clear g_1 g_2 g_3; omega) | (clear g_0 g_2 g_3; omega) | (clear g_0 g_1 g_3; omega) | (clear g_0 g_1 g_2; omega) | omega))
        refine jT_eq (LN := [(4, (1, 108917793695 * p7 + 159561683699 * p8 + 68719476736 * q1)), (2, (1, -p7 - p8)), (0, (4, 0)), (1, (4, 1))]) (stN := [(1, p7 + p8), (1, 108917793695 * p7 + 159561683699 * p8 + 68719476736 * q1)]) (hsN := [(8, [(4, 2), (4, 3)], []), (101, [], [q1, p7, p8, 0, 0, 0]), jgh, jgh]) (rfl) (by simp only [List.cons.injEq, Prod.mk.injEq, and_true, true_and] <;> ((try unfold jw); (try unfold jwl); (first | (clear g_0 g_1 g_2 g_3 g_4 g_5 g_6; omega) | (clear g_0 g_1 g_2 g_3; omega) | (clear g_1 g_2 g_3; omega) | (clear g_0 g_2 g_3; omega) | (clear g_0 g_1 g_3; omega) | (clear g_0 g_1 g_2; omega) | omega))) (rfl) ?_
        refine jT_lcmp (a := 108917793695 * p7 + 159561683699 * p8 + 68719476736 * q1) (b := p7 + p8) (z := (-1)) (by rfl) (by rfl) (jwl_idd (by (first | (clear g_0 g_1 g_2 g_3 g_4 g_5 g_6; omega) | (clear g_0 g_1 g_2 g_3; omega) | (clear g_1 g_2 g_3; omega) | (clear g_0 g_2 g_3; omega) | (clear g_0 g_1 g_3; omega) | (clear g_0 g_1 g_2; omega) | omega)) (by (first | (clear g_0 g_1 g_2 g_3 g_4 g_5 g_6; omega) | (clear g_0 g_1 g_2 g_3; omega) | (clear g_1 g_2 g_3; omega) | (clear g_0 g_2 g_3; omega) | (clear g_0 g_1 g_3; omega) | (clear g_0 g_1 g_2; omega) | omega))) (jwl_idd (by (first | (clear g_0 g_1 g_2 g_3 g_4 g_5 g_6; omega) | (clear g_0 g_1 g_2 g_3; omega) | (clear g_1 g_2 g_3; omega) | (clear g_0 g_2 g_3; omega) | (clear g_0 g_1 g_3; omega) | (clear g_0 g_1 g_2; omega) | omega)) (by (first | (clear g_0 g_1 g_2 g_3 g_4 g_5 g_6; omega) | (clear g_0 g_1 g_2 g_3; omega) | (clear g_1 g_2 g_3; omega) | (clear g_0 g_2 g_3; omega) | (clear g_0 g_1 g_3; omega) | (clear g_0 g_1 g_2; omega) | omega))) (by rw [decide_eq_false (show ¬ ((p7 + p8 : Int) < 108917793695 * p7 + 159561683699 * p8 + 68719476736 * q1) by (first | (clear g_0 g_1 g_2 g_3 g_4 g_5 g_6; omega) | (clear g_0 g_1 g_2 g_3; omega) | (clear g_1 g_2 g_3; omega) | (clear g_0 g_2 g_3; omega) | (clear g_0 g_1 g_3; omega) | (clear g_0 g_1 g_2; omega) | omega)), decide_eq_false (Int.ne_of_lt (show (108917793695 * p7 + 159561683699 * p8 + 68719476736 * q1 : Int) < p7 + p8 by (first | (clear g_0 g_1 g_2 g_3 g_4 g_5 g_6; omega) | (clear g_0 g_1 g_2 g_3; omega) | (clear g_1 g_2 g_3; omega) | (clear g_0 g_2 g_3; omega) | (clear g_0 g_1 g_3; omega) | (clear g_0 g_1 g_2; omega) | omega)))]; rfl) ?_
        refine jT_xifF (t := 64) (pcN := 51) jIQ_38_48 rfl (by decide +kernel) rfl rfl ?_
        refine jT_xlload (v := (1, 108917793695 * p7 + 159561683699 * p8 + 68719476736 * q1)) (pcN := 53) jIQ_38_51 rfl rfl rfl ?_
        refine jT_xlconst (z := 0) (pcN := 54) jIQ_38_53 rfl rfl ?_
        refine jT_lcmp (a := 108917793695 * p7 + 159561683699 * p8 + 68719476736 * q1) (b := 0) (z := (-1)) (by rfl) (by rfl) (jwl_idd (by (first | (clear g_0 g_1 g_2 g_3 g_4 g_5 g_6; omega) | (clear g_0 g_1 g_2 g_3; omega) | (clear g_1 g_2 g_3; omega) | (clear g_0 g_2 g_3; omega) | (clear g_0 g_1 g_3; omega) | (clear g_0 g_1 g_2; omega) | omega)) (by (first | (clear g_0 g_1 g_2 g_3 g_4 g_5 g_6; omega) | (clear g_0 g_1 g_2 g_3; omega) | (clear g_1 g_2 g_3; omega) | (clear g_0 g_2 g_3; omega) | (clear g_0 g_1 g_3; omega) | (clear g_0 g_1 g_2; omega) | omega))) (jwl_idd (by (first | (clear g_0 g_1 g_2 g_3 g_4 g_5 g_6; omega) | (clear g_0 g_1 g_2 g_3; omega) | (clear g_1 g_2 g_3; omega) | (clear g_0 g_2 g_3; omega) | (clear g_0 g_1 g_3; omega) | (clear g_0 g_1 g_2; omega) | omega)) (by (first | (clear g_0 g_1 g_2 g_3 g_4 g_5 g_6; omega) | (clear g_0 g_1 g_2 g_3; omega) | (clear g_1 g_2 g_3; omega) | (clear g_0 g_2 g_3; omega) | (clear g_0 g_1 g_3; omega) | (clear g_0 g_1 g_2; omega) | omega))) (by rw [decide_eq_false (show ¬ ((0 : Int) < 108917793695 * p7 + 159561683699 * p8 + 68719476736 * q1) by (first | (clear g_0 g_1 g_2 g_3 g_4 g_5 g_6; omega) | (clear g_0 g_1 g_2 g_3; omega) | (clear g_1 g_2 g_3; omega) | (clear g_0 g_2 g_3; omega) | (clear g_0 g_1 g_3; omega) | (clear g_0 g_1 g_2; omega) | omega)), decide_eq_false (Int.ne_of_lt (show (108917793695 * p7 + 159561683699 * p8 + 68719476736 * q1 : Int) < 0 by (first | (clear g_0 g_1 g_2 g_3 g_4 g_5 g_6; omega) | (clear g_0 g_1 g_2 g_3; omega) | (clear g_1 g_2 g_3; omega) | (clear g_0 g_2 g_3; omega) | (clear g_0 g_1 g_3; omega) | (clear g_0 g_1 g_2; omega) | omega)))]; rfl) ?_
        refine jT_xifF (t := 62) (pcN := 58) jIQ_38_55 rfl (by decide +kernel) rfl rfl ?_
        refine jT_xiconst (k := (-1)) (pcN := 59) jIQ_38_58 rfl ?_
        refine jT_xgoto (pcN := 63) jIQ_38_59 rfl ?_
        exact jT_ret rfl (by decide) (by show 4 ≤ 4; decide) (by first | assumption | decide | (first | (clear g_0 g_1 g_2 g_3 g_4 g_5 g_6; omega) | (clear g_0 g_1 g_2 g_3; omega) | (clear g_1 g_2 g_3; omega) | (clear g_0 g_2 g_3; omega) | (clear g_0 g_1 g_3; omega) | (clear g_0 g_1 g_2; omega) | omega)) (by first | assumption | decide | (first | (clear g_0 g_1 g_2 g_3 g_4 g_5 g_6; omega) | (clear g_0 g_1 g_2 g_3; omega) | (clear g_1 g_2 g_3; omega) | (clear g_0 g_2 g_3; omega) | (clear g_0 g_1 g_3; omega) | (clear g_0 g_1 g_2; omega) | omega)) ⟨rfl, rfl, rfl⟩
      · refine jT_xaload_n (v := (4, 0)) (pcN := 1) jIQ_38_0 rfl rfl rfl ?_
        refine jT_xaload_n (v := (4, 1)) (pcN := 2) jIQ_38_1 rfl rfl rfl ?_
        refine jT_callA [0, 1] (y := 39) (pcN := 5) (dC := 0) (bc1 := 0) (bc2 := 0) (c1 := 0) (c2 := 0) (as := [(4, 0), (4, 1)]) (asC := [(4, 0), (4, 1)]) (LN := [(0, (4, 0)), (1, (4, 1))]) (stN := []) (hsC := [jgh, (101, [], [q1, p7, p8, 0, 0, 0])]) (ex := []) (v := (1, -p7 - p8)) (st2 := [(1, -p7 - p8)]) (hs2 := [(8, [(4, 2), (4, 3)], []), (101, [], [q1, p7, p8, 0, 0, 0]), jgh, jgh]) (jQ_39_80 (d := 0) (by first | assumption | decide | (first | (clear g_0 g_1 g_2 g_3 g_4 g_5 g_6; omega) | (clear g_0 g_1 g_2 g_3; omega) | (clear g_1 g_2 g_3; omega) | (clear g_0 g_2 g_3; omega) | (clear g_0 g_1 g_3; omega) | (clear g_0 g_1 g_2; omega) | omega)) (by first | assumption | decide | (first | (clear g_0 g_1 g_2 g_3 g_4 g_5 g_6; omega) | (clear g_0 g_1 g_2 g_3; omega) | (clear g_1 g_2 g_3; omega) | (clear g_0 g_2 g_3; omega) | (clear g_0 g_1 g_3; omega) | (clear g_0 g_1 g_2; omega) | omega)) (by first | assumption | decide | (first | (clear g_0 g_1 g_2 g_3 g_4 g_5 g_6; omega) | (clear g_0 g_1 g_2 g_3; omega) | (clear g_1 g_2 g_3; omega) | (clear g_0 g_2 g_3; omega) | (clear g_0 g_1 g_3; omega) | (clear g_0 g_1 g_2; omega) | omega)) (by first | assumption | decide | (first | (clear g_0 g_1 g_2 g_3 g_4 g_5 g_6; omega) | (clear g_0 g_1 g_2 g_3; omega) | (clear g_1 g_2 g_3; omega) | (clear g_0 g_2 g_3; omega) | (clear g_0 g_1 g_3; omega) | (clear g_0 g_1 g_2; omega) | omega)) (by first | assumption | decide | (first | (clear g_0 g_1 g_2 g_3 g_4 g_5 g_6; omega) | (clear g_0 g_1 g_2 g_3; omega) | (clear g_1 g_2 g_3; omega) | (clear g_0 g_2 g_3; omega) | (clear g_0 g_1 g_3; omega) | (clear g_0 g_1 g_2; omega) | omega)) (by first | assumption | decide | (first | (clear g_0 g_1 g_2 g_3 g_4 g_5 g_6; omega) | (clear g_0 g_1 g_2 g_3; omega) | (clear g_1 g_2 g_3; omega) | (clear g_0 g_2 g_3; omega) | (clear g_0 g_1 g_3; omega) | (clear g_0 g_1 g_2; omega) | omega)) (by first | assumption | decide | (first | (clear g_0 g_1 g_2 g_3 g_4 g_5 g_6; omega) | (clear g_0 g_1 g_2 g_3; omega) | (clear g_1 g_2 g_3; omega) | (clear g_0 g_2 g_3; omega) | (clear g_0 g_1 g_3; omega) | (clear g_0 g_1 g_2; omega) | omega)) (by first | assumption | decide | (first | (clear g_0 g_1 g_2 g_3 g_4 g_5 g_6; omega) | (clear g_0 g_1 g_2 g_3; omega) | (clear g_1 g_2 g_3; omega) | (clear g_0 g_2 g_3; omega) | (clear g_0 g_1 g_3; omega) | (clear g_0 g_1 g_2; omega) | omega)) (by first | assumption | decide | (first | (clear g_0 g_1 g_2 g_3 g_4 g_5 g_6; omega) | (clear g_0 g_1 g_2 g_3; omega) | (clear g_1 g_2 g_3; omega) | (clear g_0 g_2 g_3; omega) | (clear g_0 g_1 g_3; omega) | (clear g_0 g_1 g_2; omega) | omega)) (by first | assumption | decide | (first | (clear g_0 g_1 g_2 g_3 g_4 g_5 g_6; omega) | (clear g_0 g_1 g_2 g_3; omega) | (clear g_1 g_2 g_3; omega) | (clear g_0 g_2 g_3; omega) | (clear g_0 g_1 g_3; omega) | (clear g_0 g_1 g_2; omega) | omega))) (by rfl) (by rfl) (by rfl) (by rfl) ⟨rfl, rfl, trivial⟩ (by rfl) (by rfl) (by first | assumption | decide | (first | (clear g_0 g_1 g_2 g_3 g_4 g_5 g_6; omega) | (clear g_0 g_1 g_2 g_3; omega) | (clear g_1 g_2 g_3; omega) | (clear g_0 g_2 g_3; omega) | (clear g_0 g_1 g_3; omega) | (clear g_0 g_1 g_2; omega) | omega)) (by show 4 ≤ 4; (first | (clear g_0 g_1 g_2 g_3 g_4 g_5 g_6; omega) | (clear g_0 g_1 g_2 g_3; omega) | (clear g_1 g_2 g_3; omega) | (clear g_0 g_2 g_3; omega) | (clear g_0 g_1 g_3; omega) | (clear g_0 g_1 g_2; omega) | omega)) (by first | assumption | decide | (first | (clear g_0 g_1 g_2 g_3 g_4 g_5 g_6; omega) | (clear g_0 g_1 g_2 g_3; omega) | (clear g_1 g_2 g_3; omega) | (clear g_0 g_2 g_3; omega) | (clear g_0 g_1 g_3; omega) | (clear g_0 g_1 g_2; omega) | omega)) (by first | assumption | decide | (first | (clear g_0 g_1 g_2 g_3 g_4 g_5 g_6; omega) | (clear g_0 g_1 g_2 g_3; omega) | (clear g_1 g_2 g_3; omega) | (clear g_0 g_2 g_3; omega) | (clear g_0 g_1 g_3; omega) | (clear g_0 g_1 g_2; omega) | omega)) rfl rfl ?_
        refine jT_xlstore_n (v := (1, -p7 - p8)) (LN := [(2, (1, -p7 - p8)), (0, (4, 0)), (1, (4, 1))]) (pcN := 6) jIQ_38_5 rfl rfl rfl rfl ?_
        refine jT_xlload_n (v := (1, -p7 - p8)) (pcN := 7) jIQ_38_6 rfl rfl rfl ?_
        refine jT_xlconst (z := 0) (pcN := 8) jIQ_38_7 rfl rfl ?_
        refine jT_lcmp (a := -p7 - p8) (b := 0) (z := 1) (by rfl) (by rfl) (jwl_idd (by (first | (clear g_0 g_1 g_2 g_3 g_4 g_5 g_6; omega) | (clear g_0 g_1 g_2 g_3; omega) | (clear g_1 g_2 g_3; omega) | (clear g_0 g_2 g_3; omega) | (clear g_0 g_1 g_3; omega) | (clear g_0 g_1 g_2; omega) | omega)) (by (first | (clear g_0 g_1 g_2 g_3 g_4 g_5 g_6; omega) | (clear g_0 g_1 g_2 g_3; omega) | (clear g_1 g_2 g_3; omega) | (clear g_0 g_2 g_3; omega) | (clear g_0 g_1 g_3; omega) | (clear g_0 g_1 g_2; omega) | omega))) (jwl_idd (by (first | (clear g_0 g_1 g_2 g_3 g_4 g_5 g_6; omega) | (clear g_0 g_1 g_2 g_3; omega) | (clear g_1 g_2 g_3; omega) | (clear g_0 g_2 g_3; omega) | (clear g_0 g_1 g_3; omega) | (clear g_0 g_1 g_2; omega) | omega)) (by (first | (clear g_0 g_1 g_2 g_3 g_4 g_5 g_6; omega) | (clear g_0 g_1 g_2 g_3; omega) | (clear g_1 g_2 g_3; omega) | (clear g_0 g_2 g_3; omega) | (clear g_0 g_1 g_3; omega) | (clear g_0 g_1 g_2; omega) | omega))) (by rw [decide_eq_true (show (0 : Int) < -p7 - p8 by (first | (clear g_0 g_1 g_2 g_3 g_4 g_5 g_6; omega) | (clear g_0 g_1 g_2 g_3; omega) | (clear g_1 g_2 g_3; omega) | (clear g_0 g_2 g_3; omega) | (clear g_0 g_1 g_3; omega) | (clear g_0 g_1 g_2; omega) | omega))]; rfl) ?_
        refine jT_xifT (pcN := 20) jIQ_38_9 rfl (by decide +kernel) rfl ?_
        refine jT_xaload_n (v := (4, 0)) (pcN := 21) jIQ_38_20 rfl rfl rfl ?_
        refine jT_xaload_n (v := (4, 1)) (pcN := 22) jIQ_38_21 rfl rfl rfl ?_
        refine jT_xlload_n (v := (1, -p7 - p8)) (pcN := 23) jIQ_38_22 rfl rfl rfl ?_
        refine jT_callA [0, 1] (y := 40) (pcN := 26) (dC := 0) (bc1 := 0) (bc2 := 0) (c1 := 0) (c2 := 0) (as := [(4, 0), (4, 1), (1, -p7 - p8)]) (asC := [(4, 0), (4, 1), (1, -p7 - p8)]) (LN := [(2, (1, -p7 - p8)), (0, (4, 0)), (1, (4, 1))]) (stN := []) (hsC := [jgh, (101, [], [q1, p7, p8, 0, 0, 0])]) (ex := []) (v := (0, 1)) (st2 := [(0, 1)]) (hs2 := [(8, [(4, 2), (4, 3)], []), (101, [], [q1, p7, p8, 0, 0, 0]), jgh, jgh]) (jQ_40_81 (d := 0) (by first | assumption | decide | (first | (clear g_0 g_1 g_2 g_3 g_4 g_5 g_6; omega) | (clear g_0 g_1 g_2 g_3; omega) | (clear g_1 g_2 g_3; omega) | (clear g_0 g_2 g_3; omega) | (clear g_0 g_1 g_3; omega) | (clear g_0 g_1 g_2; omega) | omega)) (by first | assumption | decide | (first | (clear g_0 g_1 g_2 g_3 g_4 g_5 g_6; omega) | (clear g_0 g_1 g_2 g_3; omega) | (clear g_1 g_2 g_3; omega) | (clear g_0 g_2 g_3; omega) | (clear g_0 g_1 g_3; omega) | (clear g_0 g_1 g_2; omega) | omega)) (by first | assumption | decide | (first | (clear g_0 g_1 g_2 g_3 g_4 g_5 g_6; omega) | (clear g_0 g_1 g_2 g_3; omega) | (clear g_1 g_2 g_3; omega) | (clear g_0 g_2 g_3; omega) | (clear g_0 g_1 g_3; omega) | (clear g_0 g_1 g_2; omega) | omega)) (by first | assumption | decide | (first | (clear g_0 g_1 g_2 g_3 g_4 g_5 g_6; omega) | (clear g_0 g_1 g_2 g_3; omega) | (clear g_1 g_2 g_3; omega) | (clear g_0 g_2 g_3; omega) | (clear g_0 g_1 g_3; omega) | (clear g_0 g_1 g_2; omega) | omega)) (by first | assumption | decide | (first | (clear g_0 g_1 g_2 g_3 g_4 g_5 g_6; omega) | (clear g_0 g_1 g_2 g_3; omega) | (clear g_1 g_2 g_3; omega) | (clear g_0 g_2 g_3; omega) | (clear g_0 g_1 g_3; omega) | (clear g_0 g_1 g_2; omega) | omega)) (by first | assumption | decide | (first | (clear g_0 g_1 g_2 g_3 g_4 g_5 g_6; omega) | (clear g_0 g_1 g_2 g_3; omega) | (clear g_1 g_2 g_3; omega) | (clear g_0 g_2 g_3; omega) | (clear g_0 g_1 g_3; omega) | (clear g_0 g_1 g_2; omega) | omega)) (by first | assumption | decide | (first | (clear g_0 g_1 g_2 g_3 g_4 g_5 g_6; omega) | (clear g_0 g_1 g_2 g_3; omega) | (clear g_1 g_2 g_3; omega) | (clear g_0 g_2 g_3; omega) | (clear g_0 g_1 g_3; omega) | (clear g_0 g_1 g_2; omega) | omega)) (by first | assumption | decide | (first | (clear g_0 g_1 g_2 g_3 g_4 g_5 g_6; omega) | (clear g_0 g_1 g_2 g_3; omega) | (clear g_1 g_2 g_3; omega) | (clear g_0 g_2 g_3; omega) | (clear g_0 g_1 g_3; omega) | (clear g_0 g_1 g_2; omega) | omega)) (by first | assumption | decide | (first | (clear g_0 g_1 g_2 g_3 g_4 g_5 g_6; omega) | (clear g_0 g_1 g_2 g_3; omega) | (clear g_1 g_2 g_3; omega) | (clear g_0 g_2 g_3; omega) | (clear g_0 g_1 g_3; omega) | (clear g_0 g_1 g_2; omega) | omega)) (by first | assumption | decide | (first | (clear g_0 g_1 g_2 g_3 g_4 g_5 g_6; omega) | (clear g_0 g_1 g_2 g_3; omega) | (clear g_1 g_2 g_3; omega) | (clear g_0 g_2 g_3; omega) | (clear g_0 g_1 g_3; omega) | (clear g_0 g_1 g_2; omega) | omega))) (by rfl) (by rfl) (by rfl) (by rfl) ⟨rfl, rfl, trivial⟩ (by rfl) (by rfl) (by first | assumption | decide | (first | (clear g_0 g_1 g_2 g_3 g_4 g_5 g_6; omega) | (clear g_0 g_1 g_2 g_3; omega) | (clear g_1 g_2 g_3; omega) | (clear g_0 g_2 g_3; omega) | (clear g_0 g_1 g_3; omega) | (clear g_0 g_1 g_2; omega) | omega)) (by show 4 ≤ 4; (first | (clear g_0 g_1 g_2 g_3 g_4 g_5 g_6; omega) | (clear g_0 g_1 g_2 g_3; omega) | (clear g_1 g_2 g_3; omega) | (clear g_0 g_2 g_3; omega) | (clear g_0 g_1 g_3; omega) | (clear g_0 g_1 g_2; omega) | omega)) (by first | assumption | decide | (first | (clear g_0 g_1 g_2 g_3 g_4 g_5 g_6; omega) | (clear g_0 g_1 g_2 g_3; omega) | (clear g_1 g_2 g_3; omega) | (clear g_0 g_2 g_3; omega) | (clear g_0 g_1 g_3; omega) | (clear g_0 g_1 g_2; omega) | omega)) (by first | assumption | decide | (first | (clear g_0 g_1 g_2 g_3 g_4 g_5 g_6; omega) | (clear g_0 g_1 g_2 g_3; omega) | (clear g_1 g_2 g_3; omega) | (clear g_0 g_2 g_3; omega) | (clear g_0 g_1 g_3; omega) | (clear g_0 g_1 g_2; omega) | omega)) rfl rfl ?_
        refine jT_xifF (t := 64) (pcN := 29) jIQ_38_26 rfl (by decide +kernel) rfl rfl ?_
        refine jT_xaload_n (v := (4, 0)) (pcN := 30) jIQ_38_29 rfl rfl rfl ?_
        refine jT_xaload_n (v := (4, 1)) (pcN := 31) jIQ_38_30 rfl rfl rfl ?_
        refine jT_callA [0, 1] (y := 41) (pcN := 34) (dC := 0) (bc1 := 0) (bc2 := 0) (c1 := 0) (c2 := 0) (as := [(4, 0), (4, 1)]) (asC := [(4, 0), (4, 1)]) (LN := [(2, (1, -p7 - p8)), (0, (4, 0)), (1, (4, 1))]) (stN := []) (hsC := [jgh, (101, [], [q1, p7, p8, 0, 0, 0])]) (ex := []) (v := (1, 108917793695 * p7 + 159561683699 * p8 + 68719476736 * q1)) (st2 := [(1, 108917793695 * p7 + 159561683699 * p8 + 68719476736 * q1)]) (hs2 := [(8, [(4, 2), (4, 3)], []), (101, [], [q1, p7, p8, 0, 0, 0]), jgh, jgh]) (jQ_41_82 (d := 0) (by first | assumption | decide | (first | (clear g_0 g_1 g_2 g_3 g_4 g_5 g_6; omega) | (clear g_0 g_1 g_2 g_3; omega) | (clear g_1 g_2 g_3; omega) | (clear g_0 g_2 g_3; omega) | (clear g_0 g_1 g_3; omega) | (clear g_0 g_1 g_2; omega) | omega)) (by first | assumption | decide | (first | (clear g_0 g_1 g_2 g_3 g_4 g_5 g_6; omega) | (clear g_0 g_1 g_2 g_3; omega) | (clear g_1 g_2 g_3; omega) | (clear g_0 g_2 g_3; omega) | (clear g_0 g_1 g_3; omega) | (clear g_0 g_1 g_2; omega) | omega)) (by first | assumption | decide | (first | (clear g_0 g_1 g_2 g_3 g_4 g_5 g_6; omega) | (clear g_0 g_1 g_2 g_3; omega) | (clear g_1 g_2 g_3; omega) | (clear g_0 g_2 g_3; omega) | (clear g_0 g_1 g_3; omega) | (clear g_0 g_1 g_2; omega) | omega)) (by first | assumption | decide | (first | (clear g_0 g_1 g_2 g_3 g_4 g_5 g_6; omega) | (clear g_0 g_1 g_2 g_3; omega) | (clear g_1 g_2 g_3; omega) | (clear g_0 g_2 g_3; omega) | (clear g_0 g_1 g_3; omega) | (clear g_0 g_1 g_2; omega) | omega)) (by first | assumption | decide | (first | (clear g_0 g_1 g_2 g_3 g_4 g_5 g_6; omega) | (clear g_0 g_1 g_2 g_3; omega) | (clear g_1 g_2 g_3; omega) | (clear g_0 g_2 g_3; omega) | (clear g_0 g_1 g_3; omega) | (clear g_0 g_1 g_2; omega) | omega)) (by first | assumption | decide | (first | (clear g_0 g_1 g_2 g_3 g_4 g_5 g_6; omega) | (clear g_0 g_1 g_2 g_3; omega) | (clear g_1 g_2 g_3; omega) | (clear g_0 g_2 g_3; omega) | (clear g_0 g_1 g_3; omega) | (clear g_0 g_1 g_2; omega) | omega)) (by first | assumption | decide | (first | (clear g_0 g_1 g_2 g_3 g_4 g_5 g_6; omega) | (clear g_0 g_1 g_2 g_3; omega) | (clear g_1 g_2 g_3; omega) | (clear g_0 g_2 g_3; omega) | (clear g_0 g_1 g_3; omega) | (clear g_0 g_1 g_2; omega) | omega)) (by first | assumption | decide | (first | (clear g_0 g_1 g_2 g_3 g_4 g_5 g_6; omega) | (clear g_0 g_1 g_2 g_3; omega) | (clear g_1 g_2 g_3; omega) | (clear g_0 g_2 g_3; omega) | (clear g_0 g_1 g_3; omega) | (clear g_0 g_1 g_2; omega) | omega)) (by first | assumption | decide | (first | (clear g_0 g_1 g_2 g_3 g_4 g_5 g_6; omega) | (clear g_0 g_1 g_2 g_3; omega) | (clear g_1 g_2 g_3; omega) | (clear g_0 g_2 g_3; omega) | (clear g_0 g_1 g_3; omega) | (clear g_0 g_1 g_2; omega) | omega)) (by first | assumption | decide | (first | (clear g_0 g_1 g_2 g_3 g_4 g_5 g_6; omega) | (clear g_0 g_1 g_2 g_3; omega) | (clear g_1 g_2 g_3; omega) | (clear g_0 g_2 g_3; omega) | (clear g_0 g_1 g_3; omega) | (clear g_0 g_1 g_2; omega) | omega))) (by rfl) (by rfl) (by rfl) (by rfl) ⟨rfl, rfl, trivial⟩ (by rfl) (by rfl) (by first | assumption | decide | (first | (clear g_0 g_1 g_2 g_3 g_4 g_5 g_6; omega) | (clear g_0 g_1 g_2 g_3; omega) | (clear g_1 g_2 g_3; omega) | (clear g_0 g_2 g_3; omega) | (clear g_0 g_1 g_3; omega) | (clear g_0 g_1 g_2; omega) | omega)) (by show 4 ≤ 4; (first | (clear g_0 g_1 g_2 g_3 g_4 g_5 g_6; omega) | (clear g_0 g_1 g_2 g_3; omega) | (clear g_1 g_2 g_3; omega) | (clear g_0 g_2 g_3; omega) | (clear g_0 g_1 g_3; omega) | (clear g_0 g_1 g_2; omega) | omega)) (by first | assumption | decide | (first | (clear g_0 g_1 g_2 g_3 g_4 g_5 g_6; omega) | (clear g_0 g_1 g_2 g_3; omega) | (clear g_1 g_2 g_3; omega) | (clear g_0 g_2 g_3; omega) | (clear g_0 g_1 g_3; omega) | (clear g_0 g_1 g_2; omega) | omega)) (by first | assumption | decide | (first | (clear g_0 g_1 g_2 g_3 g_4 g_5 g_6; omega) | (clear g_0 g_1 g_2 g_3; omega) | (clear g_1 g_2 g_3; omega) | (clear g_0 g_2 g_3; omega) | (clear g_0 g_1 g_3; omega) | (clear g_0 g_1 g_2; omega) | omega)) rfl rfl ?_
        refine jT_xlstore (v := (1, 108917793695 * p7 + 159561683699 * p8 + 68719476736 * q1)) (LN := [(4, (1, 108917793695 * p7 + 159561683699 * p8 + 68719476736 * q1)), (2, (1, -p7 - p8)), (0, (4, 0)), (1, (4, 1))]) (pcN := 36) jIQ_38_34 rfl rfl rfl rfl ?_
        refine jT_xlload (v := (1, 108917793695 * p7 + 159561683699 * p8 + 68719476736 * q1)) (pcN := 38) jIQ_38_36 rfl rfl rfl ?_
        refine jT_xlload_n (v := (1, -p7 - p8)) (pcN := 39) jIQ_38_38 rfl rfl rfl ?_
        refine jT_lcmp (a := 108917793695 * p7 + 159561683699 * p8 + 68719476736 * q1) (b := -p7 - p8) (z := (-1)) (by rfl) (by rfl) (jwl_idd (by (first | (clear g_0 g_1 g_2 g_3 g_4 g_5 g_6; omega) | (clear g_0 g_1 g_2 g_3; omega) | (clear g_1 g_2 g_3; omega) | (clear g_0 g_2 g_3; omega) | (clear g_0 g_1 g_3; omega) | (clear g_0 g_1 g_2; omega) | omega)) (by (first | (clear g_0 g_1 g_2 g_3 g_4 g_5 g_6; omega) | (clear g_0 g_1 g_2 g_3; omega) | (clear g_1 g_2 g_3; omega) | (clear g_0 g_2 g_3; omega) | (clear g_0 g_1 g_3; omega) | (clear g_0 g_1 g_2; omega) | omega))) (jwl_idd (by (first | (clear g_0 g_1 g_2 g_3 g_4 g_5 g_6; omega) | (clear g_0 g_1 g_2 g_3; omega) | (clear g_1 g_2 g_3; omega) | (clear g_0 g_2 g_3; omega) | (clear g_0 g_1 g_3; omega) | (clear g_0 g_1 g_2; omega) | omega)) (by (first | (clear g_0 g_1 g_2 g_3 g_4 g_5 g_6; omega) | (clear g_0 g_1 g_2 g_3; omega) | (clear g_1 g_2 g_3; omega) | (clear g_0 g_2 g_3; omega) | (clear g_0 g_1 g_3; omega) | (clear g_0 g_1 g_2; omega) | omega))) (by rw [decide_eq_false (show ¬ ((-p7 - p8 : Int) < 108917793695 * p7 + 159561683699 * p8 + 68719476736 * q1) by (first | (clear g_0 g_1 g_2 g_3 g_4 g_5 g_6; omega) | (clear g_0 g_1 g_2 g_3; omega) | (clear g_1 g_2 g_3; omega) | (clear g_0 g_2 g_3; omega) | (clear g_0 g_1 g_3; omega) | (clear g_0 g_1 g_2; omega) | omega)), decide_eq_false (Int.ne_of_lt (show (108917793695 * p7 + 159561683699 * p8 + 68719476736 * q1 : Int) < -p7 - p8 by (first | (clear g_0 g_1 g_2 g_3 g_4 g_5 g_6; omega) | (clear g_0 g_1 g_2 g_3; omega) | (clear g_1 g_2 g_3; omega) | (clear g_0 g_2 g_3; omega) | (clear g_0 g_1 g_3; omega) | (clear g_0 g_1 g_2; omega) | omega)))]; rfl) ?_
        refine jT_xifF (t := 51) (pcN := 43) jIQ_38_40 rfl (by decide +kernel) rfl rfl ?_
        refine jT_xlload (v := (1, 108917793695 * p7 + 159561683699 * p8 + 68719476736 * q1)) (pcN := 45) jIQ_38_43 rfl rfl rfl ?_
        refine jT_xlload_n (v := (1, -p7 - p8)) (pcN := 46) jIQ_38_45 rfl rfl rfl ?_
        refine jT_adv 1 (pcN := 47) (LN := [(4, (1, 108917793695 * p7 + 159561683699 * p8 + 68719476736 * q1)), (2, (1, -p7 - p8)), (0, (4, 0)), (1, (4, 1))]) (stN := [(1, -(-p7 - p8)), (1, 108917793695 * p7 + 159561683699 * p8 + 68719476736 * q1)]) (hsN := [(8, [(4, 2), (4, 3)], []), (101, [], [q1, p7, p8, 0, 0, 0]), jgh, jgh]) (c1 := 0) (s1 := 0) (c2 := 0) (s2 := 0) (by exact rfl) ?_ (by first | assumption | decide | (first | (clear g_0 g_1 g_2 g_3 g_4 g_5 g_6; omega) | (clear g_0 g_1 g_2 g_3; omega) | (clear g_1 g_2 g_3; omega) | (clear g_0 g_2 g_3; omega) | (clear g_0 g_1 g_3; omega) | (clear g_0 g_1 g_2; omega) | omega)) (by first | assumption | decide | (first | (clear g_0 g_1 g_2 g_3 g_4 g_5 g_6; omega) | (clear g_0 g_1 g_2 g_3; omega) | (clear g_1 g_2 g_3; omega) | (clear g_0 g_2 g_3; omega) | (clear g_0 g_1 g_3; omega) | (clear g_0 g_1 g_2; omega) | omega))
        refine jT_eq (LN := [(4, (1, 108917793695 * p7 + 159561683699 * p8 + 68719476736 * q1)), (2, (1, -p7 - p8)), (0, (4, 0)), (1, (4, 1))]) (stN := [(1, p7 + p8), (1, 108917793695 * p7 + 159561683699 * p8 + 68719476736 * q1)]) (hsN := [(8, [(4, 2), (4, 3)], []), (101, [], [q1, p7, p8, 0, 0, 0]), jgh, jgh]) (rfl) (by simp only [List.cons.injEq, Prod.mk.injEq, and_true, true_and] <;> ((try unfold jw); (try unfold jwl); (first | (clear g_0 g_1 g_2 g_3 g_4 g_5 g_6; omega) | (clear g_0 g_1 g_2 g_3; omega) | (clear g_1 g_2 g_3; omega) | (clear g_0 g_2 g_3; omega) | (clear g_0 g_1 g_3; omega) | (clear g_0 g_1 g_2; omega) | omega))) (rfl) ?_
        refine jT_lcmp (a := 108917793695 * p7 + 159561683699 * p8 + 68719476736 * q1) (b := p7 + p8) (z := (-1)) (by rfl) (by rfl) (jwl_idd (by (first | (clear g_0 g_1 g_2 g_3 g_4 g_5 g_6; omega) | (clear g_0 g_1 g_2 g_3; omega) | (clear g_1 g_2 g_3; omega) | (clear g_0 g_2 g_3; omega) | (clear g_0 g_1 g_3; omega) | (clear g_0 g_1 g_2; omega) | omega)) (by (first | (clear g_0 g_1 g_2 g_3 g_4 g_5 g_6; omega) | (clear g_0 g_1 g_2 g_3; omega) | (clear g_1 g_2 g_3; omega) | (clear g_0 g_2 g_3; omega) | (clear g_0 g_1 g_3; omega) | (clear g_0 g_1 g_2; omega) | omega))) (jwl_idd (by (first | (clear g_0 g_1 g_2 g_3 g_4 g_5 g_6; omega) | (clear g_0 g_1 g_2 g_3; omega) | (clear g_1 g_2 g_3; omega) | (clear g_0 g_2 g_3; omega) | (clear g_0 g_1 g_3; omega) | (clear g_0 g_1 g_2; omega) | omega)) (by (first | (clear g_0 g_1 g_2 g_3 g_4 g_5 g_6; omega) | (clear g_0 g_1 g_2 g_3; omega) | (clear g_1 g_2 g_3; omega) | (clear g_0 g_2 g_3; omega) | (clear g_0 g_1 g_3; omega) | (clear g_0 g_1 g_2; omega) | omega))) (by rw [decide_eq_false (show ¬ ((p7 + p8 : Int) < 108917793695 * p7 + 159561683699 * p8 + 68719476736 * q1) by (first | (clear g_0 g_1 g_2 g_3 g_4 g_5 g_6; omega) | (clear g_0 g_1 g_2 g_3; omega) | (clear g_1 g_2 g_3; omega) | (clear g_0 g_2 g_3; omega) | (clear g_0 g_1 g_3; omega) | (clear g_0 g_1 g_2; omega) | omega)), decide_eq_false (Int.ne_of_lt (show (108917793695 * p7 + 159561683699 * p8 + 68719476736 * q1 : Int) < p7 + p8 by (first | (clear g_0 g_1 g_2 g_3 g_4 g_5 g_6; omega) | (clear g_0 g_1 g_2 g_3; omega) | (clear g_1 g_2 g_3; omega) | (clear g_0 g_2 g_3; omega) | (clear g_0 g_1 g_3; omega) | (clear g_0 g_1 g_2; omega) | omega)))]; rfl) ?_
        refine jT_xifF (t := 64) (pcN := 51) jIQ_38_48 rfl (by decide +kernel) rfl rfl ?_
        refine jT_xlload (v := (1, 108917793695 * p7 + 159561683699 * p8 + 68719476736 * q1)) (pcN := 53) jIQ_38_51 rfl rfl rfl ?_
        refine jT_xlconst (z := 0) (pcN := 54) jIQ_38_53 rfl rfl ?_
        refine jT_lcmp (a := 108917793695 * p7 + 159561683699 * p8 + 68719476736 * q1) (b := 0) (z := (-1)) (by rfl) (by rfl) (jwl_idd (by (first | (clear g_0 g_1 g_2 g_3 g_4 g_5 g_6; omega) | (clear g_0 g_1 g_2 g_3; omega) | (clear g_1 g_2 g_3; omega) | (clear g_0 g_2 g_3; omega) | (clear g_0 g_1 g_3; omega) | (clear g_0 g_1 g_2; omega) | omega)) (by (first | (clear g_0 g_1 g_2 g_3 g_4 g_5 g_6; omega) | (clear g_0 g_1 g_2 g_3; omega) | (clear g_1 g_2 g_3; omega) | (clear g_0 g_2 g_3; omega) | (clear g_0 g_1 g_3; omega) | (clear g_0 g_1 g_2; omega) | omega))) (jwl_idd (by (first | (clear g_0 g_1 g_2 g_3 g_4 g_5 g_6; omega) | (clear g_0 g_1 g_2 g_3; omega) | (clear g_1 g_2 g_3; omega) | (clear g_0 g_2 g_3; omega) | (clear g_0 g_1 g_3; omega) | (clear g_0 g_1 g_2; omega) | omega)) (by (first | (clear g_0 g_1 g_2 g_3 g_4 g_5 g_6; omega) | (clear g_0 g_1 g_2 g_3; omega) | (clear g_1 g_2 g_3; omega) | (clear g_0 g_2 g_3; omega) | (clear g_0 g_1 g_3; omega) | (clear g_0 g_1 g_2; omega) | omega))) (by rw [decide_eq_false (show ¬ ((0 : Int) < 108917793695 * p7 + 159561683699 * p8 + 68719476736 * q1) by (first | (clear g_0 g_1 g_2 g_3 g_4 g_5 g_6; omega) | (clear g_0 g_1 g_2 g_3; omega) | (clear g_1 g_2 g_3; omega) | (clear g_0 g_2 g_3; omega) | (clear g_0 g_1 g_3; omega) | (clear g_0 g_1 g_2; omega) | omega)), decide_eq_false (Int.ne_of_lt (show (108917793695 * p7 + 159561683699 * p8 + 68719476736 * q1 : Int) < 0 by (first | (clear g_0 g_1 g_2 g_3 g_4 g_5 g_6; omega) | (clear g_0 g_1 g_2 g_3; omega) | (clear g_1 g_2 g_3; omega) | (clear g_0 g_2 g_3; omega) | (clear g_0 g_1 g_3; omega) | (clear g_0 g_1 g_2; omega) | omega)))]; rfl) ?_
        refine jT_xifF (t := 62) (pcN := 58) jIQ_38_55 rfl (by decide +kernel) rfl rfl ?_
        refine jT_xiconst (k := (-1)) (pcN := 59) jIQ_38_58 rfl ?_
        refine jT_xgoto (pcN := 63) jIQ_38_59 rfl ?_
        exact jT_ret rfl (by decide) (by show 4 ≤ 4; decide) (by first | assumption | decide | (first | (clear g_0 g_1 g_2 g_3 g_4 g_5 g_6; omega) | (clear g_0 g_1 g_2 g_3; omega) | (clear g_1 g_2 g_3; omega) | (clear g_0 g_2 g_3; omega) | (clear g_0 g_1 g_3; omega) | (clear g_0 g_1 g_2; omega) | omega)) (by first | assumption | decide | (first | (clear g_0 g_1 g_2 g_3 g_4 g_5 g_6; omega) | (clear g_0 g_1 g_2 g_3; omega) | (clear g_1 g_2 g_3; omega) | (clear g_0 g_2 g_3; omega) | (clear g_0 g_1 g_3; omega) | (clear g_0 g_1 g_2; omega) | omega)) ⟨rfl, rfl, rfl⟩
theorem jIQ_161_170 : jmI (jm 161) 170 = (.ifCond .le 7, 3) := by rfl
theorem jIQ_161_177 : jmI (jm 161) 177 = (.iconst 0, 1) := by rfl
theorem jQ_161_118 {xs : List Int} {d : Nat} {r7 r8 u85_0 u85_1 u85_2 u85_3 u85_4 u85_5 : Int} (h_r7 : (-20) ≤ r7 ∧ r7 ≤ 20) (h_r8 : (-10) ≤ r8 ∧ r8 ≤ 10) (g_0 : 0 < r7) : jT xs (d + 2) 161 16 0 [(0, (4, 0)), (1, (0, r7)), (2, (0, r8)), (3, (4, 1)), (4, (0, 0))] [] [jzQ_16, (4, [(4, 13), (1, 1)], []), (8, [(4, 14), (4, 15)], []), jgh, jgh, jgh, jgh, jgh, jgh, (101, [], [u85_0, u85_1, u85_2, u85_3, u85_4, u85_5]), jgh, jgh, jgh, (101, [], [0, 0, 0, 0, 0, 0]), jgh, jgh] 0 0 (fun k v hsN => k = 0 ∧ v = (0, 0) ∧ hsN = [jzQ_16, (4, [(4, 13), (1, 1)], []), (8, [(4, 14), (4, 15)], []), jgh, jgh, jgh, jgh, jgh, jgh, (101, [], [(108917793695 * r7 + 159561683699 * r8) / 68719476736, -r7, -r8, 0, 0, 0]), jgh, jgh, jgh, (101, [], [0, 0, 0, 0, 0, 0]), jgh, jgh]) := by
  refine jT_xiload_n (v := (0, r7)) (pcN := 1) jIQ_161_0 rfl rfl rfl ?_
  refine jT_ifT (a := r7) (t := 10) (by rfl) (by rfl) (by rfl) (jw_idd (by omega) (by omega)) (by simp only [jcP] <;> omega) ?_
  refine jT_xiconst (k := 0) (pcN := 11) jIQ_161_10 rfl ?_
  refine jT_xistore (v := (0, 0)) (LN := [(5, (0, 0)), (0, (4, 0)), (1, (0, r7)), (2, (0, r8)), (3, (4, 1)), (4, (0, 0))]) (pcN := 13) jIQ_161_11 rfl rfl rfl rfl ?_
  refine jT_xiload (v := (0, 0)) (pcN := 15) jIQ_161_13 rfl rfl rfl ?_
  refine jT_xbipush (k := 6) (pcN := 17) jIQ_161_15 (by decide) rfl ?_
  refine jT_xicF (t := 56) (pcN := 20) jIQ_161_17 rfl (by decide +kernel) rfl rfl ?_
  refine jT_xaload_n (v := (4, 0)) (pcN := 21) jIQ_161_20 rfl rfl rfl ?_
  refine jT_xgetf (a := 0) (t := 1) (ci := 13) (fi := 7) (c := jzQ_16) (v := (4, 9)) (pcN := 24) jIQ_161_21 rfl rfl rfl rfl rfl rfl rfl ?_
  refine jT_xiload (v := (0, 0)) (pcN := 26) jIQ_161_24 rfl rfl rfl ?_
  refine jT_xiload (v := (0, 0)) (pcN := 28) jIQ_161_26 rfl rfl rfl ?_
  refine jT_xiconst (k := 1) (pcN := 29) jIQ_161_28 rfl ?_
  refine jT_xicT (pcN := 37) jIQ_161_29 rfl (by decide +kernel) rfl ?_
  refine jT_xiload (v := (0, 0)) (pcN := 39) jIQ_161_37 rfl rfl rfl ?_
  refine jT_xiconst (k := 2) (pcN := 40) jIQ_161_39 rfl ?_
  refine jT_xicT (pcN := 48) jIQ_161_40 rfl (by decide +kernel) rfl ?_
  refine jT_xlconst (z := 0) (pcN := 49) jIQ_161_48 rfl rfl ?_
  refine jT_adv 1 (pcN := 50) (LN := [(5, (0, 0)), (0, (4, 0)), (1, (0, r7)), (2, (0, r8)), (3, (4, 1)), (4, (0, 0))]) (stN := []) (hsN := [jzQ_16, (4, [(4, 13), (1, 1)], []), (8, [(4, 14), (4, 15)], []), jgh, jgh, jgh, jgh, jgh, jgh, (101, [], [0, u85_1, u85_2, u85_3, u85_4, u85_5]), jgh, jgh, jgh, (101, [], [0, 0, 0, 0, 0, 0]), jgh, jgh]) (c1 := 0) (s1 := 0) (c2 := 0) (s2 := 0) (by exact rfl) ?_ (by omega) (by omega)
  refine jT_xiinc (x := 0) (z := 1) (LN := [(5, (0, 1)), (0, (4, 0)), (1, (0, r7)), (2, (0, r8)), (3, (4, 1)), (4, (0, 0))]) (pcN := 53) jIQ_161_50 rfl rfl (by decide) rfl rfl ?_
  refine jT_xgoto (pcN := 13) jIQ_161_53 rfl ?_
  refine jT_xiload (v := (0, 1)) (pcN := 15) jIQ_161_13 rfl rfl rfl ?_
  refine jT_xbipush (k := 6) (pcN := 17) jIQ_161_15 (by decide) rfl ?_
  refine jT_xicF (t := 56) (pcN := 20) jIQ_161_17 rfl (by decide +kernel) rfl rfl ?_
  refine jT_xaload_n (v := (4, 0)) (pcN := 21) jIQ_161_20 rfl rfl rfl ?_
  refine jT_xgetf (a := 0) (t := 1) (ci := 13) (fi := 7) (c := jzQ_16) (v := (4, 9)) (pcN := 24) jIQ_161_21 rfl rfl rfl rfl rfl rfl rfl ?_
  refine jT_xiload (v := (0, 1)) (pcN := 26) jIQ_161_24 rfl rfl rfl ?_
  refine jT_xiload (v := (0, 1)) (pcN := 28) jIQ_161_26 rfl rfl rfl ?_
  refine jT_xiconst (k := 1) (pcN := 29) jIQ_161_28 rfl ?_
  refine jT_xicF (t := 37) (pcN := 32) jIQ_161_29 rfl (by decide +kernel) rfl rfl ?_
  refine jT_xiload_n (v := (0, r7)) (pcN := 33) jIQ_161_32 rfl rfl rfl ?_
  refine jT_xi2l (x := r7) (z := r7) (pcN := 34) jIQ_161_33 rfl (jw_idd (by omega) (by omega)) rfl ?_
  refine jT_xgoto (pcN := 49) jIQ_161_34 rfl ?_
  refine jT_adv 1 (pcN := 50) (LN := [(5, (0, 1)), (0, (4, 0)), (1, (0, r7)), (2, (0, r8)), (3, (4, 1)), (4, (0, 0))]) (stN := []) (hsN := [jzQ_16, (4, [(4, 13), (1, 1)], []), (8, [(4, 14), (4, 15)], []), jgh, jgh, jgh, jgh, jgh, jgh, (101, [], [0, r7, u85_2, u85_3, u85_4, u85_5]), jgh, jgh, jgh, (101, [], [0, 0, 0, 0, 0, 0]), jgh, jgh]) (c1 := 0) (s1 := 0) (c2 := 0) (s2 := 0) (by exact rfl) ?_ (by omega) (by omega)
  refine jT_xiinc (x := 1) (z := 2) (LN := [(5, (0, 2)), (0, (4, 0)), (1, (0, r7)), (2, (0, r8)), (3, (4, 1)), (4, (0, 0))]) (pcN := 53) jIQ_161_50 rfl rfl (by decide) rfl rfl ?_
  refine jT_xgoto (pcN := 13) jIQ_161_53 rfl ?_
  refine jT_xiload (v := (0, 2)) (pcN := 15) jIQ_161_13 rfl rfl rfl ?_
  refine jT_xbipush (k := 6) (pcN := 17) jIQ_161_15 (by decide) rfl ?_
  refine jT_xicF (t := 56) (pcN := 20) jIQ_161_17 rfl (by decide +kernel) rfl rfl ?_
  refine jT_xaload_n (v := (4, 0)) (pcN := 21) jIQ_161_20 rfl rfl rfl ?_
  refine jT_xgetf (a := 0) (t := 1) (ci := 13) (fi := 7) (c := jzQ_16) (v := (4, 9)) (pcN := 24) jIQ_161_21 rfl rfl rfl rfl rfl rfl rfl ?_
  refine jT_xiload (v := (0, 2)) (pcN := 26) jIQ_161_24 rfl rfl rfl ?_
  refine jT_xiload (v := (0, 2)) (pcN := 28) jIQ_161_26 rfl rfl rfl ?_
  refine jT_xiconst (k := 1) (pcN := 29) jIQ_161_28 rfl ?_
  refine jT_xicT (pcN := 37) jIQ_161_29 rfl (by decide +kernel) rfl ?_
  refine jT_xiload (v := (0, 2)) (pcN := 39) jIQ_161_37 rfl rfl rfl ?_
  refine jT_xiconst (k := 2) (pcN := 40) jIQ_161_39 rfl ?_
  refine jT_xicF (t := 48) (pcN := 43) jIQ_161_40 rfl (by decide +kernel) rfl rfl ?_
  refine jT_xiload_n (v := (0, r8)) (pcN := 44) jIQ_161_43 rfl rfl rfl ?_
  refine jT_xi2l (x := r8) (z := r8) (pcN := 45) jIQ_161_44 rfl (jw_idd (by omega) (by omega)) rfl ?_
  refine jT_xgoto (pcN := 49) jIQ_161_45 rfl ?_
  refine jT_adv 1 (pcN := 50) (LN := [(5, (0, 2)), (0, (4, 0)), (1, (0, r7)), (2, (0, r8)), (3, (4, 1)), (4, (0, 0))]) (stN := []) (hsN := [jzQ_16, (4, [(4, 13), (1, 1)], []), (8, [(4, 14), (4, 15)], []), jgh, jgh, jgh, jgh, jgh, jgh, (101, [], [0, r7, r8, u85_3, u85_4, u85_5]), jgh, jgh, jgh, (101, [], [0, 0, 0, 0, 0, 0]), jgh, jgh]) (c1 := 0) (s1 := 0) (c2 := 0) (s2 := 0) (by exact rfl) ?_ (by omega) (by omega)
  refine jT_xiinc (x := 2) (z := 3) (LN := [(5, (0, 3)), (0, (4, 0)), (1, (0, r7)), (2, (0, r8)), (3, (4, 1)), (4, (0, 0))]) (pcN := 53) jIQ_161_50 rfl rfl (by decide) rfl rfl ?_
  refine jT_xgoto (pcN := 13) jIQ_161_53 rfl ?_
  refine jT_xiload (v := (0, 3)) (pcN := 15) jIQ_161_13 rfl rfl rfl ?_
  refine jT_xbipush (k := 6) (pcN := 17) jIQ_161_15 (by decide) rfl ?_
  refine jT_xicF (t := 56) (pcN := 20) jIQ_161_17 rfl (by decide +kernel) rfl rfl ?_
  refine jT_xaload_n (v := (4, 0)) (pcN := 21) jIQ_161_20 rfl rfl rfl ?_
  refine jT_xgetf (a := 0) (t := 1) (ci := 13) (fi := 7) (c := jzQ_16) (v := (4, 9)) (pcN := 24) jIQ_161_21 rfl rfl rfl rfl rfl rfl rfl ?_
  refine jT_xiload (v := (0, 3)) (pcN := 26) jIQ_161_24 rfl rfl rfl ?_
  refine jT_xiload (v := (0, 3)) (pcN := 28) jIQ_161_26 rfl rfl rfl ?_
  refine jT_xiconst (k := 1) (pcN := 29) jIQ_161_28 rfl ?_
  refine jT_xicT (pcN := 37) jIQ_161_29 rfl (by decide +kernel) rfl ?_
  refine jT_xiload (v := (0, 3)) (pcN := 39) jIQ_161_37 rfl rfl rfl ?_
  refine jT_xiconst (k := 2) (pcN := 40) jIQ_161_39 rfl ?_
  refine jT_xicT (pcN := 48) jIQ_161_40 rfl (by decide +kernel) rfl ?_
  refine jT_xlconst (z := 0) (pcN := 49) jIQ_161_48 rfl rfl ?_
  refine jT_adv 1 (pcN := 50) (LN := [(5, (0, 3)), (0, (4, 0)), (1, (0, r7)), (2, (0, r8)), (3, (4, 1)), (4, (0, 0))]) (stN := []) (hsN := [jzQ_16, (4, [(4, 13), (1, 1)], []), (8, [(4, 14), (4, 15)], []), jgh, jgh, jgh, jgh, jgh, jgh, (101, [], [0, r7, r8, 0, u85_4, u85_5]), jgh, jgh, jgh, (101, [], [0, 0, 0, 0, 0, 0]), jgh, jgh]) (c1 := 0) (s1 := 0) (c2 := 0) (s2 := 0) (by exact rfl) ?_ (by omega) (by omega)
  refine jT_xiinc (x := 3) (z := 4) (LN := [(5, (0, 4)), (0, (4, 0)), (1, (0, r7)), (2, (0, r8)), (3, (4, 1)), (4, (0, 0))]) (pcN := 53) jIQ_161_50 rfl rfl (by decide) rfl rfl ?_
  refine jT_xgoto (pcN := 13) jIQ_161_53 rfl ?_
  refine jT_xiload (v := (0, 4)) (pcN := 15) jIQ_161_13 rfl rfl rfl ?_
  refine jT_xbipush (k := 6) (pcN := 17) jIQ_161_15 (by decide) rfl ?_
  refine jT_xicF (t := 56) (pcN := 20) jIQ_161_17 rfl (by decide +kernel) rfl rfl ?_
  refine jT_xaload_n (v := (4, 0)) (pcN := 21) jIQ_161_20 rfl rfl rfl ?_
  refine jT_xgetf (a := 0) (t := 1) (ci := 13) (fi := 7) (c := jzQ_16) (v := (4, 9)) (pcN := 24) jIQ_161_21 rfl rfl rfl rfl rfl rfl rfl ?_
  refine jT_xiload (v := (0, 4)) (pcN := 26) jIQ_161_24 rfl rfl rfl ?_
  refine jT_xiload (v := (0, 4)) (pcN := 28) jIQ_161_26 rfl rfl rfl ?_
  refine jT_xiconst (k := 1) (pcN := 29) jIQ_161_28 rfl ?_
  refine jT_xicT (pcN := 37) jIQ_161_29 rfl (by decide +kernel) rfl ?_
  refine jT_xiload (v := (0, 4)) (pcN := 39) jIQ_161_37 rfl rfl rfl ?_
  refine jT_xiconst (k := 2) (pcN := 40) jIQ_161_39 rfl ?_
  refine jT_xicT (pcN := 48) jIQ_161_40 rfl (by decide +kernel) rfl ?_
  refine jT_xlconst (z := 0) (pcN := 49) jIQ_161_48 rfl rfl ?_
  refine jT_adv 1 (pcN := 50) (LN := [(5, (0, 4)), (0, (4, 0)), (1, (0, r7)), (2, (0, r8)), (3, (4, 1)), (4, (0, 0))]) (stN := []) (hsN := [jzQ_16, (4, [(4, 13), (1, 1)], []), (8, [(4, 14), (4, 15)], []), jgh, jgh, jgh, jgh, jgh, jgh, (101, [], [0, r7, r8, 0, 0, u85_5]), jgh, jgh, jgh, (101, [], [0, 0, 0, 0, 0, 0]), jgh, jgh]) (c1 := 0) (s1 := 0) (c2 := 0) (s2 := 0) (by exact rfl) ?_ (by omega) (by omega)
  refine jT_xiinc (x := 4) (z := 5) (LN := [(5, (0, 5)), (0, (4, 0)), (1, (0, r7)), (2, (0, r8)), (3, (4, 1)), (4, (0, 0))]) (pcN := 53) jIQ_161_50 rfl rfl (by decide) rfl rfl ?_
  refine jT_xgoto (pcN := 13) jIQ_161_53 rfl ?_
  refine jT_xiload (v := (0, 5)) (pcN := 15) jIQ_161_13 rfl rfl rfl ?_
  refine jT_xbipush (k := 6) (pcN := 17) jIQ_161_15 (by decide) rfl ?_
  refine jT_xicF (t := 56) (pcN := 20) jIQ_161_17 rfl (by decide +kernel) rfl rfl ?_
  refine jT_xaload_n (v := (4, 0)) (pcN := 21) jIQ_161_20 rfl rfl rfl ?_
  refine jT_xgetf (a := 0) (t := 1) (ci := 13) (fi := 7) (c := jzQ_16) (v := (4, 9)) (pcN := 24) jIQ_161_21 rfl rfl rfl rfl rfl rfl rfl ?_
  refine jT_xiload (v := (0, 5)) (pcN := 26) jIQ_161_24 rfl rfl rfl ?_
  refine jT_xiload (v := (0, 5)) (pcN := 28) jIQ_161_26 rfl rfl rfl ?_
  refine jT_xiconst (k := 1) (pcN := 29) jIQ_161_28 rfl ?_
  refine jT_xicT (pcN := 37) jIQ_161_29 rfl (by decide +kernel) rfl ?_
  refine jT_xiload (v := (0, 5)) (pcN := 39) jIQ_161_37 rfl rfl rfl ?_
  refine jT_xiconst (k := 2) (pcN := 40) jIQ_161_39 rfl ?_
  refine jT_xicT (pcN := 48) jIQ_161_40 rfl (by decide +kernel) rfl ?_
  refine jT_xlconst (z := 0) (pcN := 49) jIQ_161_48 rfl rfl ?_
  refine jT_adv 1 (pcN := 50) (LN := [(5, (0, 5)), (0, (4, 0)), (1, (0, r7)), (2, (0, r8)), (3, (4, 1)), (4, (0, 0))]) (stN := []) (hsN := [jzQ_16, (4, [(4, 13), (1, 1)], []), (8, [(4, 14), (4, 15)], []), jgh, jgh, jgh, jgh, jgh, jgh, (101, [], [0, r7, r8, 0, 0, 0]), jgh, jgh, jgh, (101, [], [0, 0, 0, 0, 0, 0]), jgh, jgh]) (c1 := 0) (s1 := 0) (c2 := 0) (s2 := 0) (by exact rfl) ?_ (by omega) (by omega)
  refine jT_xiinc (x := 5) (z := 6) (LN := [(5, (0, 6)), (0, (4, 0)), (1, (0, r7)), (2, (0, r8)), (3, (4, 1)), (4, (0, 0))]) (pcN := 53) jIQ_161_50 rfl rfl (by decide) rfl rfl ?_
  refine jT_xgoto (pcN := 13) jIQ_161_53 rfl ?_
  refine jT_xiload (v := (0, 6)) (pcN := 15) jIQ_161_13 rfl rfl rfl ?_
  refine jT_xbipush (k := 6) (pcN := 17) jIQ_161_15 (by decide) rfl ?_
  refine jT_xicT (pcN := 56) jIQ_161_17 rfl (by decide +kernel) rfl ?_
  refine jT_xaload_n (v := (4, 0)) (pcN := 57) jIQ_161_56 rfl rfl rfl ?_
  refine jT_xgetf (a := 0) (t := 1) (ci := 13) (fi := 0) (c := jzQ_16) (v := (4, 2)) (pcN := 60) jIQ_161_57 rfl rfl rfl rfl rfl rfl rfl ?_
  refine jT_xaload_n (v := (4, 0)) (pcN := 61) jIQ_161_60 rfl rfl rfl ?_
  refine jT_xgetf (a := 0) (t := 1) (ci := 13) (fi := 7) (c := jzQ_16) (v := (4, 9)) (pcN := 64) jIQ_161_61 rfl rfl rfl rfl rfl rfl rfl ?_
  refine jT_xlconst (z := 1) (pcN := 65) jIQ_161_64 rfl rfl ?_
  refine jT_xlconst (z := 1) (pcN := 66) jIQ_161_65 rfl rfl ?_
  refine jT_callA [2, 9, 14, 15] (y := 45) (pcN := 69) (dC := 1) (bc1 := 0) (bc2 := 0) (c1 := 0) (c2 := 0) (as := [(4, 2), (4, 9), (1, 1), (1, 1)]) (asC := [(4, 0), (4, 1), (1, 1), (1, 1)]) (LN := [(5, (0, 6)), (0, (4, 0)), (1, (0, r7)), (2, (0, r8)), (3, (4, 1)), (4, (0, 0))]) (stN := []) (hsC := [(8, [(4, 2), (4, 3)], []), (101, [], [0, r7, r8, 0, 0, 0]), jgh, jgh]) (ex := []) (v := (1, (108917793695 * r7 + 159561683699 * r8) / 68719476736)) (st2 := [(1, (108917793695 * r7 + 159561683699 * r8) / 68719476736)]) (hs2 := [jzQ_16, (4, [(4, 13), (1, 1)], []), (8, [(4, 14), (4, 15)], []), jgh, jgh, jgh, jgh, jgh, jgh, (101, [], [0, r7, r8, 0, 0, 0]), jgh, jgh, jgh, (101, [], [0, 0, 0, 0, 0, 0]), jgh, jgh]) (jQl_sp45_116 (d := 0) (by omega) (by omega)) (by rfl) (by rfl) (by rfl) (by rfl) ⟨rfl, rfl, rfl, rfl, trivial⟩ (by rfl) (by rfl) (by omega) (by show 16 ≤ 16; omega) (by omega) (by omega) rfl rfl ?_
  have hb_q1 : (-60) ≤ (108917793695 * r7 + 159561683699 * r8) / 68719476736 ∧ (108917793695 * r7 + 159561683699 * r8) / 68719476736 ≤ 60 := ⟨by omega, by omega⟩
  generalize hq_q1 : (108917793695 * r7 + 159561683699 * r8) / 68719476736 = q1 at hb_q1 ⊢
  refine jT_xlstore (v := (1, q1)) (LN := [(5, (1, q1)), (0, (4, 0)), (1, (0, r7)), (2, (0, r8)), (3, (4, 1)), (4, (0, 0))]) (pcN := 71) jIQ_161_69 rfl rfl rfl rfl ?_
  have g_1 : 0 ≤ (-68719476736) * q1 + 108917793694 * r7 + 159561683698 * r8 - 1 := by have := jcg (b := r7) (c := r8) (by omega) (by omega) (by omega); rw [hq_q1] at this; omega
  have g_2 : 0 ≤ (-68719476736) * q1 + 108917793694 * r7 + 159561683700 * r8 - 1 := by have := jcg (b := r7) (c := r8) (by omega) (by omega) (by omega); rw [hq_q1] at this; omega
  have g_3 : 0 ≤ (-68719476736) * q1 + 108917793696 * r7 + 159561683698 * r8 - 1 := by have := jcg (b := r7) (c := r8) (by omega) (by omega) (by omega); rw [hq_q1] at this; omega
  have g_4 : 0 ≤ (-68719476736) * q1 + 108917793696 * r7 + 159561683700 * r8 - 1 := by have := jcg (b := r7) (c := r8) (by omega) (by omega) (by omega); rw [hq_q1] at this; omega
  refine jT_xiload (v := (0, 0)) (pcN := 73) jIQ_161_71 rfl rfl rfl ?_
  refine jT_xifT (pcN := 107) jIQ_161_73 rfl (by decide +kernel) rfl ?_
  refine jT_xaload_n (v := (4, 0)) (pcN := 108) jIQ_161_107 rfl rfl rfl ?_
  refine jT_xgetf (a := 0) (t := 1) (ci := 13) (fi := 7) (c := jzQ_16) (v := (4, 9)) (pcN := 111) jIQ_161_108 rfl rfl rfl rfl rfl rfl rfl ?_
  refine jT_xiconst (k := 0) (pcN := 112) jIQ_161_111 rfl ?_
  refine jT_xlload (v := (1, q1)) (pcN := 114) jIQ_161_112 rfl rfl rfl ?_
  refine jT_adv 2 (pcN := 116) (LN := [(5, (1, q1)), (0, (4, 0)), (1, (0, r7)), (2, (0, r8)), (3, (4, 1)), (4, (0, 0))]) (stN := []) (hsN := [jzQ_16, (4, [(4, 13), (1, 1)], []), (8, [(4, 14), (4, 15)], []), jgh, jgh, jgh, jgh, jgh, jgh, (101, [], [-q1, r7, r8, 0, 0, 0]), jgh, jgh, jgh, (101, [], [0, 0, 0, 0, 0, 0]), jgh, jgh]) (c1 := 0) (s1 := 0) (c2 := 0) (s2 := 0) (by exact rfl) ?_ (by omega) (by omega)
  refine jT_xiconst (k := 0) (pcN := 117) jIQ_161_116 rfl ?_
  refine jT_xistore (v := (0, 0)) (LN := [(7, (0, 0)), (5, (1, q1)), (0, (4, 0)), (1, (0, r7)), (2, (0, r8)), (3, (4, 1)), (4, (0, 0))]) (pcN := 119) jIQ_161_117 rfl rfl rfl rfl ?_
  refine jT_xiload (v := (0, 0)) (pcN := 121) jIQ_161_119 rfl rfl rfl ?_
  refine jT_xbipush (k := 6) (pcN := 123) jIQ_161_121 (by decide) rfl ?_
  refine jT_xicF (t := 159) (pcN := 126) jIQ_161_123 rfl (by decide +kernel) rfl rfl ?_
  refine jT_xaload_n (v := (4, 0)) (pcN := 127) jIQ_161_126 rfl rfl rfl ?_
  refine jT_xgetf (a := 0) (t := 1) (ci := 13) (fi := 7) (c := jzQ_16) (v := (4, 9)) (pcN := 130) jIQ_161_127 rfl rfl rfl rfl rfl rfl rfl ?_
  refine jT_xiload (v := (0, 0)) (pcN := 132) jIQ_161_130 rfl rfl rfl ?_
  refine jT_xaload_n (v := (4, 1)) (pcN := 133) jIQ_161_132 rfl rfl rfl ?_
  refine jT_xgetf (a := 1) (t := 2) (ci := 4) (fi := 0) (c := (4, [(4, 13), (1, 1)], [])) (v := (4, 13)) (pcN := 136) jIQ_161_133 rfl rfl rfl rfl rfl rfl rfl ?_
  refine jT_xiload (v := (0, 0)) (pcN := 138) jIQ_161_136 rfl rfl rfl ?_
  refine jT_lald (x := 0) (a := 13) (j := 0) (fs := []) (X := [0, 0, 0, 0, 0, 0]) jIQ_161_138 rfl rfl rfl rfl ?_
  refine jT_eq (LN := [(7, (0, 0)), (5, (1, q1)), (0, (4, 0)), (1, (0, r7)), (2, (0, r8)), (3, (4, 1)), (4, (0, 0))]) (stN := [(1, 0), (0, 0), (4, 9)]) (hsN := [jzQ_16, (4, [(4, 13), (1, 1)], []), (8, [(4, 14), (4, 15)], []), jgh, jgh, jgh, jgh, jgh, jgh, (101, [], [-q1, r7, r8, 0, 0, 0]), jgh, jgh, jgh, (101, [], [0, 0, 0, 0, 0, 0]), jgh, jgh]) rfl rfl rfl ?_
  refine jT_xaload_n (v := (4, 0)) (pcN := 140) jIQ_161_139 rfl rfl rfl ?_
  refine jT_xgetf (a := 0) (t := 1) (ci := 13) (fi := 7) (c := jzQ_16) (v := (4, 9)) (pcN := 143) jIQ_161_140 rfl rfl rfl rfl rfl rfl rfl ?_
  refine jT_xiload (v := (0, 0)) (pcN := 145) jIQ_161_143 rfl rfl rfl ?_
  refine jT_lald (x := -q1) (a := 9) (j := 0) (fs := []) (X := [-q1, r7, r8, 0, 0, 0]) jIQ_161_145 rfl rfl rfl rfl ?_
  refine jT_eq (LN := [(7, (0, 0)), (5, (1, q1)), (0, (4, 0)), (1, (0, r7)), (2, (0, r8)), (3, (4, 1)), (4, (0, 0))]) (stN := [(1, -q1), (1, 0), (0, 0), (4, 9)]) (hsN := [jzQ_16, (4, [(4, 13), (1, 1)], []), (8, [(4, 14), (4, 15)], []), jgh, jgh, jgh, jgh, jgh, jgh, (101, [], [-q1, r7, r8, 0, 0, 0]), jgh, jgh, jgh, (101, [], [0, 0, 0, 0, 0, 0]), jgh, jgh]) rfl rfl rfl ?_
  refine jT_xaload_n (v := (4, 1)) (pcN := 147) jIQ_161_146 rfl rfl rfl ?_
  refine jT_xgetf (a := 1) (t := 2) (ci := 4) (fi := 1) (c := (4, [(4, 13), (1, 1)], [])) (v := (1, 1)) (pcN := 150) jIQ_161_147 rfl rfl rfl rfl rfl rfl rfl ?_
  refine jT_xlmul (x := -q1) (y := 1) (z := -q1) (pcN := 151) jIQ_161_150 rfl (by omega) rfl ?_
  refine jT_xlsub (x := 0) (y := -q1) (z := q1) (pcN := 152) jIQ_161_151 rfl (by omega) rfl ?_
  refine jT_adv 1 (pcN := 153) (LN := [(7, (0, 0)), (5, (1, q1)), (0, (4, 0)), (1, (0, r7)), (2, (0, r8)), (3, (4, 1)), (4, (0, 0))]) (stN := []) (hsN := [jzQ_16, (4, [(4, 13), (1, 1)], []), (8, [(4, 14), (4, 15)], []), jgh, jgh, jgh, jgh, jgh, jgh, (101, [], [q1, r7, r8, 0, 0, 0]), jgh, jgh, jgh, (101, [], [0, 0, 0, 0, 0, 0]), jgh, jgh]) (c1 := 0) (s1 := 0) (c2 := 0) (s2 := 0) (by exact rfl) ?_ (by omega) (by omega)
  refine jT_xiinc (x := 0) (z := 1) (LN := [(7, (0, 1)), (5, (1, q1)), (0, (4, 0)), (1, (0, r7)), (2, (0, r8)), (3, (4, 1)), (4, (0, 0))]) (pcN := 156) jIQ_161_153 rfl rfl (by decide) rfl rfl ?_
  refine jT_xgoto (pcN := 119) jIQ_161_156 rfl ?_
  refine jT_xiload (v := (0, 1)) (pcN := 121) jIQ_161_119 rfl rfl rfl ?_
  refine jT_xbipush (k := 6) (pcN := 123) jIQ_161_121 (by decide) rfl ?_
  refine jT_xicF (t := 159) (pcN := 126) jIQ_161_123 rfl (by decide +kernel) rfl rfl ?_
  refine jT_xaload_n (v := (4, 0)) (pcN := 127) jIQ_161_126 rfl rfl rfl ?_
  refine jT_xgetf (a := 0) (t := 1) (ci := 13) (fi := 7) (c := jzQ_16) (v := (4, 9)) (pcN := 130) jIQ_161_127 rfl rfl rfl rfl rfl rfl rfl ?_
  refine jT_xiload (v := (0, 1)) (pcN := 132) jIQ_161_130 rfl rfl rfl ?_
  refine jT_xaload_n (v := (4, 1)) (pcN := 133) jIQ_161_132 rfl rfl rfl ?_
  refine jT_xgetf (a := 1) (t := 2) (ci := 4) (fi := 0) (c := (4, [(4, 13), (1, 1)], [])) (v := (4, 13)) (pcN := 136) jIQ_161_133 rfl rfl rfl rfl rfl rfl rfl ?_
  refine jT_xiload (v := (0, 1)) (pcN := 138) jIQ_161_136 rfl rfl rfl ?_
  refine jT_lald (x := 0) (a := 13) (j := 1) (fs := []) (X := [0, 0, 0, 0, 0, 0]) jIQ_161_138 rfl rfl rfl rfl ?_
  refine jT_eq (LN := [(7, (0, 1)), (5, (1, q1)), (0, (4, 0)), (1, (0, r7)), (2, (0, r8)), (3, (4, 1)), (4, (0, 0))]) (stN := [(1, 0), (0, 1), (4, 9)]) (hsN := [jzQ_16, (4, [(4, 13), (1, 1)], []), (8, [(4, 14), (4, 15)], []), jgh, jgh, jgh, jgh, jgh, jgh, (101, [], [q1, r7, r8, 0, 0, 0]), jgh, jgh, jgh, (101, [], [0, 0, 0, 0, 0, 0]), jgh, jgh]) rfl rfl rfl ?_
  refine jT_xaload_n (v := (4, 0)) (pcN := 140) jIQ_161_139 rfl rfl rfl ?_
  refine jT_xgetf (a := 0) (t := 1) (ci := 13) (fi := 7) (c := jzQ_16) (v := (4, 9)) (pcN := 143) jIQ_161_140 rfl rfl rfl rfl rfl rfl rfl ?_
  refine jT_xiload (v := (0, 1)) (pcN := 145) jIQ_161_143 rfl rfl rfl ?_
  refine jT_lald (x := r7) (a := 9) (j := 1) (fs := []) (X := [q1, r7, r8, 0, 0, 0]) jIQ_161_145 rfl rfl rfl rfl ?_
  refine jT_eq (LN := [(7, (0, 1)), (5, (1, q1)), (0, (4, 0)), (1, (0, r7)), (2, (0, r8)), (3, (4, 1)), (4, (0, 0))]) (stN := [(1, r7), (1, 0), (0, 1), (4, 9)]) (hsN := [jzQ_16, (4, [(4, 13), (1, 1)], []), (8, [(4, 14), (4, 15)], []), jgh, jgh, jgh, jgh, jgh, jgh, (101, [], [q1, r7, r8, 0, 0, 0]), jgh, jgh, jgh, (101, [], [0, 0, 0, 0, 0, 0]), jgh, jgh]) rfl rfl rfl ?_
  refine jT_xaload_n (v := (4, 1)) (pcN := 147) jIQ_161_146 rfl rfl rfl ?_
  refine jT_xgetf (a := 1) (t := 2) (ci := 4) (fi := 1) (c := (4, [(4, 13), (1, 1)], [])) (v := (1, 1)) (pcN := 150) jIQ_161_147 rfl rfl rfl rfl rfl rfl rfl ?_
  refine jT_xlmul (x := r7) (y := 1) (z := r7) (pcN := 151) jIQ_161_150 rfl (by omega) rfl ?_
  refine jT_xlsub (x := 0) (y := r7) (z := -r7) (pcN := 152) jIQ_161_151 rfl (by omega) rfl ?_
  refine jT_adv 1 (pcN := 153) (LN := [(7, (0, 1)), (5, (1, q1)), (0, (4, 0)), (1, (0, r7)), (2, (0, r8)), (3, (4, 1)), (4, (0, 0))]) (stN := []) (hsN := [jzQ_16, (4, [(4, 13), (1, 1)], []), (8, [(4, 14), (4, 15)], []), jgh, jgh, jgh, jgh, jgh, jgh, (101, [], [q1, -r7, r8, 0, 0, 0]), jgh, jgh, jgh, (101, [], [0, 0, 0, 0, 0, 0]), jgh, jgh]) (c1 := 0) (s1 := 0) (c2 := 0) (s2 := 0) (by exact rfl) ?_ (by omega) (by omega)
  refine jT_xiinc (x := 1) (z := 2) (LN := [(7, (0, 2)), (5, (1, q1)), (0, (4, 0)), (1, (0, r7)), (2, (0, r8)), (3, (4, 1)), (4, (0, 0))]) (pcN := 156) jIQ_161_153 rfl rfl (by decide) rfl rfl ?_
  refine jT_xgoto (pcN := 119) jIQ_161_156 rfl ?_
  refine jT_xiload (v := (0, 2)) (pcN := 121) jIQ_161_119 rfl rfl rfl ?_
  refine jT_xbipush (k := 6) (pcN := 123) jIQ_161_121 (by decide) rfl ?_
  refine jT_xicF (t := 159) (pcN := 126) jIQ_161_123 rfl (by decide +kernel) rfl rfl ?_
  refine jT_xaload_n (v := (4, 0)) (pcN := 127) jIQ_161_126 rfl rfl rfl ?_
  refine jT_xgetf (a := 0) (t := 1) (ci := 13) (fi := 7) (c := jzQ_16) (v := (4, 9)) (pcN := 130) jIQ_161_127 rfl rfl rfl rfl rfl rfl rfl ?_
  refine jT_xiload (v := (0, 2)) (pcN := 132) jIQ_161_130 rfl rfl rfl ?_
  refine jT_xaload_n (v := (4, 1)) (pcN := 133) jIQ_161_132 rfl rfl rfl ?_
  refine jT_xgetf (a := 1) (t := 2) (ci := 4) (fi := 0) (c := (4, [(4, 13), (1, 1)], [])) (v := (4, 13)) (pcN := 136) jIQ_161_133 rfl rfl rfl rfl rfl rfl rfl ?_
  refine jT_xiload (v := (0, 2)) (pcN := 138) jIQ_161_136 rfl rfl rfl ?_
  refine jT_lald (x := 0) (a := 13) (j := 2) (fs := []) (X := [0, 0, 0, 0, 0, 0]) jIQ_161_138 rfl rfl rfl rfl ?_
  refine jT_eq (LN := [(7, (0, 2)), (5, (1, q1)), (0, (4, 0)), (1, (0, r7)), (2, (0, r8)), (3, (4, 1)), (4, (0, 0))]) (stN := [(1, 0), (0, 2), (4, 9)]) (hsN := [jzQ_16, (4, [(4, 13), (1, 1)], []), (8, [(4, 14), (4, 15)], []), jgh, jgh, jgh, jgh, jgh, jgh, (101, [], [q1, -r7, r8, 0, 0, 0]), jgh, jgh, jgh, (101, [], [0, 0, 0, 0, 0, 0]), jgh, jgh]) rfl rfl rfl ?_
  refine jT_xaload_n (v := (4, 0)) (pcN := 140) jIQ_161_139 rfl rfl rfl ?_
  refine jT_xgetf (a := 0) (t := 1) (ci := 13) (fi := 7) (c := jzQ_16) (v := (4, 9)) (pcN := 143) jIQ_161_140 rfl rfl rfl rfl rfl rfl rfl ?_
  refine jT_xiload (v := (0, 2)) (pcN := 145) jIQ_161_143 rfl rfl rfl ?_
  refine jT_lald (x := r8) (a := 9) (j := 2) (fs := []) (X := [q1, -r7, r8, 0, 0, 0]) jIQ_161_145 rfl rfl rfl rfl ?_
  refine jT_eq (LN := [(7, (0, 2)), (5, (1, q1)), (0, (4, 0)), (1, (0, r7)), (2, (0, r8)), (3, (4, 1)), (4, (0, 0))]) (stN := [(1, r8), (1, 0), (0, 2), (4, 9)]) (hsN := [jzQ_16, (4, [(4, 13), (1, 1)], []), (8, [(4, 14), (4, 15)], []), jgh, jgh, jgh, jgh, jgh, jgh, (101, [], [q1, -r7, r8, 0, 0, 0]), jgh, jgh, jgh, (101, [], [0, 0, 0, 0, 0, 0]), jgh, jgh]) rfl rfl rfl ?_
  refine jT_xaload_n (v := (4, 1)) (pcN := 147) jIQ_161_146 rfl rfl rfl ?_
  refine jT_xgetf (a := 1) (t := 2) (ci := 4) (fi := 1) (c := (4, [(4, 13), (1, 1)], [])) (v := (1, 1)) (pcN := 150) jIQ_161_147 rfl rfl rfl rfl rfl rfl rfl ?_
  refine jT_xlmul (x := r8) (y := 1) (z := r8) (pcN := 151) jIQ_161_150 rfl (by omega) rfl ?_
  refine jT_xlsub (x := 0) (y := r8) (z := -r8) (pcN := 152) jIQ_161_151 rfl (by omega) rfl ?_
  refine jT_adv 1 (pcN := 153) (LN := [(7, (0, 2)), (5, (1, q1)), (0, (4, 0)), (1, (0, r7)), (2, (0, r8)), (3, (4, 1)), (4, (0, 0))]) (stN := []) (hsN := [jzQ_16, (4, [(4, 13), (1, 1)], []), (8, [(4, 14), (4, 15)], []), jgh, jgh, jgh, jgh, jgh, jgh, (101, [], [q1, -r7, -r8, 0, 0, 0]), jgh, jgh, jgh, (101, [], [0, 0, 0, 0, 0, 0]), jgh, jgh]) (c1 := 0) (s1 := 0) (c2 := 0) (s2 := 0) (by exact rfl) ?_ (by omega) (by omega)
  refine jT_xiinc (x := 2) (z := 3) (LN := [(7, (0, 3)), (5, (1, q1)), (0, (4, 0)), (1, (0, r7)), (2, (0, r8)), (3, (4, 1)), (4, (0, 0))]) (pcN := 156) jIQ_161_153 rfl rfl (by decide) rfl rfl ?_
  refine jT_xgoto (pcN := 119) jIQ_161_156 rfl ?_
  refine jT_xiload (v := (0, 3)) (pcN := 121) jIQ_161_119 rfl rfl rfl ?_
  refine jT_xbipush (k := 6) (pcN := 123) jIQ_161_121 (by decide) rfl ?_
  refine jT_xicF (t := 159) (pcN := 126) jIQ_161_123 rfl (by decide +kernel) rfl rfl ?_
  refine jT_xaload_n (v := (4, 0)) (pcN := 127) jIQ_161_126 rfl rfl rfl ?_
  refine jT_xgetf (a := 0) (t := 1) (ci := 13) (fi := 7) (c := jzQ_16) (v := (4, 9)) (pcN := 130) jIQ_161_127 rfl rfl rfl rfl rfl rfl rfl ?_
  refine jT_xiload (v := (0, 3)) (pcN := 132) jIQ_161_130 rfl rfl rfl ?_
  refine jT_xaload_n (v := (4, 1)) (pcN := 133) jIQ_161_132 rfl rfl rfl ?_
  refine jT_xgetf (a := 1) (t := 2) (ci := 4) (fi := 0) (c := (4, [(4, 13), (1, 1)], [])) (v := (4, 13)) (pcN := 136) jIQ_161_133 rfl rfl rfl rfl rfl rfl rfl ?_
  refine jT_xiload (v := (0, 3)) (pcN := 138) jIQ_161_136 rfl rfl rfl ?_
  refine jT_lald (x := 0) (a := 13) (j := 3) (fs := []) (X := [0, 0, 0, 0, 0, 0]) jIQ_161_138 rfl rfl rfl rfl ?_
  refine jT_eq (LN := [(7, (0, 3)), (5, (1, q1)), (0, (4, 0)), (1, (0, r7)), (2, (0, r8)), (3, (4, 1)), (4, (0, 0))]) (stN := [(1, 0), (0, 3), (4, 9)]) (hsN := [jzQ_16, (4, [(4, 13), (1, 1)], []), (8, [(4, 14), (4, 15)], []), jgh, jgh, jgh, jgh, jgh, jgh, (101, [], [q1, -r7, -r8, 0, 0, 0]), jgh, jgh, jgh, (101, [], [0, 0, 0, 0, 0, 0]), jgh, jgh]) rfl rfl rfl ?_
  refine jT_xaload_n (v := (4, 0)) (pcN := 140) jIQ_161_139 rfl rfl rfl ?_
  refine jT_xgetf (a := 0) (t := 1) (ci := 13) (fi := 7) (c := jzQ_16) (v := (4, 9)) (pcN := 143) jIQ_161_140 rfl rfl rfl rfl rfl rfl rfl ?_
  refine jT_xiload (v := (0, 3)) (pcN := 145) jIQ_161_143 rfl rfl rfl ?_
  refine jT_lald (x := 0) (a := 9) (j := 3) (fs := []) (X := [q1, -r7, -r8, 0, 0, 0]) jIQ_161_145 rfl rfl rfl rfl ?_
  refine jT_eq (LN := [(7, (0, 3)), (5, (1, q1)), (0, (4, 0)), (1, (0, r7)), (2, (0, r8)), (3, (4, 1)), (4, (0, 0))]) (stN := [(1, 0), (1, 0), (0, 3), (4, 9)]) (hsN := [jzQ_16, (4, [(4, 13), (1, 1)], []), (8, [(4, 14), (4, 15)], []), jgh, jgh, jgh, jgh, jgh, jgh, (101, [], [q1, -r7, -r8, 0, 0, 0]), jgh, jgh, jgh, (101, [], [0, 0, 0, 0, 0, 0]), jgh, jgh]) rfl rfl rfl ?_
  refine jT_xaload_n (v := (4, 1)) (pcN := 147) jIQ_161_146 rfl rfl rfl ?_
  refine jT_xgetf (a := 1) (t := 2) (ci := 4) (fi := 1) (c := (4, [(4, 13), (1, 1)], [])) (v := (1, 1)) (pcN := 150) jIQ_161_147 rfl rfl rfl rfl rfl rfl rfl ?_
  refine jT_xlmul (x := 0) (y := 1) (z := 0) (pcN := 151) jIQ_161_150 rfl (by decide) rfl ?_
  refine jT_xlsub (x := 0) (y := 0) (z := 0) (pcN := 152) jIQ_161_151 rfl (by decide) rfl ?_
  refine jT_adv 1 (pcN := 153) (LN := [(7, (0, 3)), (5, (1, q1)), (0, (4, 0)), (1, (0, r7)), (2, (0, r8)), (3, (4, 1)), (4, (0, 0))]) (stN := []) (hsN := [jzQ_16, (4, [(4, 13), (1, 1)], []), (8, [(4, 14), (4, 15)], []), jgh, jgh, jgh, jgh, jgh, jgh, (101, [], [q1, -r7, -r8, 0, 0, 0]), jgh, jgh, jgh, (101, [], [0, 0, 0, 0, 0, 0]), jgh, jgh]) (c1 := 0) (s1 := 0) (c2 := 0) (s2 := 0) (by exact rfl) ?_ (by omega) (by omega)
  refine jT_xiinc (x := 3) (z := 4) (LN := [(7, (0, 4)), (5, (1, q1)), (0, (4, 0)), (1, (0, r7)), (2, (0, r8)), (3, (4, 1)), (4, (0, 0))]) (pcN := 156) jIQ_161_153 rfl rfl (by decide) rfl rfl ?_
  refine jT_xgoto (pcN := 119) jIQ_161_156 rfl ?_
  refine jT_xiload (v := (0, 4)) (pcN := 121) jIQ_161_119 rfl rfl rfl ?_
  refine jT_xbipush (k := 6) (pcN := 123) jIQ_161_121 (by decide) rfl ?_
  refine jT_xicF (t := 159) (pcN := 126) jIQ_161_123 rfl (by decide +kernel) rfl rfl ?_
  refine jT_xaload_n (v := (4, 0)) (pcN := 127) jIQ_161_126 rfl rfl rfl ?_
  refine jT_xgetf (a := 0) (t := 1) (ci := 13) (fi := 7) (c := jzQ_16) (v := (4, 9)) (pcN := 130) jIQ_161_127 rfl rfl rfl rfl rfl rfl rfl ?_
  refine jT_xiload (v := (0, 4)) (pcN := 132) jIQ_161_130 rfl rfl rfl ?_
  refine jT_xaload_n (v := (4, 1)) (pcN := 133) jIQ_161_132 rfl rfl rfl ?_
  refine jT_xgetf (a := 1) (t := 2) (ci := 4) (fi := 0) (c := (4, [(4, 13), (1, 1)], [])) (v := (4, 13)) (pcN := 136) jIQ_161_133 rfl rfl rfl rfl rfl rfl rfl ?_
  refine jT_xiload (v := (0, 4)) (pcN := 138) jIQ_161_136 rfl rfl rfl ?_
  refine jT_lald (x := 0) (a := 13) (j := 4) (fs := []) (X := [0, 0, 0, 0, 0, 0]) jIQ_161_138 rfl rfl rfl rfl ?_
  refine jT_eq (LN := [(7, (0, 4)), (5, (1, q1)), (0, (4, 0)), (1, (0, r7)), (2, (0, r8)), (3, (4, 1)), (4, (0, 0))]) (stN := [(1, 0), (0, 4), (4, 9)]) (hsN := [jzQ_16, (4, [(4, 13), (1, 1)], []), (8, [(4, 14), (4, 15)], []), jgh, jgh, jgh, jgh, jgh, jgh, (101, [], [q1, -r7, -r8, 0, 0, 0]), jgh, jgh, jgh, (101, [], [0, 0, 0, 0, 0, 0]), jgh, jgh]) rfl rfl rfl ?_
  refine jT_xaload_n (v := (4, 0)) (pcN := 140) jIQ_161_139 rfl rfl rfl ?_
  refine jT_xgetf (a := 0) (t := 1) (ci := 13) (fi := 7) (c := jzQ_16) (v := (4, 9)) (pcN := 143) jIQ_161_140 rfl rfl rfl rfl rfl rfl rfl ?_
  refine jT_xiload (v := (0, 4)) (pcN := 145) jIQ_161_143 rfl rfl rfl ?_
  refine jT_lald (x := 0) (a := 9) (j := 4) (fs := []) (X := [q1, -r7, -r8, 0, 0, 0]) jIQ_161_145 rfl rfl rfl rfl ?_
  refine jT_eq (LN := [(7, (0, 4)), (5, (1, q1)), (0, (4, 0)), (1, (0, r7)), (2, (0, r8)), (3, (4, 1)), (4, (0, 0))]) (stN := [(1, 0), (1, 0), (0, 4), (4, 9)]) (hsN := [jzQ_16, (4, [(4, 13), (1, 1)], []), (8, [(4, 14), (4, 15)], []), jgh, jgh, jgh, jgh, jgh, jgh, (101, [], [q1, -r7, -r8, 0, 0, 0]), jgh, jgh, jgh, (101, [], [0, 0, 0, 0, 0, 0]), jgh, jgh]) rfl rfl rfl ?_
  refine jT_xaload_n (v := (4, 1)) (pcN := 147) jIQ_161_146 rfl rfl rfl ?_
  refine jT_xgetf (a := 1) (t := 2) (ci := 4) (fi := 1) (c := (4, [(4, 13), (1, 1)], [])) (v := (1, 1)) (pcN := 150) jIQ_161_147 rfl rfl rfl rfl rfl rfl rfl ?_
  refine jT_xlmul (x := 0) (y := 1) (z := 0) (pcN := 151) jIQ_161_150 rfl (by decide) rfl ?_
  refine jT_xlsub (x := 0) (y := 0) (z := 0) (pcN := 152) jIQ_161_151 rfl (by decide) rfl ?_
  refine jT_adv 1 (pcN := 153) (LN := [(7, (0, 4)), (5, (1, q1)), (0, (4, 0)), (1, (0, r7)), (2, (0, r8)), (3, (4, 1)), (4, (0, 0))]) (stN := []) (hsN := [jzQ_16, (4, [(4, 13), (1, 1)], []), (8, [(4, 14), (4, 15)], []), jgh, jgh, jgh, jgh, jgh, jgh, (101, [], [q1, -r7, -r8, 0, 0, 0]), jgh, jgh, jgh, (101, [], [0, 0, 0, 0, 0, 0]), jgh, jgh]) (c1 := 0) (s1 := 0) (c2 := 0) (s2 := 0) (by exact rfl) ?_ (by omega) (by omega)
  refine jT_xiinc (x := 4) (z := 5) (LN := [(7, (0, 5)), (5, (1, q1)), (0, (4, 0)), (1, (0, r7)), (2, (0, r8)), (3, (4, 1)), (4, (0, 0))]) (pcN := 156) jIQ_161_153 rfl rfl (by decide) rfl rfl ?_
  refine jT_xgoto (pcN := 119) jIQ_161_156 rfl ?_
  refine jT_xiload (v := (0, 5)) (pcN := 121) jIQ_161_119 rfl rfl rfl ?_
  refine jT_xbipush (k := 6) (pcN := 123) jIQ_161_121 (by decide) rfl ?_
  refine jT_xicF (t := 159) (pcN := 126) jIQ_161_123 rfl (by decide +kernel) rfl rfl ?_
  refine jT_xaload_n (v := (4, 0)) (pcN := 127) jIQ_161_126 rfl rfl rfl ?_
  refine jT_xgetf (a := 0) (t := 1) (ci := 13) (fi := 7) (c := jzQ_16) (v := (4, 9)) (pcN := 130) jIQ_161_127 rfl rfl rfl rfl rfl rfl rfl ?_
  refine jT_xiload (v := (0, 5)) (pcN := 132) jIQ_161_130 rfl rfl rfl ?_
  refine jT_xaload_n (v := (4, 1)) (pcN := 133) jIQ_161_132 rfl rfl rfl ?_
  refine jT_xgetf (a := 1) (t := 2) (ci := 4) (fi := 0) (c := (4, [(4, 13), (1, 1)], [])) (v := (4, 13)) (pcN := 136) jIQ_161_133 rfl rfl rfl rfl rfl rfl rfl ?_
  refine jT_xiload (v := (0, 5)) (pcN := 138) jIQ_161_136 rfl rfl rfl ?_
  refine jT_lald (x := 0) (a := 13) (j := 5) (fs := []) (X := [0, 0, 0, 0, 0, 0]) jIQ_161_138 rfl rfl rfl rfl ?_
  refine jT_eq (LN := [(7, (0, 5)), (5, (1, q1)), (0, (4, 0)), (1, (0, r7)), (2, (0, r8)), (3, (4, 1)), (4, (0, 0))]) (stN := [(1, 0), (0, 5), (4, 9)]) (hsN := [jzQ_16, (4, [(4, 13), (1, 1)], []), (8, [(4, 14), (4, 15)], []), jgh, jgh, jgh, jgh, jgh, jgh, (101, [], [q1, -r7, -r8, 0, 0, 0]), jgh, jgh, jgh, (101, [], [0, 0, 0, 0, 0, 0]), jgh, jgh]) rfl rfl rfl ?_
  refine jT_xaload_n (v := (4, 0)) (pcN := 140) jIQ_161_139 rfl rfl rfl ?_
  refine jT_xgetf (a := 0) (t := 1) (ci := 13) (fi := 7) (c := jzQ_16) (v := (4, 9)) (pcN := 143) jIQ_161_140 rfl rfl rfl rfl rfl rfl rfl ?_
  refine jT_xiload (v := (0, 5)) (pcN := 145) jIQ_161_143 rfl rfl rfl ?_
  refine jT_lald (x := 0) (a := 9) (j := 5) (fs := []) (X := [q1, -r7, -r8, 0, 0, 0]) jIQ_161_145 rfl rfl rfl rfl ?_
  refine jT_eq (LN := [(7, (0, 5)), (5, (1, q1)), (0, (4, 0)), (1, (0, r7)), (2, (0, r8)), (3, (4, 1)), (4, (0, 0))]) (stN := [(1, 0), (1, 0), (0, 5), (4, 9)]) (hsN := [jzQ_16, (4, [(4, 13), (1, 1)], []), (8, [(4, 14), (4, 15)], []), jgh, jgh, jgh, jgh, jgh, jgh, (101, [], [q1, -r7, -r8, 0, 0, 0]), jgh, jgh, jgh, (101, [], [0, 0, 0, 0, 0, 0]), jgh, jgh]) rfl rfl rfl ?_
  refine jT_xaload_n (v := (4, 1)) (pcN := 147) jIQ_161_146 rfl rfl rfl ?_
  refine jT_xgetf (a := 1) (t := 2) (ci := 4) (fi := 1) (c := (4, [(4, 13), (1, 1)], [])) (v := (1, 1)) (pcN := 150) jIQ_161_147 rfl rfl rfl rfl rfl rfl rfl ?_
  refine jT_xlmul (x := 0) (y := 1) (z := 0) (pcN := 151) jIQ_161_150 rfl (by decide) rfl ?_
  refine jT_xlsub (x := 0) (y := 0) (z := 0) (pcN := 152) jIQ_161_151 rfl (by decide) rfl ?_
  refine jT_adv 1 (pcN := 153) (LN := [(7, (0, 5)), (5, (1, q1)), (0, (4, 0)), (1, (0, r7)), (2, (0, r8)), (3, (4, 1)), (4, (0, 0))]) (stN := []) (hsN := [jzQ_16, (4, [(4, 13), (1, 1)], []), (8, [(4, 14), (4, 15)], []), jgh, jgh, jgh, jgh, jgh, jgh, (101, [], [q1, -r7, -r8, 0, 0, 0]), jgh, jgh, jgh, (101, [], [0, 0, 0, 0, 0, 0]), jgh, jgh]) (c1 := 0) (s1 := 0) (c2 := 0) (s2 := 0) (by exact rfl) ?_ (by omega) (by omega)
  refine jT_xiinc (x := 5) (z := 6) (LN := [(7, (0, 6)), (5, (1, q1)), (0, (4, 0)), (1, (0, r7)), (2, (0, r8)), (3, (4, 1)), (4, (0, 0))]) (pcN := 156) jIQ_161_153 rfl rfl (by decide) rfl rfl ?_
  refine jT_xgoto (pcN := 119) jIQ_161_156 rfl ?_
  refine jT_xiload (v := (0, 6)) (pcN := 121) jIQ_161_119 rfl rfl rfl ?_
  refine jT_xbipush (k := 6) (pcN := 123) jIQ_161_121 (by decide) rfl ?_
  refine jT_xicT (pcN := 159) jIQ_161_123 rfl (by decide +kernel) rfl ?_
  refine jT_xaload_n (v := (4, 0)) (pcN := 160) jIQ_161_159 rfl rfl rfl ?_
  refine jT_xgetf (a := 0) (t := 1) (ci := 13) (fi := 0) (c := jzQ_16) (v := (4, 2)) (pcN := 163) jIQ_161_160 rfl rfl rfl rfl rfl rfl rfl ?_
  refine jT_xaload_n (v := (4, 0)) (pcN := 164) jIQ_161_163 rfl rfl rfl ?_
  refine jT_xgetf (a := 0) (t := 1) (ci := 13) (fi := 7) (c := jzQ_16) (v := (4, 9)) (pcN := 167) jIQ_161_164 rfl rfl rfl rfl rfl rfl rfl ?_
  refine jT_callA [2, 9, 14, 15] (y := 38) (pcN := 170) (dC := 1) (bc1 := 0) (bc2 := 0) (c1 := 0) (c2 := 0) (as := [(4, 2), (4, 9)]) (asC := [(4, 0), (4, 1)]) (LN := [(7, (0, 6)), (5, (1, q1)), (0, (4, 0)), (1, (0, r7)), (2, (0, r8)), (3, (4, 1)), (4, (0, 0))]) (stN := []) (hsC := [(8, [(4, 2), (4, 3)], []), (101, [], [q1, -r7, -r8, 0, 0, 0]), jgh, jgh]) (ex := []) (v := (0, (-1))) (st2 := [(0, (-1))]) (hs2 := [jzQ_16, (4, [(4, 13), (1, 1)], []), (8, [(4, 14), (4, 15)], []), jgh, jgh, jgh, jgh, jgh, jgh, (101, [], [q1, -r7, -r8, 0, 0, 0]), jgh, jgh, jgh, (101, [], [0, 0, 0, 0, 0, 0]), jgh, jgh]) (jQl_sp38_117 (d := 0) (by omega) (by omega) (by omega) (by omega) (by omega) (by omega) (by omega)) (by rfl) (by rfl) (by rfl) (by rfl) ⟨rfl, rfl, rfl, rfl, trivial⟩ (by rfl) (by rfl) (by omega) (by show 16 ≤ 16; omega) (by omega) (by omega) rfl rfl ?_
  refine jT_xifT (pcN := 177) jIQ_161_170 rfl (by decide +kernel) rfl ?_
  refine jT_xiconst (k := 0) (pcN := 178) jIQ_161_177 rfl ?_
  subst hq_q1
  exact jT_ret rfl (by decide) (by show 16 ≤ 16; omega) (by omega) (by omega) ⟨rfl, rfl, rfl⟩
theorem jIQ_161_4 : jmI (jm 161) 4 = (.iload_n 2, 1) := by rfl
theorem jIQ_161_5 : jmI (jm 161) 5 = (.ifCond .ne 5, 3) := by rfl
theorem jQ_161_119 {xs : List Int} {d : Nat} {r7 r8 u85_0 u85_1 u85_2 u85_3 u85_4 u85_5 : Int} (h_r7 : (-20) ≤ r7 ∧ r7 ≤ 20) (h_r8 : (-10) ≤ r8 ∧ r8 ≤ 10) (g_0 : 0 ≤ r7) (g_1 : r7 ≤ 0) (g_2 : 0 < r8) : jT xs (d + 2) 161 16 0 [(0, (4, 0)), (1, (0, r7)), (2, (0, r8)), (3, (4, 1)), (4, (0, 0))] [] [jzQ_16, (4, [(4, 13), (1, 1)], []), (8, [(4, 14), (4, 15)], []), jgh, jgh, jgh, jgh, jgh, jgh, (101, [], [u85_0, u85_1, u85_2, u85_3, u85_4, u85_5]), jgh, jgh, jgh, (101, [], [0, 0, 0, 0, 0, 0]), jgh, jgh] 0 0 (fun k v hsN => k = 0 ∧ v = (0, 0) ∧ hsN = [jzQ_16, (4, [(4, 13), (1, 1)], []), (8, [(4, 14), (4, 15)], []), jgh, jgh, jgh, jgh, jgh, jgh, (101, [], [(108917793695 * r7 + 159561683699 * r8) / 68719476736, -r7, -r8, 0, 0, 0]), jgh, jgh, jgh, (101, [], [0, 0, 0, 0, 0, 0]), jgh, jgh]) := by
  refine jT_xiload_n (v := (0, r7)) (pcN := 1) jIQ_161_0 rfl rfl rfl ?_
  refine jT_ifF (a := r7) (t := 10) (by rfl) (by rfl) (by rfl) (jw_idd (by omega) (by omega)) (by simp only [jcP] <;> omega) ?_
  refine jT_xiload_n (v := (0, r8)) (pcN := 5) jIQ_161_4 rfl rfl rfl ?_
  refine jT_ifT (a := r8) (t := 10) (by rfl) (by rfl) (by rfl) (jw_idd (by omega) (by omega)) (by simp only [jcP] <;> omega) ?_
  refine jT_xiconst (k := 0) (pcN := 11) jIQ_161_10 rfl ?_
  refine jT_xistore (v := (0, 0)) (LN := [(5, (0, 0)), (0, (4, 0)), (1, (0, r7)), (2, (0, r8)), (3, (4, 1)), (4, (0, 0))]) (pcN := 13) jIQ_161_11 rfl rfl rfl rfl ?_
  refine jT_xiload (v := (0, 0)) (pcN := 15) jIQ_161_13 rfl rfl rfl ?_
  refine jT_xbipush (k := 6) (pcN := 17) jIQ_161_15 (by decide) rfl ?_
  refine jT_xicF (t := 56) (pcN := 20) jIQ_161_17 rfl (by decide +kernel) rfl rfl ?_
  refine jT_xaload_n (v := (4, 0)) (pcN := 21) jIQ_161_20 rfl rfl rfl ?_
  refine jT_xgetf (a := 0) (t := 1) (ci := 13) (fi := 7) (c := jzQ_16) (v := (4, 9)) (pcN := 24) jIQ_161_21 rfl rfl rfl rfl rfl rfl rfl ?_
  refine jT_xiload (v := (0, 0)) (pcN := 26) jIQ_161_24 rfl rfl rfl ?_
  refine jT_xiload (v := (0, 0)) (pcN := 28) jIQ_161_26 rfl rfl rfl ?_
  refine jT_xiconst (k := 1) (pcN := 29) jIQ_161_28 rfl ?_
  refine jT_xicT (pcN := 37) jIQ_161_29 rfl (by decide +kernel) rfl ?_
  refine jT_xiload (v := (0, 0)) (pcN := 39) jIQ_161_37 rfl rfl rfl ?_
  refine jT_xiconst (k := 2) (pcN := 40) jIQ_161_39 rfl ?_
  refine jT_xicT (pcN := 48) jIQ_161_40 rfl (by decide +kernel) rfl ?_
  refine jT_xlconst (z := 0) (pcN := 49) jIQ_161_48 rfl rfl ?_
  refine jT_adv 1 (pcN := 50) (LN := [(5, (0, 0)), (0, (4, 0)), (1, (0, r7)), (2, (0, r8)), (3, (4, 1)), (4, (0, 0))]) (stN := []) (hsN := [jzQ_16, (4, [(4, 13), (1, 1)], []), (8, [(4, 14), (4, 15)], []), jgh, jgh, jgh, jgh, jgh, jgh, (101, [], [0, u85_1, u85_2, u85_3, u85_4, u85_5]), jgh, jgh, jgh, (101, [], [0, 0, 0, 0, 0, 0]), jgh, jgh]) (c1 := 0) (s1 := 0) (c2 := 0) (s2 := 0) (by exact rfl) ?_ (by omega) (by omega)
  refine jT_xiinc (x := 0) (z := 1) (LN := [(5, (0, 1)), (0, (4, 0)), (1, (0, r7)), (2, (0, r8)), (3, (4, 1)), (4, (0, 0))]) (pcN := 53) jIQ_161_50 rfl rfl (by decide) rfl rfl ?_
  refine jT_xgoto (pcN := 13) jIQ_161_53 rfl ?_
  refine jT_xiload (v := (0, 1)) (pcN := 15) jIQ_161_13 rfl rfl rfl ?_
  refine jT_xbipush (k := 6) (pcN := 17) jIQ_161_15 (by decide) rfl ?_
  refine jT_xicF (t := 56) (pcN := 20) jIQ_161_17 rfl (by decide +kernel) rfl rfl ?_
  refine jT_xaload_n (v := (4, 0)) (pcN := 21) jIQ_161_20 rfl rfl rfl ?_
  refine jT_xgetf (a := 0) (t := 1) (ci := 13) (fi := 7) (c := jzQ_16) (v := (4, 9)) (pcN := 24) jIQ_161_21 rfl rfl rfl rfl rfl rfl rfl ?_
  refine jT_xiload (v := (0, 1)) (pcN := 26) jIQ_161_24 rfl rfl rfl ?_
  refine jT_xiload (v := (0, 1)) (pcN := 28) jIQ_161_26 rfl rfl rfl ?_
  refine jT_xiconst (k := 1) (pcN := 29) jIQ_161_28 rfl ?_
  refine jT_xicF (t := 37) (pcN := 32) jIQ_161_29 rfl (by decide +kernel) rfl rfl ?_
  refine jT_xiload_n (v := (0, r7)) (pcN := 33) jIQ_161_32 rfl rfl rfl ?_
  refine jT_xi2l (x := r7) (z := r7) (pcN := 34) jIQ_161_33 rfl (jw_idd (by omega) (by omega)) rfl ?_
  refine jT_xgoto (pcN := 49) jIQ_161_34 rfl ?_
  refine jT_adv 1 (pcN := 50) (LN := [(5, (0, 1)), (0, (4, 0)), (1, (0, r7)), (2, (0, r8)), (3, (4, 1)), (4, (0, 0))]) (stN := []) (hsN := [jzQ_16, (4, [(4, 13), (1, 1)], []), (8, [(4, 14), (4, 15)], []), jgh, jgh, jgh, jgh, jgh, jgh, (101, [], [0, r7, u85_2, u85_3, u85_4, u85_5]), jgh, jgh, jgh, (101, [], [0, 0, 0, 0, 0, 0]), jgh, jgh]) (c1 := 0) (s1 := 0) (c2 := 0) (s2 := 0) (by exact rfl) ?_ (by omega) (by omega)
  refine jT_xiinc (x := 1) (z := 2) (LN := [(5, (0, 2)), (0, (4, 0)), (1, (0, r7)), (2, (0, r8)), (3, (4, 1)), (4, (0, 0))]) (pcN := 53) jIQ_161_50 rfl rfl (by decide) rfl rfl ?_
  refine jT_xgoto (pcN := 13) jIQ_161_53 rfl ?_
  refine jT_xiload (v := (0, 2)) (pcN := 15) jIQ_161_13 rfl rfl rfl ?_
  refine jT_xbipush (k := 6) (pcN := 17) jIQ_161_15 (by decide) rfl ?_
  refine jT_xicF (t := 56) (pcN := 20) jIQ_161_17 rfl (by decide +kernel) rfl rfl ?_
  refine jT_xaload_n (v := (4, 0)) (pcN := 21) jIQ_161_20 rfl rfl rfl ?_
  refine jT_xgetf (a := 0) (t := 1) (ci := 13) (fi := 7) (c := jzQ_16) (v := (4, 9)) (pcN := 24) jIQ_161_21 rfl rfl rfl rfl rfl rfl rfl ?_
  refine jT_xiload (v := (0, 2)) (pcN := 26) jIQ_161_24 rfl rfl rfl ?_
  refine jT_xiload (v := (0, 2)) (pcN := 28) jIQ_161_26 rfl rfl rfl ?_
  refine jT_xiconst (k := 1) (pcN := 29) jIQ_161_28 rfl ?_
  refine jT_xicT (pcN := 37) jIQ_161_29 rfl (by decide +kernel) rfl ?_
  refine jT_xiload (v := (0, 2)) (pcN := 39) jIQ_161_37 rfl rfl rfl ?_
  refine jT_xiconst (k := 2) (pcN := 40) jIQ_161_39 rfl ?_
  refine jT_xicF (t := 48) (pcN := 43) jIQ_161_40 rfl (by decide +kernel) rfl rfl ?_
  refine jT_xiload_n (v := (0, r8)) (pcN := 44) jIQ_161_43 rfl rfl rfl ?_
  refine jT_xi2l (x := r8) (z := r8) (pcN := 45) jIQ_161_44 rfl (jw_idd (by omega) (by omega)) rfl ?_
  refine jT_xgoto (pcN := 49) jIQ_161_45 rfl ?_
  refine jT_adv 1 (pcN := 50) (LN := [(5, (0, 2)), (0, (4, 0)), (1, (0, r7)), (2, (0, r8)), (3, (4, 1)), (4, (0, 0))]) (stN := []) (hsN := [jzQ_16, (4, [(4, 13), (1, 1)], []), (8, [(4, 14), (4, 15)], []), jgh, jgh, jgh, jgh, jgh, jgh, (101, [], [0, r7, r8, u85_3, u85_4, u85_5]), jgh, jgh, jgh, (101, [], [0, 0, 0, 0, 0, 0]), jgh, jgh]) (c1 := 0) (s1 := 0) (c2 := 0) (s2 := 0) (by exact rfl) ?_ (by omega) (by omega)
  refine jT_xiinc (x := 2) (z := 3) (LN := [(5, (0, 3)), (0, (4, 0)), (1, (0, r7)), (2, (0, r8)), (3, (4, 1)), (4, (0, 0))]) (pcN := 53) jIQ_161_50 rfl rfl (by decide) rfl rfl ?_
  refine jT_xgoto (pcN := 13) jIQ_161_53 rfl ?_
  refine jT_xiload (v := (0, 3)) (pcN := 15) jIQ_161_13 rfl rfl rfl ?_
  refine jT_xbipush (k := 6) (pcN := 17) jIQ_161_15 (by decide) rfl ?_
  refine jT_xicF (t := 56) (pcN := 20) jIQ_161_17 rfl (by decide +kernel) rfl rfl ?_
  refine jT_xaload_n (v := (4, 0)) (pcN := 21) jIQ_161_20 rfl rfl rfl ?_
  refine jT_xgetf (a := 0) (t := 1) (ci := 13) (fi := 7) (c := jzQ_16) (v := (4, 9)) (pcN := 24) jIQ_161_21 rfl rfl rfl rfl rfl rfl rfl ?_
  refine jT_xiload (v := (0, 3)) (pcN := 26) jIQ_161_24 rfl rfl rfl ?_
  refine jT_xiload (v := (0, 3)) (pcN := 28) jIQ_161_26 rfl rfl rfl ?_
  refine jT_xiconst (k := 1) (pcN := 29) jIQ_161_28 rfl ?_
  refine jT_xicT (pcN := 37) jIQ_161_29 rfl (by decide +kernel) rfl ?_
  refine jT_xiload (v := (0, 3)) (pcN := 39) jIQ_161_37 rfl rfl rfl ?_
  refine jT_xiconst (k := 2) (pcN := 40) jIQ_161_39 rfl ?_
  refine jT_xicT (pcN := 48) jIQ_161_40 rfl (by decide +kernel) rfl ?_
  refine jT_xlconst (z := 0) (pcN := 49) jIQ_161_48 rfl rfl ?_
  refine jT_adv 1 (pcN := 50) (LN := [(5, (0, 3)), (0, (4, 0)), (1, (0, r7)), (2, (0, r8)), (3, (4, 1)), (4, (0, 0))]) (stN := []) (hsN := [jzQ_16, (4, [(4, 13), (1, 1)], []), (8, [(4, 14), (4, 15)], []), jgh, jgh, jgh, jgh, jgh, jgh, (101, [], [0, r7, r8, 0, u85_4, u85_5]), jgh, jgh, jgh, (101, [], [0, 0, 0, 0, 0, 0]), jgh, jgh]) (c1 := 0) (s1 := 0) (c2 := 0) (s2 := 0) (by exact rfl) ?_ (by omega) (by omega)
  refine jT_xiinc (x := 3) (z := 4) (LN := [(5, (0, 4)), (0, (4, 0)), (1, (0, r7)), (2, (0, r8)), (3, (4, 1)), (4, (0, 0))]) (pcN := 53) jIQ_161_50 rfl rfl (by decide) rfl rfl ?_
  refine jT_xgoto (pcN := 13) jIQ_161_53 rfl ?_
  refine jT_xiload (v := (0, 4)) (pcN := 15) jIQ_161_13 rfl rfl rfl ?_
  refine jT_xbipush (k := 6) (pcN := 17) jIQ_161_15 (by decide) rfl ?_
  refine jT_xicF (t := 56) (pcN := 20) jIQ_161_17 rfl (by decide +kernel) rfl rfl ?_
  refine jT_xaload_n (v := (4, 0)) (pcN := 21) jIQ_161_20 rfl rfl rfl ?_
  refine jT_xgetf (a := 0) (t := 1) (ci := 13) (fi := 7) (c := jzQ_16) (v := (4, 9)) (pcN := 24) jIQ_161_21 rfl rfl rfl rfl rfl rfl rfl ?_
  refine jT_xiload (v := (0, 4)) (pcN := 26) jIQ_161_24 rfl rfl rfl ?_
  refine jT_xiload (v := (0, 4)) (pcN := 28) jIQ_161_26 rfl rfl rfl ?_
  refine jT_xiconst (k := 1) (pcN := 29) jIQ_161_28 rfl ?_
  refine jT_xicT (pcN := 37) jIQ_161_29 rfl (by decide +kernel) rfl ?_
  refine jT_xiload (v := (0, 4)) (pcN := 39) jIQ_161_37 rfl rfl rfl ?_
  refine jT_xiconst (k := 2) (pcN := 40) jIQ_161_39 rfl ?_
  refine jT_xicT (pcN := 48) jIQ_161_40 rfl (by decide +kernel) rfl ?_
  refine jT_xlconst (z := 0) (pcN := 49) jIQ_161_48 rfl rfl ?_
  refine jT_adv 1 (pcN := 50) (LN := [(5, (0, 4)), (0, (4, 0)), (1, (0, r7)), (2, (0, r8)), (3, (4, 1)), (4, (0, 0))]) (stN := []) (hsN := [jzQ_16, (4, [(4, 13), (1, 1)], []), (8, [(4, 14), (4, 15)], []), jgh, jgh, jgh, jgh, jgh, jgh, (101, [], [0, r7, r8, 0, 0, u85_5]), jgh, jgh, jgh, (101, [], [0, 0, 0, 0, 0, 0]), jgh, jgh]) (c1 := 0) (s1 := 0) (c2 := 0) (s2 := 0) (by exact rfl) ?_ (by omega) (by omega)
  refine jT_xiinc (x := 4) (z := 5) (LN := [(5, (0, 5)), (0, (4, 0)), (1, (0, r7)), (2, (0, r8)), (3, (4, 1)), (4, (0, 0))]) (pcN := 53) jIQ_161_50 rfl rfl (by decide) rfl rfl ?_
  refine jT_xgoto (pcN := 13) jIQ_161_53 rfl ?_
  refine jT_xiload (v := (0, 5)) (pcN := 15) jIQ_161_13 rfl rfl rfl ?_
  refine jT_xbipush (k := 6) (pcN := 17) jIQ_161_15 (by decide) rfl ?_
  refine jT_xicF (t := 56) (pcN := 20) jIQ_161_17 rfl (by decide +kernel) rfl rfl ?_
  refine jT_xaload_n (v := (4, 0)) (pcN := 21) jIQ_161_20 rfl rfl rfl ?_
  refine jT_xgetf (a := 0) (t := 1) (ci := 13) (fi := 7) (c := jzQ_16) (v := (4, 9)) (pcN := 24) jIQ_161_21 rfl rfl rfl rfl rfl rfl rfl ?_
  refine jT_xiload (v := (0, 5)) (pcN := 26) jIQ_161_24 rfl rfl rfl ?_
  refine jT_xiload (v := (0, 5)) (pcN := 28) jIQ_161_26 rfl rfl rfl ?_
  refine jT_xiconst (k := 1) (pcN := 29) jIQ_161_28 rfl ?_
  refine jT_xicT (pcN := 37) jIQ_161_29 rfl (by decide +kernel) rfl ?_
  refine jT_xiload (v := (0, 5)) (pcN := 39) jIQ_161_37 rfl rfl rfl ?_
  refine jT_xiconst (k := 2) (pcN := 40) jIQ_161_39 rfl ?_
  refine jT_xicT (pcN := 48) jIQ_161_40 rfl (by decide +kernel) rfl ?_
  refine jT_xlconst (z := 0) (pcN := 49) jIQ_161_48 rfl rfl ?_
  refine jT_adv 1 (pcN := 50) (LN := [(5, (0, 5)), (0, (4, 0)), (1, (0, r7)), (2, (0, r8)), (3, (4, 1)), (4, (0, 0))]) (stN := []) (hsN := [jzQ_16, (4, [(4, 13), (1, 1)], []), (8, [(4, 14), (4, 15)], []), jgh, jgh, jgh, jgh, jgh, jgh, (101, [], [0, r7, r8, 0, 0, 0]), jgh, jgh, jgh, (101, [], [0, 0, 0, 0, 0, 0]), jgh, jgh]) (c1 := 0) (s1 := 0) (c2 := 0) (s2 := 0) (by exact rfl) ?_ (by omega) (by omega)
  refine jT_xiinc (x := 5) (z := 6) (LN := [(5, (0, 6)), (0, (4, 0)), (1, (0, r7)), (2, (0, r8)), (3, (4, 1)), (4, (0, 0))]) (pcN := 53) jIQ_161_50 rfl rfl (by decide) rfl rfl ?_
  refine jT_xgoto (pcN := 13) jIQ_161_53 rfl ?_
  refine jT_xiload (v := (0, 6)) (pcN := 15) jIQ_161_13 rfl rfl rfl ?_
  refine jT_xbipush (k := 6) (pcN := 17) jIQ_161_15 (by decide) rfl ?_
  refine jT_xicT (pcN := 56) jIQ_161_17 rfl (by decide +kernel) rfl ?_
  refine jT_xaload_n (v := (4, 0)) (pcN := 57) jIQ_161_56 rfl rfl rfl ?_
  refine jT_xgetf (a := 0) (t := 1) (ci := 13) (fi := 0) (c := jzQ_16) (v := (4, 2)) (pcN := 60) jIQ_161_57 rfl rfl rfl rfl rfl rfl rfl ?_
  refine jT_xaload_n (v := (4, 0)) (pcN := 61) jIQ_161_60 rfl rfl rfl ?_
  refine jT_xgetf (a := 0) (t := 1) (ci := 13) (fi := 7) (c := jzQ_16) (v := (4, 9)) (pcN := 64) jIQ_161_61 rfl rfl rfl rfl rfl rfl rfl ?_
  refine jT_xlconst (z := 1) (pcN := 65) jIQ_161_64 rfl rfl ?_
  refine jT_xlconst (z := 1) (pcN := 66) jIQ_161_65 rfl rfl ?_
  refine jT_callA [2, 9, 14, 15] (y := 45) (pcN := 69) (dC := 1) (bc1 := 0) (bc2 := 0) (c1 := 0) (c2 := 0) (as := [(4, 2), (4, 9), (1, 1), (1, 1)]) (asC := [(4, 0), (4, 1), (1, 1), (1, 1)]) (LN := [(5, (0, 6)), (0, (4, 0)), (1, (0, r7)), (2, (0, r8)), (3, (4, 1)), (4, (0, 0))]) (stN := []) (hsC := [(8, [(4, 2), (4, 3)], []), (101, [], [0, r7, r8, 0, 0, 0]), jgh, jgh]) (ex := []) (v := (1, (108917793695 * r7 + 159561683699 * r8) / 68719476736)) (st2 := [(1, (108917793695 * r7 + 159561683699 * r8) / 68719476736)]) (hs2 := [jzQ_16, (4, [(4, 13), (1, 1)], []), (8, [(4, 14), (4, 15)], []), jgh, jgh, jgh, jgh, jgh, jgh, (101, [], [0, r7, r8, 0, 0, 0]), jgh, jgh, jgh, (101, [], [0, 0, 0, 0, 0, 0]), jgh, jgh]) (jQl_sp45_116 (d := 0) (by omega) (by omega)) (by rfl) (by rfl) (by rfl) (by rfl) ⟨rfl, rfl, rfl, rfl, trivial⟩ (by rfl) (by rfl) (by omega) (by show 16 ≤ 16; omega) (by omega) (by omega) rfl rfl ?_
  have hb_q1 : (-60) ≤ (108917793695 * r7 + 159561683699 * r8) / 68719476736 ∧ (108917793695 * r7 + 159561683699 * r8) / 68719476736 ≤ 60 := ⟨by omega, by omega⟩
  generalize hq_q1 : (108917793695 * r7 + 159561683699 * r8) / 68719476736 = q1 at hb_q1 ⊢
  refine jT_xlstore (v := (1, q1)) (LN := [(5, (1, q1)), (0, (4, 0)), (1, (0, r7)), (2, (0, r8)), (3, (4, 1)), (4, (0, 0))]) (pcN := 71) jIQ_161_69 rfl rfl rfl rfl ?_
  have g_3 : 0 ≤ (-68719476736) * q1 + 108917793694 * r7 + 159561683698 * r8 - 1 := by have := jcg (b := r7) (c := r8) (by omega) (by omega) (by omega); rw [hq_q1] at this; omega
  have g_4 : 0 ≤ (-68719476736) * q1 + 108917793694 * r7 + 159561683700 * r8 - 1 := by have := jcg (b := r7) (c := r8) (by omega) (by omega) (by omega); rw [hq_q1] at this; omega
  have g_5 : 0 ≤ (-68719476736) * q1 + 108917793696 * r7 + 159561683698 * r8 - 1 := by have := jcg (b := r7) (c := r8) (by omega) (by omega) (by omega); rw [hq_q1] at this; omega
  have g_6 : 0 ≤ (-68719476736) * q1 + 108917793696 * r7 + 159561683700 * r8 - 1 := by have := jcg (b := r7) (c := r8) (by omega) (by omega) (by omega); rw [hq_q1] at this; omega
  refine jT_xiload (v := (0, 0)) (pcN := 73) jIQ_161_71 rfl rfl rfl ?_
  refine jT_xifT (pcN := 107) jIQ_161_73 rfl (by decide +kernel) rfl ?_
  refine jT_xaload_n (v := (4, 0)) (pcN := 108) jIQ_161_107 rfl rfl rfl ?_
  refine jT_xgetf (a := 0) (t := 1) (ci := 13) (fi := 7) (c := jzQ_16) (v := (4, 9)) (pcN := 111) jIQ_161_108 rfl rfl rfl rfl rfl rfl rfl ?_
  refine jT_xiconst (k := 0) (pcN := 112) jIQ_161_111 rfl ?_
  refine jT_xlload (v := (1, q1)) (pcN := 114) jIQ_161_112 rfl rfl rfl ?_
  refine jT_adv 2 (pcN := 116) (LN := [(5, (1, q1)), (0, (4, 0)), (1, (0, r7)), (2, (0, r8)), (3, (4, 1)), (4, (0, 0))]) (stN := []) (hsN := [jzQ_16, (4, [(4, 13), (1, 1)], []), (8, [(4, 14), (4, 15)], []), jgh, jgh, jgh, jgh, jgh, jgh, (101, [], [-q1, r7, r8, 0, 0, 0]), jgh, jgh, jgh, (101, [], [0, 0, 0, 0, 0, 0]), jgh, jgh]) (c1 := 0) (s1 := 0) (c2 := 0) (s2 := 0) (by exact rfl) ?_ (by omega) (by omega)
  refine jT_xiconst (k := 0) (pcN := 117) jIQ_161_116 rfl ?_
  refine jT_xistore (v := (0, 0)) (LN := [(7, (0, 0)), (5, (1, q1)), (0, (4, 0)), (1, (0, r7)), (2, (0, r8)), (3, (4, 1)), (4, (0, 0))]) (pcN := 119) jIQ_161_117 rfl rfl rfl rfl ?_
  refine jT_xiload (v := (0, 0)) (pcN := 121) jIQ_161_119 rfl rfl rfl ?_
  refine jT_xbipush (k := 6) (pcN := 123) jIQ_161_121 (by decide) rfl ?_
  refine jT_xicF (t := 159) (pcN := 126) jIQ_161_123 rfl (by decide +kernel) rfl rfl ?_
  refine jT_xaload_n (v := (4, 0)) (pcN := 127) jIQ_161_126 rfl rfl rfl ?_
  refine jT_xgetf (a := 0) (t := 1) (ci := 13) (fi := 7) (c := jzQ_16) (v := (4, 9)) (pcN := 130) jIQ_161_127 rfl rfl rfl rfl rfl rfl rfl ?_
  refine jT_xiload (v := (0, 0)) (pcN := 132) jIQ_161_130 rfl rfl rfl ?_
  refine jT_xaload_n (v := (4, 1)) (pcN := 133) jIQ_161_132 rfl rfl rfl ?_
  refine jT_xgetf (a := 1) (t := 2) (ci := 4) (fi := 0) (c := (4, [(4, 13), (1, 1)], [])) (v := (4, 13)) (pcN := 136) jIQ_161_133 rfl rfl rfl rfl rfl rfl rfl ?_
  refine jT_xiload (v := (0, 0)) (pcN := 138) jIQ_161_136 rfl rfl rfl ?_
  refine jT_lald (x := 0) (a := 13) (j := 0) (fs := []) (X := [0, 0, 0, 0, 0, 0]) jIQ_161_138 rfl rfl rfl rfl ?_
  refine jT_eq (LN := [(7, (0, 0)), (5, (1, q1)), (0, (4, 0)), (1, (0, r7)), (2, (0, r8)), (3, (4, 1)), (4, (0, 0))]) (stN := [(1, 0), (0, 0), (4, 9)]) (hsN := [jzQ_16, (4, [(4, 13), (1, 1)], []), (8, [(4, 14), (4, 15)], []), jgh, jgh, jgh, jgh, jgh, jgh, (101, [], [-q1, r7, r8, 0, 0, 0]), jgh, jgh, jgh, (101, [], [0, 0, 0, 0, 0, 0]), jgh, jgh]) rfl rfl rfl ?_
  refine jT_xaload_n (v := (4, 0)) (pcN := 140) jIQ_161_139 rfl rfl rfl ?_
  refine jT_xgetf (a := 0) (t := 1) (ci := 13) (fi := 7) (c := jzQ_16) (v := (4, 9)) (pcN := 143) jIQ_161_140 rfl rfl rfl rfl rfl rfl rfl ?_
  refine jT_xiload (v := (0, 0)) (pcN := 145) jIQ_161_143 rfl rfl rfl ?_
  refine jT_lald (x := -q1) (a := 9) (j := 0) (fs := []) (X := [-q1, r7, r8, 0, 0, 0]) jIQ_161_145 rfl rfl rfl rfl ?_
  refine jT_eq (LN := [(7, (0, 0)), (5, (1, q1)), (0, (4, 0)), (1, (0, r7)), (2, (0, r8)), (3, (4, 1)), (4, (0, 0))]) (stN := [(1, -q1), (1, 0), (0, 0), (4, 9)]) (hsN := [jzQ_16, (4, [(4, 13), (1, 1)], []), (8, [(4, 14), (4, 15)], []), jgh, jgh, jgh, jgh, jgh, jgh, (101, [], [-q1, r7, r8, 0, 0, 0]), jgh, jgh, jgh, (101, [], [0, 0, 0, 0, 0, 0]), jgh, jgh]) rfl rfl rfl ?_
  refine jT_xaload_n (v := (4, 1)) (pcN := 147) jIQ_161_146 rfl rfl rfl ?_
  refine jT_xgetf (a := 1) (t := 2) (ci := 4) (fi := 1) (c := (4, [(4, 13), (1, 1)], [])) (v := (1, 1)) (pcN := 150) jIQ_161_147 rfl rfl rfl rfl rfl rfl rfl ?_
  refine jT_xlmul (x := -q1) (y := 1) (z := -q1) (pcN := 151) jIQ_161_150 rfl (by omega) rfl ?_
  refine jT_xlsub (x := 0) (y := -q1) (z := q1) (pcN := 152) jIQ_161_151 rfl (by omega) rfl ?_
  refine jT_adv 1 (pcN := 153) (LN := [(7, (0, 0)), (5, (1, q1)), (0, (4, 0)), (1, (0, r7)), (2, (0, r8)), (3, (4, 1)), (4, (0, 0))]) (stN := []) (hsN := [jzQ_16, (4, [(4, 13), (1, 1)], []), (8, [(4, 14), (4, 15)], []), jgh, jgh, jgh, jgh, jgh, jgh, (101, [], [q1, r7, r8, 0, 0, 0]), jgh, jgh, jgh, (101, [], [0, 0, 0, 0, 0, 0]), jgh, jgh]) (c1 := 0) (s1 := 0) (c2 := 0) (s2 := 0) (by exact rfl) ?_ (by omega) (by omega)
  refine jT_xiinc (x := 0) (z := 1) (LN := [(7, (0, 1)), (5, (1, q1)), (0, (4, 0)), (1, (0, r7)), (2, (0, r8)), (3, (4, 1)), (4, (0, 0))]) (pcN := 156) jIQ_161_153 rfl rfl (by decide) rfl rfl ?_
  refine jT_xgoto (pcN := 119) jIQ_161_156 rfl ?_
  refine jT_xiload (v := (0, 1)) (pcN := 121) jIQ_161_119 rfl rfl rfl ?_
  refine jT_xbipush (k := 6) (pcN := 123) jIQ_161_121 (by decide) rfl ?_
  refine jT_xicF (t := 159) (pcN := 126) jIQ_161_123 rfl (by decide +kernel) rfl rfl ?_
  refine jT_xaload_n (v := (4, 0)) (pcN := 127) jIQ_161_126 rfl rfl rfl ?_
  refine jT_xgetf (a := 0) (t := 1) (ci := 13) (fi := 7) (c := jzQ_16) (v := (4, 9)) (pcN := 130) jIQ_161_127 rfl rfl rfl rfl rfl rfl rfl ?_
  refine jT_xiload (v := (0, 1)) (pcN := 132) jIQ_161_130 rfl rfl rfl ?_
  refine jT_xaload_n (v := (4, 1)) (pcN := 133) jIQ_161_132 rfl rfl rfl ?_
  refine jT_xgetf (a := 1) (t := 2) (ci := 4) (fi := 0) (c := (4, [(4, 13), (1, 1)], [])) (v := (4, 13)) (pcN := 136) jIQ_161_133 rfl rfl rfl rfl rfl rfl rfl ?_
  refine jT_xiload (v := (0, 1)) (pcN := 138) jIQ_161_136 rfl rfl rfl ?_
  refine jT_lald (x := 0) (a := 13) (j := 1) (fs := []) (X := [0, 0, 0, 0, 0, 0]) jIQ_161_138 rfl rfl rfl rfl ?_
  refine jT_eq (LN := [(7, (0, 1)), (5, (1, q1)), (0, (4, 0)), (1, (0, r7)), (2, (0, r8)), (3, (4, 1)), (4, (0, 0))]) (stN := [(1, 0), (0, 1), (4, 9)]) (hsN := [jzQ_16, (4, [(4, 13), (1, 1)], []), (8, [(4, 14), (4, 15)], []), jgh, jgh, jgh, jgh, jgh, jgh, (101, [], [q1, r7, r8, 0, 0, 0]), jgh, jgh, jgh, (101, [], [0, 0, 0, 0, 0, 0]), jgh, jgh]) rfl rfl rfl ?_
  refine jT_xaload_n (v := (4, 0)) (pcN := 140) jIQ_161_139 rfl rfl rfl ?_
  refine jT_xgetf (a := 0) (t := 1) (ci := 13) (fi := 7) (c := jzQ_16) (v := (4, 9)) (pcN := 143) jIQ_161_140 rfl rfl rfl rfl rfl rfl rfl ?_
  refine jT_xiload (v := (0, 1)) (pcN := 145) jIQ_161_143 rfl rfl rfl ?_
  refine jT_lald (x := r7) (a := 9) (j := 1) (fs := []) (X := [q1, r7, r8, 0, 0, 0]) jIQ_161_145 rfl rfl rfl rfl ?_
  refine jT_eq (LN := [(7, (0, 1)), (5, (1, q1)), (0, (4, 0)), (1, (0, r7)), (2, (0, r8)), (3, (4, 1)), (4, (0, 0))]) (stN := [(1, r7), (1, 0), (0, 1), (4, 9)]) (hsN := [jzQ_16, (4, [(4, 13), (1, 1)], []), (8, [(4, 14), (4, 15)], []), jgh, jgh, jgh, jgh, jgh, jgh, (101, [], [q1, r7, r8, 0, 0, 0]), jgh, jgh, jgh, (101, [], [0, 0, 0, 0, 0, 0]), jgh, jgh]) rfl rfl rfl ?_
  refine jT_xaload_n (v := (4, 1)) (pcN := 147) jIQ_161_146 rfl rfl rfl ?_
  refine jT_xgetf (a := 1) (t := 2) (ci := 4) (fi := 1) (c := (4, [(4, 13), (1, 1)], [])) (v := (1, 1)) (pcN := 150) jIQ_161_147 rfl rfl rfl rfl rfl rfl rfl ?_
  refine jT_xlmul (x := r7) (y := 1) (z := r7) (pcN := 151) jIQ_161_150 rfl (by omega) rfl ?_
  refine jT_xlsub (x := 0) (y := r7) (z := -r7) (pcN := 152) jIQ_161_151 rfl (by omega) rfl ?_
  refine jT_adv 1 (pcN := 153) (LN := [(7, (0, 1)), (5, (1, q1)), (0, (4, 0)), (1, (0, r7)), (2, (0, r8)), (3, (4, 1)), (4, (0, 0))]) (stN := []) (hsN := [jzQ_16, (4, [(4, 13), (1, 1)], []), (8, [(4, 14), (4, 15)], []), jgh, jgh, jgh, jgh, jgh, jgh, (101, [], [q1, -r7, r8, 0, 0, 0]), jgh, jgh, jgh, (101, [], [0, 0, 0, 0, 0, 0]), jgh, jgh]) (c1 := 0) (s1 := 0) (c2 := 0) (s2 := 0) (by exact rfl) ?_ (by omega) (by omega)
  refine jT_xiinc (x := 1) (z := 2) (LN := [(7, (0, 2)), (5, (1, q1)), (0, (4, 0)), (1, (0, r7)), (2, (0, r8)), (3, (4, 1)), (4, (0, 0))]) (pcN := 156) jIQ_161_153 rfl rfl (by decide) rfl rfl ?_
  refine jT_xgoto (pcN := 119) jIQ_161_156 rfl ?_
  refine jT_xiload (v := (0, 2)) (pcN := 121) jIQ_161_119 rfl rfl rfl ?_
  refine jT_xbipush (k := 6) (pcN := 123) jIQ_161_121 (by decide) rfl ?_
  refine jT_xicF (t := 159) (pcN := 126) jIQ_161_123 rfl (by decide +kernel) rfl rfl ?_
  refine jT_xaload_n (v := (4, 0)) (pcN := 127) jIQ_161_126 rfl rfl rfl ?_
  refine jT_xgetf (a := 0) (t := 1) (ci := 13) (fi := 7) (c := jzQ_16) (v := (4, 9)) (pcN := 130) jIQ_161_127 rfl rfl rfl rfl rfl rfl rfl ?_
  refine jT_xiload (v := (0, 2)) (pcN := 132) jIQ_161_130 rfl rfl rfl ?_
  refine jT_xaload_n (v := (4, 1)) (pcN := 133) jIQ_161_132 rfl rfl rfl ?_
  refine jT_xgetf (a := 1) (t := 2) (ci := 4) (fi := 0) (c := (4, [(4, 13), (1, 1)], [])) (v := (4, 13)) (pcN := 136) jIQ_161_133 rfl rfl rfl rfl rfl rfl rfl ?_
  refine jT_xiload (v := (0, 2)) (pcN := 138) jIQ_161_136 rfl rfl rfl ?_
  refine jT_lald (x := 0) (a := 13) (j := 2) (fs := []) (X := [0, 0, 0, 0, 0, 0]) jIQ_161_138 rfl rfl rfl rfl ?_
  refine jT_eq (LN := [(7, (0, 2)), (5, (1, q1)), (0, (4, 0)), (1, (0, r7)), (2, (0, r8)), (3, (4, 1)), (4, (0, 0))]) (stN := [(1, 0), (0, 2), (4, 9)]) (hsN := [jzQ_16, (4, [(4, 13), (1, 1)], []), (8, [(4, 14), (4, 15)], []), jgh, jgh, jgh, jgh, jgh, jgh, (101, [], [q1, -r7, r8, 0, 0, 0]), jgh, jgh, jgh, (101, [], [0, 0, 0, 0, 0, 0]), jgh, jgh]) rfl rfl rfl ?_
  refine jT_xaload_n (v := (4, 0)) (pcN := 140) jIQ_161_139 rfl rfl rfl ?_
  refine jT_xgetf (a := 0) (t := 1) (ci := 13) (fi := 7) (c := jzQ_16) (v := (4, 9)) (pcN := 143) jIQ_161_140 rfl rfl rfl rfl rfl rfl rfl ?_
  refine jT_xiload (v := (0, 2)) (pcN := 145) jIQ_161_143 rfl rfl rfl ?_
  refine jT_lald (x := r8) (a := 9) (j := 2) (fs := []) (X := [q1, -r7, r8, 0, 0, 0]) jIQ_161_145 rfl rfl rfl rfl ?_
  refine jT_eq (LN := [(7, (0, 2)), (5, (1, q1)), (0, (4, 0)), (1, (0, r7)), (2, (0, r8)), (3, (4, 1)), (4, (0, 0))]) (stN := [(1, r8), (1, 0), (0, 2), (4, 9)]) (hsN := [jzQ_16, (4, [(4, 13), (1, 1)], []), (8, [(4, 14), (4, 15)], []), jgh, jgh, jgh, jgh, jgh, jgh, (101, [], [q1, -r7, r8, 0, 0, 0]), jgh, jgh, jgh, (101, [], [0, 0, 0, 0, 0, 0]), jgh, jgh]) rfl rfl rfl ?_
  refine jT_xaload_n (v := (4, 1)) (pcN := 147) jIQ_161_146 rfl rfl rfl ?_
  refine jT_xgetf (a := 1) (t := 2) (ci := 4) (fi := 1) (c := (4, [(4, 13), (1, 1)], [])) (v := (1, 1)) (pcN := 150) jIQ_161_147 rfl rfl rfl rfl rfl rfl rfl ?_
  refine jT_xlmul (x := r8) (y := 1) (z := r8) (pcN := 151) jIQ_161_150 rfl (by omega) rfl ?_
  refine jT_xlsub (x := 0) (y := r8) (z := -r8) (pcN := 152) jIQ_161_151 rfl (by omega) rfl ?_
  refine jT_adv 1 (pcN := 153) (LN := [(7, (0, 2)), (5, (1, q1)), (0, (4, 0)), (1, (0, r7)), (2, (0, r8)), (3, (4, 1)), (4, (0, 0))]) (stN := []) (hsN := [jzQ_16, (4, [(4, 13), (1, 1)], []), (8, [(4, 14), (4, 15)], []), jgh, jgh, jgh, jgh, jgh, jgh, (101, [], [q1, -r7, -r8, 0, 0, 0]), jgh, jgh, jgh, (101, [], [0, 0, 0, 0, 0, 0]), jgh, jgh]) (c1 := 0) (s1 := 0) (c2 := 0) (s2 := 0) (by exact rfl) ?_ (by omega) (by omega)
  refine jT_xiinc (x := 2) (z := 3) (LN := [(7, (0, 3)), (5, (1, q1)), (0, (4, 0)), (1, (0, r7)), (2, (0, r8)), (3, (4, 1)), (4, (0, 0))]) (pcN := 156) jIQ_161_153 rfl rfl (by decide) rfl rfl ?_
  refine jT_xgoto (pcN := 119) jIQ_161_156 rfl ?_
  refine jT_xiload (v := (0, 3)) (pcN := 121) jIQ_161_119 rfl rfl rfl ?_
  refine jT_xbipush (k := 6) (pcN := 123) jIQ_161_121 (by decide) rfl ?_
  refine jT_xicF (t := 159) (pcN := 126) jIQ_161_123 rfl (by decide +kernel) rfl rfl ?_
  refine jT_xaload_n (v := (4, 0)) (pcN := 127) jIQ_161_126 rfl rfl rfl ?_
  refine jT_xgetf (a := 0) (t := 1) (ci := 13) (fi := 7) (c := jzQ_16) (v := (4, 9)) (pcN := 130) jIQ_161_127 rfl rfl rfl rfl rfl rfl rfl ?_
  refine jT_xiload (v := (0, 3)) (pcN := 132) jIQ_161_130 rfl rfl rfl ?_
  refine jT_xaload_n (v := (4, 1)) (pcN := 133) jIQ_161_132 rfl rfl rfl ?_
  refine jT_xgetf (a := 1) (t := 2) (ci := 4) (fi := 0) (c := (4, [(4, 13), (1, 1)], [])) (v := (4, 13)) (pcN := 136) jIQ_161_133 rfl rfl rfl rfl rfl rfl rfl ?_
  refine jT_xiload (v := (0, 3)) (pcN := 138) jIQ_161_136 rfl rfl rfl ?_
  refine jT_lald (x := 0) (a := 13) (j := 3) (fs := []) (X := [0, 0, 0, 0, 0, 0]) jIQ_161_138 rfl rfl rfl rfl ?_
  refine jT_eq (LN := [(7, (0, 3)), (5, (1, q1)), (0, (4, 0)), (1, (0, r7)), (2, (0, r8)), (3, (4, 1)), (4, (0, 0))]) (stN := [(1, 0), (0, 3), (4, 9)]) (hsN := [jzQ_16, (4, [(4, 13), (1, 1)], []), (8, [(4, 14), (4, 15)], []), jgh, jgh, jgh, jgh, jgh, jgh, (101, [], [q1, -r7, -r8, 0, 0, 0]), jgh, jgh, jgh, (101, [], [0, 0, 0, 0, 0, 0]), jgh, jgh]) rfl rfl rfl ?_
  refine jT_xaload_n (v := (4, 0)) (pcN := 140) jIQ_161_139 rfl rfl rfl ?_
  refine jT_xgetf (a := 0) (t := 1) (ci := 13) (fi := 7) (c := jzQ_16) (v := (4, 9)) (pcN := 143) jIQ_161_140 rfl rfl rfl rfl rfl rfl rfl ?_
  refine jT_xiload (v := (0, 3)) (pcN := 145) jIQ_161_143 rfl rfl rfl ?_
  refine jT_lald (x := 0) (a := 9) (j := 3) (fs := []) (X := [q1, -r7, -r8, 0, 0, 0]) jIQ_161_145 rfl rfl rfl rfl ?_
  refine jT_eq (LN := [(7, (0, 3)), (5, (1, q1)), (0, (4, 0)), (1, (0, r7)), (2, (0, r8)), (3, (4, 1)), (4, (0, 0))]) (stN := [(1, 0), (1, 0), (0, 3), (4, 9)]) (hsN := [jzQ_16, (4, [(4, 13), (1, 1)], []), (8, [(4, 14), (4, 15)], []), jgh, jgh, jgh, jgh, jgh, jgh, (101, [], [q1, -r7, -r8, 0, 0, 0]), jgh, jgh, jgh, (101, [], [0, 0, 0, 0, 0, 0]), jgh, jgh]) rfl rfl rfl ?_
  refine jT_xaload_n (v := (4, 1)) (pcN := 147) jIQ_161_146 rfl rfl rfl ?_
  refine jT_xgetf (a := 1) (t := 2) (ci := 4) (fi := 1) (c := (4, [(4, 13), (1, 1)], [])) (v := (1, 1)) (pcN := 150) jIQ_161_147 rfl rfl rfl rfl rfl rfl rfl ?_
  refine jT_xlmul (x := 0) (y := 1) (z := 0) (pcN := 151) jIQ_161_150 rfl (by decide) rfl ?_
  refine jT_xlsub (x := 0) (y := 0) (z := 0) (pcN := 152) jIQ_161_151 rfl (by decide) rfl ?_
  refine jT_adv 1 (pcN := 153) (LN := [(7, (0, 3)), (5, (1, q1)), (0, (4, 0)), (1, (0, r7)), (2, (0, r8)), (3, (4, 1)), (4, (0, 0))]) (stN := []) (hsN := [jzQ_16, (4, [(4, 13), (1, 1)], []), (8, [(4, 14), (4, 15)], []), jgh, jgh, jgh, jgh, jgh, jgh, (101, [], [q1, -r7, -r8, 0, 0, 0]), jgh, jgh, jgh, (101, [], [0, 0, 0, 0, 0, 0]), jgh, jgh]) (c1 := 0) (s1 := 0) (c2 := 0) (s2 := 0) (by exact rfl) ?_ (by omega) (by omega)
  refine jT_xiinc (x := 3) (z := 4) (LN := [(7, (0, 4)), (5, (1, q1)), (0, (4, 0)), (1, (0, r7)), (2, (0, r8)), (3, (4, 1)), (4, (0, 0))]) (pcN := 156) jIQ_161_153 rfl rfl (by decide) rfl rfl ?_
  refine jT_xgoto (pcN := 119) jIQ_161_156 rfl ?_
  refine jT_xiload (v := (0, 4)) (pcN := 121) jIQ_161_119 rfl rfl rfl ?_
  refine jT_xbipush (k := 6) (pcN := 123) jIQ_161_121 (by decide) rfl ?_
  refine jT_xicF (t := 159) (pcN := 126) jIQ_161_123 rfl (by decide +kernel) rfl rfl ?_
  refine jT_xaload_n (v := (4, 0)) (pcN := 127) jIQ_161_126 rfl rfl rfl ?_
  refine jT_xgetf (a := 0) (t := 1) (ci := 13) (fi := 7) (c := jzQ_16) (v := (4, 9)) (pcN := 130) jIQ_161_127 rfl rfl rfl rfl rfl rfl rfl ?_
  refine jT_xiload (v := (0, 4)) (pcN := 132) jIQ_161_130 rfl rfl rfl ?_
  refine jT_xaload_n (v := (4, 1)) (pcN := 133) jIQ_161_132 rfl rfl rfl ?_
  refine jT_xgetf (a := 1) (t := 2) (ci := 4) (fi := 0) (c := (4, [(4, 13), (1, 1)], [])) (v := (4, 13)) (pcN := 136) jIQ_161_133 rfl rfl rfl rfl rfl rfl rfl ?_
  refine jT_xiload (v := (0, 4)) (pcN := 138) jIQ_161_136 rfl rfl rfl ?_
  refine jT_lald (x := 0) (a := 13) (j := 4) (fs := []) (X := [0, 0, 0, 0, 0, 0]) jIQ_161_138 rfl rfl rfl rfl ?_
  refine jT_eq (LN := [(7, (0, 4)), (5, (1, q1)), (0, (4, 0)), (1, (0, r7)), (2, (0, r8)), (3, (4, 1)), (4, (0, 0))]) (stN := [(1, 0), (0, 4), (4, 9)]) (hsN := [jzQ_16, (4, [(4, 13), (1, 1)], []), (8, [(4, 14), (4, 15)], []), jgh, jgh, jgh, jgh, jgh, jgh, (101, [], [q1, -r7, -r8, 0, 0, 0]), jgh, jgh, jgh, (101, [], [0, 0, 0, 0, 0, 0]), jgh, jgh]) rfl rfl rfl ?_
  refine jT_xaload_n (v := (4, 0)) (pcN := 140) jIQ_161_139 rfl rfl rfl ?_
  refine jT_xgetf (a := 0) (t := 1) (ci := 13) (fi := 7) (c := jzQ_16) (v := (4, 9)) (pcN := 143) jIQ_161_140 rfl rfl rfl rfl rfl rfl rfl ?_
  refine jT_xiload (v := (0, 4)) (pcN := 145) jIQ_161_143 rfl rfl rfl ?_
  refine jT_lald (x := 0) (a := 9) (j := 4) (fs := []) (X := [q1, -r7, -r8, 0, 0, 0]) jIQ_161_145 rfl rfl rfl rfl ?_
  refine jT_eq (LN := [(7, (0, 4)), (5, (1, q1)), (0, (4, 0)), (1, (0, r7)), (2, (0, r8)), (3, (4, 1)), (4, (0, 0))]) (stN := [(1, 0), (1, 0), (0, 4), (4, 9)]) (hsN := [jzQ_16, (4, [(4, 13), (1, 1)], []), (8, [(4, 14), (4, 15)], []), jgh, jgh, jgh, jgh, jgh, jgh, (101, [], [q1, -r7, -r8, 0, 0, 0]), jgh, jgh, jgh, (101, [], [0, 0, 0, 0, 0, 0]), jgh, jgh]) rfl rfl rfl ?_
  refine jT_xaload_n (v := (4, 1)) (pcN := 147) jIQ_161_146 rfl rfl rfl ?_
  refine jT_xgetf (a := 1) (t := 2) (ci := 4) (fi := 1) (c := (4, [(4, 13), (1, 1)], [])) (v := (1, 1)) (pcN := 150) jIQ_161_147 rfl rfl rfl rfl rfl rfl rfl ?_
  refine jT_xlmul (x := 0) (y := 1) (z := 0) (pcN := 151) jIQ_161_150 rfl (by decide) rfl ?_
  refine jT_xlsub (x := 0) (y := 0) (z := 0) (pcN := 152) jIQ_161_151 rfl (by decide) rfl ?_
  refine jT_adv 1 (pcN := 153) (LN := [(7, (0, 4)), (5, (1, q1)), (0, (4, 0)), (1, (0, r7)), (2, (0, r8)), (3, (4, 1)), (4, (0, 0))]) (stN := []) (hsN := [jzQ_16, (4, [(4, 13), (1, 1)], []), (8, [(4, 14), (4, 15)], []), jgh, jgh, jgh, jgh, jgh, jgh, (101, [], [q1, -r7, -r8, 0, 0, 0]), jgh, jgh, jgh, (101, [], [0, 0, 0, 0, 0, 0]), jgh, jgh]) (c1 := 0) (s1 := 0) (c2 := 0) (s2 := 0) (by exact rfl) ?_ (by omega) (by omega)
  refine jT_xiinc (x := 4) (z := 5) (LN := [(7, (0, 5)), (5, (1, q1)), (0, (4, 0)), (1, (0, r7)), (2, (0, r8)), (3, (4, 1)), (4, (0, 0))]) (pcN := 156) jIQ_161_153 rfl rfl (by decide) rfl rfl ?_
  refine jT_xgoto (pcN := 119) jIQ_161_156 rfl ?_
  refine jT_xiload (v := (0, 5)) (pcN := 121) jIQ_161_119 rfl rfl rfl ?_
  refine jT_xbipush (k := 6) (pcN := 123) jIQ_161_121 (by decide) rfl ?_
  refine jT_xicF (t := 159) (pcN := 126) jIQ_161_123 rfl (by decide +kernel) rfl rfl ?_
  refine jT_xaload_n (v := (4, 0)) (pcN := 127) jIQ_161_126 rfl rfl rfl ?_
  refine jT_xgetf (a := 0) (t := 1) (ci := 13) (fi := 7) (c := jzQ_16) (v := (4, 9)) (pcN := 130) jIQ_161_127 rfl rfl rfl rfl rfl rfl rfl ?_
  refine jT_xiload (v := (0, 5)) (pcN := 132) jIQ_161_130 rfl rfl rfl ?_
  refine jT_xaload_n (v := (4, 1)) (pcN := 133) jIQ_161_132 rfl rfl rfl ?_
  refine jT_xgetf (a := 1) (t := 2) (ci := 4) (fi := 0) (c := (4, [(4, 13), (1, 1)], [])) (v := (4, 13)) (pcN := 136) jIQ_161_133 rfl rfl rfl rfl rfl rfl rfl ?_
  refine jT_xiload (v := (0, 5)) (pcN := 138) jIQ_161_136 rfl rfl rfl ?_
  refine jT_lald (x := 0) (a := 13) (j := 5) (fs := []) (X := [0, 0, 0, 0, 0, 0]) jIQ_161_138 rfl rfl rfl rfl ?_
  refine jT_eq (LN := [(7, (0, 5)), (5, (1, q1)), (0, (4, 0)), (1, (0, r7)), (2, (0, r8)), (3, (4, 1)), (4, (0, 0))]) (stN := [(1, 0), (0, 5), (4, 9)]) (hsN := [jzQ_16, (4, [(4, 13), (1, 1)], []), (8, [(4, 14), (4, 15)], []), jgh, jgh, jgh, jgh, jgh, jgh, (101, [], [q1, -r7, -r8, 0, 0, 0]), jgh, jgh, jgh, (101, [], [0, 0, 0, 0, 0, 0]), jgh, jgh]) rfl rfl rfl ?_
  refine jT_xaload_n (v := (4, 0)) (pcN := 140) jIQ_161_139 rfl rfl rfl ?_
  refine jT_xgetf (a := 0) (t := 1) (ci := 13) (fi := 7) (c := jzQ_16) (v := (4, 9)) (pcN := 143) jIQ_161_140 rfl rfl rfl rfl rfl rfl rfl ?_
  refine jT_xiload (v := (0, 5)) (pcN := 145) jIQ_161_143 rfl rfl rfl ?_
  refine jT_lald (x := 0) (a := 9) (j := 5) (fs := []) (X := [q1, -r7, -r8, 0, 0, 0]) jIQ_161_145 rfl rfl rfl rfl ?_
  refine jT_eq (LN := [(7, (0, 5)), (5, (1, q1)), (0, (4, 0)), (1, (0, r7)), (2, (0, r8)), (3, (4, 1)), (4, (0, 0))]) (stN := [(1, 0), (1, 0), (0, 5), (4, 9)]) (hsN := [jzQ_16, (4, [(4, 13), (1, 1)], []), (8, [(4, 14), (4, 15)], []), jgh, jgh, jgh, jgh, jgh, jgh, (101, [], [q1, -r7, -r8, 0, 0, 0]), jgh, jgh, jgh, (101, [], [0, 0, 0, 0, 0, 0]), jgh, jgh]) rfl rfl rfl ?_
  refine jT_xaload_n (v := (4, 1)) (pcN := 147) jIQ_161_146 rfl rfl rfl ?_
  refine jT_xgetf (a := 1) (t := 2) (ci := 4) (fi := 1) (c := (4, [(4, 13), (1, 1)], [])) (v := (1, 1)) (pcN := 150) jIQ_161_147 rfl rfl rfl rfl rfl rfl rfl ?_
  refine jT_xlmul (x := 0) (y := 1) (z := 0) (pcN := 151) jIQ_161_150 rfl (by decide) rfl ?_
  refine jT_xlsub (x := 0) (y := 0) (z := 0) (pcN := 152) jIQ_161_151 rfl (by decide) rfl ?_
  refine jT_adv 1 (pcN := 153) (LN := [(7, (0, 5)), (5, (1, q1)), (0, (4, 0)), (1, (0, r7)), (2, (0, r8)), (3, (4, 1)), (4, (0, 0))]) (stN := []) (hsN := [jzQ_16, (4, [(4, 13), (1, 1)], []), (8, [(4, 14), (4, 15)], []), jgh, jgh, jgh, jgh, jgh, jgh, (101, [], [q1, -r7, -r8, 0, 0, 0]), jgh, jgh, jgh, (101, [], [0, 0, 0, 0, 0, 0]), jgh, jgh]) (c1 := 0) (s1 := 0) (c2 := 0) (s2 := 0) (by exact rfl) ?_ (by omega) (by omega)
  refine jT_xiinc (x := 5) (z := 6) (LN := [(7, (0, 6)), (5, (1, q1)), (0, (4, 0)), (1, (0, r7)), (2, (0, r8)), (3, (4, 1)), (4, (0, 0))]) (pcN := 156) jIQ_161_153 rfl rfl (by decide) rfl rfl ?_
  refine jT_xgoto (pcN := 119) jIQ_161_156 rfl ?_
  refine jT_xiload (v := (0, 6)) (pcN := 121) jIQ_161_119 rfl rfl rfl ?_
  refine jT_xbipush (k := 6) (pcN := 123) jIQ_161_121 (by decide) rfl ?_
  refine jT_xicT (pcN := 159) jIQ_161_123 rfl (by decide +kernel) rfl ?_
  refine jT_xaload_n (v := (4, 0)) (pcN := 160) jIQ_161_159 rfl rfl rfl ?_
  refine jT_xgetf (a := 0) (t := 1) (ci := 13) (fi := 0) (c := jzQ_16) (v := (4, 2)) (pcN := 163) jIQ_161_160 rfl rfl rfl rfl rfl rfl rfl ?_
  refine jT_xaload_n (v := (4, 0)) (pcN := 164) jIQ_161_163 rfl rfl rfl ?_
  refine jT_xgetf (a := 0) (t := 1) (ci := 13) (fi := 7) (c := jzQ_16) (v := (4, 9)) (pcN := 167) jIQ_161_164 rfl rfl rfl rfl rfl rfl rfl ?_
  refine jT_callA [2, 9, 14, 15] (y := 38) (pcN := 170) (dC := 1) (bc1 := 0) (bc2 := 0) (c1 := 0) (c2 := 0) (as := [(4, 2), (4, 9)]) (asC := [(4, 0), (4, 1)]) (LN := [(7, (0, 6)), (5, (1, q1)), (0, (4, 0)), (1, (0, r7)), (2, (0, r8)), (3, (4, 1)), (4, (0, 0))]) (stN := []) (hsC := [(8, [(4, 2), (4, 3)], []), (101, [], [q1, -r7, -r8, 0, 0, 0]), jgh, jgh]) (ex := []) (v := (0, (-1))) (st2 := [(0, (-1))]) (hs2 := [jzQ_16, (4, [(4, 13), (1, 1)], []), (8, [(4, 14), (4, 15)], []), jgh, jgh, jgh, jgh, jgh, jgh, (101, [], [q1, -r7, -r8, 0, 0, 0]), jgh, jgh, jgh, (101, [], [0, 0, 0, 0, 0, 0]), jgh, jgh]) (jQl_sp38_117 (d := 0) (by omega) (by omega) (by omega) (by omega) (by omega) (by omega) (by omega)) (by rfl) (by rfl) (by rfl) (by rfl) ⟨rfl, rfl, rfl, rfl, trivial⟩ (by rfl) (by rfl) (by omega) (by show 16 ≤ 16; omega) (by omega) (by omega) rfl rfl ?_
  refine jT_xifT (pcN := 177) jIQ_161_170 rfl (by decide +kernel) rfl ?_
  refine jT_xiconst (k := 0) (pcN := 178) jIQ_161_177 rfl ?_
  subst hq_q1
  exact jT_ret rfl (by decide) (by show 16 ≤ 16; omega) (by omega) (by omega) ⟨rfl, rfl, rfl⟩
theorem jIQ_161_8 : jmI (jm 161) 8 = (.iconst 0, 1) := by rfl
theorem jQ_161_120 {xs : List Int} {d : Nat} {r7 r8 : Int} (h_r7 : (-20) ≤ r7 ∧ r7 ≤ 20) (h_r8 : (-10) ≤ r8 ∧ r8 ≤ 10) (g_0 : 0 ≤ r7) (g_1 : r7 ≤ 0) (g_2 : 0 ≤ r8) (g_3 : r8 ≤ 0) : jT xs d 161 2 0 [(0, (4, 0)), (1, (0, r7)), (2, (0, r8)), (3, (4, 1)), (4, (0, 0))] [] [jgh, jgh] 0 0 (fun k v hsN => k = 0 ∧ v = (0, 0) ∧ hsN = [jgh, jgh] ++ []) := by
  refine jT_xiload_n (v := (0, r7)) (pcN := 1) jIQ_161_0 rfl rfl rfl ?_
  refine jT_ifF (a := r7) (t := 10) (by rfl) (by rfl) (by rfl) (jw_idd (by omega) (by omega)) (by simp only [jcP] <;> omega) ?_
  refine jT_xiload_n (v := (0, r8)) (pcN := 5) jIQ_161_4 rfl rfl rfl ?_
  refine jT_ifF (a := r8) (t := 10) (by rfl) (by rfl) (by rfl) (jw_idd (by omega) (by omega)) (by simp only [jcP] <;> omega) ?_
  refine jT_xiconst (k := 0) (pcN := 9) jIQ_161_8 rfl ?_
  exact jT_ret rfl (by decide) (by show 2 ≤ 2; omega) (by omega) (by omega) ⟨rfl, rfl, rfl⟩
theorem jQ_161_121 {xs : List Int} {d : Nat} {r7 r8 u85_0 u85_1 u85_2 u85_3 u85_4 u85_5 : Int} (h_r7 : (-20) ≤ r7 ∧ r7 ≤ 20) (h_r8 : (-10) ≤ r8 ∧ r8 ≤ 10) (g_0 : 0 ≤ r7) (g_1 : r7 ≤ 0) (g_2 : r8 < 0) : jT xs (d + 2) 161 16 0 [(0, (4, 0)), (1, (0, r7)), (2, (0, r8)), (3, (4, 1)), (4, (0, 0))] [] [jzQ_16, (4, [(4, 13), (1, 1)], []), (8, [(4, 14), (4, 15)], []), jgh, jgh, jgh, jgh, jgh, jgh, (101, [], [u85_0, u85_1, u85_2, u85_3, u85_4, u85_5]), jgh, jgh, jgh, (101, [], [0, 0, 0, 0, 0, 0]), jgh, jgh] 0 0 (fun k v hsN => k = 0 ∧ v = (0, 0) ∧ hsN = [jzQ_16, (4, [(4, 13), (1, 1)], []), (8, [(4, 14), (4, 15)], []), jgh, jgh, jgh, jgh, jgh, jgh, (101, [], [(108917793695 * r7 + 159561683699 * r8) / 68719476736, -r7, -r8, 0, 0, 0]), jgh, jgh, jgh, (101, [], [0, 0, 0, 0, 0, 0]), jgh, jgh]) := by
  refine jT_xiload_n (v := (0, r7)) (pcN := 1) jIQ_161_0 rfl rfl rfl ?_
  refine jT_ifF (a := r7) (t := 10) (by rfl) (by rfl) (by rfl) (jw_idd (by omega) (by omega)) (by simp only [jcP] <;> omega) ?_
  refine jT_xiload_n (v := (0, r8)) (pcN := 5) jIQ_161_4 rfl rfl rfl ?_
  refine jT_ifT (a := r8) (t := 10) (by rfl) (by rfl) (by rfl) (jw_idd (by omega) (by omega)) (by simp only [jcP] <;> omega) ?_
  refine jT_xiconst (k := 0) (pcN := 11) jIQ_161_10 rfl ?_
  refine jT_xistore (v := (0, 0)) (LN := [(5, (0, 0)), (0, (4, 0)), (1, (0, r7)), (2, (0, r8)), (3, (4, 1)), (4, (0, 0))]) (pcN := 13) jIQ_161_11 rfl rfl rfl rfl ?_
  refine jT_xiload (v := (0, 0)) (pcN := 15) jIQ_161_13 rfl rfl rfl ?_
  refine jT_xbipush (k := 6) (pcN := 17) jIQ_161_15 (by decide) rfl ?_
  refine jT_xicF (t := 56) (pcN := 20) jIQ_161_17 rfl (by decide +kernel) rfl rfl ?_
  refine jT_xaload_n (v := (4, 0)) (pcN := 21) jIQ_161_20 rfl rfl rfl ?_
  refine jT_xgetf (a := 0) (t := 1) (ci := 13) (fi := 7) (c := jzQ_16) (v := (4, 9)) (pcN := 24) jIQ_161_21 rfl rfl rfl rfl rfl rfl rfl ?_
  refine jT_xiload (v := (0, 0)) (pcN := 26) jIQ_161_24 rfl rfl rfl ?_
  refine jT_xiload (v := (0, 0)) (pcN := 28) jIQ_161_26 rfl rfl rfl ?_
  refine jT_xiconst (k := 1) (pcN := 29) jIQ_161_28 rfl ?_
  refine jT_xicT (pcN := 37) jIQ_161_29 rfl (by decide +kernel) rfl ?_
  refine jT_xiload (v := (0, 0)) (pcN := 39) jIQ_161_37 rfl rfl rfl ?_
  refine jT_xiconst (k := 2) (pcN := 40) jIQ_161_39 rfl ?_
  refine jT_xicT (pcN := 48) jIQ_161_40 rfl (by decide +kernel) rfl ?_
  refine jT_xlconst (z := 0) (pcN := 49) jIQ_161_48 rfl rfl ?_
  refine jT_adv 1 (pcN := 50) (LN := [(5, (0, 0)), (0, (4, 0)), (1, (0, r7)), (2, (0, r8)), (3, (4, 1)), (4, (0, 0))]) (stN := []) (hsN := [jzQ_16, (4, [(4, 13), (1, 1)], []), (8, [(4, 14), (4, 15)], []), jgh, jgh, jgh, jgh, jgh, jgh, (101, [], [0, u85_1, u85_2, u85_3, u85_4, u85_5]), jgh, jgh, jgh, (101, [], [0, 0, 0, 0, 0, 0]), jgh, jgh]) (c1 := 0) (s1 := 0) (c2 := 0) (s2 := 0) (by exact rfl) ?_ (by omega) (by omega)
  refine jT_xiinc (x := 0) (z := 1) (LN := [(5, (0, 1)), (0, (4, 0)), (1, (0, r7)), (2, (0, r8)), (3, (4, 1)), (4, (0, 0))]) (pcN := 53) jIQ_161_50 rfl rfl (by decide) rfl rfl ?_
  refine jT_xgoto (pcN := 13) jIQ_161_53 rfl ?_
  refine jT_xiload (v := (0, 1)) (pcN := 15) jIQ_161_13 rfl rfl rfl ?_
  refine jT_xbipush (k := 6) (pcN := 17) jIQ_161_15 (by decide) rfl ?_
  refine jT_xicF (t := 56) (pcN := 20) jIQ_161_17 rfl (by decide +kernel) rfl rfl ?_
  refine jT_xaload_n (v := (4, 0)) (pcN := 21) jIQ_161_20 rfl rfl rfl ?_
  refine jT_xgetf (a := 0) (t := 1) (ci := 13) (fi := 7) (c := jzQ_16) (v := (4, 9)) (pcN := 24) jIQ_161_21 rfl rfl rfl rfl rfl rfl rfl ?_
  refine jT_xiload (v := (0, 1)) (pcN := 26) jIQ_161_24 rfl rfl rfl ?_
  refine jT_xiload (v := (0, 1)) (pcN := 28) jIQ_161_26 rfl rfl rfl ?_
  refine jT_xiconst (k := 1) (pcN := 29) jIQ_161_28 rfl ?_
  refine jT_xicF (t := 37) (pcN := 32) jIQ_161_29 rfl (by decide +kernel) rfl rfl ?_
  refine jT_xiload_n (v := (0, r7)) (pcN := 33) jIQ_161_32 rfl rfl rfl ?_
  refine jT_xi2l (x := r7) (z := r7) (pcN := 34) jIQ_161_33 rfl (jw_idd (by omega) (by omega)) rfl ?_
  refine jT_xgoto (pcN := 49) jIQ_161_34 rfl ?_
  refine jT_adv 1 (pcN := 50) (LN := [(5, (0, 1)), (0, (4, 0)), (1, (0, r7)), (2, (0, r8)), (3, (4, 1)), (4, (0, 0))]) (stN := []) (hsN := [jzQ_16, (4, [(4, 13), (1, 1)], []), (8, [(4, 14), (4, 15)], []), jgh, jgh, jgh, jgh, jgh, jgh, (101, [], [0, r7, u85_2, u85_3, u85_4, u85_5]), jgh, jgh, jgh, (101, [], [0, 0, 0, 0, 0, 0]), jgh, jgh]) (c1 := 0) (s1 := 0) (c2 := 0) (s2 := 0) (by exact rfl) ?_ (by omega) (by omega)
  refine jT_xiinc (x := 1) (z := 2) (LN := [(5, (0, 2)), (0, (4, 0)), (1, (0, r7)), (2, (0, r8)), (3, (4, 1)), (4, (0, 0))]) (pcN := 53) jIQ_161_50 rfl rfl (by decide) rfl rfl ?_
  refine jT_xgoto (pcN := 13) jIQ_161_53 rfl ?_
  refine jT_xiload (v := (0, 2)) (pcN := 15) jIQ_161_13 rfl rfl rfl ?_
  refine jT_xbipush (k := 6) (pcN := 17) jIQ_161_15 (by decide) rfl ?_
  refine jT_xicF (t := 56) (pcN := 20) jIQ_161_17 rfl (by decide +kernel) rfl rfl ?_
  refine jT_xaload_n (v := (4, 0)) (pcN := 21) jIQ_161_20 rfl rfl rfl ?_
  refine jT_xgetf (a := 0) (t := 1) (ci := 13) (fi := 7) (c := jzQ_16) (v := (4, 9)) (pcN := 24) jIQ_161_21 rfl rfl rfl rfl rfl rfl rfl ?_
  refine jT_xiload (v := (0, 2)) (pcN := 26) jIQ_161_24 rfl rfl rfl ?_
  refine jT_xiload (v := (0, 2)) (pcN := 28) jIQ_161_26 rfl rfl rfl ?_
  refine jT_xiconst (k := 1) (pcN := 29) jIQ_161_28 rfl ?_
  refine jT_xicT (pcN := 37) jIQ_161_29 rfl (by decide +kernel) rfl ?_
  refine jT_xiload (v := (0, 2)) (pcN := 39) jIQ_161_37 rfl rfl rfl ?_
  refine jT_xiconst (k := 2) (pcN := 40) jIQ_161_39 rfl ?_
  refine jT_xicF (t := 48) (pcN := 43) jIQ_161_40 rfl (by decide +kernel) rfl rfl ?_
  refine jT_xiload_n (v := (0, r8)) (pcN := 44) jIQ_161_43 rfl rfl rfl ?_
  refine jT_xi2l (x := r8) (z := r8) (pcN := 45) jIQ_161_44 rfl (jw_idd (by omega) (by omega)) rfl ?_
  refine jT_xgoto (pcN := 49) jIQ_161_45 rfl ?_
  refine jT_adv 1 (pcN := 50) (LN := [(5, (0, 2)), (0, (4, 0)), (1, (0, r7)), (2, (0, r8)), (3, (4, 1)), (4, (0, 0))]) (stN := []) (hsN := [jzQ_16, (4, [(4, 13), (1, 1)], []), (8, [(4, 14), (4, 15)], []), jgh, jgh, jgh, jgh, jgh, jgh, (101, [], [0, r7, r8, u85_3, u85_4, u85_5]), jgh, jgh, jgh, (101, [], [0, 0, 0, 0, 0, 0]), jgh, jgh]) (c1 := 0) (s1 := 0) (c2 := 0) (s2 := 0) (by exact rfl) ?_ (by omega) (by omega)
  refine jT_xiinc (x := 2) (z := 3) (LN := [(5, (0, 3)), (0, (4, 0)), (1, (0, r7)), (2, (0, r8)), (3, (4, 1)), (4, (0, 0))]) (pcN := 53) jIQ_161_50 rfl rfl (by decide) rfl rfl ?_
  refine jT_xgoto (pcN := 13) jIQ_161_53 rfl ?_
  refine jT_xiload (v := (0, 3)) (pcN := 15) jIQ_161_13 rfl rfl rfl ?_
  refine jT_xbipush (k := 6) (pcN := 17) jIQ_161_15 (by decide) rfl ?_
  refine jT_xicF (t := 56) (pcN := 20) jIQ_161_17 rfl (by decide +kernel) rfl rfl ?_
  refine jT_xaload_n (v := (4, 0)) (pcN := 21) jIQ_161_20 rfl rfl rfl ?_
  refine jT_xgetf (a := 0) (t := 1) (ci := 13) (fi := 7) (c := jzQ_16) (v := (4, 9)) (pcN := 24) jIQ_161_21 rfl rfl rfl rfl rfl rfl rfl ?_
  refine jT_xiload (v := (0, 3)) (pcN := 26) jIQ_161_24 rfl rfl rfl ?_
  refine jT_xiload (v := (0, 3)) (pcN := 28) jIQ_161_26 rfl rfl rfl ?_
  refine jT_xiconst (k := 1) (pcN := 29) jIQ_161_28 rfl ?_
  refine jT_xicT (pcN := 37) jIQ_161_29 rfl (by decide +kernel) rfl ?_
  refine jT_xiload (v := (0, 3)) (pcN := 39) jIQ_161_37 rfl rfl rfl ?_
  refine jT_xiconst (k := 2) (pcN := 40) jIQ_161_39 rfl ?_
  refine jT_xicT (pcN := 48) jIQ_161_40 rfl (by decide +kernel) rfl ?_
  refine jT_xlconst (z := 0) (pcN := 49) jIQ_161_48 rfl rfl ?_
  refine jT_adv 1 (pcN := 50) (LN := [(5, (0, 3)), (0, (4, 0)), (1, (0, r7)), (2, (0, r8)), (3, (4, 1)), (4, (0, 0))]) (stN := []) (hsN := [jzQ_16, (4, [(4, 13), (1, 1)], []), (8, [(4, 14), (4, 15)], []), jgh, jgh, jgh, jgh, jgh, jgh, (101, [], [0, r7, r8, 0, u85_4, u85_5]), jgh, jgh, jgh, (101, [], [0, 0, 0, 0, 0, 0]), jgh, jgh]) (c1 := 0) (s1 := 0) (c2 := 0) (s2 := 0) (by exact rfl) ?_ (by omega) (by omega)
  refine jT_xiinc (x := 3) (z := 4) (LN := [(5, (0, 4)), (0, (4, 0)), (1, (0, r7)), (2, (0, r8)), (3, (4, 1)), (4, (0, 0))]) (pcN := 53) jIQ_161_50 rfl rfl (by decide) rfl rfl ?_
  refine jT_xgoto (pcN := 13) jIQ_161_53 rfl ?_
  refine jT_xiload (v := (0, 4)) (pcN := 15) jIQ_161_13 rfl rfl rfl ?_
  refine jT_xbipush (k := 6) (pcN := 17) jIQ_161_15 (by decide) rfl ?_
  refine jT_xicF (t := 56) (pcN := 20) jIQ_161_17 rfl (by decide +kernel) rfl rfl ?_
  refine jT_xaload_n (v := (4, 0)) (pcN := 21) jIQ_161_20 rfl rfl rfl ?_
  refine jT_xgetf (a := 0) (t := 1) (ci := 13) (fi := 7) (c := jzQ_16) (v := (4, 9)) (pcN := 24) jIQ_161_21 rfl rfl rfl rfl rfl rfl rfl ?_
  refine jT_xiload (v := (0, 4)) (pcN := 26) jIQ_161_24 rfl rfl rfl ?_
  refine jT_xiload (v := (0, 4)) (pcN := 28) jIQ_161_26 rfl rfl rfl ?_
  refine jT_xiconst (k := 1) (pcN := 29) jIQ_161_28 rfl ?_
  refine jT_xicT (pcN := 37) jIQ_161_29 rfl (by decide +kernel) rfl ?_
  refine jT_xiload (v := (0, 4)) (pcN := 39) jIQ_161_37 rfl rfl rfl ?_
  refine jT_xiconst (k := 2) (pcN := 40) jIQ_161_39 rfl ?_
  refine jT_xicT (pcN := 48) jIQ_161_40 rfl (by decide +kernel) rfl ?_
  refine jT_xlconst (z := 0) (pcN := 49) jIQ_161_48 rfl rfl ?_
  refine jT_adv 1 (pcN := 50) (LN := [(5, (0, 4)), (0, (4, 0)), (1, (0, r7)), (2, (0, r8)), (3, (4, 1)), (4, (0, 0))]) (stN := []) (hsN := [jzQ_16, (4, [(4, 13), (1, 1)], []), (8, [(4, 14), (4, 15)], []), jgh, jgh, jgh, jgh, jgh, jgh, (101, [], [0, r7, r8, 0, 0, u85_5]), jgh, jgh, jgh, (101, [], [0, 0, 0, 0, 0, 0]), jgh, jgh]) (c1 := 0) (s1 := 0) (c2 := 0) (s2 := 0) (by exact rfl) ?_ (by omega) (by omega)
  refine jT_xiinc (x := 4) (z := 5) (LN := [(5, (0, 5)), (0, (4, 0)), (1, (0, r7)), (2, (0, r8)), (3, (4, 1)), (4, (0, 0))]) (pcN := 53) jIQ_161_50 rfl rfl (by decide) rfl rfl ?_
  refine jT_xgoto (pcN := 13) jIQ_161_53 rfl ?_
  refine jT_xiload (v := (0, 5)) (pcN := 15) jIQ_161_13 rfl rfl rfl ?_
  refine jT_xbipush (k := 6) (pcN := 17) jIQ_161_15 (by decide) rfl ?_
  refine jT_xicF (t := 56) (pcN := 20) jIQ_161_17 rfl (by decide +kernel) rfl rfl ?_
  refine jT_xaload_n (v := (4, 0)) (pcN := 21) jIQ_161_20 rfl rfl rfl ?_
  refine jT_xgetf (a := 0) (t := 1) (ci := 13) (fi := 7) (c := jzQ_16) (v := (4, 9)) (pcN := 24) jIQ_161_21 rfl rfl rfl rfl rfl rfl rfl ?_
  refine jT_xiload (v := (0, 5)) (pcN := 26) jIQ_161_24 rfl rfl rfl ?_
  refine jT_xiload (v := (0, 5)) (pcN := 28) jIQ_161_26 rfl rfl rfl ?_
  refine jT_xiconst (k := 1) (pcN := 29) jIQ_161_28 rfl ?_
  refine jT_xicT (pcN := 37) jIQ_161_29 rfl (by decide +kernel) rfl ?_
  refine jT_xiload (v := (0, 5)) (pcN := 39) jIQ_161_37 rfl rfl rfl ?_
  refine jT_xiconst (k := 2) (pcN := 40) jIQ_161_39 rfl ?_
  refine jT_xicT (pcN := 48) jIQ_161_40 rfl (by decide +kernel) rfl ?_
  refine jT_xlconst (z := 0) (pcN := 49) jIQ_161_48 rfl rfl ?_
  refine jT_adv 1 (pcN := 50) (LN := [(5, (0, 5)), (0, (4, 0)), (1, (0, r7)), (2, (0, r8)), (3, (4, 1)), (4, (0, 0))]) (stN := []) (hsN := [jzQ_16, (4, [(4, 13), (1, 1)], []), (8, [(4, 14), (4, 15)], []), jgh, jgh, jgh, jgh, jgh, jgh, (101, [], [0, r7, r8, 0, 0, 0]), jgh, jgh, jgh, (101, [], [0, 0, 0, 0, 0, 0]), jgh, jgh]) (c1 := 0) (s1 := 0) (c2 := 0) (s2 := 0) (by exact rfl) ?_ (by omega) (by omega)
  refine jT_xiinc (x := 5) (z := 6) (LN := [(5, (0, 6)), (0, (4, 0)), (1, (0, r7)), (2, (0, r8)), (3, (4, 1)), (4, (0, 0))]) (pcN := 53) jIQ_161_50 rfl rfl (by decide) rfl rfl ?_
  refine jT_xgoto (pcN := 13) jIQ_161_53 rfl ?_
  refine jT_xiload (v := (0, 6)) (pcN := 15) jIQ_161_13 rfl rfl rfl ?_
  refine jT_xbipush (k := 6) (pcN := 17) jIQ_161_15 (by decide) rfl ?_
  refine jT_xicT (pcN := 56) jIQ_161_17 rfl (by decide +kernel) rfl ?_
  refine jT_xaload_n (v := (4, 0)) (pcN := 57) jIQ_161_56 rfl rfl rfl ?_
  refine jT_xgetf (a := 0) (t := 1) (ci := 13) (fi := 0) (c := jzQ_16) (v := (4, 2)) (pcN := 60) jIQ_161_57 rfl rfl rfl rfl rfl rfl rfl ?_
  refine jT_xaload_n (v := (4, 0)) (pcN := 61) jIQ_161_60 rfl rfl rfl ?_
  refine jT_xgetf (a := 0) (t := 1) (ci := 13) (fi := 7) (c := jzQ_16) (v := (4, 9)) (pcN := 64) jIQ_161_61 rfl rfl rfl rfl rfl rfl rfl ?_
  refine jT_xlconst (z := 1) (pcN := 65) jIQ_161_64 rfl rfl ?_
  refine jT_xlconst (z := 1) (pcN := 66) jIQ_161_65 rfl rfl ?_
  refine jT_callA [2, 9, 14, 15] (y := 45) (pcN := 69) (dC := 1) (bc1 := 0) (bc2 := 0) (c1 := 0) (c2 := 0) (as := [(4, 2), (4, 9), (1, 1), (1, 1)]) (asC := [(4, 0), (4, 1), (1, 1), (1, 1)]) (LN := [(5, (0, 6)), (0, (4, 0)), (1, (0, r7)), (2, (0, r8)), (3, (4, 1)), (4, (0, 0))]) (stN := []) (hsC := [(8, [(4, 2), (4, 3)], []), (101, [], [0, r7, r8, 0, 0, 0]), jgh, jgh]) (ex := []) (v := (1, (108917793695 * r7 + 159561683699 * r8) / 68719476736)) (st2 := [(1, (108917793695 * r7 + 159561683699 * r8) / 68719476736)]) (hs2 := [jzQ_16, (4, [(4, 13), (1, 1)], []), (8, [(4, 14), (4, 15)], []), jgh, jgh, jgh, jgh, jgh, jgh, (101, [], [0, r7, r8, 0, 0, 0]), jgh, jgh, jgh, (101, [], [0, 0, 0, 0, 0, 0]), jgh, jgh]) (jQl_sp45_116 (d := 0) (by omega) (by omega)) (by rfl) (by rfl) (by rfl) (by rfl) ⟨rfl, rfl, rfl, rfl, trivial⟩ (by rfl) (by rfl) (by omega) (by show 16 ≤ 16; omega) (by omega) (by omega) rfl rfl ?_
  have hb_q1 : (-60) ≤ (108917793695 * r7 + 159561683699 * r8) / 68719476736 ∧ (108917793695 * r7 + 159561683699 * r8) / 68719476736 ≤ 60 := ⟨by omega, by omega⟩
  generalize hq_q1 : (108917793695 * r7 + 159561683699 * r8) / 68719476736 = q1 at hb_q1 ⊢
  refine jT_xlstore (v := (1, q1)) (LN := [(5, (1, q1)), (0, (4, 0)), (1, (0, r7)), (2, (0, r8)), (3, (4, 1)), (4, (0, 0))]) (pcN := 71) jIQ_161_69 rfl rfl rfl rfl ?_
  have g_3 : 0 ≤ (-68719476736) * q1 + 108917793694 * r7 + 159561683698 * r8 - 1 := by have := jcg (b := r7) (c := r8) (by omega) (by omega) (by omega); rw [hq_q1] at this; omega
  have g_4 : 0 ≤ (-68719476736) * q1 + 108917793694 * r7 + 159561683700 * r8 - 1 := by have := jcg (b := r7) (c := r8) (by omega) (by omega) (by omega); rw [hq_q1] at this; omega
  have g_5 : 0 ≤ (-68719476736) * q1 + 108917793696 * r7 + 159561683698 * r8 - 1 := by have := jcg (b := r7) (c := r8) (by omega) (by omega) (by omega); rw [hq_q1] at this; omega
  have g_6 : 0 ≤ (-68719476736) * q1 + 108917793696 * r7 + 159561683700 * r8 - 1 := by have := jcg (b := r7) (c := r8) (by omega) (by omega) (by omega); rw [hq_q1] at this; omega
  refine jT_xiload (v := (0, 0)) (pcN := 73) jIQ_161_71 rfl rfl rfl ?_
  refine jT_xifT (pcN := 107) jIQ_161_73 rfl (by decide +kernel) rfl ?_
  refine jT_xaload_n (v := (4, 0)) (pcN := 108) jIQ_161_107 rfl rfl rfl ?_
  refine jT_xgetf (a := 0) (t := 1) (ci := 13) (fi := 7) (c := jzQ_16) (v := (4, 9)) (pcN := 111) jIQ_161_108 rfl rfl rfl rfl rfl rfl rfl ?_
  refine jT_xiconst (k := 0) (pcN := 112) jIQ_161_111 rfl ?_
  refine jT_xlload (v := (1, q1)) (pcN := 114) jIQ_161_112 rfl rfl rfl ?_
  refine jT_adv 2 (pcN := 116) (LN := [(5, (1, q1)), (0, (4, 0)), (1, (0, r7)), (2, (0, r8)), (3, (4, 1)), (4, (0, 0))]) (stN := []) (hsN := [jzQ_16, (4, [(4, 13), (1, 1)], []), (8, [(4, 14), (4, 15)], []), jgh, jgh, jgh, jgh, jgh, jgh, (101, [], [-q1, r7, r8, 0, 0, 0]), jgh, jgh, jgh, (101, [], [0, 0, 0, 0, 0, 0]), jgh, jgh]) (c1 := 0) (s1 := 0) (c2 := 0) (s2 := 0) (by exact rfl) ?_ (by omega) (by omega)
  refine jT_xiconst (k := 0) (pcN := 117) jIQ_161_116 rfl ?_
  refine jT_xistore (v := (0, 0)) (LN := [(7, (0, 0)), (5, (1, q1)), (0, (4, 0)), (1, (0, r7)), (2, (0, r8)), (3, (4, 1)), (4, (0, 0))]) (pcN := 119) jIQ_161_117 rfl rfl rfl rfl ?_
  refine jT_xiload (v := (0, 0)) (pcN := 121) jIQ_161_119 rfl rfl rfl ?_
  refine jT_xbipush (k := 6) (pcN := 123) jIQ_161_121 (by decide) rfl ?_
  refine jT_xicF (t := 159) (pcN := 126) jIQ_161_123 rfl (by decide +kernel) rfl rfl ?_
  refine jT_xaload_n (v := (4, 0)) (pcN := 127) jIQ_161_126 rfl rfl rfl ?_
  refine jT_xgetf (a := 0) (t := 1) (ci := 13) (fi := 7) (c := jzQ_16) (v := (4, 9)) (pcN := 130) jIQ_161_127 rfl rfl rfl rfl rfl rfl rfl ?_
  refine jT_xiload (v := (0, 0)) (pcN := 132) jIQ_161_130 rfl rfl rfl ?_
  refine jT_xaload_n (v := (4, 1)) (pcN := 133) jIQ_161_132 rfl rfl rfl ?_
  refine jT_xgetf (a := 1) (t := 2) (ci := 4) (fi := 0) (c := (4, [(4, 13), (1, 1)], [])) (v := (4, 13)) (pcN := 136) jIQ_161_133 rfl rfl rfl rfl rfl rfl rfl ?_
  refine jT_xiload (v := (0, 0)) (pcN := 138) jIQ_161_136 rfl rfl rfl ?_
  refine jT_lald (x := 0) (a := 13) (j := 0) (fs := []) (X := [0, 0, 0, 0, 0, 0]) jIQ_161_138 rfl rfl rfl rfl ?_
  refine jT_eq (LN := [(7, (0, 0)), (5, (1, q1)), (0, (4, 0)), (1, (0, r7)), (2, (0, r8)), (3, (4, 1)), (4, (0, 0))]) (stN := [(1, 0), (0, 0), (4, 9)]) (hsN := [jzQ_16, (4, [(4, 13), (1, 1)], []), (8, [(4, 14), (4, 15)], []), jgh, jgh, jgh, jgh, jgh, jgh, (101, [], [-q1, r7, r8, 0, 0, 0]), jgh, jgh, jgh, (101, [], [0, 0, 0, 0, 0, 0]), jgh, jgh]) rfl rfl rfl ?_
  refine jT_xaload_n (v := (4, 0)) (pcN := 140) jIQ_161_139 rfl rfl rfl ?_
  refine jT_xgetf (a := 0) (t := 1) (ci := 13) (fi := 7) (c := jzQ_16) (v := (4, 9)) (pcN := 143) jIQ_161_140 rfl rfl rfl rfl rfl rfl rfl ?_
  refine jT_xiload (v := (0, 0)) (pcN := 145) jIQ_161_143 rfl rfl rfl ?_
  refine jT_lald (x := -q1) (a := 9) (j := 0) (fs := []) (X := [-q1, r7, r8, 0, 0, 0]) jIQ_161_145 rfl rfl rfl rfl ?_
  refine jT_eq (LN := [(7, (0, 0)), (5, (1, q1)), (0, (4, 0)), (1, (0, r7)), (2, (0, r8)), (3, (4, 1)), (4, (0, 0))]) (stN := [(1, -q1), (1, 0), (0, 0), (4, 9)]) (hsN := [jzQ_16, (4, [(4, 13), (1, 1)], []), (8, [(4, 14), (4, 15)], []), jgh, jgh, jgh, jgh, jgh, jgh, (101, [], [-q1, r7, r8, 0, 0, 0]), jgh, jgh, jgh, (101, [], [0, 0, 0, 0, 0, 0]), jgh, jgh]) rfl rfl rfl ?_
  refine jT_xaload_n (v := (4, 1)) (pcN := 147) jIQ_161_146 rfl rfl rfl ?_
  refine jT_xgetf (a := 1) (t := 2) (ci := 4) (fi := 1) (c := (4, [(4, 13), (1, 1)], [])) (v := (1, 1)) (pcN := 150) jIQ_161_147 rfl rfl rfl rfl rfl rfl rfl ?_
  refine jT_xlmul (x := -q1) (y := 1) (z := -q1) (pcN := 151) jIQ_161_150 rfl (by omega) rfl ?_
  refine jT_xlsub (x := 0) (y := -q1) (z := q1) (pcN := 152) jIQ_161_151 rfl (by omega) rfl ?_
  refine jT_adv 1 (pcN := 153) (LN := [(7, (0, 0)), (5, (1, q1)), (0, (4, 0)), (1, (0, r7)), (2, (0, r8)), (3, (4, 1)), (4, (0, 0))]) (stN := []) (hsN := [jzQ_16, (4, [(4, 13), (1, 1)], []), (8, [(4, 14), (4, 15)], []), jgh, jgh, jgh, jgh, jgh, jgh, (101, [], [q1, r7, r8, 0, 0, 0]), jgh, jgh, jgh, (101, [], [0, 0, 0, 0, 0, 0]), jgh, jgh]) (c1 := 0) (s1 := 0) (c2 := 0) (s2 := 0) (by exact rfl) ?_ (by omega) (by omega)
  refine jT_xiinc (x := 0) (z := 1) (LN := [(7, (0, 1)), (5, (1, q1)), (0, (4, 0)), (1, (0, r7)), (2, (0, r8)), (3, (4, 1)), (4, (0, 0))]) (pcN := 156) jIQ_161_153 rfl rfl (by decide) rfl rfl ?_
  refine jT_xgoto (pcN := 119) jIQ_161_156 rfl ?_
  refine jT_xiload (v := (0, 1)) (pcN := 121) jIQ_161_119 rfl rfl rfl ?_
  refine jT_xbipush (k := 6) (pcN := 123) jIQ_161_121 (by decide) rfl ?_
  refine jT_xicF (t := 159) (pcN := 126) jIQ_161_123 rfl (by decide +kernel) rfl rfl ?_
  refine jT_xaload_n (v := (4, 0)) (pcN := 127) jIQ_161_126 rfl rfl rfl ?_
  refine jT_xgetf (a := 0) (t := 1) (ci := 13) (fi := 7) (c := jzQ_16) (v := (4, 9)) (pcN := 130) jIQ_161_127 rfl rfl rfl rfl rfl rfl rfl ?_
  refine jT_xiload (v := (0, 1)) (pcN := 132) jIQ_161_130 rfl rfl rfl ?_
  refine jT_xaload_n (v := (4, 1)) (pcN := 133) jIQ_161_132 rfl rfl rfl ?_
  refine jT_xgetf (a := 1) (t := 2) (ci := 4) (fi := 0) (c := (4, [(4, 13), (1, 1)], [])) (v := (4, 13)) (pcN := 136) jIQ_161_133 rfl rfl rfl rfl rfl rfl rfl ?_
  refine jT_xiload (v := (0, 1)) (pcN := 138) jIQ_161_136 rfl rfl rfl ?_
  refine jT_lald (x := 0) (a := 13) (j := 1) (fs := []) (X := [0, 0, 0, 0, 0, 0]) jIQ_161_138 rfl rfl rfl rfl ?_
  refine jT_eq (LN := [(7, (0, 1)), (5, (1, q1)), (0, (4, 0)), (1, (0, r7)), (2, (0, r8)), (3, (4, 1)), (4, (0, 0))]) (stN := [(1, 0), (0, 1), (4, 9)]) (hsN := [jzQ_16, (4, [(4, 13), (1, 1)], []), (8, [(4, 14), (4, 15)], []), jgh, jgh, jgh, jgh, jgh, jgh, (101, [], [q1, r7, r8, 0, 0, 0]), jgh, jgh, jgh, (101, [], [0, 0, 0, 0, 0, 0]), jgh, jgh]) rfl rfl rfl ?_
  refine jT_xaload_n (v := (4, 0)) (pcN := 140) jIQ_161_139 rfl rfl rfl ?_
  refine jT_xgetf (a := 0) (t := 1) (ci := 13) (fi := 7) (c := jzQ_16) (v := (4, 9)) (pcN := 143) jIQ_161_140 rfl rfl rfl rfl rfl rfl rfl ?_
  refine jT_xiload (v := (0, 1)) (pcN := 145) jIQ_161_143 rfl rfl rfl ?_
  refine jT_lald (x := r7) (a := 9) (j := 1) (fs := []) (X := [q1, r7, r8, 0, 0, 0]) jIQ_161_145 rfl rfl rfl rfl ?_
  refine jT_eq (LN := [(7, (0, 1)), (5, (1, q1)), (0, (4, 0)), (1, (0, r7)), (2, (0, r8)), (3, (4, 1)), (4, (0, 0))]) (stN := [(1, r7), (1, 0), (0, 1), (4, 9)]) (hsN := [jzQ_16, (4, [(4, 13), (1, 1)], []), (8, [(4, 14), (4, 15)], []), jgh, jgh, jgh, jgh, jgh, jgh, (101, [], [q1, r7, r8, 0, 0, 0]), jgh, jgh, jgh, (101, [], [0, 0, 0, 0, 0, 0]), jgh, jgh]) rfl rfl rfl ?_
  refine jT_xaload_n (v := (4, 1)) (pcN := 147) jIQ_161_146 rfl rfl rfl ?_
  refine jT_xgetf (a := 1) (t := 2) (ci := 4) (fi := 1) (c := (4, [(4, 13), (1, 1)], [])) (v := (1, 1)) (pcN := 150) jIQ_161_147 rfl rfl rfl rfl rfl rfl rfl ?_
  refine jT_xlmul (x := r7) (y := 1) (z := r7) (pcN := 151) jIQ_161_150 rfl (by omega) rfl ?_
  refine jT_xlsub (x := 0) (y := r7) (z := -r7) (pcN := 152) jIQ_161_151 rfl (by omega) rfl ?_
  refine jT_adv 1 (pcN := 153) (LN := [(7, (0, 1)), (5, (1, q1)), (0, (4, 0)), (1, (0, r7)), (2, (0, r8)), (3, (4, 1)), (4, (0, 0))]) (stN := []) (hsN := [jzQ_16, (4, [(4, 13), (1, 1)], []), (8, [(4, 14), (4, 15)], []), jgh, jgh, jgh, jgh, jgh, jgh, (101, [], [q1, -r7, r8, 0, 0, 0]), jgh, jgh, jgh, (101, [], [0, 0, 0, 0, 0, 0]), jgh, jgh]) (c1 := 0) (s1 := 0) (c2 := 0) (s2 := 0) (by exact rfl) ?_ (by omega) (by omega)
  refine jT_xiinc (x := 1) (z := 2) (LN := [(7, (0, 2)), (5, (1, q1)), (0, (4, 0)), (1, (0, r7)), (2, (0, r8)), (3, (4, 1)), (4, (0, 0))]) (pcN := 156) jIQ_161_153 rfl rfl (by decide) rfl rfl ?_
  refine jT_xgoto (pcN := 119) jIQ_161_156 rfl ?_
  refine jT_xiload (v := (0, 2)) (pcN := 121) jIQ_161_119 rfl rfl rfl ?_
  refine jT_xbipush (k := 6) (pcN := 123) jIQ_161_121 (by decide) rfl ?_
  refine jT_xicF (t := 159) (pcN := 126) jIQ_161_123 rfl (by decide +kernel) rfl rfl ?_
  refine jT_xaload_n (v := (4, 0)) (pcN := 127) jIQ_161_126 rfl rfl rfl ?_
  refine jT_xgetf (a := 0) (t := 1) (ci := 13) (fi := 7) (c := jzQ_16) (v := (4, 9)) (pcN := 130) jIQ_161_127 rfl rfl rfl rfl rfl rfl rfl ?_
  refine jT_xiload (v := (0, 2)) (pcN := 132) jIQ_161_130 rfl rfl rfl ?_
  refine jT_xaload_n (v := (4, 1)) (pcN := 133) jIQ_161_132 rfl rfl rfl ?_
  refine jT_xgetf (a := 1) (t := 2) (ci := 4) (fi := 0) (c := (4, [(4, 13), (1, 1)], [])) (v := (4, 13)) (pcN := 136) jIQ_161_133 rfl rfl rfl rfl rfl rfl rfl ?_
  refine jT_xiload (v := (0, 2)) (pcN := 138) jIQ_161_136 rfl rfl rfl ?_
  refine jT_lald (x := 0) (a := 13) (j := 2) (fs := []) (X := [0, 0, 0, 0, 0, 0]) jIQ_161_138 rfl rfl rfl rfl ?_
  refine jT_eq (LN := [(7, (0, 2)), (5, (1, q1)), (0, (4, 0)), (1, (0, r7)), (2, (0, r8)), (3, (4, 1)), (4, (0, 0))]) (stN := [(1, 0), (0, 2), (4, 9)]) (hsN := [jzQ_16, (4, [(4, 13), (1, 1)], []), (8, [(4, 14), (4, 15)], []), jgh, jgh, jgh, jgh, jgh, jgh, (101, [], [q1, -r7, r8, 0, 0, 0]), jgh, jgh, jgh, (101, [], [0, 0, 0, 0, 0, 0]), jgh, jgh]) rfl rfl rfl ?_
  refine jT_xaload_n (v := (4, 0)) (pcN := 140) jIQ_161_139 rfl rfl rfl ?_
  refine jT_xgetf (a := 0) (t := 1) (ci := 13) (fi := 7) (c := jzQ_16) (v := (4, 9)) (pcN := 143) jIQ_161_140 rfl rfl rfl rfl rfl rfl rfl ?_
  refine jT_xiload (v := (0, 2)) (pcN := 145) jIQ_161_143 rfl rfl rfl ?_
  refine jT_lald (x := r8) (a := 9) (j := 2) (fs := []) (X := [q1, -r7, r8, 0, 0, 0]) jIQ_161_145 rfl rfl rfl rfl ?_
  refine jT_eq (LN := [(7, (0, 2)), (5, (1, q1)), (0, (4, 0)), (1, (0, r7)), (2, (0, r8)), (3, (4, 1)), (4, (0, 0))]) (stN := [(1, r8), (1, 0), (0, 2), (4, 9)]) (hsN := [jzQ_16, (4, [(4, 13), (1, 1)], []), (8, [(4, 14), (4, 15)], []), jgh, jgh, jgh, jgh, jgh, jgh, (101, [], [q1, -r7, r8, 0, 0, 0]), jgh, jgh, jgh, (101, [], [0, 0, 0, 0, 0, 0]), jgh, jgh]) rfl rfl rfl ?_
  refine jT_xaload_n (v := (4, 1)) (pcN := 147) jIQ_161_146 rfl rfl rfl ?_
  refine jT_xgetf (a := 1) (t := 2) (ci := 4) (fi := 1) (c := (4, [(4, 13), (1, 1)], [])) (v := (1, 1)) (pcN := 150) jIQ_161_147 rfl rfl rfl rfl rfl rfl rfl ?_
  refine jT_xlmul (x := r8) (y := 1) (z := r8) (pcN := 151) jIQ_161_150 rfl (by omega) rfl ?_
  refine jT_xlsub (x := 0) (y := r8) (z := -r8) (pcN := 152) jIQ_161_151 rfl (by omega) rfl ?_
  refine jT_adv 1 (pcN := 153) (LN := [(7, (0, 2)), (5, (1, q1)), (0, (4, 0)), (1, (0, r7)), (2, (0, r8)), (3, (4, 1)), (4, (0, 0))]) (stN := []) (hsN := [jzQ_16, (4, [(4, 13), (1, 1)], []), (8, [(4, 14), (4, 15)], []), jgh, jgh, jgh, jgh, jgh, jgh, (101, [], [q1, -r7, -r8, 0, 0, 0]), jgh, jgh, jgh, (101, [], [0, 0, 0, 0, 0, 0]), jgh, jgh]) (c1 := 0) (s1 := 0) (c2 := 0) (s2 := 0) (by exact rfl) ?_ (by omega) (by omega)
  refine jT_xiinc (x := 2) (z := 3) (LN := [(7, (0, 3)), (5, (1, q1)), (0, (4, 0)), (1, (0, r7)), (2, (0, r8)), (3, (4, 1)), (4, (0, 0))]) (pcN := 156) jIQ_161_153 rfl rfl (by decide) rfl rfl ?_
  refine jT_xgoto (pcN := 119) jIQ_161_156 rfl ?_
  refine jT_xiload (v := (0, 3)) (pcN := 121) jIQ_161_119 rfl rfl rfl ?_
  refine jT_xbipush (k := 6) (pcN := 123) jIQ_161_121 (by decide) rfl ?_
  refine jT_xicF (t := 159) (pcN := 126) jIQ_161_123 rfl (by decide +kernel) rfl rfl ?_
  refine jT_xaload_n (v := (4, 0)) (pcN := 127) jIQ_161_126 rfl rfl rfl ?_
  refine jT_xgetf (a := 0) (t := 1) (ci := 13) (fi := 7) (c := jzQ_16) (v := (4, 9)) (pcN := 130) jIQ_161_127 rfl rfl rfl rfl rfl rfl rfl ?_
  refine jT_xiload (v := (0, 3)) (pcN := 132) jIQ_161_130 rfl rfl rfl ?_
  refine jT_xaload_n (v := (4, 1)) (pcN := 133) jIQ_161_132 rfl rfl rfl ?_
  refine jT_xgetf (a := 1) (t := 2) (ci := 4) (fi := 0) (c := (4, [(4, 13), (1, 1)], [])) (v := (4, 13)) (pcN := 136) jIQ_161_133 rfl rfl rfl rfl rfl rfl rfl ?_
  refine jT_xiload (v := (0, 3)) (pcN := 138) jIQ_161_136 rfl rfl rfl ?_
  refine jT_lald (x := 0) (a := 13) (j := 3) (fs := []) (X := [0, 0, 0, 0, 0, 0]) jIQ_161_138 rfl rfl rfl rfl ?_
  refine jT_eq (LN := [(7, (0, 3)), (5, (1, q1)), (0, (4, 0)), (1, (0, r7)), (2, (0, r8)), (3, (4, 1)), (4, (0, 0))]) (stN := [(1, 0), (0, 3), (4, 9)]) (hsN := [jzQ_16, (4, [(4, 13), (1, 1)], []), (8, [(4, 14), (4, 15)], []), jgh, jgh, jgh, jgh, jgh, jgh, (101, [], [q1, -r7, -r8, 0, 0, 0]), jgh, jgh, jgh, (101, [], [0, 0, 0, 0, 0, 0]), jgh, jgh]) rfl rfl rfl ?_
  refine jT_xaload_n (v := (4, 0)) (pcN := 140) jIQ_161_139 rfl rfl rfl ?_
  refine jT_xgetf (a := 0) (t := 1) (ci := 13) (fi := 7) (c := jzQ_16) (v := (4, 9)) (pcN := 143) jIQ_161_140 rfl rfl rfl rfl rfl rfl rfl ?_
  refine jT_xiload (v := (0, 3)) (pcN := 145) jIQ_161_143 rfl rfl rfl ?_
  refine jT_lald (x := 0) (a := 9) (j := 3) (fs := []) (X := [q1, -r7, -r8, 0, 0, 0]) jIQ_161_145 rfl rfl rfl rfl ?_
  refine jT_eq (LN := [(7, (0, 3)), (5, (1, q1)), (0, (4, 0)), (1, (0, r7)), (2, (0, r8)), (3, (4, 1)), (4, (0, 0))]) (stN := [(1, 0), (1, 0), (0, 3), (4, 9)]) (hsN := [jzQ_16, (4, [(4, 13), (1, 1)], []), (8, [(4, 14), (4, 15)], []), jgh, jgh, jgh, jgh, jgh, jgh, (101, [], [q1, -r7, -r8, 0, 0, 0]), jgh, jgh, jgh, (101, [], [0, 0, 0, 0, 0, 0]), jgh, jgh]) rfl rfl rfl ?_
  refine jT_xaload_n (v := (4, 1)) (pcN := 147) jIQ_161_146 rfl rfl rfl ?_
  refine jT_xgetf (a := 1) (t := 2) (ci := 4) (fi := 1) (c := (4, [(4, 13), (1, 1)], [])) (v := (1, 1)) (pcN := 150) jIQ_161_147 rfl rfl rfl rfl rfl rfl rfl ?_
  refine jT_xlmul (x := 0) (y := 1) (z := 0) (pcN := 151) jIQ_161_150 rfl (by decide) rfl ?_
  refine jT_xlsub (x := 0) (y := 0) (z := 0) (pcN := 152) jIQ_161_151 rfl (by decide) rfl ?_
  refine jT_adv 1 (pcN := 153) (LN := [(7, (0, 3)), (5, (1, q1)), (0, (4, 0)), (1, (0, r7)), (2, (0, r8)), (3, (4, 1)), (4, (0, 0))]) (stN := []) (hsN := [jzQ_16, (4, [(4, 13), (1, 1)], []), (8, [(4, 14), (4, 15)], []), jgh, jgh, jgh, jgh, jgh, jgh, (101, [], [q1, -r7, -r8, 0, 0, 0]), jgh, jgh, jgh, (101, [], [0, 0, 0, 0, 0, 0]), jgh, jgh]) (c1 := 0) (s1 := 0) (c2 := 0) (s2 := 0) (by exact rfl) ?_ (by omega) (by omega)
  refine jT_xiinc (x := 3) (z := 4) (LN := [(7, (0, 4)), (5, (1, q1)), (0, (4, 0)), (1, (0, r7)), (2, (0, r8)), (3, (4, 1)), (4, (0, 0))]) (pcN := 156) jIQ_161_153 rfl rfl (by decide) rfl rfl ?_
  refine jT_xgoto (pcN := 119) jIQ_161_156 rfl ?_
  refine jT_xiload (v := (0, 4)) (pcN := 121) jIQ_161_119 rfl rfl rfl ?_
  refine jT_xbipush (k := 6) (pcN := 123) jIQ_161_121 (by decide) rfl ?_
  refine jT_xicF (t := 159) (pcN := 126) jIQ_161_123 rfl (by decide +kernel) rfl rfl ?_
  refine jT_xaload_n (v := (4, 0)) (pcN := 127) jIQ_161_126 rfl rfl rfl ?_
  refine jT_xgetf (a := 0) (t := 1) (ci := 13) (fi := 7) (c := jzQ_16) (v := (4, 9)) (pcN := 130) jIQ_161_127 rfl rfl rfl rfl rfl rfl rfl ?_
  refine jT_xiload (v := (0, 4)) (pcN := 132) jIQ_161_130 rfl rfl rfl ?_
  refine jT_xaload_n (v := (4, 1)) (pcN := 133) jIQ_161_132 rfl rfl rfl ?_
  refine jT_xgetf (a := 1) (t := 2) (ci := 4) (fi := 0) (c := (4, [(4, 13), (1, 1)], [])) (v := (4, 13)) (pcN := 136) jIQ_161_133 rfl rfl rfl rfl rfl rfl rfl ?_
  refine jT_xiload (v := (0, 4)) (pcN := 138) jIQ_161_136 rfl rfl rfl ?_
  refine jT_lald (x := 0) (a := 13) (j := 4) (fs := []) (X := [0, 0, 0, 0, 0, 0]) jIQ_161_138 rfl rfl rfl rfl ?_
  refine jT_eq (LN := [(7, (0, 4)), (5, (1, q1)), (0, (4, 0)), (1, (0, r7)), (2, (0, r8)), (3, (4, 1)), (4, (0, 0))]) (stN := [(1, 0), (0, 4), (4, 9)]) (hsN := [jzQ_16, (4, [(4, 13), (1, 1)], []), (8, [(4, 14), (4, 15)], []), jgh, jgh, jgh, jgh, jgh, jgh, (101, [], [q1, -r7, -r8, 0, 0, 0]), jgh, jgh, jgh, (101, [], [0, 0, 0, 0, 0, 0]), jgh, jgh]) rfl rfl rfl ?_
  refine jT_xaload_n (v := (4, 0)) (pcN := 140) jIQ_161_139 rfl rfl rfl ?_
  refine jT_xgetf (a := 0) (t := 1) (ci := 13) (fi := 7) (c := jzQ_16) (v := (4, 9)) (pcN := 143) jIQ_161_140 rfl rfl rfl rfl rfl rfl rfl ?_
  refine jT_xiload (v := (0, 4)) (pcN := 145) jIQ_161_143 rfl rfl rfl ?_
  refine jT_lald (x := 0) (a := 9) (j := 4) (fs := []) (X := [q1, -r7, -r8, 0, 0, 0]) jIQ_161_145 rfl rfl rfl rfl ?_
  refine jT_eq (LN := [(7, (0, 4)), (5, (1, q1)), (0, (4, 0)), (1, (0, r7)), (2, (0, r8)), (3, (4, 1)), (4, (0, 0))]) (stN := [(1, 0), (1, 0), (0, 4), (4, 9)]) (hsN := [jzQ_16, (4, [(4, 13), (1, 1)], []), (8, [(4, 14), (4, 15)], []), jgh, jgh, jgh, jgh, jgh, jgh, (101, [], [q1, -r7, -r8, 0, 0, 0]), jgh, jgh, jgh, (101, [], [0, 0, 0, 0, 0, 0]), jgh, jgh]) rfl rfl rfl ?_
  refine jT_xaload_n (v := (4, 1)) (pcN := 147) jIQ_161_146 rfl rfl rfl ?_
  refine jT_xgetf (a := 1) (t := 2) (ci := 4) (fi := 1) (c := (4, [(4, 13), (1, 1)], [])) (v := (1, 1)) (pcN := 150) jIQ_161_147 rfl rfl rfl rfl rfl rfl rfl ?_
  refine jT_xlmul (x := 0) (y := 1) (z := 0) (pcN := 151) jIQ_161_150 rfl (by decide) rfl ?_
  refine jT_xlsub (x := 0) (y := 0) (z := 0) (pcN := 152) jIQ_161_151 rfl (by decide) rfl ?_
  refine jT_adv 1 (pcN := 153) (LN := [(7, (0, 4)), (5, (1, q1)), (0, (4, 0)), (1, (0, r7)), (2, (0, r8)), (3, (4, 1)), (4, (0, 0))]) (stN := []) (hsN := [jzQ_16, (4, [(4, 13), (1, 1)], []), (8, [(4, 14), (4, 15)], []), jgh, jgh, jgh, jgh, jgh, jgh, (101, [], [q1, -r7, -r8, 0, 0, 0]), jgh, jgh, jgh, (101, [], [0, 0, 0, 0, 0, 0]), jgh, jgh]) (c1 := 0) (s1 := 0) (c2 := 0) (s2 := 0) (by exact rfl) ?_ (by omega) (by omega)
  refine jT_xiinc (x := 4) (z := 5) (LN := [(7, (0, 5)), (5, (1, q1)), (0, (4, 0)), (1, (0, r7)), (2, (0, r8)), (3, (4, 1)), (4, (0, 0))]) (pcN := 156) jIQ_161_153 rfl rfl (by decide) rfl rfl ?_
  refine jT_xgoto (pcN := 119) jIQ_161_156 rfl ?_
  refine jT_xiload (v := (0, 5)) (pcN := 121) jIQ_161_119 rfl rfl rfl ?_
  refine jT_xbipush (k := 6) (pcN := 123) jIQ_161_121 (by decide) rfl ?_
  refine jT_xicF (t := 159) (pcN := 126) jIQ_161_123 rfl (by decide +kernel) rfl rfl ?_
  refine jT_xaload_n (v := (4, 0)) (pcN := 127) jIQ_161_126 rfl rfl rfl ?_
  refine jT_xgetf (a := 0) (t := 1) (ci := 13) (fi := 7) (c := jzQ_16) (v := (4, 9)) (pcN := 130) jIQ_161_127 rfl rfl rfl rfl rfl rfl rfl ?_
  refine jT_xiload (v := (0, 5)) (pcN := 132) jIQ_161_130 rfl rfl rfl ?_
  refine jT_xaload_n (v := (4, 1)) (pcN := 133) jIQ_161_132 rfl rfl rfl ?_
  refine jT_xgetf (a := 1) (t := 2) (ci := 4) (fi := 0) (c := (4, [(4, 13), (1, 1)], [])) (v := (4, 13)) (pcN := 136) jIQ_161_133 rfl rfl rfl rfl rfl rfl rfl ?_
  refine jT_xiload (v := (0, 5)) (pcN := 138) jIQ_161_136 rfl rfl rfl ?_
  refine jT_lald (x := 0) (a := 13) (j := 5) (fs := []) (X := [0, 0, 0, 0, 0, 0]) jIQ_161_138 rfl rfl rfl rfl ?_
  refine jT_eq (LN := [(7, (0, 5)), (5, (1, q1)), (0, (4, 0)), (1, (0, r7)), (2, (0, r8)), (3, (4, 1)), (4, (0, 0))]) (stN := [(1, 0), (0, 5), (4, 9)]) (hsN := [jzQ_16, (4, [(4, 13), (1, 1)], []), (8, [(4, 14), (4, 15)], []), jgh, jgh, jgh, jgh, jgh, jgh, (101, [], [q1, -r7, -r8, 0, 0, 0]), jgh, jgh, jgh, (101, [], [0, 0, 0, 0, 0, 0]), jgh, jgh]) rfl rfl rfl ?_
  refine jT_xaload_n (v := (4, 0)) (pcN := 140) jIQ_161_139 rfl rfl rfl ?_
  refine jT_xgetf (a := 0) (t := 1) (ci := 13) (fi := 7) (c := jzQ_16) (v := (4, 9)) (pcN := 143) jIQ_161_140 rfl rfl rfl rfl rfl rfl rfl ?_
  refine jT_xiload (v := (0, 5)) (pcN := 145) jIQ_161_143 rfl rfl rfl ?_
  refine jT_lald (x := 0) (a := 9) (j := 5) (fs := []) (X := [q1, -r7, -r8, 0, 0, 0]) jIQ_161_145 rfl rfl rfl rfl ?_
  refine jT_eq (LN := [(7, (0, 5)), (5, (1, q1)), (0, (4, 0)), (1, (0, r7)), (2, (0, r8)), (3, (4, 1)), (4, (0, 0))]) (stN := [(1, 0), (1, 0), (0, 5), (4, 9)]) (hsN := [jzQ_16, (4, [(4, 13), (1, 1)], []), (8, [(4, 14), (4, 15)], []), jgh, jgh, jgh, jgh, jgh, jgh, (101, [], [q1, -r7, -r8, 0, 0, 0]), jgh, jgh, jgh, (101, [], [0, 0, 0, 0, 0, 0]), jgh, jgh]) rfl rfl rfl ?_
  refine jT_xaload_n (v := (4, 1)) (pcN := 147) jIQ_161_146 rfl rfl rfl ?_
  refine jT_xgetf (a := 1) (t := 2) (ci := 4) (fi := 1) (c := (4, [(4, 13), (1, 1)], [])) (v := (1, 1)) (pcN := 150) jIQ_161_147 rfl rfl rfl rfl rfl rfl rfl ?_
  refine jT_xlmul (x := 0) (y := 1) (z := 0) (pcN := 151) jIQ_161_150 rfl (by decide) rfl ?_
  refine jT_xlsub (x := 0) (y := 0) (z := 0) (pcN := 152) jIQ_161_151 rfl (by decide) rfl ?_
  refine jT_adv 1 (pcN := 153) (LN := [(7, (0, 5)), (5, (1, q1)), (0, (4, 0)), (1, (0, r7)), (2, (0, r8)), (3, (4, 1)), (4, (0, 0))]) (stN := []) (hsN := [jzQ_16, (4, [(4, 13), (1, 1)], []), (8, [(4, 14), (4, 15)], []), jgh, jgh, jgh, jgh, jgh, jgh, (101, [], [q1, -r7, -r8, 0, 0, 0]), jgh, jgh, jgh, (101, [], [0, 0, 0, 0, 0, 0]), jgh, jgh]) (c1 := 0) (s1 := 0) (c2 := 0) (s2 := 0) (by exact rfl) ?_ (by omega) (by omega)
  refine jT_xiinc (x := 5) (z := 6) (LN := [(7, (0, 6)), (5, (1, q1)), (0, (4, 0)), (1, (0, r7)), (2, (0, r8)), (3, (4, 1)), (4, (0, 0))]) (pcN := 156) jIQ_161_153 rfl rfl (by decide) rfl rfl ?_
  refine jT_xgoto (pcN := 119) jIQ_161_156 rfl ?_
  refine jT_xiload (v := (0, 6)) (pcN := 121) jIQ_161_119 rfl rfl rfl ?_
  refine jT_xbipush (k := 6) (pcN := 123) jIQ_161_121 (by decide) rfl ?_
  refine jT_xicT (pcN := 159) jIQ_161_123 rfl (by decide +kernel) rfl ?_
  refine jT_xaload_n (v := (4, 0)) (pcN := 160) jIQ_161_159 rfl rfl rfl ?_
  refine jT_xgetf (a := 0) (t := 1) (ci := 13) (fi := 0) (c := jzQ_16) (v := (4, 2)) (pcN := 163) jIQ_161_160 rfl rfl rfl rfl rfl rfl rfl ?_
  refine jT_xaload_n (v := (4, 0)) (pcN := 164) jIQ_161_163 rfl rfl rfl ?_
  refine jT_xgetf (a := 0) (t := 1) (ci := 13) (fi := 7) (c := jzQ_16) (v := (4, 9)) (pcN := 167) jIQ_161_164 rfl rfl rfl rfl rfl rfl rfl ?_
  refine jT_callA [2, 9, 14, 15] (y := 38) (pcN := 170) (dC := 1) (bc1 := 0) (bc2 := 0) (c1 := 0) (c2 := 0) (as := [(4, 2), (4, 9)]) (asC := [(4, 0), (4, 1)]) (LN := [(7, (0, 6)), (5, (1, q1)), (0, (4, 0)), (1, (0, r7)), (2, (0, r8)), (3, (4, 1)), (4, (0, 0))]) (stN := []) (hsC := [(8, [(4, 2), (4, 3)], []), (101, [], [q1, -r7, -r8, 0, 0, 0]), jgh, jgh]) (ex := []) (v := (0, (-1))) (st2 := [(0, (-1))]) (hs2 := [jzQ_16, (4, [(4, 13), (1, 1)], []), (8, [(4, 14), (4, 15)], []), jgh, jgh, jgh, jgh, jgh, jgh, (101, [], [q1, -r7, -r8, 0, 0, 0]), jgh, jgh, jgh, (101, [], [0, 0, 0, 0, 0, 0]), jgh, jgh]) (jQl_sp38_117 (d := 0) (by omega) (by omega) (by omega) (by omega) (by omega) (by omega) (by omega)) (by rfl) (by rfl) (by rfl) (by rfl) ⟨rfl, rfl, rfl, rfl, trivial⟩ (by rfl) (by rfl) (by omega) (by show 16 ≤ 16; omega) (by omega) (by omega) rfl rfl ?_
  refine jT_xifT (pcN := 177) jIQ_161_170 rfl (by decide +kernel) rfl ?_
  refine jT_xiconst (k := 0) (pcN := 178) jIQ_161_177 rfl ?_
  subst hq_q1
  exact jT_ret rfl (by decide) (by show 16 ≤ 16; omega) (by omega) (by omega) ⟨rfl, rfl, rfl⟩
theorem jQ_161_122 {xs : List Int} {d : Nat} {r7 r8 u85_0 u85_1 u85_2 u85_3 u85_4 u85_5 : Int} (h_r7 : (-20) ≤ r7 ∧ r7 ≤ 20) (h_r8 : (-10) ≤ r8 ∧ r8 ≤ 10) (g_0 : r7 < 0) : jT xs (d + 2) 161 16 0 [(0, (4, 0)), (1, (0, r7)), (2, (0, r8)), (3, (4, 1)), (4, (0, 0))] [] [jzQ_16, (4, [(4, 13), (1, 1)], []), (8, [(4, 14), (4, 15)], []), jgh, jgh, jgh, jgh, jgh, jgh, (101, [], [u85_0, u85_1, u85_2, u85_3, u85_4, u85_5]), jgh, jgh, jgh, (101, [], [0, 0, 0, 0, 0, 0]), jgh, jgh] 0 0 (fun k v hsN => k = 0 ∧ v = (0, 0) ∧ hsN = [jzQ_16, (4, [(4, 13), (1, 1)], []), (8, [(4, 14), (4, 15)], []), jgh, jgh, jgh, jgh, jgh, jgh, (101, [], [(108917793695 * r7 + 159561683699 * r8) / 68719476736, -r7, -r8, 0, 0, 0]), jgh, jgh, jgh, (101, [], [0, 0, 0, 0, 0, 0]), jgh, jgh]) := by
  refine jT_xiload_n (v := (0, r7)) (pcN := 1) jIQ_161_0 rfl rfl rfl ?_
  refine jT_ifT (a := r7) (t := 10) (by rfl) (by rfl) (by rfl) (jw_idd (by omega) (by omega)) (by simp only [jcP] <;> omega) ?_
  refine jT_xiconst (k := 0) (pcN := 11) jIQ_161_10 rfl ?_
  refine jT_xistore (v := (0, 0)) (LN := [(5, (0, 0)), (0, (4, 0)), (1, (0, r7)), (2, (0, r8)), (3, (4, 1)), (4, (0, 0))]) (pcN := 13) jIQ_161_11 rfl rfl rfl rfl ?_
  refine jT_xiload (v := (0, 0)) (pcN := 15) jIQ_161_13 rfl rfl rfl ?_
  refine jT_xbipush (k := 6) (pcN := 17) jIQ_161_15 (by decide) rfl ?_
  refine jT_xicF (t := 56) (pcN := 20) jIQ_161_17 rfl (by decide +kernel) rfl rfl ?_
  refine jT_xaload_n (v := (4, 0)) (pcN := 21) jIQ_161_20 rfl rfl rfl ?_
  refine jT_xgetf (a := 0) (t := 1) (ci := 13) (fi := 7) (c := jzQ_16) (v := (4, 9)) (pcN := 24) jIQ_161_21 rfl rfl rfl rfl rfl rfl rfl ?_
  refine jT_xiload (v := (0, 0)) (pcN := 26) jIQ_161_24 rfl rfl rfl ?_
  refine jT_xiload (v := (0, 0)) (pcN := 28) jIQ_161_26 rfl rfl rfl ?_
  refine jT_xiconst (k := 1) (pcN := 29) jIQ_161_28 rfl ?_
  refine jT_xicT (pcN := 37) jIQ_161_29 rfl (by decide +kernel) rfl ?_
  refine jT_xiload (v := (0, 0)) (pcN := 39) jIQ_161_37 rfl rfl rfl ?_
  refine jT_xiconst (k := 2) (pcN := 40) jIQ_161_39 rfl ?_
  refine jT_xicT (pcN := 48) jIQ_161_40 rfl (by decide +kernel) rfl ?_
  refine jT_xlconst (z := 0) (pcN := 49) jIQ_161_48 rfl rfl ?_
  refine jT_adv 1 (pcN := 50) (LN := [(5, (0, 0)), (0, (4, 0)), (1, (0, r7)), (2, (0, r8)), (3, (4, 1)), (4, (0, 0))]) (stN := []) (hsN := [jzQ_16, (4, [(4, 13), (1, 1)], []), (8, [(4, 14), (4, 15)], []), jgh, jgh, jgh, jgh, jgh, jgh, (101, [], [0, u85_1, u85_2, u85_3, u85_4, u85_5]), jgh, jgh, jgh, (101, [], [0, 0, 0, 0, 0, 0]), jgh, jgh]) (c1 := 0) (s1 := 0) (c2 := 0) (s2 := 0) (by exact rfl) ?_ (by omega) (by omega)
  refine jT_xiinc (x := 0) (z := 1) (LN := [(5, (0, 1)), (0, (4, 0)), (1, (0, r7)), (2, (0, r8)), (3, (4, 1)), (4, (0, 0))]) (pcN := 53) jIQ_161_50 rfl rfl (by decide) rfl rfl ?_
  refine jT_xgoto (pcN := 13) jIQ_161_53 rfl ?_
  refine jT_xiload (v := (0, 1)) (pcN := 15) jIQ_161_13 rfl rfl rfl ?_
  refine jT_xbipush (k := 6) (pcN := 17) jIQ_161_15 (by decide) rfl ?_
  refine jT_xicF (t := 56) (pcN := 20) jIQ_161_17 rfl (by decide +kernel) rfl rfl ?_
  refine jT_xaload_n (v := (4, 0)) (pcN := 21) jIQ_161_20 rfl rfl rfl ?_
  refine jT_xgetf (a := 0) (t := 1) (ci := 13) (fi := 7) (c := jzQ_16) (v := (4, 9)) (pcN := 24) jIQ_161_21 rfl rfl rfl rfl rfl rfl rfl ?_
  refine jT_xiload (v := (0, 1)) (pcN := 26) jIQ_161_24 rfl rfl rfl ?_
  refine jT_xiload (v := (0, 1)) (pcN := 28) jIQ_161_26 rfl rfl rfl ?_
  refine jT_xiconst (k := 1) (pcN := 29) jIQ_161_28 rfl ?_
  refine jT_xicF (t := 37) (pcN := 32) jIQ_161_29 rfl (by decide +kernel) rfl rfl ?_
  refine jT_xiload_n (v := (0, r7)) (pcN := 33) jIQ_161_32 rfl rfl rfl ?_
  refine jT_xi2l (x := r7) (z := r7) (pcN := 34) jIQ_161_33 rfl (jw_idd (by omega) (by omega)) rfl ?_
  refine jT_xgoto (pcN := 49) jIQ_161_34 rfl ?_
  refine jT_adv 1 (pcN := 50) (LN := [(5, (0, 1)), (0, (4, 0)), (1, (0, r7)), (2, (0, r8)), (3, (4, 1)), (4, (0, 0))]) (stN := []) (hsN := [jzQ_16, (4, [(4, 13), (1, 1)], []), (8, [(4, 14), (4, 15)], []), jgh, jgh, jgh, jgh, jgh, jgh, (101, [], [0, r7, u85_2, u85_3, u85_4, u85_5]), jgh, jgh, jgh, (101, [], [0, 0, 0, 0, 0, 0]), jgh, jgh]) (c1 := 0) (s1 := 0) (c2 := 0) (s2 := 0) (by exact rfl) ?_ (by omega) (by omega)
  refine jT_xiinc (x := 1) (z := 2) (LN := [(5, (0, 2)), (0, (4, 0)), (1, (0, r7)), (2, (0, r8)), (3, (4, 1)), (4, (0, 0))]) (pcN := 53) jIQ_161_50 rfl rfl (by decide) rfl rfl ?_
  refine jT_xgoto (pcN := 13) jIQ_161_53 rfl ?_
  refine jT_xiload (v := (0, 2)) (pcN := 15) jIQ_161_13 rfl rfl rfl ?_
  refine jT_xbipush (k := 6) (pcN := 17) jIQ_161_15 (by decide) rfl ?_
  refine jT_xicF (t := 56) (pcN := 20) jIQ_161_17 rfl (by decide +kernel) rfl rfl ?_
  refine jT_xaload_n (v := (4, 0)) (pcN := 21) jIQ_161_20 rfl rfl rfl ?_
  refine jT_xgetf (a := 0) (t := 1) (ci := 13) (fi := 7) (c := jzQ_16) (v := (4, 9)) (pcN := 24) jIQ_161_21 rfl rfl rfl rfl rfl rfl rfl ?_
  refine jT_xiload (v := (0, 2)) (pcN := 26) jIQ_161_24 rfl rfl rfl ?_
  refine jT_xiload (v := (0, 2)) (pcN := 28) jIQ_161_26 rfl rfl rfl ?_
  refine jT_xiconst (k := 1) (pcN := 29) jIQ_161_28 rfl ?_
  refine jT_xicT (pcN := 37) jIQ_161_29 rfl (by decide +kernel) rfl ?_
  refine jT_xiload (v := (0, 2)) (pcN := 39) jIQ_161_37 rfl rfl rfl ?_
  refine jT_xiconst (k := 2) (pcN := 40) jIQ_161_39 rfl ?_
  refine jT_xicF (t := 48) (pcN := 43) jIQ_161_40 rfl (by decide +kernel) rfl rfl ?_
  refine jT_xiload_n (v := (0, r8)) (pcN := 44) jIQ_161_43 rfl rfl rfl ?_
  refine jT_xi2l (x := r8) (z := r8) (pcN := 45) jIQ_161_44 rfl (jw_idd (by omega) (by omega)) rfl ?_
  refine jT_xgoto (pcN := 49) jIQ_161_45 rfl ?_
  refine jT_adv 1 (pcN := 50) (LN := [(5, (0, 2)), (0, (4, 0)), (1, (0, r7)), (2, (0, r8)), (3, (4, 1)), (4, (0, 0))]) (stN := []) (hsN := [jzQ_16, (4, [(4, 13), (1, 1)], []), (8, [(4, 14), (4, 15)], []), jgh, jgh, jgh, jgh, jgh, jgh, (101, [], [0, r7, r8, u85_3, u85_4, u85_5]), jgh, jgh, jgh, (101, [], [0, 0, 0, 0, 0, 0]), jgh, jgh]) (c1 := 0) (s1 := 0) (c2 := 0) (s2 := 0) (by exact rfl) ?_ (by omega) (by omega)
  refine jT_xiinc (x := 2) (z := 3) (LN := [(5, (0, 3)), (0, (4, 0)), (1, (0, r7)), (2, (0, r8)), (3, (4, 1)), (4, (0, 0))]) (pcN := 53) jIQ_161_50 rfl rfl (by decide) rfl rfl ?_
  refine jT_xgoto (pcN := 13) jIQ_161_53 rfl ?_
  refine jT_xiload (v := (0, 3)) (pcN := 15) jIQ_161_13 rfl rfl rfl ?_
  refine jT_xbipush (k := 6) (pcN := 17) jIQ_161_15 (by decide) rfl ?_
  refine jT_xicF (t := 56) (pcN := 20) jIQ_161_17 rfl (by decide +kernel) rfl rfl ?_
  refine jT_xaload_n (v := (4, 0)) (pcN := 21) jIQ_161_20 rfl rfl rfl ?_
  refine jT_xgetf (a := 0) (t := 1) (ci := 13) (fi := 7) (c := jzQ_16) (v := (4, 9)) (pcN := 24) jIQ_161_21 rfl rfl rfl rfl rfl rfl rfl ?_
  refine jT_xiload (v := (0, 3)) (pcN := 26) jIQ_161_24 rfl rfl rfl ?_
  refine jT_xiload (v := (0, 3)) (pcN := 28) jIQ_161_26 rfl rfl rfl ?_
  refine jT_xiconst (k := 1) (pcN := 29) jIQ_161_28 rfl ?_
  refine jT_xicT (pcN := 37) jIQ_161_29 rfl (by decide +kernel) rfl ?_
  refine jT_xiload (v := (0, 3)) (pcN := 39) jIQ_161_37 rfl rfl rfl ?_
  refine jT_xiconst (k := 2) (pcN := 40) jIQ_161_39 rfl ?_
  refine jT_xicT (pcN := 48) jIQ_161_40 rfl (by decide +kernel) rfl ?_
  refine jT_xlconst (z := 0) (pcN := 49) jIQ_161_48 rfl rfl ?_
  refine jT_adv 1 (pcN := 50) (LN := [(5, (0, 3)), (0, (4, 0)), (1, (0, r7)), (2, (0, r8)), (3, (4, 1)), (4, (0, 0))]) (stN := []) (hsN := [jzQ_16, (4, [(4, 13), (1, 1)], []), (8, [(4, 14), (4, 15)], []), jgh, jgh, jgh, jgh, jgh, jgh, (101, [], [0, r7, r8, 0, u85_4, u85_5]), jgh, jgh, jgh, (101, [], [0, 0, 0, 0, 0, 0]), jgh, jgh]) (c1 := 0) (s1 := 0) (c2 := 0) (s2 := 0) (by exact rfl) ?_ (by omega) (by omega)
  refine jT_xiinc (x := 3) (z := 4) (LN := [(5, (0, 4)), (0, (4, 0)), (1, (0, r7)), (2, (0, r8)), (3, (4, 1)), (4, (0, 0))]) (pcN := 53) jIQ_161_50 rfl rfl (by decide) rfl rfl ?_
  refine jT_xgoto (pcN := 13) jIQ_161_53 rfl ?_
  refine jT_xiload (v := (0, 4)) (pcN := 15) jIQ_161_13 rfl rfl rfl ?_
  refine jT_xbipush (k := 6) (pcN := 17) jIQ_161_15 (by decide) rfl ?_
  refine jT_xicF (t := 56) (pcN := 20) jIQ_161_17 rfl (by decide +kernel) rfl rfl ?_
  refine jT_xaload_n (v := (4, 0)) (pcN := 21) jIQ_161_20 rfl rfl rfl ?_
  refine jT_xgetf (a := 0) (t := 1) (ci := 13) (fi := 7) (c := jzQ_16) (v := (4, 9)) (pcN := 24) jIQ_161_21 rfl rfl rfl rfl rfl rfl rfl ?_
  refine jT_xiload (v := (0, 4)) (pcN := 26) jIQ_161_24 rfl rfl rfl ?_
  refine jT_xiload (v := (0, 4)) (pcN := 28) jIQ_161_26 rfl rfl rfl ?_
  refine jT_xiconst (k := 1) (pcN := 29) jIQ_161_28 rfl ?_
  refine jT_xicT (pcN := 37) jIQ_161_29 rfl (by decide +kernel) rfl ?_
  refine jT_xiload (v := (0, 4)) (pcN := 39) jIQ_161_37 rfl rfl rfl ?_
  refine jT_xiconst (k := 2) (pcN := 40) jIQ_161_39 rfl ?_
  refine jT_xicT (pcN := 48) jIQ_161_40 rfl (by decide +kernel) rfl ?_
  refine jT_xlconst (z := 0) (pcN := 49) jIQ_161_48 rfl rfl ?_
  refine jT_adv 1 (pcN := 50) (LN := [(5, (0, 4)), (0, (4, 0)), (1, (0, r7)), (2, (0, r8)), (3, (4, 1)), (4, (0, 0))]) (stN := []) (hsN := [jzQ_16, (4, [(4, 13), (1, 1)], []), (8, [(4, 14), (4, 15)], []), jgh, jgh, jgh, jgh, jgh, jgh, (101, [], [0, r7, r8, 0, 0, u85_5]), jgh, jgh, jgh, (101, [], [0, 0, 0, 0, 0, 0]), jgh, jgh]) (c1 := 0) (s1 := 0) (c2 := 0) (s2 := 0) (by exact rfl) ?_ (by omega) (by omega)
  refine jT_xiinc (x := 4) (z := 5) (LN := [(5, (0, 5)), (0, (4, 0)), (1, (0, r7)), (2, (0, r8)), (3, (4, 1)), (4, (0, 0))]) (pcN := 53) jIQ_161_50 rfl rfl (by decide) rfl rfl ?_
  refine jT_xgoto (pcN := 13) jIQ_161_53 rfl ?_
  refine jT_xiload (v := (0, 5)) (pcN := 15) jIQ_161_13 rfl rfl rfl ?_
  refine jT_xbipush (k := 6) (pcN := 17) jIQ_161_15 (by decide) rfl ?_
  refine jT_xicF (t := 56) (pcN := 20) jIQ_161_17 rfl (by decide +kernel) rfl rfl ?_
  refine jT_xaload_n (v := (4, 0)) (pcN := 21) jIQ_161_20 rfl rfl rfl ?_
  refine jT_xgetf (a := 0) (t := 1) (ci := 13) (fi := 7) (c := jzQ_16) (v := (4, 9)) (pcN := 24) jIQ_161_21 rfl rfl rfl rfl rfl rfl rfl ?_
  refine jT_xiload (v := (0, 5)) (pcN := 26) jIQ_161_24 rfl rfl rfl ?_
  refine jT_xiload (v := (0, 5)) (pcN := 28) jIQ_161_26 rfl rfl rfl ?_
  refine jT_xiconst (k := 1) (pcN := 29) jIQ_161_28 rfl ?_
  refine jT_xicT (pcN := 37) jIQ_161_29 rfl (by decide +kernel) rfl ?_
  refine jT_xiload (v := (0, 5)) (pcN := 39) jIQ_161_37 rfl rfl rfl ?_
  refine jT_xiconst (k := 2) (pcN := 40) jIQ_161_39 rfl ?_
  refine jT_xicT (pcN := 48) jIQ_161_40 rfl (by decide +kernel) rfl ?_
  refine jT_xlconst (z := 0) (pcN := 49) jIQ_161_48 rfl rfl ?_
  refine jT_adv 1 (pcN := 50) (LN := [(5, (0, 5)), (0, (4, 0)), (1, (0, r7)), (2, (0, r8)), (3, (4, 1)), (4, (0, 0))]) (stN := []) (hsN := [jzQ_16, (4, [(4, 13), (1, 1)], []), (8, [(4, 14), (4, 15)], []), jgh, jgh, jgh, jgh, jgh, jgh, (101, [], [0, r7, r8, 0, 0, 0]), jgh, jgh, jgh, (101, [], [0, 0, 0, 0, 0, 0]), jgh, jgh]) (c1 := 0) (s1 := 0) (c2 := 0) (s2 := 0) (by exact rfl) ?_ (by omega) (by omega)
  refine jT_xiinc (x := 5) (z := 6) (LN := [(5, (0, 6)), (0, (4, 0)), (1, (0, r7)), (2, (0, r8)), (3, (4, 1)), (4, (0, 0))]) (pcN := 53) jIQ_161_50 rfl rfl (by decide) rfl rfl ?_
  refine jT_xgoto (pcN := 13) jIQ_161_53 rfl ?_
  refine jT_xiload (v := (0, 6)) (pcN := 15) jIQ_161_13 rfl rfl rfl ?_
  refine jT_xbipush (k := 6) (pcN := 17) jIQ_161_15 (by decide) rfl ?_
  refine jT_xicT (pcN := 56) jIQ_161_17 rfl (by decide +kernel) rfl ?_
  refine jT_xaload_n (v := (4, 0)) (pcN := 57) jIQ_161_56 rfl rfl rfl ?_
  refine jT_xgetf (a := 0) (t := 1) (ci := 13) (fi := 0) (c := jzQ_16) (v := (4, 2)) (pcN := 60) jIQ_161_57 rfl rfl rfl rfl rfl rfl rfl ?_
  refine jT_xaload_n (v := (4, 0)) (pcN := 61) jIQ_161_60 rfl rfl rfl ?_
  refine jT_xgetf (a := 0) (t := 1) (ci := 13) (fi := 7) (c := jzQ_16) (v := (4, 9)) (pcN := 64) jIQ_161_61 rfl rfl rfl rfl rfl rfl rfl ?_
  refine jT_xlconst (z := 1) (pcN := 65) jIQ_161_64 rfl rfl ?_
  refine jT_xlconst (z := 1) (pcN := 66) jIQ_161_65 rfl rfl ?_
  refine jT_callA [2, 9, 14, 15] (y := 45) (pcN := 69) (dC := 1) (bc1 := 0) (bc2 := 0) (c1 := 0) (c2 := 0) (as := [(4, 2), (4, 9), (1, 1), (1, 1)]) (asC := [(4, 0), (4, 1), (1, 1), (1, 1)]) (LN := [(5, (0, 6)), (0, (4, 0)), (1, (0, r7)), (2, (0, r8)), (3, (4, 1)), (4, (0, 0))]) (stN := []) (hsC := [(8, [(4, 2), (4, 3)], []), (101, [], [0, r7, r8, 0, 0, 0]), jgh, jgh]) (ex := []) (v := (1, (108917793695 * r7 + 159561683699 * r8) / 68719476736)) (st2 := [(1, (108917793695 * r7 + 159561683699 * r8) / 68719476736)]) (hs2 := [jzQ_16, (4, [(4, 13), (1, 1)], []), (8, [(4, 14), (4, 15)], []), jgh, jgh, jgh, jgh, jgh, jgh, (101, [], [0, r7, r8, 0, 0, 0]), jgh, jgh, jgh, (101, [], [0, 0, 0, 0, 0, 0]), jgh, jgh]) (jQl_sp45_116 (d := 0) (by omega) (by omega)) (by rfl) (by rfl) (by rfl) (by rfl) ⟨rfl, rfl, rfl, rfl, trivial⟩ (by rfl) (by rfl) (by omega) (by show 16 ≤ 16; omega) (by omega) (by omega) rfl rfl ?_
  have hb_q1 : (-60) ≤ (108917793695 * r7 + 159561683699 * r8) / 68719476736 ∧ (108917793695 * r7 + 159561683699 * r8) / 68719476736 ≤ 60 := ⟨by omega, by omega⟩
  generalize hq_q1 : (108917793695 * r7 + 159561683699 * r8) / 68719476736 = q1 at hb_q1 ⊢
  refine jT_xlstore (v := (1, q1)) (LN := [(5, (1, q1)), (0, (4, 0)), (1, (0, r7)), (2, (0, r8)), (3, (4, 1)), (4, (0, 0))]) (pcN := 71) jIQ_161_69 rfl rfl rfl rfl ?_
  have g_1 : 0 ≤ (-68719476736) * q1 + 108917793694 * r7 + 159561683698 * r8 - 1 := by have := jcg (b := r7) (c := r8) (by omega) (by omega) (by omega); rw [hq_q1] at this; omega
  have g_2 : 0 ≤ (-68719476736) * q1 + 108917793694 * r7 + 159561683700 * r8 - 1 := by have := jcg (b := r7) (c := r8) (by omega) (by omega) (by omega); rw [hq_q1] at this; omega
  have g_3 : 0 ≤ (-68719476736) * q1 + 108917793696 * r7 + 159561683698 * r8 - 1 := by have := jcg (b := r7) (c := r8) (by omega) (by omega) (by omega); rw [hq_q1] at this; omega
  have g_4 : 0 ≤ (-68719476736) * q1 + 108917793696 * r7 + 159561683700 * r8 - 1 := by have := jcg (b := r7) (c := r8) (by omega) (by omega) (by omega); rw [hq_q1] at this; omega
  refine jT_xiload (v := (0, 0)) (pcN := 73) jIQ_161_71 rfl rfl rfl ?_
  refine jT_xifT (pcN := 107) jIQ_161_73 rfl (by decide +kernel) rfl ?_
  refine jT_xaload_n (v := (4, 0)) (pcN := 108) jIQ_161_107 rfl rfl rfl ?_
  refine jT_xgetf (a := 0) (t := 1) (ci := 13) (fi := 7) (c := jzQ_16) (v := (4, 9)) (pcN := 111) jIQ_161_108 rfl rfl rfl rfl rfl rfl rfl ?_
  refine jT_xiconst (k := 0) (pcN := 112) jIQ_161_111 rfl ?_
  refine jT_xlload (v := (1, q1)) (pcN := 114) jIQ_161_112 rfl rfl rfl ?_
  refine jT_adv 2 (pcN := 116) (LN := [(5, (1, q1)), (0, (4, 0)), (1, (0, r7)), (2, (0, r8)), (3, (4, 1)), (4, (0, 0))]) (stN := []) (hsN := [jzQ_16, (4, [(4, 13), (1, 1)], []), (8, [(4, 14), (4, 15)], []), jgh, jgh, jgh, jgh, jgh, jgh, (101, [], [-q1, r7, r8, 0, 0, 0]), jgh, jgh, jgh, (101, [], [0, 0, 0, 0, 0, 0]), jgh, jgh]) (c1 := 0) (s1 := 0) (c2 := 0) (s2 := 0) (by exact rfl) ?_ (by omega) (by omega)
  refine jT_xiconst (k := 0) (pcN := 117) jIQ_161_116 rfl ?_
  refine jT_xistore (v := (0, 0)) (LN := [(7, (0, 0)), (5, (1, q1)), (0, (4, 0)), (1, (0, r7)), (2, (0, r8)), (3, (4, 1)), (4, (0, 0))]) (pcN := 119) jIQ_161_117 rfl rfl rfl rfl ?_
  refine jT_xiload (v := (0, 0)) (pcN := 121) jIQ_161_119 rfl rfl rfl ?_
  refine jT_xbipush (k := 6) (pcN := 123) jIQ_161_121 (by decide) rfl ?_
  refine jT_xicF (t := 159) (pcN := 126) jIQ_161_123 rfl (by decide +kernel) rfl rfl ?_
  refine jT_xaload_n (v := (4, 0)) (pcN := 127) jIQ_161_126 rfl rfl rfl ?_
  refine jT_xgetf (a := 0) (t := 1) (ci := 13) (fi := 7) (c := jzQ_16) (v := (4, 9)) (pcN := 130) jIQ_161_127 rfl rfl rfl rfl rfl rfl rfl ?_
  refine jT_xiload (v := (0, 0)) (pcN := 132) jIQ_161_130 rfl rfl rfl ?_
  refine jT_xaload_n (v := (4, 1)) (pcN := 133) jIQ_161_132 rfl rfl rfl ?_
  refine jT_xgetf (a := 1) (t := 2) (ci := 4) (fi := 0) (c := (4, [(4, 13), (1, 1)], [])) (v := (4, 13)) (pcN := 136) jIQ_161_133 rfl rfl rfl rfl rfl rfl rfl ?_
  refine jT_xiload (v := (0, 0)) (pcN := 138) jIQ_161_136 rfl rfl rfl ?_
  refine jT_lald (x := 0) (a := 13) (j := 0) (fs := []) (X := [0, 0, 0, 0, 0, 0]) jIQ_161_138 rfl rfl rfl rfl ?_
  refine jT_eq (LN := [(7, (0, 0)), (5, (1, q1)), (0, (4, 0)), (1, (0, r7)), (2, (0, r8)), (3, (4, 1)), (4, (0, 0))]) (stN := [(1, 0), (0, 0), (4, 9)]) (hsN := [jzQ_16, (4, [(4, 13), (1, 1)], []), (8, [(4, 14), (4, 15)], []), jgh, jgh, jgh, jgh, jgh, jgh, (101, [], [-q1, r7, r8, 0, 0, 0]), jgh, jgh, jgh, (101, [], [0, 0, 0, 0, 0, 0]), jgh, jgh]) rfl rfl rfl ?_
  refine jT_xaload_n (v := (4, 0)) (pcN := 140) jIQ_161_139 rfl rfl rfl ?_
  refine jT_xgetf (a := 0) (t := 1) (ci := 13) (fi := 7) (c := jzQ_16) (v := (4, 9)) (pcN := 143) jIQ_161_140 rfl rfl rfl rfl rfl rfl rfl ?_
  refine jT_xiload (v := (0, 0)) (pcN := 145) jIQ_161_143 rfl rfl rfl ?_
  refine jT_lald (x := -q1) (a := 9) (j := 0) (fs := []) (X := [-q1, r7, r8, 0, 0, 0]) jIQ_161_145 rfl rfl rfl rfl ?_
  refine jT_eq (LN := [(7, (0, 0)), (5, (1, q1)), (0, (4, 0)), (1, (0, r7)), (2, (0, r8)), (3, (4, 1)), (4, (0, 0))]) (stN := [(1, -q1), (1, 0), (0, 0), (4, 9)]) (hsN := [jzQ_16, (4, [(4, 13), (1, 1)], []), (8, [(4, 14), (4, 15)], []), jgh, jgh, jgh, jgh, jgh, jgh, (101, [], [-q1, r7, r8, 0, 0, 0]), jgh, jgh, jgh, (101, [], [0, 0, 0, 0, 0, 0]), jgh, jgh]) rfl rfl rfl ?_
  refine jT_xaload_n (v := (4, 1)) (pcN := 147) jIQ_161_146 rfl rfl rfl ?_
  refine jT_xgetf (a := 1) (t := 2) (ci := 4) (fi := 1) (c := (4, [(4, 13), (1, 1)], [])) (v := (1, 1)) (pcN := 150) jIQ_161_147 rfl rfl rfl rfl rfl rfl rfl ?_
  refine jT_xlmul (x := -q1) (y := 1) (z := -q1) (pcN := 151) jIQ_161_150 rfl (by omega) rfl ?_
  refine jT_xlsub (x := 0) (y := -q1) (z := q1) (pcN := 152) jIQ_161_151 rfl (by omega) rfl ?_
  refine jT_adv 1 (pcN := 153) (LN := [(7, (0, 0)), (5, (1, q1)), (0, (4, 0)), (1, (0, r7)), (2, (0, r8)), (3, (4, 1)), (4, (0, 0))]) (stN := []) (hsN := [jzQ_16, (4, [(4, 13), (1, 1)], []), (8, [(4, 14), (4, 15)], []), jgh, jgh, jgh, jgh, jgh, jgh, (101, [], [q1, r7, r8, 0, 0, 0]), jgh, jgh, jgh, (101, [], [0, 0, 0, 0, 0, 0]), jgh, jgh]) (c1 := 0) (s1 := 0) (c2 := 0) (s2 := 0) (by exact rfl) ?_ (by omega) (by omega)
  refine jT_xiinc (x := 0) (z := 1) (LN := [(7, (0, 1)), (5, (1, q1)), (0, (4, 0)), (1, (0, r7)), (2, (0, r8)), (3, (4, 1)), (4, (0, 0))]) (pcN := 156) jIQ_161_153 rfl rfl (by decide) rfl rfl ?_
  refine jT_xgoto (pcN := 119) jIQ_161_156 rfl ?_
  refine jT_xiload (v := (0, 1)) (pcN := 121) jIQ_161_119 rfl rfl rfl ?_
  refine jT_xbipush (k := 6) (pcN := 123) jIQ_161_121 (by decide) rfl ?_
  refine jT_xicF (t := 159) (pcN := 126) jIQ_161_123 rfl (by decide +kernel) rfl rfl ?_
  refine jT_xaload_n (v := (4, 0)) (pcN := 127) jIQ_161_126 rfl rfl rfl ?_
  refine jT_xgetf (a := 0) (t := 1) (ci := 13) (fi := 7) (c := jzQ_16) (v := (4, 9)) (pcN := 130) jIQ_161_127 rfl rfl rfl rfl rfl rfl rfl ?_
  refine jT_xiload (v := (0, 1)) (pcN := 132) jIQ_161_130 rfl rfl rfl ?_
  refine jT_xaload_n (v := (4, 1)) (pcN := 133) jIQ_161_132 rfl rfl rfl ?_
  refine jT_xgetf (a := 1) (t := 2) (ci := 4) (fi := 0) (c := (4, [(4, 13), (1, 1)], [])) (v := (4, 13)) (pcN := 136) jIQ_161_133 rfl rfl rfl rfl rfl rfl rfl ?_
  refine jT_xiload (v := (0, 1)) (pcN := 138) jIQ_161_136 rfl rfl rfl ?_
  refine jT_lald (x := 0) (a := 13) (j := 1) (fs := []) (X := [0, 0, 0, 0, 0, 0]) jIQ_161_138 rfl rfl rfl rfl ?_
  refine jT_eq (LN := [(7, (0, 1)), (5, (1, q1)), (0, (4, 0)), (1, (0, r7)), (2, (0, r8)), (3, (4, 1)), (4, (0, 0))]) (stN := [(1, 0), (0, 1), (4, 9)]) (hsN := [jzQ_16, (4, [(4, 13), (1, 1)], []), (8, [(4, 14), (4, 15)], []), jgh, jgh, jgh, jgh, jgh, jgh, (101, [], [q1, r7, r8, 0, 0, 0]), jgh, jgh, jgh, (101, [], [0, 0, 0, 0, 0, 0]), jgh, jgh]) rfl rfl rfl ?_
  refine jT_xaload_n (v := (4, 0)) (pcN := 140) jIQ_161_139 rfl rfl rfl ?_
  refine jT_xgetf (a := 0) (t := 1) (ci := 13) (fi := 7) (c := jzQ_16) (v := (4, 9)) (pcN := 143) jIQ_161_140 rfl rfl rfl rfl rfl rfl rfl ?_
  refine jT_xiload (v := (0, 1)) (pcN := 145) jIQ_161_143 rfl rfl rfl ?_
  refine jT_lald (x := r7) (a := 9) (j := 1) (fs := []) (X := [q1, r7, r8, 0, 0, 0]) jIQ_161_145 rfl rfl rfl rfl ?_
  refine jT_eq (LN := [(7, (0, 1)), (5, (1, q1)), (0, (4, 0)), (1, (0, r7)), (2, (0, r8)), (3, (4, 1)), (4, (0, 0))]) (stN := [(1, r7), (1, 0), (0, 1), (4, 9)]) (hsN := [jzQ_16, (4, [(4, 13), (1, 1)], []), (8, [(4, 14), (4, 15)], []), jgh, jgh, jgh, jgh, jgh, jgh, (101, [], [q1, r7, r8, 0, 0, 0]), jgh, jgh, jgh, (101, [], [0, 0, 0, 0, 0, 0]), jgh, jgh]) rfl rfl rfl ?_
  refine jT_xaload_n (v := (4, 1)) (pcN := 147) jIQ_161_146 rfl rfl rfl ?_
  refine jT_xgetf (a := 1) (t := 2) (ci := 4) (fi := 1) (c := (4, [(4, 13), (1, 1)], [])) (v := (1, 1)) (pcN := 150) jIQ_161_147 rfl rfl rfl rfl rfl rfl rfl ?_
  refine jT_xlmul (x := r7) (y := 1) (z := r7) (pcN := 151) jIQ_161_150 rfl (by omega) rfl ?_
  refine jT_xlsub (x := 0) (y := r7) (z := -r7) (pcN := 152) jIQ_161_151 rfl (by omega) rfl ?_
  refine jT_adv 1 (pcN := 153) (LN := [(7, (0, 1)), (5, (1, q1)), (0, (4, 0)), (1, (0, r7)), (2, (0, r8)), (3, (4, 1)), (4, (0, 0))]) (stN := []) (hsN := [jzQ_16, (4, [(4, 13), (1, 1)], []), (8, [(4, 14), (4, 15)], []), jgh, jgh, jgh, jgh, jgh, jgh, (101, [], [q1, -r7, r8, 0, 0, 0]), jgh, jgh, jgh, (101, [], [0, 0, 0, 0, 0, 0]), jgh, jgh]) (c1 := 0) (s1 := 0) (c2 := 0) (s2 := 0) (by exact rfl) ?_ (by omega) (by omega)
  refine jT_xiinc (x := 1) (z := 2) (LN := [(7, (0, 2)), (5, (1, q1)), (0, (4, 0)), (1, (0, r7)), (2, (0, r8)), (3, (4, 1)), (4, (0, 0))]) (pcN := 156) jIQ_161_153 rfl rfl (by decide) rfl rfl ?_
  refine jT_xgoto (pcN := 119) jIQ_161_156 rfl ?_
  refine jT_xiload (v := (0, 2)) (pcN := 121) jIQ_161_119 rfl rfl rfl ?_
  refine jT_xbipush (k := 6) (pcN := 123) jIQ_161_121 (by decide) rfl ?_
  refine jT_xicF (t := 159) (pcN := 126) jIQ_161_123 rfl (by decide +kernel) rfl rfl ?_
  refine jT_xaload_n (v := (4, 0)) (pcN := 127) jIQ_161_126 rfl rfl rfl ?_
  refine jT_xgetf (a := 0) (t := 1) (ci := 13) (fi := 7) (c := jzQ_16) (v := (4, 9)) (pcN := 130) jIQ_161_127 rfl rfl rfl rfl rfl rfl rfl ?_
  refine jT_xiload (v := (0, 2)) (pcN := 132) jIQ_161_130 rfl rfl rfl ?_
  refine jT_xaload_n (v := (4, 1)) (pcN := 133) jIQ_161_132 rfl rfl rfl ?_
  refine jT_xgetf (a := 1) (t := 2) (ci := 4) (fi := 0) (c := (4, [(4, 13), (1, 1)], [])) (v := (4, 13)) (pcN := 136) jIQ_161_133 rfl rfl rfl rfl rfl rfl rfl ?_
  refine jT_xiload (v := (0, 2)) (pcN := 138) jIQ_161_136 rfl rfl rfl ?_
  refine jT_lald (x := 0) (a := 13) (j := 2) (fs := []) (X := [0, 0, 0, 0, 0, 0]) jIQ_161_138 rfl rfl rfl rfl ?_
  refine jT_eq (LN := [(7, (0, 2)), (5, (1, q1)), (0, (4, 0)), (1, (0, r7)), (2, (0, r8)), (3, (4, 1)), (4, (0, 0))]) (stN := [(1, 0), (0, 2), (4, 9)]) (hsN := [jzQ_16, (4, [(4, 13), (1, 1)], []), (8, [(4, 14), (4, 15)], []), jgh, jgh, jgh, jgh, jgh, jgh, (101, [], [q1, -r7, r8, 0, 0, 0]), jgh, jgh, jgh, (101, [], [0, 0, 0, 0, 0, 0]), jgh, jgh]) rfl rfl rfl ?_
  refine jT_xaload_n (v := (4, 0)) (pcN := 140) jIQ_161_139 rfl rfl rfl ?_
  refine jT_xgetf (a := 0) (t := 1) (ci := 13) (fi := 7) (c := jzQ_16) (v := (4, 9)) (pcN := 143) jIQ_161_140 rfl rfl rfl rfl rfl rfl rfl ?_
  refine jT_xiload (v := (0, 2)) (pcN := 145) jIQ_161_143 rfl rfl rfl ?_
  refine jT_lald (x := r8) (a := 9) (j := 2) (fs := []) (X := [q1, -r7, r8, 0, 0, 0]) jIQ_161_145 rfl rfl rfl rfl ?_
  refine jT_eq (LN := [(7, (0, 2)), (5, (1, q1)), (0, (4, 0)), (1, (0, r7)), (2, (0, r8)), (3, (4, 1)), (4, (0, 0))]) (stN := [(1, r8), (1, 0), (0, 2), (4, 9)]) (hsN := [jzQ_16, (4, [(4, 13), (1, 1)], []), (8, [(4, 14), (4, 15)], []), jgh, jgh, jgh, jgh, jgh, jgh, (101, [], [q1, -r7, r8, 0, 0, 0]), jgh, jgh, jgh, (101, [], [0, 0, 0, 0, 0, 0]), jgh, jgh]) rfl rfl rfl ?_
  refine jT_xaload_n (v := (4, 1)) (pcN := 147) jIQ_161_146 rfl rfl rfl ?_
  refine jT_xgetf (a := 1) (t := 2) (ci := 4) (fi := 1) (c := (4, [(4, 13), (1, 1)], [])) (v := (1, 1)) (pcN := 150) jIQ_161_147 rfl rfl rfl rfl rfl rfl rfl ?_
  refine jT_xlmul (x := r8) (y := 1) (z := r8) (pcN := 151) jIQ_161_150 rfl (by omega) rfl ?_
  refine jT_xlsub (x := 0) (y := r8) (z := -r8) (pcN := 152) jIQ_161_151 rfl (by omega) rfl ?_
  refine jT_adv 1 (pcN := 153) (LN := [(7, (0, 2)), (5, (1, q1)), (0, (4, 0)), (1, (0, r7)), (2, (0, r8)), (3, (4, 1)), (4, (0, 0))]) (stN := []) (hsN := [jzQ_16, (4, [(4, 13), (1, 1)], []), (8, [(4, 14), (4, 15)], []), jgh, jgh, jgh, jgh, jgh, jgh, (101, [], [q1, -r7, -r8, 0, 0, 0]), jgh, jgh, jgh, (101, [], [0, 0, 0, 0, 0, 0]), jgh, jgh]) (c1 := 0) (s1 := 0) (c2 := 0) (s2 := 0) (by exact rfl) ?_ (by omega) (by omega)
  refine jT_xiinc (x := 2) (z := 3) (LN := [(7, (0, 3)), (5, (1, q1)), (0, (4, 0)), (1, (0, r7)), (2, (0, r8)), (3, (4, 1)), (4, (0, 0))]) (pcN := 156) jIQ_161_153 rfl rfl (by decide) rfl rfl ?_
  refine jT_xgoto (pcN := 119) jIQ_161_156 rfl ?_
  refine jT_xiload (v := (0, 3)) (pcN := 121) jIQ_161_119 rfl rfl rfl ?_
  refine jT_xbipush (k := 6) (pcN := 123) jIQ_161_121 (by decide) rfl ?_
  refine jT_xicF (t := 159) (pcN := 126) jIQ_161_123 rfl (by decide +kernel) rfl rfl ?_
  refine jT_xaload_n (v := (4, 0)) (pcN := 127) jIQ_161_126 rfl rfl rfl ?_
  refine jT_xgetf (a := 0) (t := 1) (ci := 13) (fi := 7) (c := jzQ_16) (v := (4, 9)) (pcN := 130) jIQ_161_127 rfl rfl rfl rfl rfl rfl rfl ?_
  refine jT_xiload (v := (0, 3)) (pcN := 132) jIQ_161_130 rfl rfl rfl ?_
  refine jT_xaload_n (v := (4, 1)) (pcN := 133) jIQ_161_132 rfl rfl rfl ?_
  refine jT_xgetf (a := 1) (t := 2) (ci := 4) (fi := 0) (c := (4, [(4, 13), (1, 1)], [])) (v := (4, 13)) (pcN := 136) jIQ_161_133 rfl rfl rfl rfl rfl rfl rfl ?_
  refine jT_xiload (v := (0, 3)) (pcN := 138) jIQ_161_136 rfl rfl rfl ?_
  refine jT_lald (x := 0) (a := 13) (j := 3) (fs := []) (X := [0, 0, 0, 0, 0, 0]) jIQ_161_138 rfl rfl rfl rfl ?_
  refine jT_eq (LN := [(7, (0, 3)), (5, (1, q1)), (0, (4, 0)), (1, (0, r7)), (2, (0, r8)), (3, (4, 1)), (4, (0, 0))]) (stN := [(1, 0), (0, 3), (4, 9)]) (hsN := [jzQ_16, (4, [(4, 13), (1, 1)], []), (8, [(4, 14), (4, 15)], []), jgh, jgh, jgh, jgh, jgh, jgh, (101, [], [q1, -r7, -r8, 0, 0, 0]), jgh, jgh, jgh, (101, [], [0, 0, 0, 0, 0, 0]), jgh, jgh]) rfl rfl rfl ?_
  refine jT_xaload_n (v := (4, 0)) (pcN := 140) jIQ_161_139 rfl rfl rfl ?_
  refine jT_xgetf (a := 0) (t := 1) (ci := 13) (fi := 7) (c := jzQ_16) (v := (4, 9)) (pcN := 143) jIQ_161_140 rfl rfl rfl rfl rfl rfl rfl ?_
  refine jT_xiload (v := (0, 3)) (pcN := 145) jIQ_161_143 rfl rfl rfl ?_
  refine jT_lald (x := 0) (a := 9) (j := 3) (fs := []) (X := [q1, -r7, -r8, 0, 0, 0]) jIQ_161_145 rfl rfl rfl rfl ?_
  refine jT_eq (LN := [(7, (0, 3)), (5, (1, q1)), (0, (4, 0)), (1, (0, r7)), (2, (0, r8)), (3, (4, 1)), (4, (0, 0))]) (stN := [(1, 0), (1, 0), (0, 3), (4, 9)]) (hsN := [jzQ_16, (4, [(4, 13), (1, 1)], []), (8, [(4, 14), (4, 15)], []), jgh, jgh, jgh, jgh, jgh, jgh, (101, [], [q1, -r7, -r8, 0, 0, 0]), jgh, jgh, jgh, (101, [], [0, 0, 0, 0, 0, 0]), jgh, jgh]) rfl rfl rfl ?_
  refine jT_xaload_n (v := (4, 1)) (pcN := 147) jIQ_161_146 rfl rfl rfl ?_
  refine jT_xgetf (a := 1) (t := 2) (ci := 4) (fi := 1) (c := (4, [(4, 13), (1, 1)], [])) (v := (1, 1)) (pcN := 150) jIQ_161_147 rfl rfl rfl rfl rfl rfl rfl ?_
  refine jT_xlmul (x := 0) (y := 1) (z := 0) (pcN := 151) jIQ_161_150 rfl (by decide) rfl ?_
  refine jT_xlsub (x := 0) (y := 0) (z := 0) (pcN := 152) jIQ_161_151 rfl (by decide) rfl ?_
  refine jT_adv 1 (pcN := 153) (LN := [(7, (0, 3)), (5, (1, q1)), (0, (4, 0)), (1, (0, r7)), (2, (0, r8)), (3, (4, 1)), (4, (0, 0))]) (stN := []) (hsN := [jzQ_16, (4, [(4, 13), (1, 1)], []), (8, [(4, 14), (4, 15)], []), jgh, jgh, jgh, jgh, jgh, jgh, (101, [], [q1, -r7, -r8, 0, 0, 0]), jgh, jgh, jgh, (101, [], [0, 0, 0, 0, 0, 0]), jgh, jgh]) (c1 := 0) (s1 := 0) (c2 := 0) (s2 := 0) (by exact rfl) ?_ (by omega) (by omega)
  refine jT_xiinc (x := 3) (z := 4) (LN := [(7, (0, 4)), (5, (1, q1)), (0, (4, 0)), (1, (0, r7)), (2, (0, r8)), (3, (4, 1)), (4, (0, 0))]) (pcN := 156) jIQ_161_153 rfl rfl (by decide) rfl rfl ?_
  refine jT_xgoto (pcN := 119) jIQ_161_156 rfl ?_
  refine jT_xiload (v := (0, 4)) (pcN := 121) jIQ_161_119 rfl rfl rfl ?_
  refine jT_xbipush (k := 6) (pcN := 123) jIQ_161_121 (by decide) rfl ?_
  refine jT_xicF (t := 159) (pcN := 126) jIQ_161_123 rfl (by decide +kernel) rfl rfl ?_
  refine jT_xaload_n (v := (4, 0)) (pcN := 127) jIQ_161_126 rfl rfl rfl ?_
  refine jT_xgetf (a := 0) (t := 1) (ci := 13) (fi := 7) (c := jzQ_16) (v := (4, 9)) (pcN := 130) jIQ_161_127 rfl rfl rfl rfl rfl rfl rfl ?_
  refine jT_xiload (v := (0, 4)) (pcN := 132) jIQ_161_130 rfl rfl rfl ?_
  refine jT_xaload_n (v := (4, 1)) (pcN := 133) jIQ_161_132 rfl rfl rfl ?_
  refine jT_xgetf (a := 1) (t := 2) (ci := 4) (fi := 0) (c := (4, [(4, 13), (1, 1)], [])) (v := (4, 13)) (pcN := 136) jIQ_161_133 rfl rfl rfl rfl rfl rfl rfl ?_
  refine jT_xiload (v := (0, 4)) (pcN := 138) jIQ_161_136 rfl rfl rfl ?_
  refine jT_lald (x := 0) (a := 13) (j := 4) (fs := []) (X := [0, 0, 0, 0, 0, 0]) jIQ_161_138 rfl rfl rfl rfl ?_
  refine jT_eq (LN := [(7, (0, 4)), (5, (1, q1)), (0, (4, 0)), (1, (0, r7)), (2, (0, r8)), (3, (4, 1)), (4, (0, 0))]) (stN := [(1, 0), (0, 4), (4, 9)]) (hsN := [jzQ_16, (4, [(4, 13), (1, 1)], []), (8, [(4, 14), (4, 15)], []), jgh, jgh, jgh, jgh, jgh, jgh, (101, [], [q1, -r7, -r8, 0, 0, 0]), jgh, jgh, jgh, (101, [], [0, 0, 0, 0, 0, 0]), jgh, jgh]) rfl rfl rfl ?_
  refine jT_xaload_n (v := (4, 0)) (pcN := 140) jIQ_161_139 rfl rfl rfl ?_
  refine jT_xgetf (a := 0) (t := 1) (ci := 13) (fi := 7) (c := jzQ_16) (v := (4, 9)) (pcN := 143) jIQ_161_140 rfl rfl rfl rfl rfl rfl rfl ?_
  refine jT_xiload (v := (0, 4)) (pcN := 145) jIQ_161_143 rfl rfl rfl ?_
  refine jT_lald (x := 0) (a := 9) (j := 4) (fs := []) (X := [q1, -r7, -r8, 0, 0, 0]) jIQ_161_145 rfl rfl rfl rfl ?_
  refine jT_eq (LN := [(7, (0, 4)), (5, (1, q1)), (0, (4, 0)), (1, (0, r7)), (2, (0, r8)), (3, (4, 1)), (4, (0, 0))]) (stN := [(1, 0), (1, 0), (0, 4), (4, 9)]) (hsN := [jzQ_16, (4, [(4, 13), (1, 1)], []), (8, [(4, 14), (4, 15)], []), jgh, jgh, jgh, jgh, jgh, jgh, (101, [], [q1, -r7, -r8, 0, 0, 0]), jgh, jgh, jgh, (101, [], [0, 0, 0, 0, 0, 0]), jgh, jgh]) rfl rfl rfl ?_
  refine jT_xaload_n (v := (4, 1)) (pcN := 147) jIQ_161_146 rfl rfl rfl ?_
  refine jT_xgetf (a := 1) (t := 2) (ci := 4) (fi := 1) (c := (4, [(4, 13), (1, 1)], [])) (v := (1, 1)) (pcN := 150) jIQ_161_147 rfl rfl rfl rfl rfl rfl rfl ?_
  refine jT_xlmul (x := 0) (y := 1) (z := 0) (pcN := 151) jIQ_161_150 rfl (by decide) rfl ?_
  refine jT_xlsub (x := 0) (y := 0) (z := 0) (pcN := 152) jIQ_161_151 rfl (by decide) rfl ?_
  refine jT_adv 1 (pcN := 153) (LN := [(7, (0, 4)), (5, (1, q1)), (0, (4, 0)), (1, (0, r7)), (2, (0, r8)), (3, (4, 1)), (4, (0, 0))]) (stN := []) (hsN := [jzQ_16, (4, [(4, 13), (1, 1)], []), (8, [(4, 14), (4, 15)], []), jgh, jgh, jgh, jgh, jgh, jgh, (101, [], [q1, -r7, -r8, 0, 0, 0]), jgh, jgh, jgh, (101, [], [0, 0, 0, 0, 0, 0]), jgh, jgh]) (c1 := 0) (s1 := 0) (c2 := 0) (s2 := 0) (by exact rfl) ?_ (by omega) (by omega)
  refine jT_xiinc (x := 4) (z := 5) (LN := [(7, (0, 5)), (5, (1, q1)), (0, (4, 0)), (1, (0, r7)), (2, (0, r8)), (3, (4, 1)), (4, (0, 0))]) (pcN := 156) jIQ_161_153 rfl rfl (by decide) rfl rfl ?_
  refine jT_xgoto (pcN := 119) jIQ_161_156 rfl ?_
  refine jT_xiload (v := (0, 5)) (pcN := 121) jIQ_161_119 rfl rfl rfl ?_
  refine jT_xbipush (k := 6) (pcN := 123) jIQ_161_121 (by decide) rfl ?_
  refine jT_xicF (t := 159) (pcN := 126) jIQ_161_123 rfl (by decide +kernel) rfl rfl ?_
  refine jT_xaload_n (v := (4, 0)) (pcN := 127) jIQ_161_126 rfl rfl rfl ?_
  refine jT_xgetf (a := 0) (t := 1) (ci := 13) (fi := 7) (c := jzQ_16) (v := (4, 9)) (pcN := 130) jIQ_161_127 rfl rfl rfl rfl rfl rfl rfl ?_
  refine jT_xiload (v := (0, 5)) (pcN := 132) jIQ_161_130 rfl rfl rfl ?_
  refine jT_xaload_n (v := (4, 1)) (pcN := 133) jIQ_161_132 rfl rfl rfl ?_
  refine jT_xgetf (a := 1) (t := 2) (ci := 4) (fi := 0) (c := (4, [(4, 13), (1, 1)], [])) (v := (4, 13)) (pcN := 136) jIQ_161_133 rfl rfl rfl rfl rfl rfl rfl ?_
  refine jT_xiload (v := (0, 5)) (pcN := 138) jIQ_161_136 rfl rfl rfl ?_
  refine jT_lald (x := 0) (a := 13) (j := 5) (fs := []) (X := [0, 0, 0, 0, 0, 0]) jIQ_161_138 rfl rfl rfl rfl ?_
  refine jT_eq (LN := [(7, (0, 5)), (5, (1, q1)), (0, (4, 0)), (1, (0, r7)), (2, (0, r8)), (3, (4, 1)), (4, (0, 0))]) (stN := [(1, 0), (0, 5), (4, 9)]) (hsN := [jzQ_16, (4, [(4, 13), (1, 1)], []), (8, [(4, 14), (4, 15)], []), jgh, jgh, jgh, jgh, jgh, jgh, (101, [], [q1, -r7, -r8, 0, 0, 0]), jgh, jgh, jgh, (101, [], [0, 0, 0, 0, 0, 0]), jgh, jgh]) rfl rfl rfl ?_
  refine jT_xaload_n (v := (4, 0)) (pcN := 140) jIQ_161_139 rfl rfl rfl ?_
  refine jT_xgetf (a := 0) (t := 1) (ci := 13) (fi := 7) (c := jzQ_16) (v := (4, 9)) (pcN := 143) jIQ_161_140 rfl rfl rfl rfl rfl rfl rfl ?_
  refine jT_xiload (v := (0, 5)) (pcN := 145) jIQ_161_143 rfl rfl rfl ?_
  refine jT_lald (x := 0) (a := 9) (j := 5) (fs := []) (X := [q1, -r7, -r8, 0, 0, 0]) jIQ_161_145 rfl rfl rfl rfl ?_
  refine jT_eq (LN := [(7, (0, 5)), (5, (1, q1)), (0, (4, 0)), (1, (0, r7)), (2, (0, r8)), (3, (4, 1)), (4, (0, 0))]) (stN := [(1, 0), (1, 0), (0, 5), (4, 9)]) (hsN := [jzQ_16, (4, [(4, 13), (1, 1)], []), (8, [(4, 14), (4, 15)], []), jgh, jgh, jgh, jgh, jgh, jgh, (101, [], [q1, -r7, -r8, 0, 0, 0]), jgh, jgh, jgh, (101, [], [0, 0, 0, 0, 0, 0]), jgh, jgh]) rfl rfl rfl ?_
  refine jT_xaload_n (v := (4, 1)) (pcN := 147) jIQ_161_146 rfl rfl rfl ?_
  refine jT_xgetf (a := 1) (t := 2) (ci := 4) (fi := 1) (c := (4, [(4, 13), (1, 1)], [])) (v := (1, 1)) (pcN := 150) jIQ_161_147 rfl rfl rfl rfl rfl rfl rfl ?_
  refine jT_xlmul (x := 0) (y := 1) (z := 0) (pcN := 151) jIQ_161_150 rfl (by decide) rfl ?_
  refine jT_xlsub (x := 0) (y := 0) (z := 0) (pcN := 152) jIQ_161_151 rfl (by decide) rfl ?_
  refine jT_adv 1 (pcN := 153) (LN := [(7, (0, 5)), (5, (1, q1)), (0, (4, 0)), (1, (0, r7)), (2, (0, r8)), (3, (4, 1)), (4, (0, 0))]) (stN := []) (hsN := [jzQ_16, (4, [(4, 13), (1, 1)], []), (8, [(4, 14), (4, 15)], []), jgh, jgh, jgh, jgh, jgh, jgh, (101, [], [q1, -r7, -r8, 0, 0, 0]), jgh, jgh, jgh, (101, [], [0, 0, 0, 0, 0, 0]), jgh, jgh]) (c1 := 0) (s1 := 0) (c2 := 0) (s2 := 0) (by exact rfl) ?_ (by omega) (by omega)
  refine jT_xiinc (x := 5) (z := 6) (LN := [(7, (0, 6)), (5, (1, q1)), (0, (4, 0)), (1, (0, r7)), (2, (0, r8)), (3, (4, 1)), (4, (0, 0))]) (pcN := 156) jIQ_161_153 rfl rfl (by decide) rfl rfl ?_
  refine jT_xgoto (pcN := 119) jIQ_161_156 rfl ?_
  refine jT_xiload (v := (0, 6)) (pcN := 121) jIQ_161_119 rfl rfl rfl ?_
  refine jT_xbipush (k := 6) (pcN := 123) jIQ_161_121 (by decide) rfl ?_
  refine jT_xicT (pcN := 159) jIQ_161_123 rfl (by decide +kernel) rfl ?_
  refine jT_xaload_n (v := (4, 0)) (pcN := 160) jIQ_161_159 rfl rfl rfl ?_
  refine jT_xgetf (a := 0) (t := 1) (ci := 13) (fi := 0) (c := jzQ_16) (v := (4, 2)) (pcN := 163) jIQ_161_160 rfl rfl rfl rfl rfl rfl rfl ?_
  refine jT_xaload_n (v := (4, 0)) (pcN := 164) jIQ_161_163 rfl rfl rfl ?_
  refine jT_xgetf (a := 0) (t := 1) (ci := 13) (fi := 7) (c := jzQ_16) (v := (4, 9)) (pcN := 167) jIQ_161_164 rfl rfl rfl rfl rfl rfl rfl ?_
  refine jT_callA [2, 9, 14, 15] (y := 38) (pcN := 170) (dC := 1) (bc1 := 0) (bc2 := 0) (c1 := 0) (c2 := 0) (as := [(4, 2), (4, 9)]) (asC := [(4, 0), (4, 1)]) (LN := [(7, (0, 6)), (5, (1, q1)), (0, (4, 0)), (1, (0, r7)), (2, (0, r8)), (3, (4, 1)), (4, (0, 0))]) (stN := []) (hsC := [(8, [(4, 2), (4, 3)], []), (101, [], [q1, -r7, -r8, 0, 0, 0]), jgh, jgh]) (ex := []) (v := (0, (-1))) (st2 := [(0, (-1))]) (hs2 := [jzQ_16, (4, [(4, 13), (1, 1)], []), (8, [(4, 14), (4, 15)], []), jgh, jgh, jgh, jgh, jgh, jgh, (101, [], [q1, -r7, -r8, 0, 0, 0]), jgh, jgh, jgh, (101, [], [0, 0, 0, 0, 0, 0]), jgh, jgh]) (jQl_sp38_117 (d := 0) (by omega) (by omega) (by omega) (by omega) (by omega) (by omega) (by omega)) (by rfl) (by rfl) (by rfl) (by rfl) ⟨rfl, rfl, rfl, rfl, trivial⟩ (by rfl) (by rfl) (by omega) (by show 16 ≤ 16; omega) (by omega) (by omega) rfl rfl ?_
  refine jT_xifT (pcN := 177) jIQ_161_170 rfl (by decide +kernel) rfl ?_
  refine jT_xiconst (k := 0) (pcN := 178) jIQ_161_177 rfl ?_
  subst hq_q1
  exact jT_ret rfl (by decide) (by show 16 ≤ 16; omega) (by omega) (by omega) ⟨rfl, rfl, rfl⟩
theorem jQ_161_123 {xs : List Int} {d : Nat} {r7 r8 u8_0 u8_1 u8_2 u8_3 u8_4 u8_5 : Int} (h_r7 : (-20) ≤ r7 ∧ r7 ≤ 20) (h_r8 : (-10) ≤ r8 ∧ r8 ≤ 10) (g_0 : 0 < r7) : jT xs (d + 2) 161 16 0 [(0, (4, 0)), (1, (0, r7)), (2, (0, r8)), (3, (4, 1)), (4, (0, 0))] [] [jzQ_16, (4, [(4, 13), (1, 1)], []), (8, [(4, 14), (4, 15)], []), jgh, jgh, jgh, jgh, jgh, jgh, (101, [], [u8_0, u8_1, u8_2, u8_3, u8_4, u8_5]), jgh, jgh, jgh, (101, [], [0, 0, 0, 0, 0, 0]), jgh, jgh] 0 0 (fun k v hsN => k = 0 ∧ v = (0, 0) ∧ hsN = [jzQ_16, (4, [(4, 13), (1, 1)], []), (8, [(4, 14), (4, 15)], []), jgh, jgh, jgh, jgh, jgh, jgh, (101, [], [(108917793695 * r7 + 159561683699 * r8) / 68719476736, -r7, -r8, 0, 0, 0]), jgh, jgh, jgh, (101, [], [0, 0, 0, 0, 0, 0]), jgh, jgh]) := by
  refine jT_xiload_n (v := (0, r7)) (pcN := 1) jIQ_161_0 rfl rfl rfl ?_
  refine jT_ifT (a := r7) (t := 10) (by rfl) (by rfl) (by rfl) (jw_idd (by omega) (by omega)) (by simp only [jcP] <;> omega) ?_
  refine jT_xiconst (k := 0) (pcN := 11) jIQ_161_10 rfl ?_
  refine jT_xistore (v := (0, 0)) (LN := [(5, (0, 0)), (0, (4, 0)), (1, (0, r7)), (2, (0, r8)), (3, (4, 1)), (4, (0, 0))]) (pcN := 13) jIQ_161_11 rfl rfl rfl rfl ?_
  refine jT_xiload (v := (0, 0)) (pcN := 15) jIQ_161_13 rfl rfl rfl ?_
  refine jT_xbipush (k := 6) (pcN := 17) jIQ_161_15 (by decide) rfl ?_
  refine jT_xicF (t := 56) (pcN := 20) jIQ_161_17 rfl (by decide +kernel) rfl rfl ?_
  refine jT_xaload_n (v := (4, 0)) (pcN := 21) jIQ_161_20 rfl rfl rfl ?_
  refine jT_xgetf (a := 0) (t := 1) (ci := 13) (fi := 7) (c := jzQ_16) (v := (4, 9)) (pcN := 24) jIQ_161_21 rfl rfl rfl rfl rfl rfl rfl ?_
  refine jT_xiload (v := (0, 0)) (pcN := 26) jIQ_161_24 rfl rfl rfl ?_
  refine jT_xiload (v := (0, 0)) (pcN := 28) jIQ_161_26 rfl rfl rfl ?_
  refine jT_xiconst (k := 1) (pcN := 29) jIQ_161_28 rfl ?_
  refine jT_xicT (pcN := 37) jIQ_161_29 rfl (by decide +kernel) rfl ?_
  refine jT_xiload (v := (0, 0)) (pcN := 39) jIQ_161_37 rfl rfl rfl ?_
  refine jT_xiconst (k := 2) (pcN := 40) jIQ_161_39 rfl ?_
  refine jT_xicT (pcN := 48) jIQ_161_40 rfl (by decide +kernel) rfl ?_
  refine jT_xlconst (z := 0) (pcN := 49) jIQ_161_48 rfl rfl ?_
  refine jT_adv 1 (pcN := 50) (LN := [(5, (0, 0)), (0, (4, 0)), (1, (0, r7)), (2, (0, r8)), (3, (4, 1)), (4, (0, 0))]) (stN := []) (hsN := [jzQ_16, (4, [(4, 13), (1, 1)], []), (8, [(4, 14), (4, 15)], []), jgh, jgh, jgh, jgh, jgh, jgh, (101, [], [0, u8_1, u8_2, u8_3, u8_4, u8_5]), jgh, jgh, jgh, (101, [], [0, 0, 0, 0, 0, 0]), jgh, jgh]) (c1 := 0) (s1 := 0) (c2 := 0) (s2 := 0) (by exact rfl) ?_ (by omega) (by omega)
  refine jT_xiinc (x := 0) (z := 1) (LN := [(5, (0, 1)), (0, (4, 0)), (1, (0, r7)), (2, (0, r8)), (3, (4, 1)), (4, (0, 0))]) (pcN := 53) jIQ_161_50 rfl rfl (by decide) rfl rfl ?_
  refine jT_xgoto (pcN := 13) jIQ_161_53 rfl ?_
  refine jT_xiload (v := (0, 1)) (pcN := 15) jIQ_161_13 rfl rfl rfl ?_
  refine jT_xbipush (k := 6) (pcN := 17) jIQ_161_15 (by decide) rfl ?_
  refine jT_xicF (t := 56) (pcN := 20) jIQ_161_17 rfl (by decide +kernel) rfl rfl ?_
  refine jT_xaload_n (v := (4, 0)) (pcN := 21) jIQ_161_20 rfl rfl rfl ?_
  refine jT_xgetf (a := 0) (t := 1) (ci := 13) (fi := 7) (c := jzQ_16) (v := (4, 9)) (pcN := 24) jIQ_161_21 rfl rfl rfl rfl rfl rfl rfl ?_
  refine jT_xiload (v := (0, 1)) (pcN := 26) jIQ_161_24 rfl rfl rfl ?_
  refine jT_xiload (v := (0, 1)) (pcN := 28) jIQ_161_26 rfl rfl rfl ?_
  refine jT_xiconst (k := 1) (pcN := 29) jIQ_161_28 rfl ?_
  refine jT_xicF (t := 37) (pcN := 32) jIQ_161_29 rfl (by decide +kernel) rfl rfl ?_
  refine jT_xiload_n (v := (0, r7)) (pcN := 33) jIQ_161_32 rfl rfl rfl ?_
  refine jT_xi2l (x := r7) (z := r7) (pcN := 34) jIQ_161_33 rfl (jw_idd (by omega) (by omega)) rfl ?_
  refine jT_xgoto (pcN := 49) jIQ_161_34 rfl ?_
  refine jT_adv 1 (pcN := 50) (LN := [(5, (0, 1)), (0, (4, 0)), (1, (0, r7)), (2, (0, r8)), (3, (4, 1)), (4, (0, 0))]) (stN := []) (hsN := [jzQ_16, (4, [(4, 13), (1, 1)], []), (8, [(4, 14), (4, 15)], []), jgh, jgh, jgh, jgh, jgh, jgh, (101, [], [0, r7, u8_2, u8_3, u8_4, u8_5]), jgh, jgh, jgh, (101, [], [0, 0, 0, 0, 0, 0]), jgh, jgh]) (c1 := 0) (s1 := 0) (c2 := 0) (s2 := 0) (by exact rfl) ?_ (by omega) (by omega)
  refine jT_xiinc (x := 1) (z := 2) (LN := [(5, (0, 2)), (0, (4, 0)), (1, (0, r7)), (2, (0, r8)), (3, (4, 1)), (4, (0, 0))]) (pcN := 53) jIQ_161_50 rfl rfl (by decide) rfl rfl ?_
  refine jT_xgoto (pcN := 13) jIQ_161_53 rfl ?_
  refine jT_xiload (v := (0, 2)) (pcN := 15) jIQ_161_13 rfl rfl rfl ?_
  refine jT_xbipush (k := 6) (pcN := 17) jIQ_161_15 (by decide) rfl ?_
  refine jT_xicF (t := 56) (pcN := 20) jIQ_161_17 rfl (by decide +kernel) rfl rfl ?_
  refine jT_xaload_n (v := (4, 0)) (pcN := 21) jIQ_161_20 rfl rfl rfl ?_
  refine jT_xgetf (a := 0) (t := 1) (ci := 13) (fi := 7) (c := jzQ_16) (v := (4, 9)) (pcN := 24) jIQ_161_21 rfl rfl rfl rfl rfl rfl rfl ?_
  refine jT_xiload (v := (0, 2)) (pcN := 26) jIQ_161_24 rfl rfl rfl ?_
  refine jT_xiload (v := (0, 2)) (pcN := 28) jIQ_161_26 rfl rfl rfl ?_
  refine jT_xiconst (k := 1) (pcN := 29) jIQ_161_28 rfl ?_
  refine jT_xicT (pcN := 37) jIQ_161_29 rfl (by decide +kernel) rfl ?_
  refine jT_xiload (v := (0, 2)) (pcN := 39) jIQ_161_37 rfl rfl rfl ?_
  refine jT_xiconst (k := 2) (pcN := 40) jIQ_161_39 rfl ?_
  refine jT_xicF (t := 48) (pcN := 43) jIQ_161_40 rfl (by decide +kernel) rfl rfl ?_
  refine jT_xiload_n (v := (0, r8)) (pcN := 44) jIQ_161_43 rfl rfl rfl ?_
  refine jT_xi2l (x := r8) (z := r8) (pcN := 45) jIQ_161_44 rfl (jw_idd (by omega) (by omega)) rfl ?_
  refine jT_xgoto (pcN := 49) jIQ_161_45 rfl ?_
  refine jT_adv 1 (pcN := 50) (LN := [(5, (0, 2)), (0, (4, 0)), (1, (0, r7)), (2, (0, r8)), (3, (4, 1)), (4, (0, 0))]) (stN := []) (hsN := [jzQ_16, (4, [(4, 13), (1, 1)], []), (8, [(4, 14), (4, 15)], []), jgh, jgh, jgh, jgh, jgh, jgh, (101, [], [0, r7, r8, u8_3, u8_4, u8_5]), jgh, jgh, jgh, (101, [], [0, 0, 0, 0, 0, 0]), jgh, jgh]) (c1 := 0) (s1 := 0) (c2 := 0) (s2 := 0) (by exact rfl) ?_ (by omega) (by omega)
  refine jT_xiinc (x := 2) (z := 3) (LN := [(5, (0, 3)), (0, (4, 0)), (1, (0, r7)), (2, (0, r8)), (3, (4, 1)), (4, (0, 0))]) (pcN := 53) jIQ_161_50 rfl rfl (by decide) rfl rfl ?_
  refine jT_xgoto (pcN := 13) jIQ_161_53 rfl ?_
  refine jT_xiload (v := (0, 3)) (pcN := 15) jIQ_161_13 rfl rfl rfl ?_
  refine jT_xbipush (k := 6) (pcN := 17) jIQ_161_15 (by decide) rfl ?_
  refine jT_xicF (t := 56) (pcN := 20) jIQ_161_17 rfl (by decide +kernel) rfl rfl ?_
  refine jT_xaload_n (v := (4, 0)) (pcN := 21) jIQ_161_20 rfl rfl rfl ?_
  refine jT_xgetf (a := 0) (t := 1) (ci := 13) (fi := 7) (c := jzQ_16) (v := (4, 9)) (pcN := 24) jIQ_161_21 rfl rfl rfl rfl rfl rfl rfl ?_
  refine jT_xiload (v := (0, 3)) (pcN := 26) jIQ_161_24 rfl rfl rfl ?_
  refine jT_xiload (v := (0, 3)) (pcN := 28) jIQ_161_26 rfl rfl rfl ?_
  refine jT_xiconst (k := 1) (pcN := 29) jIQ_161_28 rfl ?_
  refine jT_xicT (pcN := 37) jIQ_161_29 rfl (by decide +kernel) rfl ?_
  refine jT_xiload (v := (0, 3)) (pcN := 39) jIQ_161_37 rfl rfl rfl ?_
  refine jT_xiconst (k := 2) (pcN := 40) jIQ_161_39 rfl ?_
  refine jT_xicT (pcN := 48) jIQ_161_40 rfl (by decide +kernel) rfl ?_
  refine jT_xlconst (z := 0) (pcN := 49) jIQ_161_48 rfl rfl ?_
  refine jT_adv 1 (pcN := 50) (LN := [(5, (0, 3)), (0, (4, 0)), (1, (0, r7)), (2, (0, r8)), (3, (4, 1)), (4, (0, 0))]) (stN := []) (hsN := [jzQ_16, (4, [(4, 13), (1, 1)], []), (8, [(4, 14), (4, 15)], []), jgh, jgh, jgh, jgh, jgh, jgh, (101, [], [0, r7, r8, 0, u8_4, u8_5]), jgh, jgh, jgh, (101, [], [0, 0, 0, 0, 0, 0]), jgh, jgh]) (c1 := 0) (s1 := 0) (c2 := 0) (s2 := 0) (by exact rfl) ?_ (by omega) (by omega)
  refine jT_xiinc (x := 3) (z := 4) (LN := [(5, (0, 4)), (0, (4, 0)), (1, (0, r7)), (2, (0, r8)), (3, (4, 1)), (4, (0, 0))]) (pcN := 53) jIQ_161_50 rfl rfl (by decide) rfl rfl ?_
  refine jT_xgoto (pcN := 13) jIQ_161_53 rfl ?_
  refine jT_xiload (v := (0, 4)) (pcN := 15) jIQ_161_13 rfl rfl rfl ?_
  refine jT_xbipush (k := 6) (pcN := 17) jIQ_161_15 (by decide) rfl ?_
  refine jT_xicF (t := 56) (pcN := 20) jIQ_161_17 rfl (by decide +kernel) rfl rfl ?_
  refine jT_xaload_n (v := (4, 0)) (pcN := 21) jIQ_161_20 rfl rfl rfl ?_
  refine jT_xgetf (a := 0) (t := 1) (ci := 13) (fi := 7) (c := jzQ_16) (v := (4, 9)) (pcN := 24) jIQ_161_21 rfl rfl rfl rfl rfl rfl rfl ?_
  refine jT_xiload (v := (0, 4)) (pcN := 26) jIQ_161_24 rfl rfl rfl ?_
  refine jT_xiload (v := (0, 4)) (pcN := 28) jIQ_161_26 rfl rfl rfl ?_
  refine jT_xiconst (k := 1) (pcN := 29) jIQ_161_28 rfl ?_
  refine jT_xicT (pcN := 37) jIQ_161_29 rfl (by decide +kernel) rfl ?_
  refine jT_xiload (v := (0, 4)) (pcN := 39) jIQ_161_37 rfl rfl rfl ?_
  refine jT_xiconst (k := 2) (pcN := 40) jIQ_161_39 rfl ?_
  refine jT_xicT (pcN := 48) jIQ_161_40 rfl (by decide +kernel) rfl ?_
  refine jT_xlconst (z := 0) (pcN := 49) jIQ_161_48 rfl rfl ?_
  refine jT_adv 1 (pcN := 50) (LN := [(5, (0, 4)), (0, (4, 0)), (1, (0, r7)), (2, (0, r8)), (3, (4, 1)), (4, (0, 0))]) (stN := []) (hsN := [jzQ_16, (4, [(4, 13), (1, 1)], []), (8, [(4, 14), (4, 15)], []), jgh, jgh, jgh, jgh, jgh, jgh, (101, [], [0, r7, r8, 0, 0, u8_5]), jgh, jgh, jgh, (101, [], [0, 0, 0, 0, 0, 0]), jgh, jgh]) (c1 := 0) (s1 := 0) (c2 := 0) (s2 := 0) (by exact rfl) ?_ (by omega) (by omega)
  refine jT_xiinc (x := 4) (z := 5) (LN := [(5, (0, 5)), (0, (4, 0)), (1, (0, r7)), (2, (0, r8)), (3, (4, 1)), (4, (0, 0))]) (pcN := 53) jIQ_161_50 rfl rfl (by decide) rfl rfl ?_
  refine jT_xgoto (pcN := 13) jIQ_161_53 rfl ?_
  refine jT_xiload (v := (0, 5)) (pcN := 15) jIQ_161_13 rfl rfl rfl ?_
  refine jT_xbipush (k := 6) (pcN := 17) jIQ_161_15 (by decide) rfl ?_
  refine jT_xicF (t := 56) (pcN := 20) jIQ_161_17 rfl (by decide +kernel) rfl rfl ?_
  refine jT_xaload_n (v := (4, 0)) (pcN := 21) jIQ_161_20 rfl rfl rfl ?_
  refine jT_xgetf (a := 0) (t := 1) (ci := 13) (fi := 7) (c := jzQ_16) (v := (4, 9)) (pcN := 24) jIQ_161_21 rfl rfl rfl rfl rfl rfl rfl ?_
  refine jT_xiload (v := (0, 5)) (pcN := 26) jIQ_161_24 rfl rfl rfl ?_
  refine jT_xiload (v := (0, 5)) (pcN := 28) jIQ_161_26 rfl rfl rfl ?_
  refine jT_xiconst (k := 1) (pcN := 29) jIQ_161_28 rfl ?_
  refine jT_xicT (pcN := 37) jIQ_161_29 rfl (by decide +kernel) rfl ?_
  refine jT_xiload (v := (0, 5)) (pcN := 39) jIQ_161_37 rfl rfl rfl ?_
  refine jT_xiconst (k := 2) (pcN := 40) jIQ_161_39 rfl ?_
  refine jT_xicT (pcN := 48) jIQ_161_40 rfl (by decide +kernel) rfl ?_
  refine jT_xlconst (z := 0) (pcN := 49) jIQ_161_48 rfl rfl ?_
  refine jT_adv 1 (pcN := 50) (LN := [(5, (0, 5)), (0, (4, 0)), (1, (0, r7)), (2, (0, r8)), (3, (4, 1)), (4, (0, 0))]) (stN := []) (hsN := [jzQ_16, (4, [(4, 13), (1, 1)], []), (8, [(4, 14), (4, 15)], []), jgh, jgh, jgh, jgh, jgh, jgh, (101, [], [0, r7, r8, 0, 0, 0]), jgh, jgh, jgh, (101, [], [0, 0, 0, 0, 0, 0]), jgh, jgh]) (c1 := 0) (s1 := 0) (c2 := 0) (s2 := 0) (by exact rfl) ?_ (by omega) (by omega)
  refine jT_xiinc (x := 5) (z := 6) (LN := [(5, (0, 6)), (0, (4, 0)), (1, (0, r7)), (2, (0, r8)), (3, (4, 1)), (4, (0, 0))]) (pcN := 53) jIQ_161_50 rfl rfl (by decide) rfl rfl ?_
  refine jT_xgoto (pcN := 13) jIQ_161_53 rfl ?_
  refine jT_xiload (v := (0, 6)) (pcN := 15) jIQ_161_13 rfl rfl rfl ?_
  refine jT_xbipush (k := 6) (pcN := 17) jIQ_161_15 (by decide) rfl ?_
  refine jT_xicT (pcN := 56) jIQ_161_17 rfl (by decide +kernel) rfl ?_
  refine jT_xaload_n (v := (4, 0)) (pcN := 57) jIQ_161_56 rfl rfl rfl ?_
  refine jT_xgetf (a := 0) (t := 1) (ci := 13) (fi := 0) (c := jzQ_16) (v := (4, 2)) (pcN := 60) jIQ_161_57 rfl rfl rfl rfl rfl rfl rfl ?_
  refine jT_xaload_n (v := (4, 0)) (pcN := 61) jIQ_161_60 rfl rfl rfl ?_
  refine jT_xgetf (a := 0) (t := 1) (ci := 13) (fi := 7) (c := jzQ_16) (v := (4, 9)) (pcN := 64) jIQ_161_61 rfl rfl rfl rfl rfl rfl rfl ?_
  refine jT_xlconst (z := 1) (pcN := 65) jIQ_161_64 rfl rfl ?_
  refine jT_xlconst (z := 1) (pcN := 66) jIQ_161_65 rfl rfl ?_
  refine jT_callA [2, 9, 14, 15] (y := 45) (pcN := 69) (dC := 1) (bc1 := 0) (bc2 := 0) (c1 := 0) (c2 := 0) (as := [(4, 2), (4, 9), (1, 1), (1, 1)]) (asC := [(4, 0), (4, 1), (1, 1), (1, 1)]) (LN := [(5, (0, 6)), (0, (4, 0)), (1, (0, r7)), (2, (0, r8)), (3, (4, 1)), (4, (0, 0))]) (stN := []) (hsC := [(8, [(4, 2), (4, 3)], []), (101, [], [0, r7, r8, 0, 0, 0]), jgh, jgh]) (ex := []) (v := (1, (108917793695 * r7 + 159561683699 * r8) / 68719476736)) (st2 := [(1, (108917793695 * r7 + 159561683699 * r8) / 68719476736)]) (hs2 := [jzQ_16, (4, [(4, 13), (1, 1)], []), (8, [(4, 14), (4, 15)], []), jgh, jgh, jgh, jgh, jgh, jgh, (101, [], [0, r7, r8, 0, 0, 0]), jgh, jgh, jgh, (101, [], [0, 0, 0, 0, 0, 0]), jgh, jgh]) (jQl_sp45_116 (d := 0) (by omega) (by omega)) (by rfl) (by rfl) (by rfl) (by rfl) ⟨rfl, rfl, rfl, rfl, trivial⟩ (by rfl) (by rfl) (by omega) (by show 16 ≤ 16; omega) (by omega) (by omega) rfl rfl ?_
  have hb_q1 : (-60) ≤ (108917793695 * r7 + 159561683699 * r8) / 68719476736 ∧ (108917793695 * r7 + 159561683699 * r8) / 68719476736 ≤ 60 := ⟨by omega, by omega⟩
  generalize hq_q1 : (108917793695 * r7 + 159561683699 * r8) / 68719476736 = q1 at hb_q1 ⊢
  refine jT_xlstore (v := (1, q1)) (LN := [(5, (1, q1)), (0, (4, 0)), (1, (0, r7)), (2, (0, r8)), (3, (4, 1)), (4, (0, 0))]) (pcN := 71) jIQ_161_69 rfl rfl rfl rfl ?_
  have g_1 : 0 ≤ (-68719476736) * q1 + 108917793694 * r7 + 159561683698 * r8 - 1 := by have := jcg (b := r7) (c := r8) (by omega) (by omega) (by omega); rw [hq_q1] at this; omega
  have g_2 : 0 ≤ (-68719476736) * q1 + 108917793694 * r7 + 159561683700 * r8 - 1 := by have := jcg (b := r7) (c := r8) (by omega) (by omega) (by omega); rw [hq_q1] at this; omega
  have g_3 : 0 ≤ (-68719476736) * q1 + 108917793696 * r7 + 159561683698 * r8 - 1 := by have := jcg (b := r7) (c := r8) (by omega) (by omega) (by omega); rw [hq_q1] at this; omega
  have g_4 : 0 ≤ (-68719476736) * q1 + 108917793696 * r7 + 159561683700 * r8 - 1 := by have := jcg (b := r7) (c := r8) (by omega) (by omega) (by omega); rw [hq_q1] at this; omega
  refine jT_xiload (v := (0, 0)) (pcN := 73) jIQ_161_71 rfl rfl rfl ?_
  refine jT_xifT (pcN := 107) jIQ_161_73 rfl (by decide +kernel) rfl ?_
  refine jT_xaload_n (v := (4, 0)) (pcN := 108) jIQ_161_107 rfl rfl rfl ?_
  refine jT_xgetf (a := 0) (t := 1) (ci := 13) (fi := 7) (c := jzQ_16) (v := (4, 9)) (pcN := 111) jIQ_161_108 rfl rfl rfl rfl rfl rfl rfl ?_
  refine jT_xiconst (k := 0) (pcN := 112) jIQ_161_111 rfl ?_
  refine jT_xlload (v := (1, q1)) (pcN := 114) jIQ_161_112 rfl rfl rfl ?_
  refine jT_adv 2 (pcN := 116) (LN := [(5, (1, q1)), (0, (4, 0)), (1, (0, r7)), (2, (0, r8)), (3, (4, 1)), (4, (0, 0))]) (stN := []) (hsN := [jzQ_16, (4, [(4, 13), (1, 1)], []), (8, [(4, 14), (4, 15)], []), jgh, jgh, jgh, jgh, jgh, jgh, (101, [], [-q1, r7, r8, 0, 0, 0]), jgh, jgh, jgh, (101, [], [0, 0, 0, 0, 0, 0]), jgh, jgh]) (c1 := 0) (s1 := 0) (c2 := 0) (s2 := 0) (by exact rfl) ?_ (by omega) (by omega)
  refine jT_xiconst (k := 0) (pcN := 117) jIQ_161_116 rfl ?_
  refine jT_xistore (v := (0, 0)) (LN := [(7, (0, 0)), (5, (1, q1)), (0, (4, 0)), (1, (0, r7)), (2, (0, r8)), (3, (4, 1)), (4, (0, 0))]) (pcN := 119) jIQ_161_117 rfl rfl rfl rfl ?_
  refine jT_xiload (v := (0, 0)) (pcN := 121) jIQ_161_119 rfl rfl rfl ?_
  refine jT_xbipush (k := 6) (pcN := 123) jIQ_161_121 (by decide) rfl ?_
  refine jT_xicF (t := 159) (pcN := 126) jIQ_161_123 rfl (by decide +kernel) rfl rfl ?_
  refine jT_xaload_n (v := (4, 0)) (pcN := 127) jIQ_161_126 rfl rfl rfl ?_
  refine jT_xgetf (a := 0) (t := 1) (ci := 13) (fi := 7) (c := jzQ_16) (v := (4, 9)) (pcN := 130) jIQ_161_127 rfl rfl rfl rfl rfl rfl rfl ?_
  refine jT_xiload (v := (0, 0)) (pcN := 132) jIQ_161_130 rfl rfl rfl ?_
  refine jT_xaload_n (v := (4, 1)) (pcN := 133) jIQ_161_132 rfl rfl rfl ?_
  refine jT_xgetf (a := 1) (t := 2) (ci := 4) (fi := 0) (c := (4, [(4, 13), (1, 1)], [])) (v := (4, 13)) (pcN := 136) jIQ_161_133 rfl rfl rfl rfl rfl rfl rfl ?_
  refine jT_xiload (v := (0, 0)) (pcN := 138) jIQ_161_136 rfl rfl rfl ?_
  refine jT_lald (x := 0) (a := 13) (j := 0) (fs := []) (X := [0, 0, 0, 0, 0, 0]) jIQ_161_138 rfl rfl rfl rfl ?_
  refine jT_eq (LN := [(7, (0, 0)), (5, (1, q1)), (0, (4, 0)), (1, (0, r7)), (2, (0, r8)), (3, (4, 1)), (4, (0, 0))]) (stN := [(1, 0), (0, 0), (4, 9)]) (hsN := [jzQ_16, (4, [(4, 13), (1, 1)], []), (8, [(4, 14), (4, 15)], []), jgh, jgh, jgh, jgh, jgh, jgh, (101, [], [-q1, r7, r8, 0, 0, 0]), jgh, jgh, jgh, (101, [], [0, 0, 0, 0, 0, 0]), jgh, jgh]) rfl rfl rfl ?_
  refine jT_xaload_n (v := (4, 0)) (pcN := 140) jIQ_161_139 rfl rfl rfl ?_
  refine jT_xgetf (a := 0) (t := 1) (ci := 13) (fi := 7) (c := jzQ_16) (v := (4, 9)) (pcN := 143) jIQ_161_140 rfl rfl rfl rfl rfl rfl rfl ?_
  refine jT_xiload (v := (0, 0)) (pcN := 145) jIQ_161_143 rfl rfl rfl ?_
  refine jT_lald (x := -q1) (a := 9) (j := 0) (fs := []) (X := [-q1, r7, r8, 0, 0, 0]) jIQ_161_145 rfl rfl rfl rfl ?_
  refine jT_eq (LN := [(7, (0, 0)), (5, (1, q1)), (0, (4, 0)), (1, (0, r7)), (2, (0, r8)), (3, (4, 1)), (4, (0, 0))]) (stN := [(1, -q1), (1, 0), (0, 0), (4, 9)]) (hsN := [jzQ_16, (4, [(4, 13), (1, 1)], []), (8, [(4, 14), (4, 15)], []), jgh, jgh, jgh, jgh, jgh, jgh, (101, [], [-q1, r7, r8, 0, 0, 0]), jgh, jgh, jgh, (101, [], [0, 0, 0, 0, 0, 0]), jgh, jgh]) rfl rfl rfl ?_
  refine jT_xaload_n (v := (4, 1)) (pcN := 147) jIQ_161_146 rfl rfl rfl ?_
  refine jT_xgetf (a := 1) (t := 2) (ci := 4) (fi := 1) (c := (4, [(4, 13), (1, 1)], [])) (v := (1, 1)) (pcN := 150) jIQ_161_147 rfl rfl rfl rfl rfl rfl rfl ?_
  refine jT_xlmul (x := -q1) (y := 1) (z := -q1) (pcN := 151) jIQ_161_150 rfl (by omega) rfl ?_
  refine jT_xlsub (x := 0) (y := -q1) (z := q1) (pcN := 152) jIQ_161_151 rfl (by omega) rfl ?_
  refine jT_adv 1 (pcN := 153) (LN := [(7, (0, 0)), (5, (1, q1)), (0, (4, 0)), (1, (0, r7)), (2, (0, r8)), (3, (4, 1)), (4, (0, 0))]) (stN := []) (hsN := [jzQ_16, (4, [(4, 13), (1, 1)], []), (8, [(4, 14), (4, 15)], []), jgh, jgh, jgh, jgh, jgh, jgh, (101, [], [q1, r7, r8, 0, 0, 0]), jgh, jgh, jgh, (101, [], [0, 0, 0, 0, 0, 0]), jgh, jgh]) (c1 := 0) (s1 := 0) (c2 := 0) (s2 := 0) (by exact rfl) ?_ (by omega) (by omega)
  refine jT_xiinc (x := 0) (z := 1) (LN := [(7, (0, 1)), (5, (1, q1)), (0, (4, 0)), (1, (0, r7)), (2, (0, r8)), (3, (4, 1)), (4, (0, 0))]) (pcN := 156) jIQ_161_153 rfl rfl (by decide) rfl rfl ?_
  refine jT_xgoto (pcN := 119) jIQ_161_156 rfl ?_
  refine jT_xiload (v := (0, 1)) (pcN := 121) jIQ_161_119 rfl rfl rfl ?_
  refine jT_xbipush (k := 6) (pcN := 123) jIQ_161_121 (by decide) rfl ?_
  refine jT_xicF (t := 159) (pcN := 126) jIQ_161_123 rfl (by decide +kernel) rfl rfl ?_
  refine jT_xaload_n (v := (4, 0)) (pcN := 127) jIQ_161_126 rfl rfl rfl ?_
  refine jT_xgetf (a := 0) (t := 1) (ci := 13) (fi := 7) (c := jzQ_16) (v := (4, 9)) (pcN := 130) jIQ_161_127 rfl rfl rfl rfl rfl rfl rfl ?_
  refine jT_xiload (v := (0, 1)) (pcN := 132) jIQ_161_130 rfl rfl rfl ?_
  refine jT_xaload_n (v := (4, 1)) (pcN := 133) jIQ_161_132 rfl rfl rfl ?_
  refine jT_xgetf (a := 1) (t := 2) (ci := 4) (fi := 0) (c := (4, [(4, 13), (1, 1)], [])) (v := (4, 13)) (pcN := 136) jIQ_161_133 rfl rfl rfl rfl rfl rfl rfl ?_
  refine jT_xiload (v := (0, 1)) (pcN := 138) jIQ_161_136 rfl rfl rfl ?_
  refine jT_lald (x := 0) (a := 13) (j := 1) (fs := []) (X := [0, 0, 0, 0, 0, 0]) jIQ_161_138 rfl rfl rfl rfl ?_
  refine jT_eq (LN := [(7, (0, 1)), (5, (1, q1)), (0, (4, 0)), (1, (0, r7)), (2, (0, r8)), (3, (4, 1)), (4, (0, 0))]) (stN := [(1, 0), (0, 1), (4, 9)]) (hsN := [jzQ_16, (4, [(4, 13), (1, 1)], []), (8, [(4, 14), (4, 15)], []), jgh, jgh, jgh, jgh, jgh, jgh, (101, [], [q1, r7, r8, 0, 0, 0]), jgh, jgh, jgh, (101, [], [0, 0, 0, 0, 0, 0]), jgh, jgh]) rfl rfl rfl ?_
  refine jT_xaload_n (v := (4, 0)) (pcN := 140) jIQ_161_139 rfl rfl rfl ?_
  refine jT_xgetf (a := 0) (t := 1) (ci := 13) (fi := 7) (c := jzQ_16) (v := (4, 9)) (pcN := 143) jIQ_161_140 rfl rfl rfl rfl rfl rfl rfl ?_
  refine jT_xiload (v := (0, 1)) (pcN := 145) jIQ_161_143 rfl rfl rfl ?_
  refine jT_lald (x := r7) (a := 9) (j := 1) (fs := []) (X := [q1, r7, r8, 0, 0, 0]) jIQ_161_145 rfl rfl rfl rfl ?_
  refine jT_eq (LN := [(7, (0, 1)), (5, (1, q1)), (0, (4, 0)), (1, (0, r7)), (2, (0, r8)), (3, (4, 1)), (4, (0, 0))]) (stN := [(1, r7), (1, 0), (0, 1), (4, 9)]) (hsN := [jzQ_16, (4, [(4, 13), (1, 1)], []), (8, [(4, 14), (4, 15)], []), jgh, jgh, jgh, jgh, jgh, jgh, (101, [], [q1, r7, r8, 0, 0, 0]), jgh, jgh, jgh, (101, [], [0, 0, 0, 0, 0, 0]), jgh, jgh]) rfl rfl rfl ?_
  refine jT_xaload_n (v := (4, 1)) (pcN := 147) jIQ_161_146 rfl rfl rfl ?_
  refine jT_xgetf (a := 1) (t := 2) (ci := 4) (fi := 1) (c := (4, [(4, 13), (1, 1)], [])) (v := (1, 1)) (pcN := 150) jIQ_161_147 rfl rfl rfl rfl rfl rfl rfl ?_
  refine jT_xlmul (x := r7) (y := 1) (z := r7) (pcN := 151) jIQ_161_150 rfl (by omega) rfl ?_
  refine jT_xlsub (x := 0) (y := r7) (z := -r7) (pcN := 152) jIQ_161_151 rfl (by omega) rfl ?_
  refine jT_adv 1 (pcN := 153) (LN := [(7, (0, 1)), (5, (1, q1)), (0, (4, 0)), (1, (0, r7)), (2, (0, r8)), (3, (4, 1)), (4, (0, 0))]) (stN := []) (hsN := [jzQ_16, (4, [(4, 13), (1, 1)], []), (8, [(4, 14), (4, 15)], []), jgh, jgh, jgh, jgh, jgh, jgh, (101, [], [q1, -r7, r8, 0, 0, 0]), jgh, jgh, jgh, (101, [], [0, 0, 0, 0, 0, 0]), jgh, jgh]) (c1 := 0) (s1 := 0) (c2 := 0) (s2 := 0) (by exact rfl) ?_ (by omega) (by omega)
  refine jT_xiinc (x := 1) (z := 2) (LN := [(7, (0, 2)), (5, (1, q1)), (0, (4, 0)), (1, (0, r7)), (2, (0, r8)), (3, (4, 1)), (4, (0, 0))]) (pcN := 156) jIQ_161_153 rfl rfl (by decide) rfl rfl ?_
  refine jT_xgoto (pcN := 119) jIQ_161_156 rfl ?_
  refine jT_xiload (v := (0, 2)) (pcN := 121) jIQ_161_119 rfl rfl rfl ?_
  refine jT_xbipush (k := 6) (pcN := 123) jIQ_161_121 (by decide) rfl ?_
  refine jT_xicF (t := 159) (pcN := 126) jIQ_161_123 rfl (by decide +kernel) rfl rfl ?_
  refine jT_xaload_n (v := (4, 0)) (pcN := 127) jIQ_161_126 rfl rfl rfl ?_
  refine jT_xgetf (a := 0) (t := 1) (ci := 13) (fi := 7) (c := jzQ_16) (v := (4, 9)) (pcN := 130) jIQ_161_127 rfl rfl rfl rfl rfl rfl rfl ?_
  refine jT_xiload (v := (0, 2)) (pcN := 132) jIQ_161_130 rfl rfl rfl ?_
  refine jT_xaload_n (v := (4, 1)) (pcN := 133) jIQ_161_132 rfl rfl rfl ?_
  refine jT_xgetf (a := 1) (t := 2) (ci := 4) (fi := 0) (c := (4, [(4, 13), (1, 1)], [])) (v := (4, 13)) (pcN := 136) jIQ_161_133 rfl rfl rfl rfl rfl rfl rfl ?_
  refine jT_xiload (v := (0, 2)) (pcN := 138) jIQ_161_136 rfl rfl rfl ?_
  refine jT_lald (x := 0) (a := 13) (j := 2) (fs := []) (X := [0, 0, 0, 0, 0, 0]) jIQ_161_138 rfl rfl rfl rfl ?_
  refine jT_eq (LN := [(7, (0, 2)), (5, (1, q1)), (0, (4, 0)), (1, (0, r7)), (2, (0, r8)), (3, (4, 1)), (4, (0, 0))]) (stN := [(1, 0), (0, 2), (4, 9)]) (hsN := [jzQ_16, (4, [(4, 13), (1, 1)], []), (8, [(4, 14), (4, 15)], []), jgh, jgh, jgh, jgh, jgh, jgh, (101, [], [q1, -r7, r8, 0, 0, 0]), jgh, jgh, jgh, (101, [], [0, 0, 0, 0, 0, 0]), jgh, jgh]) rfl rfl rfl ?_
  refine jT_xaload_n (v := (4, 0)) (pcN := 140) jIQ_161_139 rfl rfl rfl ?_
  refine jT_xgetf (a := 0) (t := 1) (ci := 13) (fi := 7) (c := jzQ_16) (v := (4, 9)) (pcN := 143) jIQ_161_140 rfl rfl rfl rfl rfl rfl rfl ?_
  refine jT_xiload (v := (0, 2)) (pcN := 145) jIQ_161_143 rfl rfl rfl ?_
  refine jT_lald (x := r8) (a := 9) (j := 2) (fs := []) (X := [q1, -r7, r8, 0, 0, 0]) jIQ_161_145 rfl rfl rfl rfl ?_
  refine jT_eq (LN := [(7, (0, 2)), (5, (1, q1)), (0, (4, 0)), (1, (0, r7)), (2, (0, r8)), (3, (4, 1)), (4, (0, 0))]) (stN := [(1, r8), (1, 0), (0, 2), (4, 9)]) (hsN := [jzQ_16, (4, [(4, 13), (1, 1)], []), (8, [(4, 14), (4, 15)], []), jgh, jgh, jgh, jgh, jgh, jgh, (101, [], [q1, -r7, r8, 0, 0, 0]), jgh, jgh, jgh, (101, [], [0, 0, 0, 0, 0, 0]), jgh, jgh]) rfl rfl rfl ?_
  refine jT_xaload_n (v := (4, 1)) (pcN := 147) jIQ_161_146 rfl rfl rfl ?_
  refine jT_xgetf (a := 1) (t := 2) (ci := 4) (fi := 1) (c := (4, [(4, 13), (1, 1)], [])) (v := (1, 1)) (pcN := 150) jIQ_161_147 rfl rfl rfl rfl rfl rfl rfl ?_
  refine jT_xlmul (x := r8) (y := 1) (z := r8) (pcN := 151) jIQ_161_150 rfl (by omega) rfl ?_
  refine jT_xlsub (x := 0) (y := r8) (z := -r8) (pcN := 152) jIQ_161_151 rfl (by omega) rfl ?_
  refine jT_adv 1 (pcN := 153) (LN := [(7, (0, 2)), (5, (1, q1)), (0, (4, 0)), (1, (0, r7)), (2, (0, r8)), (3, (4, 1)), (4, (0, 0))]) (stN := []) (hsN := [jzQ_16, (4, [(4, 13), (1, 1)], []), (8, [(4, 14), (4, 15)], []), jgh, jgh, jgh, jgh, jgh, jgh, (101, [], [q1, -r7, -r8, 0, 0, 0]), jgh, jgh, jgh, (101, [], [0, 0, 0, 0, 0, 0]), jgh, jgh]) (c1 := 0) (s1 := 0) (c2 := 0) (s2 := 0) (by exact rfl) ?_ (by omega) (by omega)
  refine jT_xiinc (x := 2) (z := 3) (LN := [(7, (0, 3)), (5, (1, q1)), (0, (4, 0)), (1, (0, r7)), (2, (0, r8)), (3, (4, 1)), (4, (0, 0))]) (pcN := 156) jIQ_161_153 rfl rfl (by decide) rfl rfl ?_
  refine jT_xgoto (pcN := 119) jIQ_161_156 rfl ?_
  refine jT_xiload (v := (0, 3)) (pcN := 121) jIQ_161_119 rfl rfl rfl ?_
  refine jT_xbipush (k := 6) (pcN := 123) jIQ_161_121 (by decide) rfl ?_
  refine jT_xicF (t := 159) (pcN := 126) jIQ_161_123 rfl (by decide +kernel) rfl rfl ?_
  refine jT_xaload_n (v := (4, 0)) (pcN := 127) jIQ_161_126 rfl rfl rfl ?_
  refine jT_xgetf (a := 0) (t := 1) (ci := 13) (fi := 7) (c := jzQ_16) (v := (4, 9)) (pcN := 130) jIQ_161_127 rfl rfl rfl rfl rfl rfl rfl ?_
  refine jT_xiload (v := (0, 3)) (pcN := 132) jIQ_161_130 rfl rfl rfl ?_
  refine jT_xaload_n (v := (4, 1)) (pcN := 133) jIQ_161_132 rfl rfl rfl ?_
  refine jT_xgetf (a := 1) (t := 2) (ci := 4) (fi := 0) (c := (4, [(4, 13), (1, 1)], [])) (v := (4, 13)) (pcN := 136) jIQ_161_133 rfl rfl rfl rfl rfl rfl rfl ?_
  refine jT_xiload (v := (0, 3)) (pcN := 138) jIQ_161_136 rfl rfl rfl ?_
  refine jT_lald (x := 0) (a := 13) (j := 3) (fs := []) (X := [0, 0, 0, 0, 0, 0]) jIQ_161_138 rfl rfl rfl rfl ?_
  refine jT_eq (LN := [(7, (0, 3)), (5, (1, q1)), (0, (4, 0)), (1, (0, r7)), (2, (0, r8)), (3, (4, 1)), (4, (0, 0))]) (stN := [(1, 0), (0, 3), (4, 9)]) (hsN := [jzQ_16, (4, [(4, 13), (1, 1)], []), (8, [(4, 14), (4, 15)], []), jgh, jgh, jgh, jgh, jgh, jgh, (101, [], [q1, -r7, -r8, 0, 0, 0]), jgh, jgh, jgh, (101, [], [0, 0, 0, 0, 0, 0]), jgh, jgh]) rfl rfl rfl ?_
  refine jT_xaload_n (v := (4, 0)) (pcN := 140) jIQ_161_139 rfl rfl rfl ?_
  refine jT_xgetf (a := 0) (t := 1) (ci := 13) (fi := 7) (c := jzQ_16) (v := (4, 9)) (pcN := 143) jIQ_161_140 rfl rfl rfl rfl rfl rfl rfl ?_
  refine jT_xiload (v := (0, 3)) (pcN := 145) jIQ_161_143 rfl rfl rfl ?_
  refine jT_lald (x := 0) (a := 9) (j := 3) (fs := []) (X := [q1, -r7, -r8, 0, 0, 0]) jIQ_161_145 rfl rfl rfl rfl ?_
  refine jT_eq (LN := [(7, (0, 3)), (5, (1, q1)), (0, (4, 0)), (1, (0, r7)), (2, (0, r8)), (3, (4, 1)), (4, (0, 0))]) (stN := [(1, 0), (1, 0), (0, 3), (4, 9)]) (hsN := [jzQ_16, (4, [(4, 13), (1, 1)], []), (8, [(4, 14), (4, 15)], []), jgh, jgh, jgh, jgh, jgh, jgh, (101, [], [q1, -r7, -r8, 0, 0, 0]), jgh, jgh, jgh, (101, [], [0, 0, 0, 0, 0, 0]), jgh, jgh]) rfl rfl rfl ?_
  refine jT_xaload_n (v := (4, 1)) (pcN := 147) jIQ_161_146 rfl rfl rfl ?_
  refine jT_xgetf (a := 1) (t := 2) (ci := 4) (fi := 1) (c := (4, [(4, 13), (1, 1)], [])) (v := (1, 1)) (pcN := 150) jIQ_161_147 rfl rfl rfl rfl rfl rfl rfl ?_
  refine jT_xlmul (x := 0) (y := 1) (z := 0) (pcN := 151) jIQ_161_150 rfl (by decide) rfl ?_
  refine jT_xlsub (x := 0) (y := 0) (z := 0) (pcN := 152) jIQ_161_151 rfl (by decide) rfl ?_
  refine jT_adv 1 (pcN := 153) (LN := [(7, (0, 3)), (5, (1, q1)), (0, (4, 0)), (1, (0, r7)), (2, (0, r8)), (3, (4, 1)), (4, (0, 0))]) (stN := []) (hsN := [jzQ_16, (4, [(4, 13), (1, 1)], []), (8, [(4, 14), (4, 15)], []), jgh, jgh, jgh, jgh, jgh, jgh, (101, [], [q1, -r7, -r8, 0, 0, 0]), jgh, jgh, jgh, (101, [], [0, 0, 0, 0, 0, 0]), jgh, jgh]) (c1 := 0) (s1 := 0) (c2 := 0) (s2 := 0) (by exact rfl) ?_ (by omega) (by omega)
  refine jT_xiinc (x := 3) (z := 4) (LN := [(7, (0, 4)), (5, (1, q1)), (0, (4, 0)), (1, (0, r7)), (2, (0, r8)), (3, (4, 1)), (4, (0, 0))]) (pcN := 156) jIQ_161_153 rfl rfl (by decide) rfl rfl ?_
  refine jT_xgoto (pcN := 119) jIQ_161_156 rfl ?_
  refine jT_xiload (v := (0, 4)) (pcN := 121) jIQ_161_119 rfl rfl rfl ?_
  refine jT_xbipush (k := 6) (pcN := 123) jIQ_161_121 (by decide) rfl ?_
  refine jT_xicF (t := 159) (pcN := 126) jIQ_161_123 rfl (by decide +kernel) rfl rfl ?_
  refine jT_xaload_n (v := (4, 0)) (pcN := 127) jIQ_161_126 rfl rfl rfl ?_
  refine jT_xgetf (a := 0) (t := 1) (ci := 13) (fi := 7) (c := jzQ_16) (v := (4, 9)) (pcN := 130) jIQ_161_127 rfl rfl rfl rfl rfl rfl rfl ?_
  refine jT_xiload (v := (0, 4)) (pcN := 132) jIQ_161_130 rfl rfl rfl ?_
  refine jT_xaload_n (v := (4, 1)) (pcN := 133) jIQ_161_132 rfl rfl rfl ?_
  refine jT_xgetf (a := 1) (t := 2) (ci := 4) (fi := 0) (c := (4, [(4, 13), (1, 1)], [])) (v := (4, 13)) (pcN := 136) jIQ_161_133 rfl rfl rfl rfl rfl rfl rfl ?_
  refine jT_xiload (v := (0, 4)) (pcN := 138) jIQ_161_136 rfl rfl rfl ?_
  refine jT_lald (x := 0) (a := 13) (j := 4) (fs := []) (X := [0, 0, 0, 0, 0, 0]) jIQ_161_138 rfl rfl rfl rfl ?_
  refine jT_eq (LN := [(7, (0, 4)), (5, (1, q1)), (0, (4, 0)), (1, (0, r7)), (2, (0, r8)), (3, (4, 1)), (4, (0, 0))]) (stN := [(1, 0), (0, 4), (4, 9)]) (hsN := [jzQ_16, (4, [(4, 13), (1, 1)], []), (8, [(4, 14), (4, 15)], []), jgh, jgh, jgh, jgh, jgh, jgh, (101, [], [q1, -r7, -r8, 0, 0, 0]), jgh, jgh, jgh, (101, [], [0, 0, 0, 0, 0, 0]), jgh, jgh]) rfl rfl rfl ?_
  refine jT_xaload_n (v := (4, 0)) (pcN := 140) jIQ_161_139 rfl rfl rfl ?_
  refine jT_xgetf (a := 0) (t := 1) (ci := 13) (fi := 7) (c := jzQ_16) (v := (4, 9)) (pcN := 143) jIQ_161_140 rfl rfl rfl rfl rfl rfl rfl ?_
  refine jT_xiload (v := (0, 4)) (pcN := 145) jIQ_161_143 rfl rfl rfl ?_
  refine jT_lald (x := 0) (a := 9) (j := 4) (fs := []) (X := [q1, -r7, -r8, 0, 0, 0]) jIQ_161_145 rfl rfl rfl rfl ?_
  refine jT_eq (LN := [(7, (0, 4)), (5, (1, q1)), (0, (4, 0)), (1, (0, r7)), (2, (0, r8)), (3, (4, 1)), (4, (0, 0))]) (stN := [(1, 0), (1, 0), (0, 4), (4, 9)]) (hsN := [jzQ_16, (4, [(4, 13), (1, 1)], []), (8, [(4, 14), (4, 15)], []), jgh, jgh, jgh, jgh, jgh, jgh, (101, [], [q1, -r7, -r8, 0, 0, 0]), jgh, jgh, jgh, (101, [], [0, 0, 0, 0, 0, 0]), jgh, jgh]) rfl rfl rfl ?_
  refine jT_xaload_n (v := (4, 1)) (pcN := 147) jIQ_161_146 rfl rfl rfl ?_
  refine jT_xgetf (a := 1) (t := 2) (ci := 4) (fi := 1) (c := (4, [(4, 13), (1, 1)], [])) (v := (1, 1)) (pcN := 150) jIQ_161_147 rfl rfl rfl rfl rfl rfl rfl ?_
  refine jT_xlmul (x := 0) (y := 1) (z := 0) (pcN := 151) jIQ_161_150 rfl (by decide) rfl ?_
  refine jT_xlsub (x := 0) (y := 0) (z := 0) (pcN := 152) jIQ_161_151 rfl (by decide) rfl ?_
  refine jT_adv 1 (pcN := 153) (LN := [(7, (0, 4)), (5, (1, q1)), (0, (4, 0)), (1, (0, r7)), (2, (0, r8)), (3, (4, 1)), (4, (0, 0))]) (stN := []) (hsN := [jzQ_16, (4, [(4, 13), (1, 1)], []), (8, [(4, 14), (4, 15)], []), jgh, jgh, jgh, jgh, jgh, jgh, (101, [], [q1, -r7, -r8, 0, 0, 0]), jgh, jgh, jgh, (101, [], [0, 0, 0, 0, 0, 0]), jgh, jgh]) (c1 := 0) (s1 := 0) (c2 := 0) (s2 := 0) (by exact rfl) ?_ (by omega) (by omega)
  refine jT_xiinc (x := 4) (z := 5) (LN := [(7, (0, 5)), (5, (1, q1)), (0, (4, 0)), (1, (0, r7)), (2, (0, r8)), (3, (4, 1)), (4, (0, 0))]) (pcN := 156) jIQ_161_153 rfl rfl (by decide) rfl rfl ?_
  refine jT_xgoto (pcN := 119) jIQ_161_156 rfl ?_
  refine jT_xiload (v := (0, 5)) (pcN := 121) jIQ_161_119 rfl rfl rfl ?_
  refine jT_xbipush (k := 6) (pcN := 123) jIQ_161_121 (by decide) rfl ?_
  refine jT_xicF (t := 159) (pcN := 126) jIQ_161_123 rfl (by decide +kernel) rfl rfl ?_
  refine jT_xaload_n (v := (4, 0)) (pcN := 127) jIQ_161_126 rfl rfl rfl ?_
  refine jT_xgetf (a := 0) (t := 1) (ci := 13) (fi := 7) (c := jzQ_16) (v := (4, 9)) (pcN := 130) jIQ_161_127 rfl rfl rfl rfl rfl rfl rfl ?_
  refine jT_xiload (v := (0, 5)) (pcN := 132) jIQ_161_130 rfl rfl rfl ?_
  refine jT_xaload_n (v := (4, 1)) (pcN := 133) jIQ_161_132 rfl rfl rfl ?_
  refine jT_xgetf (a := 1) (t := 2) (ci := 4) (fi := 0) (c := (4, [(4, 13), (1, 1)], [])) (v := (4, 13)) (pcN := 136) jIQ_161_133 rfl rfl rfl rfl rfl rfl rfl ?_
  refine jT_xiload (v := (0, 5)) (pcN := 138) jIQ_161_136 rfl rfl rfl ?_
  refine jT_lald (x := 0) (a := 13) (j := 5) (fs := []) (X := [0, 0, 0, 0, 0, 0]) jIQ_161_138 rfl rfl rfl rfl ?_
  refine jT_eq (LN := [(7, (0, 5)), (5, (1, q1)), (0, (4, 0)), (1, (0, r7)), (2, (0, r8)), (3, (4, 1)), (4, (0, 0))]) (stN := [(1, 0), (0, 5), (4, 9)]) (hsN := [jzQ_16, (4, [(4, 13), (1, 1)], []), (8, [(4, 14), (4, 15)], []), jgh, jgh, jgh, jgh, jgh, jgh, (101, [], [q1, -r7, -r8, 0, 0, 0]), jgh, jgh, jgh, (101, [], [0, 0, 0, 0, 0, 0]), jgh, jgh]) rfl rfl rfl ?_
  refine jT_xaload_n (v := (4, 0)) (pcN := 140) jIQ_161_139 rfl rfl rfl ?_
  refine jT_xgetf (a := 0) (t := 1) (ci := 13) (fi := 7) (c := jzQ_16) (v := (4, 9)) (pcN := 143) jIQ_161_140 rfl rfl rfl rfl rfl rfl rfl ?_
  refine jT_xiload (v := (0, 5)) (pcN := 145) jIQ_161_143 rfl rfl rfl ?_
  refine jT_lald (x := 0) (a := 9) (j := 5) (fs := []) (X := [q1, -r7, -r8, 0, 0, 0]) jIQ_161_145 rfl rfl rfl rfl ?_
  refine jT_eq (LN := [(7, (0, 5)), (5, (1, q1)), (0, (4, 0)), (1, (0, r7)), (2, (0, r8)), (3, (4, 1)), (4, (0, 0))]) (stN := [(1, 0), (1, 0), (0, 5), (4, 9)]) (hsN := [jzQ_16, (4, [(4, 13), (1, 1)], []), (8, [(4, 14), (4, 15)], []), jgh, jgh, jgh, jgh, jgh, jgh, (101, [], [q1, -r7, -r8, 0, 0, 0]), jgh, jgh, jgh, (101, [], [0, 0, 0, 0, 0, 0]), jgh, jgh]) rfl rfl rfl ?_
  refine jT_xaload_n (v := (4, 1)) (pcN := 147) jIQ_161_146 rfl rfl rfl ?_
  refine jT_xgetf (a := 1) (t := 2) (ci := 4) (fi := 1) (c := (4, [(4, 13), (1, 1)], [])) (v := (1, 1)) (pcN := 150) jIQ_161_147 rfl rfl rfl rfl rfl rfl rfl ?_
  refine jT_xlmul (x := 0) (y := 1) (z := 0) (pcN := 151) jIQ_161_150 rfl (by decide) rfl ?_
  refine jT_xlsub (x := 0) (y := 0) (z := 0) (pcN := 152) jIQ_161_151 rfl (by decide) rfl ?_
  refine jT_adv 1 (pcN := 153) (LN := [(7, (0, 5)), (5, (1, q1)), (0, (4, 0)), (1, (0, r7)), (2, (0, r8)), (3, (4, 1)), (4, (0, 0))]) (stN := []) (hsN := [jzQ_16, (4, [(4, 13), (1, 1)], []), (8, [(4, 14), (4, 15)], []), jgh, jgh, jgh, jgh, jgh, jgh, (101, [], [q1, -r7, -r8, 0, 0, 0]), jgh, jgh, jgh, (101, [], [0, 0, 0, 0, 0, 0]), jgh, jgh]) (c1 := 0) (s1 := 0) (c2 := 0) (s2 := 0) (by exact rfl) ?_ (by omega) (by omega)
  refine jT_xiinc (x := 5) (z := 6) (LN := [(7, (0, 6)), (5, (1, q1)), (0, (4, 0)), (1, (0, r7)), (2, (0, r8)), (3, (4, 1)), (4, (0, 0))]) (pcN := 156) jIQ_161_153 rfl rfl (by decide) rfl rfl ?_
  refine jT_xgoto (pcN := 119) jIQ_161_156 rfl ?_
  refine jT_xiload (v := (0, 6)) (pcN := 121) jIQ_161_119 rfl rfl rfl ?_
  refine jT_xbipush (k := 6) (pcN := 123) jIQ_161_121 (by decide) rfl ?_
  refine jT_xicT (pcN := 159) jIQ_161_123 rfl (by decide +kernel) rfl ?_
  refine jT_xaload_n (v := (4, 0)) (pcN := 160) jIQ_161_159 rfl rfl rfl ?_
  refine jT_xgetf (a := 0) (t := 1) (ci := 13) (fi := 0) (c := jzQ_16) (v := (4, 2)) (pcN := 163) jIQ_161_160 rfl rfl rfl rfl rfl rfl rfl ?_
  refine jT_xaload_n (v := (4, 0)) (pcN := 164) jIQ_161_163 rfl rfl rfl ?_
  refine jT_xgetf (a := 0) (t := 1) (ci := 13) (fi := 7) (c := jzQ_16) (v := (4, 9)) (pcN := 167) jIQ_161_164 rfl rfl rfl rfl rfl rfl rfl ?_
  refine jT_callA [2, 9, 14, 15] (y := 38) (pcN := 170) (dC := 1) (bc1 := 0) (bc2 := 0) (c1 := 0) (c2 := 0) (as := [(4, 2), (4, 9)]) (asC := [(4, 0), (4, 1)]) (LN := [(7, (0, 6)), (5, (1, q1)), (0, (4, 0)), (1, (0, r7)), (2, (0, r8)), (3, (4, 1)), (4, (0, 0))]) (stN := []) (hsC := [(8, [(4, 2), (4, 3)], []), (101, [], [q1, -r7, -r8, 0, 0, 0]), jgh, jgh]) (ex := []) (v := (0, (-1))) (st2 := [(0, (-1))]) (hs2 := [jzQ_16, (4, [(4, 13), (1, 1)], []), (8, [(4, 14), (4, 15)], []), jgh, jgh, jgh, jgh, jgh, jgh, (101, [], [q1, -r7, -r8, 0, 0, 0]), jgh, jgh, jgh, (101, [], [0, 0, 0, 0, 0, 0]), jgh, jgh]) (jQl_sp38_117 (d := 0) (by omega) (by omega) (by omega) (by omega) (by omega) (by omega) (by omega)) (by rfl) (by rfl) (by rfl) (by rfl) ⟨rfl, rfl, rfl, rfl, trivial⟩ (by rfl) (by rfl) (by omega) (by show 16 ≤ 16; omega) (by omega) (by omega) rfl rfl ?_
  refine jT_xifT (pcN := 177) jIQ_161_170 rfl (by decide +kernel) rfl ?_
  refine jT_xiconst (k := 0) (pcN := 178) jIQ_161_177 rfl ?_
  subst hq_q1
  exact jT_ret rfl (by decide) (by show 16 ≤ 16; omega) (by omega) (by omega) ⟨rfl, rfl, rfl⟩
theorem jQ_161_124 {xs : List Int} {d : Nat} {r7 r8 u8_0 u8_1 u8_2 u8_3 u8_4 u8_5 : Int} (h_r7 : (-20) ≤ r7 ∧ r7 ≤ 20) (h_r8 : (-10) ≤ r8 ∧ r8 ≤ 10) (g_0 : 0 ≤ r7) (g_1 : r7 ≤ 0) (g_2 : 0 < r8) : jT xs (d + 2) 161 16 0 [(0, (4, 0)), (1, (0, r7)), (2, (0, r8)), (3, (4, 1)), (4, (0, 0))] [] [jzQ_16, (4, [(4, 13), (1, 1)], []), (8, [(4, 14), (4, 15)], []), jgh, jgh, jgh, jgh, jgh, jgh, (101, [], [u8_0, u8_1, u8_2, u8_3, u8_4, u8_5]), jgh, jgh, jgh, (101, [], [0, 0, 0, 0, 0, 0]), jgh, jgh] 0 0 (fun k v hsN => k = 0 ∧ v = (0, 0) ∧ hsN = [jzQ_16, (4, [(4, 13), (1, 1)], []), (8, [(4, 14), (4, 15)], []), jgh, jgh, jgh, jgh, jgh, jgh, (101, [], [(108917793695 * r7 + 159561683699 * r8) / 68719476736, -r7, -r8, 0, 0, 0]), jgh, jgh, jgh, (101, [], [0, 0, 0, 0, 0, 0]), jgh, jgh]) := by
  refine jT_xiload_n (v := (0, r7)) (pcN := 1) jIQ_161_0 rfl rfl rfl ?_
  refine jT_ifF (a := r7) (t := 10) (by rfl) (by rfl) (by rfl) (jw_idd (by omega) (by omega)) (by simp only [jcP] <;> omega) ?_
  refine jT_xiload_n (v := (0, r8)) (pcN := 5) jIQ_161_4 rfl rfl rfl ?_
  refine jT_ifT (a := r8) (t := 10) (by rfl) (by rfl) (by rfl) (jw_idd (by omega) (by omega)) (by simp only [jcP] <;> omega) ?_
  refine jT_xiconst (k := 0) (pcN := 11) jIQ_161_10 rfl ?_
  refine jT_xistore (v := (0, 0)) (LN := [(5, (0, 0)), (0, (4, 0)), (1, (0, r7)), (2, (0, r8)), (3, (4, 1)), (4, (0, 0))]) (pcN := 13) jIQ_161_11 rfl rfl rfl rfl ?_
  refine jT_xiload (v := (0, 0)) (pcN := 15) jIQ_161_13 rfl rfl rfl ?_
  refine jT_xbipush (k := 6) (pcN := 17) jIQ_161_15 (by decide) rfl ?_
  refine jT_xicF (t := 56) (pcN := 20) jIQ_161_17 rfl (by decide +kernel) rfl rfl ?_
  refine jT_xaload_n (v := (4, 0)) (pcN := 21) jIQ_161_20 rfl rfl rfl ?_
  refine jT_xgetf (a := 0) (t := 1) (ci := 13) (fi := 7) (c := jzQ_16) (v := (4, 9)) (pcN := 24) jIQ_161_21 rfl rfl rfl rfl rfl rfl rfl ?_
  refine jT_xiload (v := (0, 0)) (pcN := 26) jIQ_161_24 rfl rfl rfl ?_
  refine jT_xiload (v := (0, 0)) (pcN := 28) jIQ_161_26 rfl rfl rfl ?_
  refine jT_xiconst (k := 1) (pcN := 29) jIQ_161_28 rfl ?_
  refine jT_xicT (pcN := 37) jIQ_161_29 rfl (by decide +kernel) rfl ?_
  refine jT_xiload (v := (0, 0)) (pcN := 39) jIQ_161_37 rfl rfl rfl ?_
  refine jT_xiconst (k := 2) (pcN := 40) jIQ_161_39 rfl ?_
  refine jT_xicT (pcN := 48) jIQ_161_40 rfl (by decide +kernel) rfl ?_
  refine jT_xlconst (z := 0) (pcN := 49) jIQ_161_48 rfl rfl ?_
  refine jT_adv 1 (pcN := 50) (LN := [(5, (0, 0)), (0, (4, 0)), (1, (0, r7)), (2, (0, r8)), (3, (4, 1)), (4, (0, 0))]) (stN := []) (hsN := [jzQ_16, (4, [(4, 13), (1, 1)], []), (8, [(4, 14), (4, 15)], []), jgh, jgh, jgh, jgh, jgh, jgh, (101, [], [0, u8_1, u8_2, u8_3, u8_4, u8_5]), jgh, jgh, jgh, (101, [], [0, 0, 0, 0, 0, 0]), jgh, jgh]) (c1 := 0) (s1 := 0) (c2 := 0) (s2 := 0) (by exact rfl) ?_ (by omega) (by omega)
  refine jT_xiinc (x := 0) (z := 1) (LN := [(5, (0, 1)), (0, (4, 0)), (1, (0, r7)), (2, (0, r8)), (3, (4, 1)), (4, (0, 0))]) (pcN := 53) jIQ_161_50 rfl rfl (by decide) rfl rfl ?_
  refine jT_xgoto (pcN := 13) jIQ_161_53 rfl ?_
  refine jT_xiload (v := (0, 1)) (pcN := 15) jIQ_161_13 rfl rfl rfl ?_
  refine jT_xbipush (k := 6) (pcN := 17) jIQ_161_15 (by decide) rfl ?_
  refine jT_xicF (t := 56) (pcN := 20) jIQ_161_17 rfl (by decide +kernel) rfl rfl ?_
  refine jT_xaload_n (v := (4, 0)) (pcN := 21) jIQ_161_20 rfl rfl rfl ?_
  refine jT_xgetf (a := 0) (t := 1) (ci := 13) (fi := 7) (c := jzQ_16) (v := (4, 9)) (pcN := 24) jIQ_161_21 rfl rfl rfl rfl rfl rfl rfl ?_
  refine jT_xiload (v := (0, 1)) (pcN := 26) jIQ_161_24 rfl rfl rfl ?_
  refine jT_xiload (v := (0, 1)) (pcN := 28) jIQ_161_26 rfl rfl rfl ?_
  refine jT_xiconst (k := 1) (pcN := 29) jIQ_161_28 rfl ?_
  refine jT_xicF (t := 37) (pcN := 32) jIQ_161_29 rfl (by decide +kernel) rfl rfl ?_
  refine jT_xiload_n (v := (0, r7)) (pcN := 33) jIQ_161_32 rfl rfl rfl ?_
  refine jT_xi2l (x := r7) (z := r7) (pcN := 34) jIQ_161_33 rfl (jw_idd (by omega) (by omega)) rfl ?_
  refine jT_xgoto (pcN := 49) jIQ_161_34 rfl ?_
  refine jT_adv 1 (pcN := 50) (LN := [(5, (0, 1)), (0, (4, 0)), (1, (0, r7)), (2, (0, r8)), (3, (4, 1)), (4, (0, 0))]) (stN := []) (hsN := [jzQ_16, (4, [(4, 13), (1, 1)], []), (8, [(4, 14), (4, 15)], []), jgh, jgh, jgh, jgh, jgh, jgh, (101, [], [0, r7, u8_2, u8_3, u8_4, u8_5]), jgh, jgh, jgh, (101, [], [0, 0, 0, 0, 0, 0]), jgh, jgh]) (c1 := 0) (s1 := 0) (c2 := 0) (s2 := 0) (by exact rfl) ?_ (by omega) (by omega)
  refine jT_xiinc (x := 1) (z := 2) (LN := [(5, (0, 2)), (0, (4, 0)), (1, (0, r7)), (2, (0, r8)), (3, (4, 1)), (4, (0, 0))]) (pcN := 53) jIQ_161_50 rfl rfl (by decide) rfl rfl ?_
  refine jT_xgoto (pcN := 13) jIQ_161_53 rfl ?_
  refine jT_xiload (v := (0, 2)) (pcN := 15) jIQ_161_13 rfl rfl rfl ?_
  refine jT_xbipush (k := 6) (pcN := 17) jIQ_161_15 (by decide) rfl ?_
  refine jT_xicF (t := 56) (pcN := 20) jIQ_161_17 rfl (by decide +kernel) rfl rfl ?_
  refine jT_xaload_n (v := (4, 0)) (pcN := 21) jIQ_161_20 rfl rfl rfl ?_
  refine jT_xgetf (a := 0) (t := 1) (ci := 13) (fi := 7) (c := jzQ_16) (v := (4, 9)) (pcN := 24) jIQ_161_21 rfl rfl rfl rfl rfl rfl rfl ?_
  refine jT_xiload (v := (0, 2)) (pcN := 26) jIQ_161_24 rfl rfl rfl ?_
  refine jT_xiload (v := (0, 2)) (pcN := 28) jIQ_161_26 rfl rfl rfl ?_
  refine jT_xiconst (k := 1) (pcN := 29) jIQ_161_28 rfl ?_
  refine jT_xicT (pcN := 37) jIQ_161_29 rfl (by decide +kernel) rfl ?_
  refine jT_xiload (v := (0, 2)) (pcN := 39) jIQ_161_37 rfl rfl rfl ?_
  refine jT_xiconst (k := 2) (pcN := 40) jIQ_161_39 rfl ?_
  refine jT_xicF (t := 48) (pcN := 43) jIQ_161_40 rfl (by decide +kernel) rfl rfl ?_
  refine jT_xiload_n (v := (0, r8)) (pcN := 44) jIQ_161_43 rfl rfl rfl ?_
  refine jT_xi2l (x := r8) (z := r8) (pcN := 45) jIQ_161_44 rfl (jw_idd (by omega) (by omega)) rfl ?_
  refine jT_xgoto (pcN := 49) jIQ_161_45 rfl ?_
  refine jT_adv 1 (pcN := 50) (LN := [(5, (0, 2)), (0, (4, 0)), (1, (0, r7)), (2, (0, r8)), (3, (4, 1)), (4, (0, 0))]) (stN := []) (hsN := [jzQ_16, (4, [(4, 13), (1, 1)], []), (8, [(4, 14), (4, 15)], []), jgh, jgh, jgh, jgh, jgh, jgh, (101, [], [0, r7, r8, u8_3, u8_4, u8_5]), jgh, jgh, jgh, (101, [], [0, 0, 0, 0, 0, 0]), jgh, jgh]) (c1 := 0) (s1 := 0) (c2 := 0) (s2 := 0) (by exact rfl) ?_ (by omega) (by omega)
  refine jT_xiinc (x := 2) (z := 3) (LN := [(5, (0, 3)), (0, (4, 0)), (1, (0, r7)), (2, (0, r8)), (3, (4, 1)), (4, (0, 0))]) (pcN := 53) jIQ_161_50 rfl rfl (by decide) rfl rfl ?_
  refine jT_xgoto (pcN := 13) jIQ_161_53 rfl ?_
  refine jT_xiload (v := (0, 3)) (pcN := 15) jIQ_161_13 rfl rfl rfl ?_
  refine jT_xbipush (k := 6) (pcN := 17) jIQ_161_15 (by decide) rfl ?_
  refine jT_xicF (t := 56) (pcN := 20) jIQ_161_17 rfl (by decide +kernel) rfl rfl ?_
  refine jT_xaload_n (v := (4, 0)) (pcN := 21) jIQ_161_20 rfl rfl rfl ?_
  refine jT_xgetf (a := 0) (t := 1) (ci := 13) (fi := 7) (c := jzQ_16) (v := (4, 9)) (pcN := 24) jIQ_161_21 rfl rfl rfl rfl rfl rfl rfl ?_
  refine jT_xiload (v := (0, 3)) (pcN := 26) jIQ_161_24 rfl rfl rfl ?_
  refine jT_xiload (v := (0, 3)) (pcN := 28) jIQ_161_26 rfl rfl rfl ?_
  refine jT_xiconst (k := 1) (pcN := 29) jIQ_161_28 rfl ?_
  refine jT_xicT (pcN := 37) jIQ_161_29 rfl (by decide +kernel) rfl ?_
  refine jT_xiload (v := (0, 3)) (pcN := 39) jIQ_161_37 rfl rfl rfl ?_
  refine jT_xiconst (k := 2) (pcN := 40) jIQ_161_39 rfl ?_
  refine jT_xicT (pcN := 48) jIQ_161_40 rfl (by decide +kernel) rfl ?_
  refine jT_xlconst (z := 0) (pcN := 49) jIQ_161_48 rfl rfl ?_
  refine jT_adv 1 (pcN := 50) (LN := [(5, (0, 3)), (0, (4, 0)), (1, (0, r7)), (2, (0, r8)), (3, (4, 1)), (4, (0, 0))]) (stN := []) (hsN := [jzQ_16, (4, [(4, 13), (1, 1)], []), (8, [(4, 14), (4, 15)], []), jgh, jgh, jgh, jgh, jgh, jgh, (101, [], [0, r7, r8, 0, u8_4, u8_5]), jgh, jgh, jgh, (101, [], [0, 0, 0, 0, 0, 0]), jgh, jgh]) (c1 := 0) (s1 := 0) (c2 := 0) (s2 := 0) (by exact rfl) ?_ (by omega) (by omega)
  refine jT_xiinc (x := 3) (z := 4) (LN := [(5, (0, 4)), (0, (4, 0)), (1, (0, r7)), (2, (0, r8)), (3, (4, 1)), (4, (0, 0))]) (pcN := 53) jIQ_161_50 rfl rfl (by decide) rfl rfl ?_
  refine jT_xgoto (pcN := 13) jIQ_161_53 rfl ?_
  refine jT_xiload (v := (0, 4)) (pcN := 15) jIQ_161_13 rfl rfl rfl ?_
  refine jT_xbipush (k := 6) (pcN := 17) jIQ_161_15 (by decide) rfl ?_
  refine jT_xicF (t := 56) (pcN := 20) jIQ_161_17 rfl (by decide +kernel) rfl rfl ?_
  refine jT_xaload_n (v := (4, 0)) (pcN := 21) jIQ_161_20 rfl rfl rfl ?_
  refine jT_xgetf (a := 0) (t := 1) (ci := 13) (fi := 7) (c := jzQ_16) (v := (4, 9)) (pcN := 24) jIQ_161_21 rfl rfl rfl rfl rfl rfl rfl ?_
  refine jT_xiload (v := (0, 4)) (pcN := 26) jIQ_161_24 rfl rfl rfl ?_
  refine jT_xiload (v := (0, 4)) (pcN := 28) jIQ_161_26 rfl rfl rfl ?_
  refine jT_xiconst (k := 1) (pcN := 29) jIQ_161_28 rfl ?_
  refine jT_xicT (pcN := 37) jIQ_161_29 rfl (by decide +kernel) rfl ?_
  refine jT_xiload (v := (0, 4)) (pcN := 39) jIQ_161_37 rfl rfl rfl ?_
  refine jT_xiconst (k := 2) (pcN := 40) jIQ_161_39 rfl ?_
  refine jT_xicT (pcN := 48) jIQ_161_40 rfl (by decide +kernel) rfl ?_
  refine jT_xlconst (z := 0) (pcN := 49) jIQ_161_48 rfl rfl ?_
  refine jT_adv 1 (pcN := 50) (LN := [(5, (0, 4)), (0, (4, 0)), (1, (0, r7)), (2, (0, r8)), (3, (4, 1)), (4, (0, 0))]) (stN := []) (hsN := [jzQ_16, (4, [(4, 13), (1, 1)], []), (8, [(4, 14), (4, 15)], []), jgh, jgh, jgh, jgh, jgh, jgh, (101, [], [0, r7, r8, 0, 0, u8_5]), jgh, jgh, jgh, (101, [], [0, 0, 0, 0, 0, 0]), jgh, jgh]) (c1 := 0) (s1 := 0) (c2 := 0) (s2 := 0) (by exact rfl) ?_ (by omega) (by omega)
  refine jT_xiinc (x := 4) (z := 5) (LN := [(5, (0, 5)), (0, (4, 0)), (1, (0, r7)), (2, (0, r8)), (3, (4, 1)), (4, (0, 0))]) (pcN := 53) jIQ_161_50 rfl rfl (by decide) rfl rfl ?_
  refine jT_xgoto (pcN := 13) jIQ_161_53 rfl ?_
  refine jT_xiload (v := (0, 5)) (pcN := 15) jIQ_161_13 rfl rfl rfl ?_
  refine jT_xbipush (k := 6) (pcN := 17) jIQ_161_15 (by decide) rfl ?_
  refine jT_xicF (t := 56) (pcN := 20) jIQ_161_17 rfl (by decide +kernel) rfl rfl ?_
  refine jT_xaload_n (v := (4, 0)) (pcN := 21) jIQ_161_20 rfl rfl rfl ?_
  refine jT_xgetf (a := 0) (t := 1) (ci := 13) (fi := 7) (c := jzQ_16) (v := (4, 9)) (pcN := 24) jIQ_161_21 rfl rfl rfl rfl rfl rfl rfl ?_
  refine jT_xiload (v := (0, 5)) (pcN := 26) jIQ_161_24 rfl rfl rfl ?_
  refine jT_xiload (v := (0, 5)) (pcN := 28) jIQ_161_26 rfl rfl rfl ?_
  refine jT_xiconst (k := 1) (pcN := 29) jIQ_161_28 rfl ?_
  refine jT_xicT (pcN := 37) jIQ_161_29 rfl (by decide +kernel) rfl ?_
  refine jT_xiload (v := (0, 5)) (pcN := 39) jIQ_161_37 rfl rfl rfl ?_
  refine jT_xiconst (k := 2) (pcN := 40) jIQ_161_39 rfl ?_
  refine jT_xicT (pcN := 48) jIQ_161_40 rfl (by decide +kernel) rfl ?_
  refine jT_xlconst (z := 0) (pcN := 49) jIQ_161_48 rfl rfl ?_
  refine jT_adv 1 (pcN := 50) (LN := [(5, (0, 5)), (0, (4, 0)), (1, (0, r7)), (2, (0, r8)), (3, (4, 1)), (4, (0, 0))]) (stN := []) (hsN := [jzQ_16, (4, [(4, 13), (1, 1)], []), (8, [(4, 14), (4, 15)], []), jgh, jgh, jgh, jgh, jgh, jgh, (101, [], [0, r7, r8, 0, 0, 0]), jgh, jgh, jgh, (101, [], [0, 0, 0, 0, 0, 0]), jgh, jgh]) (c1 := 0) (s1 := 0) (c2 := 0) (s2 := 0) (by exact rfl) ?_ (by omega) (by omega)
  refine jT_xiinc (x := 5) (z := 6) (LN := [(5, (0, 6)), (0, (4, 0)), (1, (0, r7)), (2, (0, r8)), (3, (4, 1)), (4, (0, 0))]) (pcN := 53) jIQ_161_50 rfl rfl (by decide) rfl rfl ?_
  refine jT_xgoto (pcN := 13) jIQ_161_53 rfl ?_
  refine jT_xiload (v := (0, 6)) (pcN := 15) jIQ_161_13 rfl rfl rfl ?_
  refine jT_xbipush (k := 6) (pcN := 17) jIQ_161_15 (by decide) rfl ?_
  refine jT_xicT (pcN := 56) jIQ_161_17 rfl (by decide +kernel) rfl ?_
  refine jT_xaload_n (v := (4, 0)) (pcN := 57) jIQ_161_56 rfl rfl rfl ?_
  refine jT_xgetf (a := 0) (t := 1) (ci := 13) (fi := 0) (c := jzQ_16) (v := (4, 2)) (pcN := 60) jIQ_161_57 rfl rfl rfl rfl rfl rfl rfl ?_
  refine jT_xaload_n (v := (4, 0)) (pcN := 61) jIQ_161_60 rfl rfl rfl ?_
  refine jT_xgetf (a := 0) (t := 1) (ci := 13) (fi := 7) (c := jzQ_16) (v := (4, 9)) (pcN := 64) jIQ_161_61 rfl rfl rfl rfl rfl rfl rfl ?_
  refine jT_xlconst (z := 1) (pcN := 65) jIQ_161_64 rfl rfl ?_
  refine jT_xlconst (z := 1) (pcN := 66) jIQ_161_65 rfl rfl ?_
  refine jT_callA [2, 9, 14, 15] (y := 45) (pcN := 69) (dC := 1) (bc1 := 0) (bc2 := 0) (c1 := 0) (c2 := 0) (as := [(4, 2), (4, 9), (1, 1), (1, 1)]) (asC := [(4, 0), (4, 1), (1, 1), (1, 1)]) (LN := [(5, (0, 6)), (0, (4, 0)), (1, (0, r7)), (2, (0, r8)), (3, (4, 1)), (4, (0, 0))]) (stN := []) (hsC := [(8, [(4, 2), (4, 3)], []), (101, [], [0, r7, r8, 0, 0, 0]), jgh, jgh]) (ex := []) (v := (1, (108917793695 * r7 + 159561683699 * r8) / 68719476736)) (st2 := [(1, (108917793695 * r7 + 159561683699 * r8) / 68719476736)]) (hs2 := [jzQ_16, (4, [(4, 13), (1, 1)], []), (8, [(4, 14), (4, 15)], []), jgh, jgh, jgh, jgh, jgh, jgh, (101, [], [0, r7, r8, 0, 0, 0]), jgh, jgh, jgh, (101, [], [0, 0, 0, 0, 0, 0]), jgh, jgh]) (jQl_sp45_116 (d := 0) (by omega) (by omega)) (by rfl) (by rfl) (by rfl) (by rfl) ⟨rfl, rfl, rfl, rfl, trivial⟩ (by rfl) (by rfl) (by omega) (by show 16 ≤ 16; omega) (by omega) (by omega) rfl rfl ?_
  have hb_q1 : (-60) ≤ (108917793695 * r7 + 159561683699 * r8) / 68719476736 ∧ (108917793695 * r7 + 159561683699 * r8) / 68719476736 ≤ 60 := ⟨by omega, by omega⟩
  generalize hq_q1 : (108917793695 * r7 + 159561683699 * r8) / 68719476736 = q1 at hb_q1 ⊢
  refine jT_xlstore (v := (1, q1)) (LN := [(5, (1, q1)), (0, (4, 0)), (1, (0, r7)), (2, (0, r8)), (3, (4, 1)), (4, (0, 0))]) (pcN := 71) jIQ_161_69 rfl rfl rfl rfl ?_
  have g_3 : 0 ≤ (-68719476736) * q1 + 108917793694 * r7 + 159561683698 * r8 - 1 := by have := jcg (b := r7) (c := r8) (by omega) (by omega) (by omega); rw [hq_q1] at this; omega
  have g_4 : 0 ≤ (-68719476736) * q1 + 108917793694 * r7 + 159561683700 * r8 - 1 := by have := jcg (b := r7) (c := r8) (by omega) (by omega) (by omega); rw [hq_q1] at this; omega
  have g_5 : 0 ≤ (-68719476736) * q1 + 108917793696 * r7 + 159561683698 * r8 - 1 := by have := jcg (b := r7) (c := r8) (by omega) (by omega) (by omega); rw [hq_q1] at this; omega
  have g_6 : 0 ≤ (-68719476736) * q1 + 108917793696 * r7 + 159561683700 * r8 - 1 := by have := jcg (b := r7) (c := r8) (by omega) (by omega) (by omega); rw [hq_q1] at this; omega
  refine jT_xiload (v := (0, 0)) (pcN := 73) jIQ_161_71 rfl rfl rfl ?_
  refine jT_xifT (pcN := 107) jIQ_161_73 rfl (by decide +kernel) rfl ?_
  refine jT_xaload_n (v := (4, 0)) (pcN := 108) jIQ_161_107 rfl rfl rfl ?_
  refine jT_xgetf (a := 0) (t := 1) (ci := 13) (fi := 7) (c := jzQ_16) (v := (4, 9)) (pcN := 111) jIQ_161_108 rfl rfl rfl rfl rfl rfl rfl ?_
  refine jT_xiconst (k := 0) (pcN := 112) jIQ_161_111 rfl ?_
  refine jT_xlload (v := (1, q1)) (pcN := 114) jIQ_161_112 rfl rfl rfl ?_
  refine jT_adv 2 (pcN := 116) (LN := [(5, (1, q1)), (0, (4, 0)), (1, (0, r7)), (2, (0, r8)), (3, (4, 1)), (4, (0, 0))]) (stN := []) (hsN := [jzQ_16, (4, [(4, 13), (1, 1)], []), (8, [(4, 14), (4, 15)], []), jgh, jgh, jgh, jgh, jgh, jgh, (101, [], [-q1, r7, r8, 0, 0, 0]), jgh, jgh, jgh, (101, [], [0, 0, 0, 0, 0, 0]), jgh, jgh]) (c1 := 0) (s1 := 0) (c2 := 0) (s2 := 0) (by exact rfl) ?_ (by omega) (by omega)
  refine jT_xiconst (k := 0) (pcN := 117) jIQ_161_116 rfl ?_
  refine jT_xistore (v := (0, 0)) (LN := [(7, (0, 0)), (5, (1, q1)), (0, (4, 0)), (1, (0, r7)), (2, (0, r8)), (3, (4, 1)), (4, (0, 0))]) (pcN := 119) jIQ_161_117 rfl rfl rfl rfl ?_
  refine jT_xiload (v := (0, 0)) (pcN := 121) jIQ_161_119 rfl rfl rfl ?_
  refine jT_xbipush (k := 6) (pcN := 123) jIQ_161_121 (by decide) rfl ?_
  refine jT_xicF (t := 159) (pcN := 126) jIQ_161_123 rfl (by decide +kernel) rfl rfl ?_
  refine jT_xaload_n (v := (4, 0)) (pcN := 127) jIQ_161_126 rfl rfl rfl ?_
  refine jT_xgetf (a := 0) (t := 1) (ci := 13) (fi := 7) (c := jzQ_16) (v := (4, 9)) (pcN := 130) jIQ_161_127 rfl rfl rfl rfl rfl rfl rfl ?_
  refine jT_xiload (v := (0, 0)) (pcN := 132) jIQ_161_130 rfl rfl rfl ?_
  refine jT_xaload_n (v := (4, 1)) (pcN := 133) jIQ_161_132 rfl rfl rfl ?_
  refine jT_xgetf (a := 1) (t := 2) (ci := 4) (fi := 0) (c := (4, [(4, 13), (1, 1)], [])) (v := (4, 13)) (pcN := 136) jIQ_161_133 rfl rfl rfl rfl rfl rfl rfl ?_
  refine jT_xiload (v := (0, 0)) (pcN := 138) jIQ_161_136 rfl rfl rfl ?_
  refine jT_lald (x := 0) (a := 13) (j := 0) (fs := []) (X := [0, 0, 0, 0, 0, 0]) jIQ_161_138 rfl rfl rfl rfl ?_
  refine jT_eq (LN := [(7, (0, 0)), (5, (1, q1)), (0, (4, 0)), (1, (0, r7)), (2, (0, r8)), (3, (4, 1)), (4, (0, 0))]) (stN := [(1, 0), (0, 0), (4, 9)]) (hsN := [jzQ_16, (4, [(4, 13), (1, 1)], []), (8, [(4, 14), (4, 15)], []), jgh, jgh, jgh, jgh, jgh, jgh, (101, [], [-q1, r7, r8, 0, 0, 0]), jgh, jgh, jgh, (101, [], [0, 0, 0, 0, 0, 0]), jgh, jgh]) rfl rfl rfl ?_
  refine jT_xaload_n (v := (4, 0)) (pcN := 140) jIQ_161_139 rfl rfl rfl ?_
  refine jT_xgetf (a := 0) (t := 1) (ci := 13) (fi := 7) (c := jzQ_16) (v := (4, 9)) (pcN := 143) jIQ_161_140 rfl rfl rfl rfl rfl rfl rfl ?_
  refine jT_xiload (v := (0, 0)) (pcN := 145) jIQ_161_143 rfl rfl rfl ?_
  refine jT_lald (x := -q1) (a := 9) (j := 0) (fs := []) (X := [-q1, r7, r8, 0, 0, 0]) jIQ_161_145 rfl rfl rfl rfl ?_
  refine jT_eq (LN := [(7, (0, 0)), (5, (1, q1)), (0, (4, 0)), (1, (0, r7)), (2, (0, r8)), (3, (4, 1)), (4, (0, 0))]) (stN := [(1, -q1), (1, 0), (0, 0), (4, 9)]) (hsN := [jzQ_16, (4, [(4, 13), (1, 1)], []), (8, [(4, 14), (4, 15)], []), jgh, jgh, jgh, jgh, jgh, jgh, (101, [], [-q1, r7, r8, 0, 0, 0]), jgh, jgh, jgh, (101, [], [0, 0, 0, 0, 0, 0]), jgh, jgh]) rfl rfl rfl ?_
  refine jT_xaload_n (v := (4, 1)) (pcN := 147) jIQ_161_146 rfl rfl rfl ?_
  refine jT_xgetf (a := 1) (t := 2) (ci := 4) (fi := 1) (c := (4, [(4, 13), (1, 1)], [])) (v := (1, 1)) (pcN := 150) jIQ_161_147 rfl rfl rfl rfl rfl rfl rfl ?_
  refine jT_xlmul (x := -q1) (y := 1) (z := -q1) (pcN := 151) jIQ_161_150 rfl (by omega) rfl ?_
  refine jT_xlsub (x := 0) (y := -q1) (z := q1) (pcN := 152) jIQ_161_151 rfl (by omega) rfl ?_
  refine jT_adv 1 (pcN := 153) (LN := [(7, (0, 0)), (5, (1, q1)), (0, (4, 0)), (1, (0, r7)), (2, (0, r8)), (3, (4, 1)), (4, (0, 0))]) (stN := []) (hsN := [jzQ_16, (4, [(4, 13), (1, 1)], []), (8, [(4, 14), (4, 15)], []), jgh, jgh, jgh, jgh, jgh, jgh, (101, [], [q1, r7, r8, 0, 0, 0]), jgh, jgh, jgh, (101, [], [0, 0, 0, 0, 0, 0]), jgh, jgh]) (c1 := 0) (s1 := 0) (c2 := 0) (s2 := 0) (by exact rfl) ?_ (by omega) (by omega)
  refine jT_xiinc (x := 0) (z := 1) (LN := [(7, (0, 1)), (5, (1, q1)), (0, (4, 0)), (1, (0, r7)), (2, (0, r8)), (3, (4, 1)), (4, (0, 0))]) (pcN := 156) jIQ_161_153 rfl rfl (by decide) rfl rfl ?_
  refine jT_xgoto (pcN := 119) jIQ_161_156 rfl ?_
  refine jT_xiload (v := (0, 1)) (pcN := 121) jIQ_161_119 rfl rfl rfl ?_
  refine jT_xbipush (k := 6) (pcN := 123) jIQ_161_121 (by decide) rfl ?_
  refine jT_xicF (t := 159) (pcN := 126) jIQ_161_123 rfl (by decide +kernel) rfl rfl ?_
  refine jT_xaload_n (v := (4, 0)) (pcN := 127) jIQ_161_126 rfl rfl rfl ?_
  refine jT_xgetf (a := 0) (t := 1) (ci := 13) (fi := 7) (c := jzQ_16) (v := (4, 9)) (pcN := 130) jIQ_161_127 rfl rfl rfl rfl rfl rfl rfl ?_
  refine jT_xiload (v := (0, 1)) (pcN := 132) jIQ_161_130 rfl rfl rfl ?_
  refine jT_xaload_n (v := (4, 1)) (pcN := 133) jIQ_161_132 rfl rfl rfl ?_
  refine jT_xgetf (a := 1) (t := 2) (ci := 4) (fi := 0) (c := (4, [(4, 13), (1, 1)], [])) (v := (4, 13)) (pcN := 136) jIQ_161_133 rfl rfl rfl rfl rfl rfl rfl ?_
  refine jT_xiload (v := (0, 1)) (pcN := 138) jIQ_161_136 rfl rfl rfl ?_
  refine jT_lald (x := 0) (a := 13) (j := 1) (fs := []) (X := [0, 0, 0, 0, 0, 0]) jIQ_161_138 rfl rfl rfl rfl ?_
  refine jT_eq (LN := [(7, (0, 1)), (5, (1, q1)), (0, (4, 0)), (1, (0, r7)), (2, (0, r8)), (3, (4, 1)), (4, (0, 0))]) (stN := [(1, 0), (0, 1), (4, 9)]) (hsN := [jzQ_16, (4, [(4, 13), (1, 1)], []), (8, [(4, 14), (4, 15)], []), jgh, jgh, jgh, jgh, jgh, jgh, (101, [], [q1, r7, r8, 0, 0, 0]), jgh, jgh, jgh, (101, [], [0, 0, 0, 0, 0, 0]), jgh, jgh]) rfl rfl rfl ?_
  refine jT_xaload_n (v := (4, 0)) (pcN := 140) jIQ_161_139 rfl rfl rfl ?_
  refine jT_xgetf (a := 0) (t := 1) (ci := 13) (fi := 7) (c := jzQ_16) (v := (4, 9)) (pcN := 143) jIQ_161_140 rfl rfl rfl rfl rfl rfl rfl ?_
  refine jT_xiload (v := (0, 1)) (pcN := 145) jIQ_161_143 rfl rfl rfl ?_
  refine jT_lald (x := r7) (a := 9) (j := 1) (fs := []) (X := [q1, r7, r8, 0, 0, 0]) jIQ_161_145 rfl rfl rfl rfl ?_
  refine jT_eq (LN := [(7, (0, 1)), (5, (1, q1)), (0, (4, 0)), (1, (0, r7)), (2, (0, r8)), (3, (4, 1)), (4, (0, 0))]) (stN := [(1, r7), (1, 0), (0, 1), (4, 9)]) (hsN := [jzQ_16, (4, [(4, 13), (1, 1)], []), (8, [(4, 14), (4, 15)], []), jgh, jgh, jgh, jgh, jgh, jgh, (101, [], [q1, r7, r8, 0, 0, 0]), jgh, jgh, jgh, (101, [], [0, 0, 0, 0, 0, 0]), jgh, jgh]) rfl rfl rfl ?_
  refine jT_xaload_n (v := (4, 1)) (pcN := 147) jIQ_161_146 rfl rfl rfl ?_
  refine jT_xgetf (a := 1) (t := 2) (ci := 4) (fi := 1) (c := (4, [(4, 13), (1, 1)], [])) (v := (1, 1)) (pcN := 150) jIQ_161_147 rfl rfl rfl rfl rfl rfl rfl ?_
  refine jT_xlmul (x := r7) (y := 1) (z := r7) (pcN := 151) jIQ_161_150 rfl (by omega) rfl ?_
  refine jT_xlsub (x := 0) (y := r7) (z := -r7) (pcN := 152) jIQ_161_151 rfl (by omega) rfl ?_
  refine jT_adv 1 (pcN := 153) (LN := [(7, (0, 1)), (5, (1, q1)), (0, (4, 0)), (1, (0, r7)), (2, (0, r8)), (3, (4, 1)), (4, (0, 0))]) (stN := []) (hsN := [jzQ_16, (4, [(4, 13), (1, 1)], []), (8, [(4, 14), (4, 15)], []), jgh, jgh, jgh, jgh, jgh, jgh, (101, [], [q1, -r7, r8, 0, 0, 0]), jgh, jgh, jgh, (101, [], [0, 0, 0, 0, 0, 0]), jgh, jgh]) (c1 := 0) (s1 := 0) (c2 := 0) (s2 := 0) (by exact rfl) ?_ (by omega) (by omega)
  refine jT_xiinc (x := 1) (z := 2) (LN := [(7, (0, 2)), (5, (1, q1)), (0, (4, 0)), (1, (0, r7)), (2, (0, r8)), (3, (4, 1)), (4, (0, 0))]) (pcN := 156) jIQ_161_153 rfl rfl (by decide) rfl rfl ?_
  refine jT_xgoto (pcN := 119) jIQ_161_156 rfl ?_
  refine jT_xiload (v := (0, 2)) (pcN := 121) jIQ_161_119 rfl rfl rfl ?_
  refine jT_xbipush (k := 6) (pcN := 123) jIQ_161_121 (by decide) rfl ?_
  refine jT_xicF (t := 159) (pcN := 126) jIQ_161_123 rfl (by decide +kernel) rfl rfl ?_
  refine jT_xaload_n (v := (4, 0)) (pcN := 127) jIQ_161_126 rfl rfl rfl ?_
  refine jT_xgetf (a := 0) (t := 1) (ci := 13) (fi := 7) (c := jzQ_16) (v := (4, 9)) (pcN := 130) jIQ_161_127 rfl rfl rfl rfl rfl rfl rfl ?_
  refine jT_xiload (v := (0, 2)) (pcN := 132) jIQ_161_130 rfl rfl rfl ?_
  refine jT_xaload_n (v := (4, 1)) (pcN := 133) jIQ_161_132 rfl rfl rfl ?_
  refine jT_xgetf (a := 1) (t := 2) (ci := 4) (fi := 0) (c := (4, [(4, 13), (1, 1)], [])) (v := (4, 13)) (pcN := 136) jIQ_161_133 rfl rfl rfl rfl rfl rfl rfl ?_
  refine jT_xiload (v := (0, 2)) (pcN := 138) jIQ_161_136 rfl rfl rfl ?_
  refine jT_lald (x := 0) (a := 13) (j := 2) (fs := []) (X := [0, 0, 0, 0, 0, 0]) jIQ_161_138 rfl rfl rfl rfl ?_
  refine jT_eq (LN := [(7, (0, 2)), (5, (1, q1)), (0, (4, 0)), (1, (0, r7)), (2, (0, r8)), (3, (4, 1)), (4, (0, 0))]) (stN := [(1, 0), (0, 2), (4, 9)]) (hsN := [jzQ_16, (4, [(4, 13), (1, 1)], []), (8, [(4, 14), (4, 15)], []), jgh, jgh, jgh, jgh, jgh, jgh, (101, [], [q1, -r7, r8, 0, 0, 0]), jgh, jgh, jgh, (101, [], [0, 0, 0, 0, 0, 0]), jgh, jgh]) rfl rfl rfl ?_
  refine jT_xaload_n (v := (4, 0)) (pcN := 140) jIQ_161_139 rfl rfl rfl ?_
  refine jT_xgetf (a := 0) (t := 1) (ci := 13) (fi := 7) (c := jzQ_16) (v := (4, 9)) (pcN := 143) jIQ_161_140 rfl rfl rfl rfl rfl rfl rfl ?_
  refine jT_xiload (v := (0, 2)) (pcN := 145) jIQ_161_143 rfl rfl rfl ?_
  refine jT_lald (x := r8) (a := 9) (j := 2) (fs := []) (X := [q1, -r7, r8, 0, 0, 0]) jIQ_161_145 rfl rfl rfl rfl ?_
  refine jT_eq (LN := [(7, (0, 2)), (5, (1, q1)), (0, (4, 0)), (1, (0, r7)), (2, (0, r8)), (3, (4, 1)), (4, (0, 0))]) (stN := [(1, r8), (1, 0), (0, 2), (4, 9)]) (hsN := [jzQ_16, (4, [(4, 13), (1, 1)], []), (8, [(4, 14), (4, 15)], []), jgh, jgh, jgh, jgh, jgh, jgh, (101, [], [q1, -r7, r8, 0, 0, 0]), jgh, jgh, jgh, (101, [], [0, 0, 0, 0, 0, 0]), jgh, jgh]) rfl rfl rfl ?_
  refine jT_xaload_n (v := (4, 1)) (pcN := 147) jIQ_161_146 rfl rfl rfl ?_
  refine jT_xgetf (a := 1) (t := 2) (ci := 4) (fi := 1) (c := (4, [(4, 13), (1, 1)], [])) (v := (1, 1)) (pcN := 150) jIQ_161_147 rfl rfl rfl rfl rfl rfl rfl ?_
  refine jT_xlmul (x := r8) (y := 1) (z := r8) (pcN := 151) jIQ_161_150 rfl (by omega) rfl ?_
  refine jT_xlsub (x := 0) (y := r8) (z := -r8) (pcN := 152) jIQ_161_151 rfl (by omega) rfl ?_
  refine jT_adv 1 (pcN := 153) (LN := [(7, (0, 2)), (5, (1, q1)), (0, (4, 0)), (1, (0, r7)), (2, (0, r8)), (3, (4, 1)), (4, (0, 0))]) (stN := []) (hsN := [jzQ_16, (4, [(4, 13), (1, 1)], []), (8, [(4, 14), (4, 15)], []), jgh, jgh, jgh, jgh, jgh, jgh, (101, [], [q1, -r7, -r8, 0, 0, 0]), jgh, jgh, jgh, (101, [], [0, 0, 0, 0, 0, 0]), jgh, jgh]) (c1 := 0) (s1 := 0) (c2 := 0) (s2 := 0) (by exact rfl) ?_ (by omega) (by omega)
  refine jT_xiinc (x := 2) (z := 3) (LN := [(7, (0, 3)), (5, (1, q1)), (0, (4, 0)), (1, (0, r7)), (2, (0, r8)), (3, (4, 1)), (4, (0, 0))]) (pcN := 156) jIQ_161_153 rfl rfl (by decide) rfl rfl ?_
  refine jT_xgoto (pcN := 119) jIQ_161_156 rfl ?_
  refine jT_xiload (v := (0, 3)) (pcN := 121) jIQ_161_119 rfl rfl rfl ?_
  refine jT_xbipush (k := 6) (pcN := 123) jIQ_161_121 (by decide) rfl ?_
  refine jT_xicF (t := 159) (pcN := 126) jIQ_161_123 rfl (by decide +kernel) rfl rfl ?_
  refine jT_xaload_n (v := (4, 0)) (pcN := 127) jIQ_161_126 rfl rfl rfl ?_
  refine jT_xgetf (a := 0) (t := 1) (ci := 13) (fi := 7) (c := jzQ_16) (v := (4, 9)) (pcN := 130) jIQ_161_127 rfl rfl rfl rfl rfl rfl rfl ?_
  refine jT_xiload (v := (0, 3)) (pcN := 132) jIQ_161_130 rfl rfl rfl ?_
  refine jT_xaload_n (v := (4, 1)) (pcN := 133) jIQ_161_132 rfl rfl rfl ?_
  refine jT_xgetf (a := 1) (t := 2) (ci := 4) (fi := 0) (c := (4, [(4, 13), (1, 1)], [])) (v := (4, 13)) (pcN := 136) jIQ_161_133 rfl rfl rfl rfl rfl rfl rfl ?_
  refine jT_xiload (v := (0, 3)) (pcN := 138) jIQ_161_136 rfl rfl rfl ?_
  refine jT_lald (x := 0) (a := 13) (j := 3) (fs := []) (X := [0, 0, 0, 0, 0, 0]) jIQ_161_138 rfl rfl rfl rfl ?_
  refine jT_eq (LN := [(7, (0, 3)), (5, (1, q1)), (0, (4, 0)), (1, (0, r7)), (2, (0, r8)), (3, (4, 1)), (4, (0, 0))]) (stN := [(1, 0), (0, 3), (4, 9)]) (hsN := [jzQ_16, (4, [(4, 13), (1, 1)], []), (8, [(4, 14), (4, 15)], []), jgh, jgh, jgh, jgh, jgh, jgh, (101, [], [q1, -r7, -r8, 0, 0, 0]), jgh, jgh, jgh, (101, [], [0, 0, 0, 0, 0, 0]), jgh, jgh]) rfl rfl rfl ?_
  refine jT_xaload_n (v := (4, 0)) (pcN := 140) jIQ_161_139 rfl rfl rfl ?_
  refine jT_xgetf (a := 0) (t := 1) (ci := 13) (fi := 7) (c := jzQ_16) (v := (4, 9)) (pcN := 143) jIQ_161_140 rfl rfl rfl rfl rfl rfl rfl ?_
  refine jT_xiload (v := (0, 3)) (pcN := 145) jIQ_161_143 rfl rfl rfl ?_
  refine jT_lald (x := 0) (a := 9) (j := 3) (fs := []) (X := [q1, -r7, -r8, 0, 0, 0]) jIQ_161_145 rfl rfl rfl rfl ?_
  refine jT_eq (LN := [(7, (0, 3)), (5, (1, q1)), (0, (4, 0)), (1, (0, r7)), (2, (0, r8)), (3, (4, 1)), (4, (0, 0))]) (stN := [(1, 0), (1, 0), (0, 3), (4, 9)]) (hsN := [jzQ_16, (4, [(4, 13), (1, 1)], []), (8, [(4, 14), (4, 15)], []), jgh, jgh, jgh, jgh, jgh, jgh, (101, [], [q1, -r7, -r8, 0, 0, 0]), jgh, jgh, jgh, (101, [], [0, 0, 0, 0, 0, 0]), jgh, jgh]) rfl rfl rfl ?_
  refine jT_xaload_n (v := (4, 1)) (pcN := 147) jIQ_161_146 rfl rfl rfl ?_
  refine jT_xgetf (a := 1) (t := 2) (ci := 4) (fi := 1) (c := (4, [(4, 13), (1, 1)], [])) (v := (1, 1)) (pcN := 150) jIQ_161_147 rfl rfl rfl rfl rfl rfl rfl ?_
  refine jT_xlmul (x := 0) (y := 1) (z := 0) (pcN := 151) jIQ_161_150 rfl (by decide) rfl ?_
  refine jT_xlsub (x := 0) (y := 0) (z := 0) (pcN := 152) jIQ_161_151 rfl (by decide) rfl ?_
  refine jT_adv 1 (pcN := 153) (LN := [(7, (0, 3)), (5, (1, q1)), (0, (4, 0)), (1, (0, r7)), (2, (0, r8)), (3, (4, 1)), (4, (0, 0))]) (stN := []) (hsN := [jzQ_16, (4, [(4, 13), (1, 1)], []), (8, [(4, 14), (4, 15)], []), jgh, jgh, jgh, jgh, jgh, jgh, (101, [], [q1, -r7, -r8, 0, 0, 0]), jgh, jgh, jgh, (101, [], [0, 0, 0, 0, 0, 0]), jgh, jgh]) (c1 := 0) (s1 := 0) (c2 := 0) (s2 := 0) (by exact rfl) ?_ (by omega) (by omega)
  refine jT_xiinc (x := 3) (z := 4) (LN := [(7, (0, 4)), (5, (1, q1)), (0, (4, 0)), (1, (0, r7)), (2, (0, r8)), (3, (4, 1)), (4, (0, 0))]) (pcN := 156) jIQ_161_153 rfl rfl (by decide) rfl rfl ?_
  refine jT_xgoto (pcN := 119) jIQ_161_156 rfl ?_
  refine jT_xiload (v := (0, 4)) (pcN := 121) jIQ_161_119 rfl rfl rfl ?_
  refine jT_xbipush (k := 6) (pcN := 123) jIQ_161_121 (by decide) rfl ?_
  refine jT_xicF (t := 159) (pcN := 126) jIQ_161_123 rfl (by decide +kernel) rfl rfl ?_
  refine jT_xaload_n (v := (4, 0)) (pcN := 127) jIQ_161_126 rfl rfl rfl ?_
  refine jT_xgetf (a := 0) (t := 1) (ci := 13) (fi := 7) (c := jzQ_16) (v := (4, 9)) (pcN := 130) jIQ_161_127 rfl rfl rfl rfl rfl rfl rfl ?_
  refine jT_xiload (v := (0, 4)) (pcN := 132) jIQ_161_130 rfl rfl rfl ?_
  refine jT_xaload_n (v := (4, 1)) (pcN := 133) jIQ_161_132 rfl rfl rfl ?_
  refine jT_xgetf (a := 1) (t := 2) (ci := 4) (fi := 0) (c := (4, [(4, 13), (1, 1)], [])) (v := (4, 13)) (pcN := 136) jIQ_161_133 rfl rfl rfl rfl rfl rfl rfl ?_
  refine jT_xiload (v := (0, 4)) (pcN := 138) jIQ_161_136 rfl rfl rfl ?_
  refine jT_lald (x := 0) (a := 13) (j := 4) (fs := []) (X := [0, 0, 0, 0, 0, 0]) jIQ_161_138 rfl rfl rfl rfl ?_
  refine jT_eq (LN := [(7, (0, 4)), (5, (1, q1)), (0, (4, 0)), (1, (0, r7)), (2, (0, r8)), (3, (4, 1)), (4, (0, 0))]) (stN := [(1, 0), (0, 4), (4, 9)]) (hsN := [jzQ_16, (4, [(4, 13), (1, 1)], []), (8, [(4, 14), (4, 15)], []), jgh, jgh, jgh, jgh, jgh, jgh, (101, [], [q1, -r7, -r8, 0, 0, 0]), jgh, jgh, jgh, (101, [], [0, 0, 0, 0, 0, 0]), jgh, jgh]) rfl rfl rfl ?_
  refine jT_xaload_n (v := (4, 0)) (pcN := 140) jIQ_161_139 rfl rfl rfl ?_
  refine jT_xgetf (a := 0) (t := 1) (ci := 13) (fi := 7) (c := jzQ_16) (v := (4, 9)) (pcN := 143) jIQ_161_140 rfl rfl rfl rfl rfl rfl rfl ?_
  refine jT_xiload (v := (0, 4)) (pcN := 145) jIQ_161_143 rfl rfl rfl ?_
  refine jT_lald (x := 0) (a := 9) (j := 4) (fs := []) (X := [q1, -r7, -r8, 0, 0, 0]) jIQ_161_145 rfl rfl rfl rfl ?_
  refine jT_eq (LN := [(7, (0, 4)), (5, (1, q1)), (0, (4, 0)), (1, (0, r7)), (2, (0, r8)), (3, (4, 1)), (4, (0, 0))]) (stN := [(1, 0), (1, 0), (0, 4), (4, 9)]) (hsN := [jzQ_16, (4, [(4, 13), (1, 1)], []), (8, [(4, 14), (4, 15)], []), jgh, jgh, jgh, jgh, jgh, jgh, (101, [], [q1, -r7, -r8, 0, 0, 0]), jgh, jgh, jgh, (101, [], [0, 0, 0, 0, 0, 0]), jgh, jgh]) rfl rfl rfl ?_
  refine jT_xaload_n (v := (4, 1)) (pcN := 147) jIQ_161_146 rfl rfl rfl ?_
  refine jT_xgetf (a := 1) (t := 2) (ci := 4) (fi := 1) (c := (4, [(4, 13), (1, 1)], [])) (v := (1, 1)) (pcN := 150) jIQ_161_147 rfl rfl rfl rfl rfl rfl rfl ?_
  refine jT_xlmul (x := 0) (y := 1) (z := 0) (pcN := 151) jIQ_161_150 rfl (by decide) rfl ?_
  refine jT_xlsub (x := 0) (y := 0) (z := 0) (pcN := 152) jIQ_161_151 rfl (by decide) rfl ?_
  refine jT_adv 1 (pcN := 153) (LN := [(7, (0, 4)), (5, (1, q1)), (0, (4, 0)), (1, (0, r7)), (2, (0, r8)), (3, (4, 1)), (4, (0, 0))]) (stN := []) (hsN := [jzQ_16, (4, [(4, 13), (1, 1)], []), (8, [(4, 14), (4, 15)], []), jgh, jgh, jgh, jgh, jgh, jgh, (101, [], [q1, -r7, -r8, 0, 0, 0]), jgh, jgh, jgh, (101, [], [0, 0, 0, 0, 0, 0]), jgh, jgh]) (c1 := 0) (s1 := 0) (c2 := 0) (s2 := 0) (by exact rfl) ?_ (by omega) (by omega)
  refine jT_xiinc (x := 4) (z := 5) (LN := [(7, (0, 5)), (5, (1, q1)), (0, (4, 0)), (1, (0, r7)), (2, (0, r8)), (3, (4, 1)), (4, (0, 0))]) (pcN := 156) jIQ_161_153 rfl rfl (by decide) rfl rfl ?_
  refine jT_xgoto (pcN := 119) jIQ_161_156 rfl ?_
  refine jT_xiload (v := (0, 5)) (pcN := 121) jIQ_161_119 rfl rfl rfl ?_
  refine jT_xbipush (k := 6) (pcN := 123) jIQ_161_121 (by decide) rfl ?_
  refine jT_xicF (t := 159) (pcN := 126) jIQ_161_123 rfl (by decide +kernel) rfl rfl ?_
  refine jT_xaload_n (v := (4, 0)) (pcN := 127) jIQ_161_126 rfl rfl rfl ?_
  refine jT_xgetf (a := 0) (t := 1) (ci := 13) (fi := 7) (c := jzQ_16) (v := (4, 9)) (pcN := 130) jIQ_161_127 rfl rfl rfl rfl rfl rfl rfl ?_
  refine jT_xiload (v := (0, 5)) (pcN := 132) jIQ_161_130 rfl rfl rfl ?_
  refine jT_xaload_n (v := (4, 1)) (pcN := 133) jIQ_161_132 rfl rfl rfl ?_
  refine jT_xgetf (a := 1) (t := 2) (ci := 4) (fi := 0) (c := (4, [(4, 13), (1, 1)], [])) (v := (4, 13)) (pcN := 136) jIQ_161_133 rfl rfl rfl rfl rfl rfl rfl ?_
  refine jT_xiload (v := (0, 5)) (pcN := 138) jIQ_161_136 rfl rfl rfl ?_
  refine jT_lald (x := 0) (a := 13) (j := 5) (fs := []) (X := [0, 0, 0, 0, 0, 0]) jIQ_161_138 rfl rfl rfl rfl ?_
  refine jT_eq (LN := [(7, (0, 5)), (5, (1, q1)), (0, (4, 0)), (1, (0, r7)), (2, (0, r8)), (3, (4, 1)), (4, (0, 0))]) (stN := [(1, 0), (0, 5), (4, 9)]) (hsN := [jzQ_16, (4, [(4, 13), (1, 1)], []), (8, [(4, 14), (4, 15)], []), jgh, jgh, jgh, jgh, jgh, jgh, (101, [], [q1, -r7, -r8, 0, 0, 0]), jgh, jgh, jgh, (101, [], [0, 0, 0, 0, 0, 0]), jgh, jgh]) rfl rfl rfl ?_
  refine jT_xaload_n (v := (4, 0)) (pcN := 140) jIQ_161_139 rfl rfl rfl ?_
  refine jT_xgetf (a := 0) (t := 1) (ci := 13) (fi := 7) (c := jzQ_16) (v := (4, 9)) (pcN := 143) jIQ_161_140 rfl rfl rfl rfl rfl rfl rfl ?_
  refine jT_xiload (v := (0, 5)) (pcN := 145) jIQ_161_143 rfl rfl rfl ?_
  refine jT_lald (x := 0) (a := 9) (j := 5) (fs := []) (X := [q1, -r7, -r8, 0, 0, 0]) jIQ_161_145 rfl rfl rfl rfl ?_
  refine jT_eq (LN := [(7, (0, 5)), (5, (1, q1)), (0, (4, 0)), (1, (0, r7)), (2, (0, r8)), (3, (4, 1)), (4, (0, 0))]) (stN := [(1, 0), (1, 0), (0, 5), (4, 9)]) (hsN := [jzQ_16, (4, [(4, 13), (1, 1)], []), (8, [(4, 14), (4, 15)], []), jgh, jgh, jgh, jgh, jgh, jgh, (101, [], [q1, -r7, -r8, 0, 0, 0]), jgh, jgh, jgh, (101, [], [0, 0, 0, 0, 0, 0]), jgh, jgh]) rfl rfl rfl ?_
  refine jT_xaload_n (v := (4, 1)) (pcN := 147) jIQ_161_146 rfl rfl rfl ?_
  refine jT_xgetf (a := 1) (t := 2) (ci := 4) (fi := 1) (c := (4, [(4, 13), (1, 1)], [])) (v := (1, 1)) (pcN := 150) jIQ_161_147 rfl rfl rfl rfl rfl rfl rfl ?_
  refine jT_xlmul (x := 0) (y := 1) (z := 0) (pcN := 151) jIQ_161_150 rfl (by decide) rfl ?_
  refine jT_xlsub (x := 0) (y := 0) (z := 0) (pcN := 152) jIQ_161_151 rfl (by decide) rfl ?_
  refine jT_adv 1 (pcN := 153) (LN := [(7, (0, 5)), (5, (1, q1)), (0, (4, 0)), (1, (0, r7)), (2, (0, r8)), (3, (4, 1)), (4, (0, 0))]) (stN := []) (hsN := [jzQ_16, (4, [(4, 13), (1, 1)], []), (8, [(4, 14), (4, 15)], []), jgh, jgh, jgh, jgh, jgh, jgh, (101, [], [q1, -r7, -r8, 0, 0, 0]), jgh, jgh, jgh, (101, [], [0, 0, 0, 0, 0, 0]), jgh, jgh]) (c1 := 0) (s1 := 0) (c2 := 0) (s2 := 0) (by exact rfl) ?_ (by omega) (by omega)
  refine jT_xiinc (x := 5) (z := 6) (LN := [(7, (0, 6)), (5, (1, q1)), (0, (4, 0)), (1, (0, r7)), (2, (0, r8)), (3, (4, 1)), (4, (0, 0))]) (pcN := 156) jIQ_161_153 rfl rfl (by decide) rfl rfl ?_
  refine jT_xgoto (pcN := 119) jIQ_161_156 rfl ?_
  refine jT_xiload (v := (0, 6)) (pcN := 121) jIQ_161_119 rfl rfl rfl ?_
  refine jT_xbipush (k := 6) (pcN := 123) jIQ_161_121 (by decide) rfl ?_
  refine jT_xicT (pcN := 159) jIQ_161_123 rfl (by decide +kernel) rfl ?_
  refine jT_xaload_n (v := (4, 0)) (pcN := 160) jIQ_161_159 rfl rfl rfl ?_
  refine jT_xgetf (a := 0) (t := 1) (ci := 13) (fi := 0) (c := jzQ_16) (v := (4, 2)) (pcN := 163) jIQ_161_160 rfl rfl rfl rfl rfl rfl rfl ?_
  refine jT_xaload_n (v := (4, 0)) (pcN := 164) jIQ_161_163 rfl rfl rfl ?_
  refine jT_xgetf (a := 0) (t := 1) (ci := 13) (fi := 7) (c := jzQ_16) (v := (4, 9)) (pcN := 167) jIQ_161_164 rfl rfl rfl rfl rfl rfl rfl ?_
  refine jT_callA [2, 9, 14, 15] (y := 38) (pcN := 170) (dC := 1) (bc1 := 0) (bc2 := 0) (c1 := 0) (c2 := 0) (as := [(4, 2), (4, 9)]) (asC := [(4, 0), (4, 1)]) (LN := [(7, (0, 6)), (5, (1, q1)), (0, (4, 0)), (1, (0, r7)), (2, (0, r8)), (3, (4, 1)), (4, (0, 0))]) (stN := []) (hsC := [(8, [(4, 2), (4, 3)], []), (101, [], [q1, -r7, -r8, 0, 0, 0]), jgh, jgh]) (ex := []) (v := (0, (-1))) (st2 := [(0, (-1))]) (hs2 := [jzQ_16, (4, [(4, 13), (1, 1)], []), (8, [(4, 14), (4, 15)], []), jgh, jgh, jgh, jgh, jgh, jgh, (101, [], [q1, -r7, -r8, 0, 0, 0]), jgh, jgh, jgh, (101, [], [0, 0, 0, 0, 0, 0]), jgh, jgh]) (jQl_sp38_117 (d := 0) (by omega) (by omega) (by omega) (by omega) (by omega) (by omega) (by omega)) (by rfl) (by rfl) (by rfl) (by rfl) ⟨rfl, rfl, rfl, rfl, trivial⟩ (by rfl) (by rfl) (by omega) (by show 16 ≤ 16; omega) (by omega) (by omega) rfl rfl ?_
  refine jT_xifT (pcN := 177) jIQ_161_170 rfl (by decide +kernel) rfl ?_
  refine jT_xiconst (k := 0) (pcN := 178) jIQ_161_177 rfl ?_
  subst hq_q1
  exact jT_ret rfl (by decide) (by show 16 ≤ 16; omega) (by omega) (by omega) ⟨rfl, rfl, rfl⟩
theorem jQ_161_125 {xs : List Int} {d : Nat} {r7 r8 u8_0 u8_1 u8_2 u8_3 u8_4 u8_5 : Int} (h_r7 : (-20) ≤ r7 ∧ r7 ≤ 20) (h_r8 : (-10) ≤ r8 ∧ r8 ≤ 10) (g_0 : 0 ≤ r7) (g_1 : r7 ≤ 0) (g_2 : r8 < 0) : jT xs (d + 2) 161 16 0 [(0, (4, 0)), (1, (0, r7)), (2, (0, r8)), (3, (4, 1)), (4, (0, 0))] [] [jzQ_16, (4, [(4, 13), (1, 1)], []), (8, [(4, 14), (4, 15)], []), jgh, jgh, jgh, jgh, jgh, jgh, (101, [], [u8_0, u8_1, u8_2, u8_3, u8_4, u8_5]), jgh, jgh, jgh, (101, [], [0, 0, 0, 0, 0, 0]), jgh, jgh] 0 0 (fun k v hsN => k = 0 ∧ v = (0, 0) ∧ hsN = [jzQ_16, (4, [(4, 13), (1, 1)], []), (8, [(4, 14), (4, 15)], []), jgh, jgh, jgh, jgh, jgh, jgh, (101, [], [(108917793695 * r7 + 159561683699 * r8) / 68719476736, -r7, -r8, 0, 0, 0]), jgh, jgh, jgh, (101, [], [0, 0, 0, 0, 0, 0]), jgh, jgh]) := by
  refine jT_xiload_n (v := (0, r7)) (pcN := 1) jIQ_161_0 rfl rfl rfl ?_
  refine jT_ifF (a := r7) (t := 10) (by rfl) (by rfl) (by rfl) (jw_idd (by omega) (by omega)) (by simp only [jcP] <;> omega) ?_
  refine jT_xiload_n (v := (0, r8)) (pcN := 5) jIQ_161_4 rfl rfl rfl ?_
  refine jT_ifT (a := r8) (t := 10) (by rfl) (by rfl) (by rfl) (jw_idd (by omega) (by omega)) (by simp only [jcP] <;> omega) ?_
  refine jT_xiconst (k := 0) (pcN := 11) jIQ_161_10 rfl ?_
  refine jT_xistore (v := (0, 0)) (LN := [(5, (0, 0)), (0, (4, 0)), (1, (0, r7)), (2, (0, r8)), (3, (4, 1)), (4, (0, 0))]) (pcN := 13) jIQ_161_11 rfl rfl rfl rfl ?_
  refine jT_xiload (v := (0, 0)) (pcN := 15) jIQ_161_13 rfl rfl rfl ?_
  refine jT_xbipush (k := 6) (pcN := 17) jIQ_161_15 (by decide) rfl ?_
  refine jT_xicF (t := 56) (pcN := 20) jIQ_161_17 rfl (by decide +kernel) rfl rfl ?_
  refine jT_xaload_n (v := (4, 0)) (pcN := 21) jIQ_161_20 rfl rfl rfl ?_
  refine jT_xgetf (a := 0) (t := 1) (ci := 13) (fi := 7) (c := jzQ_16) (v := (4, 9)) (pcN := 24) jIQ_161_21 rfl rfl rfl rfl rfl rfl rfl ?_
  refine jT_xiload (v := (0, 0)) (pcN := 26) jIQ_161_24 rfl rfl rfl ?_
  refine jT_xiload (v := (0, 0)) (pcN := 28) jIQ_161_26 rfl rfl rfl ?_
  refine jT_xiconst (k := 1) (pcN := 29) jIQ_161_28 rfl ?_
  refine jT_xicT (pcN := 37) jIQ_161_29 rfl (by decide +kernel) rfl ?_
  refine jT_xiload (v := (0, 0)) (pcN := 39) jIQ_161_37 rfl rfl rfl ?_
  refine jT_xiconst (k := 2) (pcN := 40) jIQ_161_39 rfl ?_
  refine jT_xicT (pcN := 48) jIQ_161_40 rfl (by decide +kernel) rfl ?_
  refine jT_xlconst (z := 0) (pcN := 49) jIQ_161_48 rfl rfl ?_
  refine jT_adv 1 (pcN := 50) (LN := [(5, (0, 0)), (0, (4, 0)), (1, (0, r7)), (2, (0, r8)), (3, (4, 1)), (4, (0, 0))]) (stN := []) (hsN := [jzQ_16, (4, [(4, 13), (1, 1)], []), (8, [(4, 14), (4, 15)], []), jgh, jgh, jgh, jgh, jgh, jgh, (101, [], [0, u8_1, u8_2, u8_3, u8_4, u8_5]), jgh, jgh, jgh, (101, [], [0, 0, 0, 0, 0, 0]), jgh, jgh]) (c1 := 0) (s1 := 0) (c2 := 0) (s2 := 0) (by exact rfl) ?_ (by omega) (by omega)
  refine jT_xiinc (x := 0) (z := 1) (LN := [(5, (0, 1)), (0, (4, 0)), (1, (0, r7)), (2, (0, r8)), (3, (4, 1)), (4, (0, 0))]) (pcN := 53) jIQ_161_50 rfl rfl (by decide) rfl rfl ?_
  refine jT_xgoto (pcN := 13) jIQ_161_53 rfl ?_
  refine jT_xiload (v := (0, 1)) (pcN := 15) jIQ_161_13 rfl rfl rfl ?_
  refine jT_xbipush (k := 6) (pcN := 17) jIQ_161_15 (by decide) rfl ?_
  refine jT_xicF (t := 56) (pcN := 20) jIQ_161_17 rfl (by decide +kernel) rfl rfl ?_
  refine jT_xaload_n (v := (4, 0)) (pcN := 21) jIQ_161_20 rfl rfl rfl ?_
  refine jT_xgetf (a := 0) (t := 1) (ci := 13) (fi := 7) (c := jzQ_16) (v := (4, 9)) (pcN := 24) jIQ_161_21 rfl rfl rfl rfl rfl rfl rfl ?_
  refine jT_xiload (v := (0, 1)) (pcN := 26) jIQ_161_24 rfl rfl rfl ?_
  refine jT_xiload (v := (0, 1)) (pcN := 28) jIQ_161_26 rfl rfl rfl ?_
  refine jT_xiconst (k := 1) (pcN := 29) jIQ_161_28 rfl ?_
  refine jT_xicF (t := 37) (pcN := 32) jIQ_161_29 rfl (by decide +kernel) rfl rfl ?_
  refine jT_xiload_n (v := (0, r7)) (pcN := 33) jIQ_161_32 rfl rfl rfl ?_
  refine jT_xi2l (x := r7) (z := r7) (pcN := 34) jIQ_161_33 rfl (jw_idd (by omega) (by omega)) rfl ?_
  refine jT_xgoto (pcN := 49) jIQ_161_34 rfl ?_
  refine jT_adv 1 (pcN := 50) (LN := [(5, (0, 1)), (0, (4, 0)), (1, (0, r7)), (2, (0, r8)), (3, (4, 1)), (4, (0, 0))]) (stN := []) (hsN := [jzQ_16, (4, [(4, 13), (1, 1)], []), (8, [(4, 14), (4, 15)], []), jgh, jgh, jgh, jgh, jgh, jgh, (101, [], [0, r7, u8_2, u8_3, u8_4, u8_5]), jgh, jgh, jgh, (101, [], [0, 0, 0, 0, 0, 0]), jgh, jgh]) (c1 := 0) (s1 := 0) (c2 := 0) (s2 := 0) (by exact rfl) ?_ (by omega) (by omega)
  refine jT_xiinc (x := 1) (z := 2) (LN := [(5, (0, 2)), (0, (4, 0)), (1, (0, r7)), (2, (0, r8)), (3, (4, 1)), (4, (0, 0))]) (pcN := 53) jIQ_161_50 rfl rfl (by decide) rfl rfl ?_
  refine jT_xgoto (pcN := 13) jIQ_161_53 rfl ?_
  refine jT_xiload (v := (0, 2)) (pcN := 15) jIQ_161_13 rfl rfl rfl ?_
  refine jT_xbipush (k := 6) (pcN := 17) jIQ_161_15 (by decide) rfl ?_
  refine jT_xicF (t := 56) (pcN := 20) jIQ_161_17 rfl (by decide +kernel) rfl rfl ?_
  refine jT_xaload_n (v := (4, 0)) (pcN := 21) jIQ_161_20 rfl rfl rfl ?_
  refine jT_xgetf (a := 0) (t := 1) (ci := 13) (fi := 7) (c := jzQ_16) (v := (4, 9)) (pcN := 24) jIQ_161_21 rfl rfl rfl rfl rfl rfl rfl ?_
  refine jT_xiload (v := (0, 2)) (pcN := 26) jIQ_161_24 rfl rfl rfl ?_
  refine jT_xiload (v := (0, 2)) (pcN := 28) jIQ_161_26 rfl rfl rfl ?_
  refine jT_xiconst (k := 1) (pcN := 29) jIQ_161_28 rfl ?_
  refine jT_xicT (pcN := 37) jIQ_161_29 rfl (by decide +kernel) rfl ?_
  refine jT_xiload (v := (0, 2)) (pcN := 39) jIQ_161_37 rfl rfl rfl ?_
  refine jT_xiconst (k := 2) (pcN := 40) jIQ_161_39 rfl ?_
  refine jT_xicF (t := 48) (pcN := 43) jIQ_161_40 rfl (by decide +kernel) rfl rfl ?_
  refine jT_xiload_n (v := (0, r8)) (pcN := 44) jIQ_161_43 rfl rfl rfl ?_
  refine jT_xi2l (x := r8) (z := r8) (pcN := 45) jIQ_161_44 rfl (jw_idd (by omega) (by omega)) rfl ?_
  refine jT_xgoto (pcN := 49) jIQ_161_45 rfl ?_
  refine jT_adv 1 (pcN := 50) (LN := [(5, (0, 2)), (0, (4, 0)), (1, (0, r7)), (2, (0, r8)), (3, (4, 1)), (4, (0, 0))]) (stN := []) (hsN := [jzQ_16, (4, [(4, 13), (1, 1)], []), (8, [(4, 14), (4, 15)], []), jgh, jgh, jgh, jgh, jgh, jgh, (101, [], [0, r7, r8, u8_3, u8_4, u8_5]), jgh, jgh, jgh, (101, [], [0, 0, 0, 0, 0, 0]), jgh, jgh]) (c1 := 0) (s1 := 0) (c2 := 0) (s2 := 0) (by exact rfl) ?_ (by omega) (by omega)
  refine jT_xiinc (x := 2) (z := 3) (LN := [(5, (0, 3)), (0, (4, 0)), (1, (0, r7)), (2, (0, r8)), (3, (4, 1)), (4, (0, 0))]) (pcN := 53) jIQ_161_50 rfl rfl (by decide) rfl rfl ?_
  refine jT_xgoto (pcN := 13) jIQ_161_53 rfl ?_
  refine jT_xiload (v := (0, 3)) (pcN := 15) jIQ_161_13 rfl rfl rfl ?_
  refine jT_xbipush (k := 6) (pcN := 17) jIQ_161_15 (by decide) rfl ?_
  refine jT_xicF (t := 56) (pcN := 20) jIQ_161_17 rfl (by decide +kernel) rfl rfl ?_
  refine jT_xaload_n (v := (4, 0)) (pcN := 21) jIQ_161_20 rfl rfl rfl ?_
  refine jT_xgetf (a := 0) (t := 1) (ci := 13) (fi := 7) (c := jzQ_16) (v := (4, 9)) (pcN := 24) jIQ_161_21 rfl rfl rfl rfl rfl rfl rfl ?_
  refine jT_xiload (v := (0, 3)) (pcN := 26) jIQ_161_24 rfl rfl rfl ?_
  refine jT_xiload (v := (0, 3)) (pcN := 28) jIQ_161_26 rfl rfl rfl ?_
  refine jT_xiconst (k := 1) (pcN := 29) jIQ_161_28 rfl ?_
  refine jT_xicT (pcN := 37) jIQ_161_29 rfl (by decide +kernel) rfl ?_
  refine jT_xiload (v := (0, 3)) (pcN := 39) jIQ_161_37 rfl rfl rfl ?_
  refine jT_xiconst (k := 2) (pcN := 40) jIQ_161_39 rfl ?_
  refine jT_xicT (pcN := 48) jIQ_161_40 rfl (by decide +kernel) rfl ?_
  refine jT_xlconst (z := 0) (pcN := 49) jIQ_161_48 rfl rfl ?_
  refine jT_adv 1 (pcN := 50) (LN := [(5, (0, 3)), (0, (4, 0)), (1, (0, r7)), (2, (0, r8)), (3, (4, 1)), (4, (0, 0))]) (stN := []) (hsN := [jzQ_16, (4, [(4, 13), (1, 1)], []), (8, [(4, 14), (4, 15)], []), jgh, jgh, jgh, jgh, jgh, jgh, (101, [], [0, r7, r8, 0, u8_4, u8_5]), jgh, jgh, jgh, (101, [], [0, 0, 0, 0, 0, 0]), jgh, jgh]) (c1 := 0) (s1 := 0) (c2 := 0) (s2 := 0) (by exact rfl) ?_ (by omega) (by omega)
  refine jT_xiinc (x := 3) (z := 4) (LN := [(5, (0, 4)), (0, (4, 0)), (1, (0, r7)), (2, (0, r8)), (3, (4, 1)), (4, (0, 0))]) (pcN := 53) jIQ_161_50 rfl rfl (by decide) rfl rfl ?_
  refine jT_xgoto (pcN := 13) jIQ_161_53 rfl ?_
  refine jT_xiload (v := (0, 4)) (pcN := 15) jIQ_161_13 rfl rfl rfl ?_
  refine jT_xbipush (k := 6) (pcN := 17) jIQ_161_15 (by decide) rfl ?_
  refine jT_xicF (t := 56) (pcN := 20) jIQ_161_17 rfl (by decide +kernel) rfl rfl ?_
  refine jT_xaload_n (v := (4, 0)) (pcN := 21) jIQ_161_20 rfl rfl rfl ?_
  refine jT_xgetf (a := 0) (t := 1) (ci := 13) (fi := 7) (c := jzQ_16) (v := (4, 9)) (pcN := 24) jIQ_161_21 rfl rfl rfl rfl rfl rfl rfl ?_
  refine jT_xiload (v := (0, 4)) (pcN := 26) jIQ_161_24 rfl rfl rfl ?_
  refine jT_xiload (v := (0, 4)) (pcN := 28) jIQ_161_26 rfl rfl rfl ?_
  refine jT_xiconst (k := 1) (pcN := 29) jIQ_161_28 rfl ?_
  refine jT_xicT (pcN := 37) jIQ_161_29 rfl (by decide +kernel) rfl ?_
  refine jT_xiload (v := (0, 4)) (pcN := 39) jIQ_161_37 rfl rfl rfl ?_
  refine jT_xiconst (k := 2) (pcN := 40) jIQ_161_39 rfl ?_
  refine jT_xicT (pcN := 48) jIQ_161_40 rfl (by decide +kernel) rfl ?_
  refine jT_xlconst (z := 0) (pcN := 49) jIQ_161_48 rfl rfl ?_
  refine jT_adv 1 (pcN := 50) (LN := [(5, (0, 4)), (0, (4, 0)), (1, (0, r7)), (2, (0, r8)), (3, (4, 1)), (4, (0, 0))]) (stN := []) (hsN := [jzQ_16, (4, [(4, 13), (1, 1)], []), (8, [(4, 14), (4, 15)], []), jgh, jgh, jgh, jgh, jgh, jgh, (101, [], [0, r7, r8, 0, 0, u8_5]), jgh, jgh, jgh, (101, [], [0, 0, 0, 0, 0, 0]), jgh, jgh]) (c1 := 0) (s1 := 0) (c2 := 0) (s2 := 0) (by exact rfl) ?_ (by omega) (by omega)
  refine jT_xiinc (x := 4) (z := 5) (LN := [(5, (0, 5)), (0, (4, 0)), (1, (0, r7)), (2, (0, r8)), (3, (4, 1)), (4, (0, 0))]) (pcN := 53) jIQ_161_50 rfl rfl (by decide) rfl rfl ?_
  refine jT_xgoto (pcN := 13) jIQ_161_53 rfl ?_
  refine jT_xiload (v := (0, 5)) (pcN := 15) jIQ_161_13 rfl rfl rfl ?_
  refine jT_xbipush (k := 6) (pcN := 17) jIQ_161_15 (by decide) rfl ?_
  refine jT_xicF (t := 56) (pcN := 20) jIQ_161_17 rfl (by decide +kernel) rfl rfl ?_
  refine jT_xaload_n (v := (4, 0)) (pcN := 21) jIQ_161_20 rfl rfl rfl ?_
  refine jT_xgetf (a := 0) (t := 1) (ci := 13) (fi := 7) (c := jzQ_16) (v := (4, 9)) (pcN := 24) jIQ_161_21 rfl rfl rfl rfl rfl rfl rfl ?_
  refine jT_xiload (v := (0, 5)) (pcN := 26) jIQ_161_24 rfl rfl rfl ?_
  refine jT_xiload (v := (0, 5)) (pcN := 28) jIQ_161_26 rfl rfl rfl ?_
  refine jT_xiconst (k := 1) (pcN := 29) jIQ_161_28 rfl ?_
  refine jT_xicT (pcN := 37) jIQ_161_29 rfl (by decide +kernel) rfl ?_
  refine jT_xiload (v := (0, 5)) (pcN := 39) jIQ_161_37 rfl rfl rfl ?_
  refine jT_xiconst (k := 2) (pcN := 40) jIQ_161_39 rfl ?_
  refine jT_xicT (pcN := 48) jIQ_161_40 rfl (by decide +kernel) rfl ?_
  refine jT_xlconst (z := 0) (pcN := 49) jIQ_161_48 rfl rfl ?_
  refine jT_adv 1 (pcN := 50) (LN := [(5, (0, 5)), (0, (4, 0)), (1, (0, r7)), (2, (0, r8)), (3, (4, 1)), (4, (0, 0))]) (stN := []) (hsN := [jzQ_16, (4, [(4, 13), (1, 1)], []), (8, [(4, 14), (4, 15)], []), jgh, jgh, jgh, jgh, jgh, jgh, (101, [], [0, r7, r8, 0, 0, 0]), jgh, jgh, jgh, (101, [], [0, 0, 0, 0, 0, 0]), jgh, jgh]) (c1 := 0) (s1 := 0) (c2 := 0) (s2 := 0) (by exact rfl) ?_ (by omega) (by omega)
  refine jT_xiinc (x := 5) (z := 6) (LN := [(5, (0, 6)), (0, (4, 0)), (1, (0, r7)), (2, (0, r8)), (3, (4, 1)), (4, (0, 0))]) (pcN := 53) jIQ_161_50 rfl rfl (by decide) rfl rfl ?_
  refine jT_xgoto (pcN := 13) jIQ_161_53 rfl ?_
  refine jT_xiload (v := (0, 6)) (pcN := 15) jIQ_161_13 rfl rfl rfl ?_
  refine jT_xbipush (k := 6) (pcN := 17) jIQ_161_15 (by decide) rfl ?_
  refine jT_xicT (pcN := 56) jIQ_161_17 rfl (by decide +kernel) rfl ?_
  refine jT_xaload_n (v := (4, 0)) (pcN := 57) jIQ_161_56 rfl rfl rfl ?_
  refine jT_xgetf (a := 0) (t := 1) (ci := 13) (fi := 0) (c := jzQ_16) (v := (4, 2)) (pcN := 60) jIQ_161_57 rfl rfl rfl rfl rfl rfl rfl ?_
  refine jT_xaload_n (v := (4, 0)) (pcN := 61) jIQ_161_60 rfl rfl rfl ?_
  refine jT_xgetf (a := 0) (t := 1) (ci := 13) (fi := 7) (c := jzQ_16) (v := (4, 9)) (pcN := 64) jIQ_161_61 rfl rfl rfl rfl rfl rfl rfl ?_
  refine jT_xlconst (z := 1) (pcN := 65) jIQ_161_64 rfl rfl ?_
  refine jT_xlconst (z := 1) (pcN := 66) jIQ_161_65 rfl rfl ?_
  refine jT_callA [2, 9, 14, 15] (y := 45) (pcN := 69) (dC := 1) (bc1 := 0) (bc2 := 0) (c1 := 0) (c2 := 0) (as := [(4, 2), (4, 9), (1, 1), (1, 1)]) (asC := [(4, 0), (4, 1), (1, 1), (1, 1)]) (LN := [(5, (0, 6)), (0, (4, 0)), (1, (0, r7)), (2, (0, r8)), (3, (4, 1)), (4, (0, 0))]) (stN := []) (hsC := [(8, [(4, 2), (4, 3)], []), (101, [], [0, r7, r8, 0, 0, 0]), jgh, jgh]) (ex := []) (v := (1, (108917793695 * r7 + 159561683699 * r8) / 68719476736)) (st2 := [(1, (108917793695 * r7 + 159561683699 * r8) / 68719476736)]) (hs2 := [jzQ_16, (4, [(4, 13), (1, 1)], []), (8, [(4, 14), (4, 15)], []), jgh, jgh, jgh, jgh, jgh, jgh, (101, [], [0, r7, r8, 0, 0, 0]), jgh, jgh, jgh, (101, [], [0, 0, 0, 0, 0, 0]), jgh, jgh]) (jQl_sp45_116 (d := 0) (by omega) (by omega)) (by rfl) (by rfl) (by rfl) (by rfl) ⟨rfl, rfl, rfl, rfl, trivial⟩ (by rfl) (by rfl) (by omega) (by show 16 ≤ 16; omega) (by omega) (by omega) rfl rfl ?_
  have hb_q1 : (-60) ≤ (108917793695 * r7 + 159561683699 * r8) / 68719476736 ∧ (108917793695 * r7 + 159561683699 * r8) / 68719476736 ≤ 60 := ⟨by omega, by omega⟩
  generalize hq_q1 : (108917793695 * r7 + 159561683699 * r8) / 68719476736 = q1 at hb_q1 ⊢
  refine jT_xlstore (v := (1, q1)) (LN := [(5, (1, q1)), (0, (4, 0)), (1, (0, r7)), (2, (0, r8)), (3, (4, 1)), (4, (0, 0))]) (pcN := 71) jIQ_161_69 rfl rfl rfl rfl ?_
  have g_3 : 0 ≤ (-68719476736) * q1 + 108917793694 * r7 + 159561683698 * r8 - 1 := by have := jcg (b := r7) (c := r8) (by omega) (by omega) (by omega); rw [hq_q1] at this; omega
  have g_4 : 0 ≤ (-68719476736) * q1 + 108917793694 * r7 + 159561683700 * r8 - 1 := by have := jcg (b := r7) (c := r8) (by omega) (by omega) (by omega); rw [hq_q1] at this; omega
  have g_5 : 0 ≤ (-68719476736) * q1 + 108917793696 * r7 + 159561683698 * r8 - 1 := by have := jcg (b := r7) (c := r8) (by omega) (by omega) (by omega); rw [hq_q1] at this; omega
  have g_6 : 0 ≤ (-68719476736) * q1 + 108917793696 * r7 + 159561683700 * r8 - 1 := by have := jcg (b := r7) (c := r8) (by omega) (by omega) (by omega); rw [hq_q1] at this; omega
  refine jT_xiload (v := (0, 0)) (pcN := 73) jIQ_161_71 rfl rfl rfl ?_
  refine jT_xifT (pcN := 107) jIQ_161_73 rfl (by decide +kernel) rfl ?_
  refine jT_xaload_n (v := (4, 0)) (pcN := 108) jIQ_161_107 rfl rfl rfl ?_
  refine jT_xgetf (a := 0) (t := 1) (ci := 13) (fi := 7) (c := jzQ_16) (v := (4, 9)) (pcN := 111) jIQ_161_108 rfl rfl rfl rfl rfl rfl rfl ?_
  refine jT_xiconst (k := 0) (pcN := 112) jIQ_161_111 rfl ?_
  refine jT_xlload (v := (1, q1)) (pcN := 114) jIQ_161_112 rfl rfl rfl ?_
  refine jT_adv 2 (pcN := 116) (LN := [(5, (1, q1)), (0, (4, 0)), (1, (0, r7)), (2, (0, r8)), (3, (4, 1)), (4, (0, 0))]) (stN := []) (hsN := [jzQ_16, (4, [(4, 13), (1, 1)], []), (8, [(4, 14), (4, 15)], []), jgh, jgh, jgh, jgh, jgh, jgh, (101, [], [-q1, r7, r8, 0, 0, 0]), jgh, jgh, jgh, (101, [], [0, 0, 0, 0, 0, 0]), jgh, jgh]) (c1 := 0) (s1 := 0) (c2 := 0) (s2 := 0) (by exact rfl) ?_ (by omega) (by omega)
  refine jT_xiconst (k := 0) (pcN := 117) jIQ_161_116 rfl ?_
  refine jT_xistore (v := (0, 0)) (LN := [(7, (0, 0)), (5, (1, q1)), (0, (4, 0)), (1, (0, r7)), (2, (0, r8)), (3, (4, 1)), (4, (0, 0))]) (pcN := 119) jIQ_161_117 rfl rfl rfl rfl ?_
  refine jT_xiload (v := (0, 0)) (pcN := 121) jIQ_161_119 rfl rfl rfl ?_
  refine jT_xbipush (k := 6) (pcN := 123) jIQ_161_121 (by decide) rfl ?_
  refine jT_xicF (t := 159) (pcN := 126) jIQ_161_123 rfl (by decide +kernel) rfl rfl ?_
  refine jT_xaload_n (v := (4, 0)) (pcN := 127) jIQ_161_126 rfl rfl rfl ?_
  refine jT_xgetf (a := 0) (t := 1) (ci := 13) (fi := 7) (c := jzQ_16) (v := (4, 9)) (pcN := 130) jIQ_161_127 rfl rfl rfl rfl rfl rfl rfl ?_
  refine jT_xiload (v := (0, 0)) (pcN := 132) jIQ_161_130 rfl rfl rfl ?_
  refine jT_xaload_n (v := (4, 1)) (pcN := 133) jIQ_161_132 rfl rfl rfl ?_
  refine jT_xgetf (a := 1) (t := 2) (ci := 4) (fi := 0) (c := (4, [(4, 13), (1, 1)], [])) (v := (4, 13)) (pcN := 136) jIQ_161_133 rfl rfl rfl rfl rfl rfl rfl ?_
  refine jT_xiload (v := (0, 0)) (pcN := 138) jIQ_161_136 rfl rfl rfl ?_
  refine jT_lald (x := 0) (a := 13) (j := 0) (fs := []) (X := [0, 0, 0, 0, 0, 0]) jIQ_161_138 rfl rfl rfl rfl ?_
  refine jT_eq (LN := [(7, (0, 0)), (5, (1, q1)), (0, (4, 0)), (1, (0, r7)), (2, (0, r8)), (3, (4, 1)), (4, (0, 0))]) (stN := [(1, 0), (0, 0), (4, 9)]) (hsN := [jzQ_16, (4, [(4, 13), (1, 1)], []), (8, [(4, 14), (4, 15)], []), jgh, jgh, jgh, jgh, jgh, jgh, (101, [], [-q1, r7, r8, 0, 0, 0]), jgh, jgh, jgh, (101, [], [0, 0, 0, 0, 0, 0]), jgh, jgh]) rfl rfl rfl ?_
  refine jT_xaload_n (v := (4, 0)) (pcN := 140) jIQ_161_139 rfl rfl rfl ?_
  refine jT_xgetf (a := 0) (t := 1) (ci := 13) (fi := 7) (c := jzQ_16) (v := (4, 9)) (pcN := 143) jIQ_161_140 rfl rfl rfl rfl rfl rfl rfl ?_
  refine jT_xiload (v := (0, 0)) (pcN := 145) jIQ_161_143 rfl rfl rfl ?_
  refine jT_lald (x := -q1) (a := 9) (j := 0) (fs := []) (X := [-q1, r7, r8, 0, 0, 0]) jIQ_161_145 rfl rfl rfl rfl ?_
  refine jT_eq (LN := [(7, (0, 0)), (5, (1, q1)), (0, (4, 0)), (1, (0, r7)), (2, (0, r8)), (3, (4, 1)), (4, (0, 0))]) (stN := [(1, -q1), (1, 0), (0, 0), (4, 9)]) (hsN := [jzQ_16, (4, [(4, 13), (1, 1)], []), (8, [(4, 14), (4, 15)], []), jgh, jgh, jgh, jgh, jgh, jgh, (101, [], [-q1, r7, r8, 0, 0, 0]), jgh, jgh, jgh, (101, [], [0, 0, 0, 0, 0, 0]), jgh, jgh]) rfl rfl rfl ?_
  refine jT_xaload_n (v := (4, 1)) (pcN := 147) jIQ_161_146 rfl rfl rfl ?_
  refine jT_xgetf (a := 1) (t := 2) (ci := 4) (fi := 1) (c := (4, [(4, 13), (1, 1)], [])) (v := (1, 1)) (pcN := 150) jIQ_161_147 rfl rfl rfl rfl rfl rfl rfl ?_
  refine jT_xlmul (x := -q1) (y := 1) (z := -q1) (pcN := 151) jIQ_161_150 rfl (by omega) rfl ?_
  refine jT_xlsub (x := 0) (y := -q1) (z := q1) (pcN := 152) jIQ_161_151 rfl (by omega) rfl ?_
  refine jT_adv 1 (pcN := 153) (LN := [(7, (0, 0)), (5, (1, q1)), (0, (4, 0)), (1, (0, r7)), (2, (0, r8)), (3, (4, 1)), (4, (0, 0))]) (stN := []) (hsN := [jzQ_16, (4, [(4, 13), (1, 1)], []), (8, [(4, 14), (4, 15)], []), jgh, jgh, jgh, jgh, jgh, jgh, (101, [], [q1, r7, r8, 0, 0, 0]), jgh, jgh, jgh, (101, [], [0, 0, 0, 0, 0, 0]), jgh, jgh]) (c1 := 0) (s1 := 0) (c2 := 0) (s2 := 0) (by exact rfl) ?_ (by omega) (by omega)
  refine jT_xiinc (x := 0) (z := 1) (LN := [(7, (0, 1)), (5, (1, q1)), (0, (4, 0)), (1, (0, r7)), (2, (0, r8)), (3, (4, 1)), (4, (0, 0))]) (pcN := 156) jIQ_161_153 rfl rfl (by decide) rfl rfl ?_
  refine jT_xgoto (pcN := 119) jIQ_161_156 rfl ?_
  refine jT_xiload (v := (0, 1)) (pcN := 121) jIQ_161_119 rfl rfl rfl ?_
  refine jT_xbipush (k := 6) (pcN := 123) jIQ_161_121 (by decide) rfl ?_
  refine jT_xicF (t := 159) (pcN := 126) jIQ_161_123 rfl (by decide +kernel) rfl rfl ?_
  refine jT_xaload_n (v := (4, 0)) (pcN := 127) jIQ_161_126 rfl rfl rfl ?_
  refine jT_xgetf (a := 0) (t := 1) (ci := 13) (fi := 7) (c := jzQ_16) (v := (4, 9)) (pcN := 130) jIQ_161_127 rfl rfl rfl rfl rfl rfl rfl ?_
  refine jT_xiload (v := (0, 1)) (pcN := 132) jIQ_161_130 rfl rfl rfl ?_
  refine jT_xaload_n (v := (4, 1)) (pcN := 133) jIQ_161_132 rfl rfl rfl ?_
  refine jT_xgetf (a := 1) (t := 2) (ci := 4) (fi := 0) (c := (4, [(4, 13), (1, 1)], [])) (v := (4, 13)) (pcN := 136) jIQ_161_133 rfl rfl rfl rfl rfl rfl rfl ?_
  refine jT_xiload (v := (0, 1)) (pcN := 138) jIQ_161_136 rfl rfl rfl ?_
  refine jT_lald (x := 0) (a := 13) (j := 1) (fs := []) (X := [0, 0, 0, 0, 0, 0]) jIQ_161_138 rfl rfl rfl rfl ?_
  refine jT_eq (LN := [(7, (0, 1)), (5, (1, q1)), (0, (4, 0)), (1, (0, r7)), (2, (0, r8)), (3, (4, 1)), (4, (0, 0))]) (stN := [(1, 0), (0, 1), (4, 9)]) (hsN := [jzQ_16, (4, [(4, 13), (1, 1)], []), (8, [(4, 14), (4, 15)], []), jgh, jgh, jgh, jgh, jgh, jgh, (101, [], [q1, r7, r8, 0, 0, 0]), jgh, jgh, jgh, (101, [], [0, 0, 0, 0, 0, 0]), jgh, jgh]) rfl rfl rfl ?_
  refine jT_xaload_n (v := (4, 0)) (pcN := 140) jIQ_161_139 rfl rfl rfl ?_
  refine jT_xgetf (a := 0) (t := 1) (ci := 13) (fi := 7) (c := jzQ_16) (v := (4, 9)) (pcN := 143) jIQ_161_140 rfl rfl rfl rfl rfl rfl rfl ?_
  refine jT_xiload (v := (0, 1)) (pcN := 145) jIQ_161_143 rfl rfl rfl ?_
  refine jT_lald (x := r7) (a := 9) (j := 1) (fs := []) (X := [q1, r7, r8, 0, 0, 0]) jIQ_161_145 rfl rfl rfl rfl ?_
  refine jT_eq (LN := [(7, (0, 1)), (5, (1, q1)), (0, (4, 0)), (1, (0, r7)), (2, (0, r8)), (3, (4, 1)), (4, (0, 0))]) (stN := [(1, r7), (1, 0), (0, 1), (4, 9)]) (hsN := [jzQ_16, (4, [(4, 13), (1, 1)], []), (8, [(4, 14), (4, 15)], []), jgh, jgh, jgh, jgh, jgh, jgh, (101, [], [q1, r7, r8, 0, 0, 0]), jgh, jgh, jgh, (101, [], [0, 0, 0, 0, 0, 0]), jgh, jgh]) rfl rfl rfl ?_
  refine jT_xaload_n (v := (4, 1)) (pcN := 147) jIQ_161_146 rfl rfl rfl ?_
  refine jT_xgetf (a := 1) (t := 2) (ci := 4) (fi := 1) (c := (4, [(4, 13), (1, 1)], [])) (v := (1, 1)) (pcN := 150) jIQ_161_147 rfl rfl rfl rfl rfl rfl rfl ?_
  refine jT_xlmul (x := r7) (y := 1) (z := r7) (pcN := 151) jIQ_161_150 rfl (by omega) rfl ?_
  refine jT_xlsub (x := 0) (y := r7) (z := -r7) (pcN := 152) jIQ_161_151 rfl (by omega) rfl ?_
  refine jT_adv 1 (pcN := 153) (LN := [(7, (0, 1)), (5, (1, q1)), (0, (4, 0)), (1, (0, r7)), (2, (0, r8)), (3, (4, 1)), (4, (0, 0))]) (stN := []) (hsN := [jzQ_16, (4, [(4, 13), (1, 1)], []), (8, [(4, 14), (4, 15)], []), jgh, jgh, jgh, jgh, jgh, jgh, (101, [], [q1, -r7, r8, 0, 0, 0]), jgh, jgh, jgh, (101, [], [0, 0, 0, 0, 0, 0]), jgh, jgh]) (c1 := 0) (s1 := 0) (c2 := 0) (s2 := 0) (by exact rfl) ?_ (by omega) (by omega)
  refine jT_xiinc (x := 1) (z := 2) (LN := [(7, (0, 2)), (5, (1, q1)), (0, (4, 0)), (1, (0, r7)), (2, (0, r8)), (3, (4, 1)), (4, (0, 0))]) (pcN := 156) jIQ_161_153 rfl rfl (by decide) rfl rfl ?_
  refine jT_xgoto (pcN := 119) jIQ_161_156 rfl ?_
  refine jT_xiload (v := (0, 2)) (pcN := 121) jIQ_161_119 rfl rfl rfl ?_
  refine jT_xbipush (k := 6) (pcN := 123) jIQ_161_121 (by decide) rfl ?_
  refine jT_xicF (t := 159) (pcN := 126) jIQ_161_123 rfl (by decide +kernel) rfl rfl ?_
  refine jT_xaload_n (v := (4, 0)) (pcN := 127) jIQ_161_126 rfl rfl rfl ?_
  refine jT_xgetf (a := 0) (t := 1) (ci := 13) (fi := 7) (c := jzQ_16) (v := (4, 9)) (pcN := 130) jIQ_161_127 rfl rfl rfl rfl rfl rfl rfl ?_
  refine jT_xiload (v := (0, 2)) (pcN := 132) jIQ_161_130 rfl rfl rfl ?_
  refine jT_xaload_n (v := (4, 1)) (pcN := 133) jIQ_161_132 rfl rfl rfl ?_
  refine jT_xgetf (a := 1) (t := 2) (ci := 4) (fi := 0) (c := (4, [(4, 13), (1, 1)], [])) (v := (4, 13)) (pcN := 136) jIQ_161_133 rfl rfl rfl rfl rfl rfl rfl ?_
  refine jT_xiload (v := (0, 2)) (pcN := 138) jIQ_161_136 rfl rfl rfl ?_
  refine jT_lald (x := 0) (a := 13) (j := 2) (fs := []) (X := [0, 0, 0, 0, 0, 0]) jIQ_161_138 rfl rfl rfl rfl ?_
  refine jT_eq (LN := [(7, (0, 2)), (5, (1, q1)), (0, (4, 0)), (1, (0, r7)), (2, (0, r8)), (3, (4, 1)), (4, (0, 0))]) (stN := [(1, 0), (0, 2), (4, 9)]) (hsN := [jzQ_16, (4, [(4, 13), (1, 1)], []), (8, [(4, 14), (4, 15)], []), jgh, jgh, jgh, jgh, jgh, jgh, (101, [], [q1, -r7, r8, 0, 0, 0]), jgh, jgh, jgh, (101, [], [0, 0, 0, 0, 0, 0]), jgh, jgh]) rfl rfl rfl ?_
  refine jT_xaload_n (v := (4, 0)) (pcN := 140) jIQ_161_139 rfl rfl rfl ?_
  refine jT_xgetf (a := 0) (t := 1) (ci := 13) (fi := 7) (c := jzQ_16) (v := (4, 9)) (pcN := 143) jIQ_161_140 rfl rfl rfl rfl rfl rfl rfl ?_
  refine jT_xiload (v := (0, 2)) (pcN := 145) jIQ_161_143 rfl rfl rfl ?_
  refine jT_lald (x := r8) (a := 9) (j := 2) (fs := []) (X := [q1, -r7, r8, 0, 0, 0]) jIQ_161_145 rfl rfl rfl rfl ?_
  refine jT_eq (LN := [(7, (0, 2)), (5, (1, q1)), (0, (4, 0)), (1, (0, r7)), (2, (0, r8)), (3, (4, 1)), (4, (0, 0))]) (stN := [(1, r8), (1, 0), (0, 2), (4, 9)]) (hsN := [jzQ_16, (4, [(4, 13), (1, 1)], []), (8, [(4, 14), (4, 15)], []), jgh, jgh, jgh, jgh, jgh, jgh, (101, [], [q1, -r7, r8, 0, 0, 0]), jgh, jgh, jgh, (101, [], [0, 0, 0, 0, 0, 0]), jgh, jgh]) rfl rfl rfl ?_
  refine jT_xaload_n (v := (4, 1)) (pcN := 147) jIQ_161_146 rfl rfl rfl ?_
  refine jT_xgetf (a := 1) (t := 2) (ci := 4) (fi := 1) (c := (4, [(4, 13), (1, 1)], [])) (v := (1, 1)) (pcN := 150) jIQ_161_147 rfl rfl rfl rfl rfl rfl rfl ?_
  refine jT_xlmul (x := r8) (y := 1) (z := r8) (pcN := 151) jIQ_161_150 rfl (by omega) rfl ?_
  refine jT_xlsub (x := 0) (y := r8) (z := -r8) (pcN := 152) jIQ_161_151 rfl (by omega) rfl ?_
  refine jT_adv 1 (pcN := 153) (LN := [(7, (0, 2)), (5, (1, q1)), (0, (4, 0)), (1, (0, r7)), (2, (0, r8)), (3, (4, 1)), (4, (0, 0))]) (stN := []) (hsN := [jzQ_16, (4, [(4, 13), (1, 1)], []), (8, [(4, 14), (4, 15)], []), jgh, jgh, jgh, jgh, jgh, jgh, (101, [], [q1, -r7, -r8, 0, 0, 0]), jgh, jgh, jgh, (101, [], [0, 0, 0, 0, 0, 0]), jgh, jgh]) (c1 := 0) (s1 := 0) (c2 := 0) (s2 := 0) (by exact rfl) ?_ (by omega) (by omega)
  refine jT_xiinc (x := 2) (z := 3) (LN := [(7, (0, 3)), (5, (1, q1)), (0, (4, 0)), (1, (0, r7)), (2, (0, r8)), (3, (4, 1)), (4, (0, 0))]) (pcN := 156) jIQ_161_153 rfl rfl (by decide) rfl rfl ?_
  refine jT_xgoto (pcN := 119) jIQ_161_156 rfl ?_
  refine jT_xiload (v := (0, 3)) (pcN := 121) jIQ_161_119 rfl rfl rfl ?_
  refine jT_xbipush (k := 6) (pcN := 123) jIQ_161_121 (by decide) rfl ?_
  refine jT_xicF (t := 159) (pcN := 126) jIQ_161_123 rfl (by decide +kernel) rfl rfl ?_
  refine jT_xaload_n (v := (4, 0)) (pcN := 127) jIQ_161_126 rfl rfl rfl ?_
  refine jT_xgetf (a := 0) (t := 1) (ci := 13) (fi := 7) (c := jzQ_16) (v := (4, 9)) (pcN := 130) jIQ_161_127 rfl rfl rfl rfl rfl rfl rfl ?_
  refine jT_xiload (v := (0, 3)) (pcN := 132) jIQ_161_130 rfl rfl rfl ?_
  refine jT_xaload_n (v := (4, 1)) (pcN := 133) jIQ_161_132 rfl rfl rfl ?_
  refine jT_xgetf (a := 1) (t := 2) (ci := 4) (fi := 0) (c := (4, [(4, 13), (1, 1)], [])) (v := (4, 13)) (pcN := 136) jIQ_161_133 rfl rfl rfl rfl rfl rfl rfl ?_
  refine jT_xiload (v := (0, 3)) (pcN := 138) jIQ_161_136 rfl rfl rfl ?_
  refine jT_lald (x := 0) (a := 13) (j := 3) (fs := []) (X := [0, 0, 0, 0, 0, 0]) jIQ_161_138 rfl rfl rfl rfl ?_
  refine jT_eq (LN := [(7, (0, 3)), (5, (1, q1)), (0, (4, 0)), (1, (0, r7)), (2, (0, r8)), (3, (4, 1)), (4, (0, 0))]) (stN := [(1, 0), (0, 3), (4, 9)]) (hsN := [jzQ_16, (4, [(4, 13), (1, 1)], []), (8, [(4, 14), (4, 15)], []), jgh, jgh, jgh, jgh, jgh, jgh, (101, [], [q1, -r7, -r8, 0, 0, 0]), jgh, jgh, jgh, (101, [], [0, 0, 0, 0, 0, 0]), jgh, jgh]) rfl rfl rfl ?_
  refine jT_xaload_n (v := (4, 0)) (pcN := 140) jIQ_161_139 rfl rfl rfl ?_
  refine jT_xgetf (a := 0) (t := 1) (ci := 13) (fi := 7) (c := jzQ_16) (v := (4, 9)) (pcN := 143) jIQ_161_140 rfl rfl rfl rfl rfl rfl rfl ?_
  refine jT_xiload (v := (0, 3)) (pcN := 145) jIQ_161_143 rfl rfl rfl ?_
  refine jT_lald (x := 0) (a := 9) (j := 3) (fs := []) (X := [q1, -r7, -r8, 0, 0, 0]) jIQ_161_145 rfl rfl rfl rfl ?_
  refine jT_eq (LN := [(7, (0, 3)), (5, (1, q1)), (0, (4, 0)), (1, (0, r7)), (2, (0, r8)), (3, (4, 1)), (4, (0, 0))]) (stN := [(1, 0), (1, 0), (0, 3), (4, 9)]) (hsN := [jzQ_16, (4, [(4, 13), (1, 1)], []), (8, [(4, 14), (4, 15)], []), jgh, jgh, jgh, jgh, jgh, jgh, (101, [], [q1, -r7, -r8, 0, 0, 0]), jgh, jgh, jgh, (101, [], [0, 0, 0, 0, 0, 0]), jgh, jgh]) rfl rfl rfl ?_
  refine jT_xaload_n (v := (4, 1)) (pcN := 147) jIQ_161_146 rfl rfl rfl ?_
  refine jT_xgetf (a := 1) (t := 2) (ci := 4) (fi := 1) (c := (4, [(4, 13), (1, 1)], [])) (v := (1, 1)) (pcN := 150) jIQ_161_147 rfl rfl rfl rfl rfl rfl rfl ?_
  refine jT_xlmul (x := 0) (y := 1) (z := 0) (pcN := 151) jIQ_161_150 rfl (by decide) rfl ?_
  refine jT_xlsub (x := 0) (y := 0) (z := 0) (pcN := 152) jIQ_161_151 rfl (by decide) rfl ?_
  refine jT_adv 1 (pcN := 153) (LN := [(7, (0, 3)), (5, (1, q1)), (0, (4, 0)), (1, (0, r7)), (2, (0, r8)), (3, (4, 1)), (4, (0, 0))]) (stN := []) (hsN := [jzQ_16, (4, [(4, 13), (1, 1)], []), (8, [(4, 14), (4, 15)], []), jgh, jgh, jgh, jgh, jgh, jgh, (101, [], [q1, -r7, -r8, 0, 0, 0]), jgh, jgh, jgh, (101, [], [0, 0, 0, 0, 0, 0]), jgh, jgh]) (c1 := 0) (s1 := 0) (c2 := 0) (s2 := 0) (by exact rfl) ?_ (by omega) (by omega)
  refine jT_xiinc (x := 3) (z := 4) (LN := [(7, (0, 4)), (5, (1, q1)), (0, (4, 0)), (1, (0, r7)), (2, (0, r8)), (3, (4, 1)), (4, (0, 0))]) (pcN := 156) jIQ_161_153 rfl rfl (by decide) rfl rfl ?_
  refine jT_xgoto (pcN := 119) jIQ_161_156 rfl ?_
  refine jT_xiload (v := (0, 4)) (pcN := 121) jIQ_161_119 rfl rfl rfl ?_
  refine jT_xbipush (k := 6) (pcN := 123) jIQ_161_121 (by decide) rfl ?_
  refine jT_xicF (t := 159) (pcN := 126) jIQ_161_123 rfl (by decide +kernel) rfl rfl ?_
  refine jT_xaload_n (v := (4, 0)) (pcN := 127) jIQ_161_126 rfl rfl rfl ?_
  refine jT_xgetf (a := 0) (t := 1) (ci := 13) (fi := 7) (c := jzQ_16) (v := (4, 9)) (pcN := 130) jIQ_161_127 rfl rfl rfl rfl rfl rfl rfl ?_
  refine jT_xiload (v := (0, 4)) (pcN := 132) jIQ_161_130 rfl rfl rfl ?_
  refine jT_xaload_n (v := (4, 1)) (pcN := 133) jIQ_161_132 rfl rfl rfl ?_
  refine jT_xgetf (a := 1) (t := 2) (ci := 4) (fi := 0) (c := (4, [(4, 13), (1, 1)], [])) (v := (4, 13)) (pcN := 136) jIQ_161_133 rfl rfl rfl rfl rfl rfl rfl ?_
  refine jT_xiload (v := (0, 4)) (pcN := 138) jIQ_161_136 rfl rfl rfl ?_
  refine jT_lald (x := 0) (a := 13) (j := 4) (fs := []) (X := [0, 0, 0, 0, 0, 0]) jIQ_161_138 rfl rfl rfl rfl ?_
  refine jT_eq (LN := [(7, (0, 4)), (5, (1, q1)), (0, (4, 0)), (1, (0, r7)), (2, (0, r8)), (3, (4, 1)), (4, (0, 0))]) (stN := [(1, 0), (0, 4), (4, 9)]) (hsN := [jzQ_16, (4, [(4, 13), (1, 1)], []), (8, [(4, 14), (4, 15)], []), jgh, jgh, jgh, jgh, jgh, jgh, (101, [], [q1, -r7, -r8, 0, 0, 0]), jgh, jgh, jgh, (101, [], [0, 0, 0, 0, 0, 0]), jgh, jgh]) rfl rfl rfl ?_
  refine jT_xaload_n (v := (4, 0)) (pcN := 140) jIQ_161_139 rfl rfl rfl ?_
  refine jT_xgetf (a := 0) (t := 1) (ci := 13) (fi := 7) (c := jzQ_16) (v := (4, 9)) (pcN := 143) jIQ_161_140 rfl rfl rfl rfl rfl rfl rfl ?_
  refine jT_xiload (v := (0, 4)) (pcN := 145) jIQ_161_143 rfl rfl rfl ?_
  refine jT_lald (x := 0) (a := 9) (j := 4) (fs := []) (X := [q1, -r7, -r8, 0, 0, 0]) jIQ_161_145 rfl rfl rfl rfl ?_
  refine jT_eq (LN := [(7, (0, 4)), (5, (1, q1)), (0, (4, 0)), (1, (0, r7)), (2, (0, r8)), (3, (4, 1)), (4, (0, 0))]) (stN := [(1, 0), (1, 0), (0, 4), (4, 9)]) (hsN := [jzQ_16, (4, [(4, 13), (1, 1)], []), (8, [(4, 14), (4, 15)], []), jgh, jgh, jgh, jgh, jgh, jgh, (101, [], [q1, -r7, -r8, 0, 0, 0]), jgh, jgh, jgh, (101, [], [0, 0, 0, 0, 0, 0]), jgh, jgh]) rfl rfl rfl ?_
  refine jT_xaload_n (v := (4, 1)) (pcN := 147) jIQ_161_146 rfl rfl rfl ?_
  refine jT_xgetf (a := 1) (t := 2) (ci := 4) (fi := 1) (c := (4, [(4, 13), (1, 1)], [])) (v := (1, 1)) (pcN := 150) jIQ_161_147 rfl rfl rfl rfl rfl rfl rfl ?_
  refine jT_xlmul (x := 0) (y := 1) (z := 0) (pcN := 151) jIQ_161_150 rfl (by decide) rfl ?_
  refine jT_xlsub (x := 0) (y := 0) (z := 0) (pcN := 152) jIQ_161_151 rfl (by decide) rfl ?_
  refine jT_adv 1 (pcN := 153) (LN := [(7, (0, 4)), (5, (1, q1)), (0, (4, 0)), (1, (0, r7)), (2, (0, r8)), (3, (4, 1)), (4, (0, 0))]) (stN := []) (hsN := [jzQ_16, (4, [(4, 13), (1, 1)], []), (8, [(4, 14), (4, 15)], []), jgh, jgh, jgh, jgh, jgh, jgh, (101, [], [q1, -r7, -r8, 0, 0, 0]), jgh, jgh, jgh, (101, [], [0, 0, 0, 0, 0, 0]), jgh, jgh]) (c1 := 0) (s1 := 0) (c2 := 0) (s2 := 0) (by exact rfl) ?_ (by omega) (by omega)
  refine jT_xiinc (x := 4) (z := 5) (LN := [(7, (0, 5)), (5, (1, q1)), (0, (4, 0)), (1, (0, r7)), (2, (0, r8)), (3, (4, 1)), (4, (0, 0))]) (pcN := 156) jIQ_161_153 rfl rfl (by decide) rfl rfl ?_
  refine jT_xgoto (pcN := 119) jIQ_161_156 rfl ?_
  refine jT_xiload (v := (0, 5)) (pcN := 121) jIQ_161_119 rfl rfl rfl ?_
  refine jT_xbipush (k := 6) (pcN := 123) jIQ_161_121 (by decide) rfl ?_
  refine jT_xicF (t := 159) (pcN := 126) jIQ_161_123 rfl (by decide +kernel) rfl rfl ?_
  refine jT_xaload_n (v := (4, 0)) (pcN := 127) jIQ_161_126 rfl rfl rfl ?_
  refine jT_xgetf (a := 0) (t := 1) (ci := 13) (fi := 7) (c := jzQ_16) (v := (4, 9)) (pcN := 130) jIQ_161_127 rfl rfl rfl rfl rfl rfl rfl ?_
  refine jT_xiload (v := (0, 5)) (pcN := 132) jIQ_161_130 rfl rfl rfl ?_
  refine jT_xaload_n (v := (4, 1)) (pcN := 133) jIQ_161_132 rfl rfl rfl ?_
  refine jT_xgetf (a := 1) (t := 2) (ci := 4) (fi := 0) (c := (4, [(4, 13), (1, 1)], [])) (v := (4, 13)) (pcN := 136) jIQ_161_133 rfl rfl rfl rfl rfl rfl rfl ?_
  refine jT_xiload (v := (0, 5)) (pcN := 138) jIQ_161_136 rfl rfl rfl ?_
  refine jT_lald (x := 0) (a := 13) (j := 5) (fs := []) (X := [0, 0, 0, 0, 0, 0]) jIQ_161_138 rfl rfl rfl rfl ?_
  refine jT_eq (LN := [(7, (0, 5)), (5, (1, q1)), (0, (4, 0)), (1, (0, r7)), (2, (0, r8)), (3, (4, 1)), (4, (0, 0))]) (stN := [(1, 0), (0, 5), (4, 9)]) (hsN := [jzQ_16, (4, [(4, 13), (1, 1)], []), (8, [(4, 14), (4, 15)], []), jgh, jgh, jgh, jgh, jgh, jgh, (101, [], [q1, -r7, -r8, 0, 0, 0]), jgh, jgh, jgh, (101, [], [0, 0, 0, 0, 0, 0]), jgh, jgh]) rfl rfl rfl ?_
  refine jT_xaload_n (v := (4, 0)) (pcN := 140) jIQ_161_139 rfl rfl rfl ?_
  refine jT_xgetf (a := 0) (t := 1) (ci := 13) (fi := 7) (c := jzQ_16) (v := (4, 9)) (pcN := 143) jIQ_161_140 rfl rfl rfl rfl rfl rfl rfl ?_
  refine jT_xiload (v := (0, 5)) (pcN := 145) jIQ_161_143 rfl rfl rfl ?_
  refine jT_lald (x := 0) (a := 9) (j := 5) (fs := []) (X := [q1, -r7, -r8, 0, 0, 0]) jIQ_161_145 rfl rfl rfl rfl ?_
  refine jT_eq (LN := [(7, (0, 5)), (5, (1, q1)), (0, (4, 0)), (1, (0, r7)), (2, (0, r8)), (3, (4, 1)), (4, (0, 0))]) (stN := [(1, 0), (1, 0), (0, 5), (4, 9)]) (hsN := [jzQ_16, (4, [(4, 13), (1, 1)], []), (8, [(4, 14), (4, 15)], []), jgh, jgh, jgh, jgh, jgh, jgh, (101, [], [q1, -r7, -r8, 0, 0, 0]), jgh, jgh, jgh, (101, [], [0, 0, 0, 0, 0, 0]), jgh, jgh]) rfl rfl rfl ?_
  refine jT_xaload_n (v := (4, 1)) (pcN := 147) jIQ_161_146 rfl rfl rfl ?_
  refine jT_xgetf (a := 1) (t := 2) (ci := 4) (fi := 1) (c := (4, [(4, 13), (1, 1)], [])) (v := (1, 1)) (pcN := 150) jIQ_161_147 rfl rfl rfl rfl rfl rfl rfl ?_
  refine jT_xlmul (x := 0) (y := 1) (z := 0) (pcN := 151) jIQ_161_150 rfl (by decide) rfl ?_
  refine jT_xlsub (x := 0) (y := 0) (z := 0) (pcN := 152) jIQ_161_151 rfl (by decide) rfl ?_
  refine jT_adv 1 (pcN := 153) (LN := [(7, (0, 5)), (5, (1, q1)), (0, (4, 0)), (1, (0, r7)), (2, (0, r8)), (3, (4, 1)), (4, (0, 0))]) (stN := []) (hsN := [jzQ_16, (4, [(4, 13), (1, 1)], []), (8, [(4, 14), (4, 15)], []), jgh, jgh, jgh, jgh, jgh, jgh, (101, [], [q1, -r7, -r8, 0, 0, 0]), jgh, jgh, jgh, (101, [], [0, 0, 0, 0, 0, 0]), jgh, jgh]) (c1 := 0) (s1 := 0) (c2 := 0) (s2 := 0) (by exact rfl) ?_ (by omega) (by omega)
  refine jT_xiinc (x := 5) (z := 6) (LN := [(7, (0, 6)), (5, (1, q1)), (0, (4, 0)), (1, (0, r7)), (2, (0, r8)), (3, (4, 1)), (4, (0, 0))]) (pcN := 156) jIQ_161_153 rfl rfl (by decide) rfl rfl ?_
  refine jT_xgoto (pcN := 119) jIQ_161_156 rfl ?_
  refine jT_xiload (v := (0, 6)) (pcN := 121) jIQ_161_119 rfl rfl rfl ?_
  refine jT_xbipush (k := 6) (pcN := 123) jIQ_161_121 (by decide) rfl ?_
  refine jT_xicT (pcN := 159) jIQ_161_123 rfl (by decide +kernel) rfl ?_
  refine jT_xaload_n (v := (4, 0)) (pcN := 160) jIQ_161_159 rfl rfl rfl ?_
  refine jT_xgetf (a := 0) (t := 1) (ci := 13) (fi := 0) (c := jzQ_16) (v := (4, 2)) (pcN := 163) jIQ_161_160 rfl rfl rfl rfl rfl rfl rfl ?_
  refine jT_xaload_n (v := (4, 0)) (pcN := 164) jIQ_161_163 rfl rfl rfl ?_
  refine jT_xgetf (a := 0) (t := 1) (ci := 13) (fi := 7) (c := jzQ_16) (v := (4, 9)) (pcN := 167) jIQ_161_164 rfl rfl rfl rfl rfl rfl rfl ?_
  refine jT_callA [2, 9, 14, 15] (y := 38) (pcN := 170) (dC := 1) (bc1 := 0) (bc2 := 0) (c1 := 0) (c2 := 0) (as := [(4, 2), (4, 9)]) (asC := [(4, 0), (4, 1)]) (LN := [(7, (0, 6)), (5, (1, q1)), (0, (4, 0)), (1, (0, r7)), (2, (0, r8)), (3, (4, 1)), (4, (0, 0))]) (stN := []) (hsC := [(8, [(4, 2), (4, 3)], []), (101, [], [q1, -r7, -r8, 0, 0, 0]), jgh, jgh]) (ex := []) (v := (0, (-1))) (st2 := [(0, (-1))]) (hs2 := [jzQ_16, (4, [(4, 13), (1, 1)], []), (8, [(4, 14), (4, 15)], []), jgh, jgh, jgh, jgh, jgh, jgh, (101, [], [q1, -r7, -r8, 0, 0, 0]), jgh, jgh, jgh, (101, [], [0, 0, 0, 0, 0, 0]), jgh, jgh]) (jQl_sp38_117 (d := 0) (by omega) (by omega) (by omega) (by omega) (by omega) (by omega) (by omega)) (by rfl) (by rfl) (by rfl) (by rfl) ⟨rfl, rfl, rfl, rfl, trivial⟩ (by rfl) (by rfl) (by omega) (by show 16 ≤ 16; omega) (by omega) (by omega) rfl rfl ?_
  refine jT_xifT (pcN := 177) jIQ_161_170 rfl (by decide +kernel) rfl ?_
  refine jT_xiconst (k := 0) (pcN := 178) jIQ_161_177 rfl ?_
  subst hq_q1
  exact jT_ret rfl (by decide) (by show 16 ≤ 16; omega) (by omega) (by omega) ⟨rfl, rfl, rfl⟩
theorem jQ_161_126 {xs : List Int} {d : Nat} {r7 r8 u8_0 u8_1 u8_2 u8_3 u8_4 u8_5 : Int} (h_r7 : (-20) ≤ r7 ∧ r7 ≤ 20) (h_r8 : (-10) ≤ r8 ∧ r8 ≤ 10) (g_0 : r7 < 0) : jT xs (d + 2) 161 16 0 [(0, (4, 0)), (1, (0, r7)), (2, (0, r8)), (3, (4, 1)), (4, (0, 0))] [] [jzQ_16, (4, [(4, 13), (1, 1)], []), (8, [(4, 14), (4, 15)], []), jgh, jgh, jgh, jgh, jgh, jgh, (101, [], [u8_0, u8_1, u8_2, u8_3, u8_4, u8_5]), jgh, jgh, jgh, (101, [], [0, 0, 0, 0, 0, 0]), jgh, jgh] 0 0 (fun k v hsN => k = 0 ∧ v = (0, 0) ∧ hsN = [jzQ_16, (4, [(4, 13), (1, 1)], []), (8, [(4, 14), (4, 15)], []), jgh, jgh, jgh, jgh, jgh, jgh, (101, [], [(108917793695 * r7 + 159561683699 * r8) / 68719476736, -r7, -r8, 0, 0, 0]), jgh, jgh, jgh, (101, [], [0, 0, 0, 0, 0, 0]), jgh, jgh]) := by
  refine jT_xiload_n (v := (0, r7)) (pcN := 1) jIQ_161_0 rfl rfl rfl ?_
  refine jT_ifT (a := r7) (t := 10) (by rfl) (by rfl) (by rfl) (jw_idd (by omega) (by omega)) (by simp only [jcP] <;> omega) ?_
  refine jT_xiconst (k := 0) (pcN := 11) jIQ_161_10 rfl ?_
  refine jT_xistore (v := (0, 0)) (LN := [(5, (0, 0)), (0, (4, 0)), (1, (0, r7)), (2, (0, r8)), (3, (4, 1)), (4, (0, 0))]) (pcN := 13) jIQ_161_11 rfl rfl rfl rfl ?_
  refine jT_xiload (v := (0, 0)) (pcN := 15) jIQ_161_13 rfl rfl rfl ?_
  refine jT_xbipush (k := 6) (pcN := 17) jIQ_161_15 (by decide) rfl ?_
  refine jT_xicF (t := 56) (pcN := 20) jIQ_161_17 rfl (by decide +kernel) rfl rfl ?_
  refine jT_xaload_n (v := (4, 0)) (pcN := 21) jIQ_161_20 rfl rfl rfl ?_
  refine jT_xgetf (a := 0) (t := 1) (ci := 13) (fi := 7) (c := jzQ_16) (v := (4, 9)) (pcN := 24) jIQ_161_21 rfl rfl rfl rfl rfl rfl rfl ?_
  refine jT_xiload (v := (0, 0)) (pcN := 26) jIQ_161_24 rfl rfl rfl ?_
  refine jT_xiload (v := (0, 0)) (pcN := 28) jIQ_161_26 rfl rfl rfl ?_
  refine jT_xiconst (k := 1) (pcN := 29) jIQ_161_28 rfl ?_
  refine jT_xicT (pcN := 37) jIQ_161_29 rfl (by decide +kernel) rfl ?_
  refine jT_xiload (v := (0, 0)) (pcN := 39) jIQ_161_37 rfl rfl rfl ?_
  refine jT_xiconst (k := 2) (pcN := 40) jIQ_161_39 rfl ?_
  refine jT_xicT (pcN := 48) jIQ_161_40 rfl (by decide +kernel) rfl ?_
  refine jT_xlconst (z := 0) (pcN := 49) jIQ_161_48 rfl rfl ?_
  refine jT_adv 1 (pcN := 50) (LN := [(5, (0, 0)), (0, (4, 0)), (1, (0, r7)), (2, (0, r8)), (3, (4, 1)), (4, (0, 0))]) (stN := []) (hsN := [jzQ_16, (4, [(4, 13), (1, 1)], []), (8, [(4, 14), (4, 15)], []), jgh, jgh, jgh, jgh, jgh, jgh, (101, [], [0, u8_1, u8_2, u8_3, u8_4, u8_5]), jgh, jgh, jgh, (101, [], [0, 0, 0, 0, 0, 0]), jgh, jgh]) (c1 := 0) (s1 := 0) (c2 := 0) (s2 := 0) (by exact rfl) ?_ (by omega) (by omega)
  refine jT_xiinc (x := 0) (z := 1) (LN := [(5, (0, 1)), (0, (4, 0)), (1, (0, r7)), (2, (0, r8)), (3, (4, 1)), (4, (0, 0))]) (pcN := 53) jIQ_161_50 rfl rfl (by decide) rfl rfl ?_
  refine jT_xgoto (pcN := 13) jIQ_161_53 rfl ?_
  refine jT_xiload (v := (0, 1)) (pcN := 15) jIQ_161_13 rfl rfl rfl ?_
  refine jT_xbipush (k := 6) (pcN := 17) jIQ_161_15 (by decide) rfl ?_
  refine jT_xicF (t := 56) (pcN := 20) jIQ_161_17 rfl (by decide +kernel) rfl rfl ?_
  refine jT_xaload_n (v := (4, 0)) (pcN := 21) jIQ_161_20 rfl rfl rfl ?_
  refine jT_xgetf (a := 0) (t := 1) (ci := 13) (fi := 7) (c := jzQ_16) (v := (4, 9)) (pcN := 24) jIQ_161_21 rfl rfl rfl rfl rfl rfl rfl ?_
  refine jT_xiload (v := (0, 1)) (pcN := 26) jIQ_161_24 rfl rfl rfl ?_
  refine jT_xiload (v := (0, 1)) (pcN := 28) jIQ_161_26 rfl rfl rfl ?_
  refine jT_xiconst (k := 1) (pcN := 29) jIQ_161_28 rfl ?_
  refine jT_xicF (t := 37) (pcN := 32) jIQ_161_29 rfl (by decide +kernel) rfl rfl ?_
  refine jT_xiload_n (v := (0, r7)) (pcN := 33) jIQ_161_32 rfl rfl rfl ?_
  refine jT_xi2l (x := r7) (z := r7) (pcN := 34) jIQ_161_33 rfl (jw_idd (by omega) (by omega)) rfl ?_
  refine jT_xgoto (pcN := 49) jIQ_161_34 rfl ?_
  refine jT_adv 1 (pcN := 50) (LN := [(5, (0, 1)), (0, (4, 0)), (1, (0, r7)), (2, (0, r8)), (3, (4, 1)), (4, (0, 0))]) (stN := []) (hsN := [jzQ_16, (4, [(4, 13), (1, 1)], []), (8, [(4, 14), (4, 15)], []), jgh, jgh, jgh, jgh, jgh, jgh, (101, [], [0, r7, u8_2, u8_3, u8_4, u8_5]), jgh, jgh, jgh, (101, [], [0, 0, 0, 0, 0, 0]), jgh, jgh]) (c1 := 0) (s1 := 0) (c2 := 0) (s2 := 0) (by exact rfl) ?_ (by omega) (by omega)
  refine jT_xiinc (x := 1) (z := 2) (LN := [(5, (0, 2)), (0, (4, 0)), (1, (0, r7)), (2, (0, r8)), (3, (4, 1)), (4, (0, 0))]) (pcN := 53) jIQ_161_50 rfl rfl (by decide) rfl rfl ?_
  refine jT_xgoto (pcN := 13) jIQ_161_53 rfl ?_
  refine jT_xiload (v := (0, 2)) (pcN := 15) jIQ_161_13 rfl rfl rfl ?_
  refine jT_xbipush (k := 6) (pcN := 17) jIQ_161_15 (by decide) rfl ?_
  refine jT_xicF (t := 56) (pcN := 20) jIQ_161_17 rfl (by decide +kernel) rfl rfl ?_
  refine jT_xaload_n (v := (4, 0)) (pcN := 21) jIQ_161_20 rfl rfl rfl ?_
  refine jT_xgetf (a := 0) (t := 1) (ci := 13) (fi := 7) (c := jzQ_16) (v := (4, 9)) (pcN := 24) jIQ_161_21 rfl rfl rfl rfl rfl rfl rfl ?_
  refine jT_xiload (v := (0, 2)) (pcN := 26) jIQ_161_24 rfl rfl rfl ?_
  refine jT_xiload (v := (0, 2)) (pcN := 28) jIQ_161_26 rfl rfl rfl ?_
  refine jT_xiconst (k := 1) (pcN := 29) jIQ_161_28 rfl ?_
  refine jT_xicT (pcN := 37) jIQ_161_29 rfl (by decide +kernel) rfl ?_
  refine jT_xiload (v := (0, 2)) (pcN := 39) jIQ_161_37 rfl rfl rfl ?_
  refine jT_xiconst (k := 2) (pcN := 40) jIQ_161_39 rfl ?_
  refine jT_xicF (t := 48) (pcN := 43) jIQ_161_40 rfl (by decide +kernel) rfl rfl ?_
  refine jT_xiload_n (v := (0, r8)) (pcN := 44) jIQ_161_43 rfl rfl rfl ?_
  refine jT_xi2l (x := r8) (z := r8) (pcN := 45) jIQ_161_44 rfl (jw_idd (by omega) (by omega)) rfl ?_
  refine jT_xgoto (pcN := 49) jIQ_161_45 rfl ?_
  refine jT_adv 1 (pcN := 50) (LN := [(5, (0, 2)), (0, (4, 0)), (1, (0, r7)), (2, (0, r8)), (3, (4, 1)), (4, (0, 0))]) (stN := []) (hsN := [jzQ_16, (4, [(4, 13), (1, 1)], []), (8, [(4, 14), (4, 15)], []), jgh, jgh, jgh, jgh, jgh, jgh, (101, [], [0, r7, r8, u8_3, u8_4, u8_5]), jgh, jgh, jgh, (101, [], [0, 0, 0, 0, 0, 0]), jgh, jgh]) (c1 := 0) (s1 := 0) (c2 := 0) (s2 := 0) (by exact rfl) ?_ (by omega) (by omega)
  refine jT_xiinc (x := 2) (z := 3) (LN := [(5, (0, 3)), (0, (4, 0)), (1, (0, r7)), (2, (0, r8)), (3, (4, 1)), (4, (0, 0))]) (pcN := 53) jIQ_161_50 rfl rfl (by decide) rfl rfl ?_
  refine jT_xgoto (pcN := 13) jIQ_161_53 rfl ?_
  refine jT_xiload (v := (0, 3)) (pcN := 15) jIQ_161_13 rfl rfl rfl ?_
  refine jT_xbipush (k := 6) (pcN := 17) jIQ_161_15 (by decide) rfl ?_
  refine jT_xicF (t := 56) (pcN := 20) jIQ_161_17 rfl (by decide +kernel) rfl rfl ?_
  refine jT_xaload_n (v := (4, 0)) (pcN := 21) jIQ_161_20 rfl rfl rfl ?_
  refine jT_xgetf (a := 0) (t := 1) (ci := 13) (fi := 7) (c := jzQ_16) (v := (4, 9)) (pcN := 24) jIQ_161_21 rfl rfl rfl rfl rfl rfl rfl ?_
  refine jT_xiload (v := (0, 3)) (pcN := 26) jIQ_161_24 rfl rfl rfl ?_
  refine jT_xiload (v := (0, 3)) (pcN := 28) jIQ_161_26 rfl rfl rfl ?_
  refine jT_xiconst (k := 1) (pcN := 29) jIQ_161_28 rfl ?_
  refine jT_xicT (pcN := 37) jIQ_161_29 rfl (by decide +kernel) rfl ?_
  refine jT_xiload (v := (0, 3)) (pcN := 39) jIQ_161_37 rfl rfl rfl ?_
  refine jT_xiconst (k := 2) (pcN := 40) jIQ_161_39 rfl ?_
  refine jT_xicT (pcN := 48) jIQ_161_40 rfl (by decide +kernel) rfl ?_
  refine jT_xlconst (z := 0) (pcN := 49) jIQ_161_48 rfl rfl ?_
  refine jT_adv 1 (pcN := 50) (LN := [(5, (0, 3)), (0, (4, 0)), (1, (0, r7)), (2, (0, r8)), (3, (4, 1)), (4, (0, 0))]) (stN := []) (hsN := [jzQ_16, (4, [(4, 13), (1, 1)], []), (8, [(4, 14), (4, 15)], []), jgh, jgh, jgh, jgh, jgh, jgh, (101, [], [0, r7, r8, 0, u8_4, u8_5]), jgh, jgh, jgh, (101, [], [0, 0, 0, 0, 0, 0]), jgh, jgh]) (c1 := 0) (s1 := 0) (c2 := 0) (s2 := 0) (by exact rfl) ?_ (by omega) (by omega)
  refine jT_xiinc (x := 3) (z := 4) (LN := [(5, (0, 4)), (0, (4, 0)), (1, (0, r7)), (2, (0, r8)), (3, (4, 1)), (4, (0, 0))]) (pcN := 53) jIQ_161_50 rfl rfl (by decide) rfl rfl ?_
  refine jT_xgoto (pcN := 13) jIQ_161_53 rfl ?_
  refine jT_xiload (v := (0, 4)) (pcN := 15) jIQ_161_13 rfl rfl rfl ?_
  refine jT_xbipush (k := 6) (pcN := 17) jIQ_161_15 (by decide) rfl ?_
  refine jT_xicF (t := 56) (pcN := 20) jIQ_161_17 rfl (by decide +kernel) rfl rfl ?_
  refine jT_xaload_n (v := (4, 0)) (pcN := 21) jIQ_161_20 rfl rfl rfl ?_
  refine jT_xgetf (a := 0) (t := 1) (ci := 13) (fi := 7) (c := jzQ_16) (v := (4, 9)) (pcN := 24) jIQ_161_21 rfl rfl rfl rfl rfl rfl rfl ?_
  refine jT_xiload (v := (0, 4)) (pcN := 26) jIQ_161_24 rfl rfl rfl ?_
  refine jT_xiload (v := (0, 4)) (pcN := 28) jIQ_161_26 rfl rfl rfl ?_
  refine jT_xiconst (k := 1) (pcN := 29) jIQ_161_28 rfl ?_
  refine jT_xicT (pcN := 37) jIQ_161_29 rfl (by decide +kernel) rfl ?_
  refine jT_xiload (v := (0, 4)) (pcN := 39) jIQ_161_37 rfl rfl rfl ?_
  refine jT_xiconst (k := 2) (pcN := 40) jIQ_161_39 rfl ?_
  refine jT_xicT (pcN := 48) jIQ_161_40 rfl (by decide +kernel) rfl ?_
  refine jT_xlconst (z := 0) (pcN := 49) jIQ_161_48 rfl rfl ?_
  refine jT_adv 1 (pcN := 50) (LN := [(5, (0, 4)), (0, (4, 0)), (1, (0, r7)), (2, (0, r8)), (3, (4, 1)), (4, (0, 0))]) (stN := []) (hsN := [jzQ_16, (4, [(4, 13), (1, 1)], []), (8, [(4, 14), (4, 15)], []), jgh, jgh, jgh, jgh, jgh, jgh, (101, [], [0, r7, r8, 0, 0, u8_5]), jgh, jgh, jgh, (101, [], [0, 0, 0, 0, 0, 0]), jgh, jgh]) (c1 := 0) (s1 := 0) (c2 := 0) (s2 := 0) (by exact rfl) ?_ (by omega) (by omega)
  refine jT_xiinc (x := 4) (z := 5) (LN := [(5, (0, 5)), (0, (4, 0)), (1, (0, r7)), (2, (0, r8)), (3, (4, 1)), (4, (0, 0))]) (pcN := 53) jIQ_161_50 rfl rfl (by decide) rfl rfl ?_
  refine jT_xgoto (pcN := 13) jIQ_161_53 rfl ?_
  refine jT_xiload (v := (0, 5)) (pcN := 15) jIQ_161_13 rfl rfl rfl ?_
  refine jT_xbipush (k := 6) (pcN := 17) jIQ_161_15 (by decide) rfl ?_
  refine jT_xicF (t := 56) (pcN := 20) jIQ_161_17 rfl (by decide +kernel) rfl rfl ?_
  refine jT_xaload_n (v := (4, 0)) (pcN := 21) jIQ_161_20 rfl rfl rfl ?_
  refine jT_xgetf (a := 0) (t := 1) (ci := 13) (fi := 7) (c := jzQ_16) (v := (4, 9)) (pcN := 24) jIQ_161_21 rfl rfl rfl rfl rfl rfl rfl ?_
  refine jT_xiload (v := (0, 5)) (pcN := 26) jIQ_161_24 rfl rfl rfl ?_
  refine jT_xiload (v := (0, 5)) (pcN := 28) jIQ_161_26 rfl rfl rfl ?_
  refine jT_xiconst (k := 1) (pcN := 29) jIQ_161_28 rfl ?_
  refine jT_xicT (pcN := 37) jIQ_161_29 rfl (by decide +kernel) rfl ?_
  refine jT_xiload (v := (0, 5)) (pcN := 39) jIQ_161_37 rfl rfl rfl ?_
  refine jT_xiconst (k := 2) (pcN := 40) jIQ_161_39 rfl ?_
  refine jT_xicT (pcN := 48) jIQ_161_40 rfl (by decide +kernel) rfl ?_
  refine jT_xlconst (z := 0) (pcN := 49) jIQ_161_48 rfl rfl ?_
  refine jT_adv 1 (pcN := 50) (LN := [(5, (0, 5)), (0, (4, 0)), (1, (0, r7)), (2, (0, r8)), (3, (4, 1)), (4, (0, 0))]) (stN := []) (hsN := [jzQ_16, (4, [(4, 13), (1, 1)], []), (8, [(4, 14), (4, 15)], []), jgh, jgh, jgh, jgh, jgh, jgh, (101, [], [0, r7, r8, 0, 0, 0]), jgh, jgh, jgh, (101, [], [0, 0, 0, 0, 0, 0]), jgh, jgh]) (c1 := 0) (s1 := 0) (c2 := 0) (s2 := 0) (by exact rfl) ?_ (by omega) (by omega)
  refine jT_xiinc (x := 5) (z := 6) (LN := [(5, (0, 6)), (0, (4, 0)), (1, (0, r7)), (2, (0, r8)), (3, (4, 1)), (4, (0, 0))]) (pcN := 53) jIQ_161_50 rfl rfl (by decide) rfl rfl ?_
  refine jT_xgoto (pcN := 13) jIQ_161_53 rfl ?_
  refine jT_xiload (v := (0, 6)) (pcN := 15) jIQ_161_13 rfl rfl rfl ?_
  refine jT_xbipush (k := 6) (pcN := 17) jIQ_161_15 (by decide) rfl ?_
  refine jT_xicT (pcN := 56) jIQ_161_17 rfl (by decide +kernel) rfl ?_
  refine jT_xaload_n (v := (4, 0)) (pcN := 57) jIQ_161_56 rfl rfl rfl ?_
  refine jT_xgetf (a := 0) (t := 1) (ci := 13) (fi := 0) (c := jzQ_16) (v := (4, 2)) (pcN := 60) jIQ_161_57 rfl rfl rfl rfl rfl rfl rfl ?_
  refine jT_xaload_n (v := (4, 0)) (pcN := 61) jIQ_161_60 rfl rfl rfl ?_
  refine jT_xgetf (a := 0) (t := 1) (ci := 13) (fi := 7) (c := jzQ_16) (v := (4, 9)) (pcN := 64) jIQ_161_61 rfl rfl rfl rfl rfl rfl rfl ?_
  refine jT_xlconst (z := 1) (pcN := 65) jIQ_161_64 rfl rfl ?_
  refine jT_xlconst (z := 1) (pcN := 66) jIQ_161_65 rfl rfl ?_
  refine jT_callA [2, 9, 14, 15] (y := 45) (pcN := 69) (dC := 1) (bc1 := 0) (bc2 := 0) (c1 := 0) (c2 := 0) (as := [(4, 2), (4, 9), (1, 1), (1, 1)]) (asC := [(4, 0), (4, 1), (1, 1), (1, 1)]) (LN := [(5, (0, 6)), (0, (4, 0)), (1, (0, r7)), (2, (0, r8)), (3, (4, 1)), (4, (0, 0))]) (stN := []) (hsC := [(8, [(4, 2), (4, 3)], []), (101, [], [0, r7, r8, 0, 0, 0]), jgh, jgh]) (ex := []) (v := (1, (108917793695 * r7 + 159561683699 * r8) / 68719476736)) (st2 := [(1, (108917793695 * r7 + 159561683699 * r8) / 68719476736)]) (hs2 := [jzQ_16, (4, [(4, 13), (1, 1)], []), (8, [(4, 14), (4, 15)], []), jgh, jgh, jgh, jgh, jgh, jgh, (101, [], [0, r7, r8, 0, 0, 0]), jgh, jgh, jgh, (101, [], [0, 0, 0, 0, 0, 0]), jgh, jgh]) (jQl_sp45_116 (d := 0) (by omega) (by omega)) (by rfl) (by rfl) (by rfl) (by rfl) ⟨rfl, rfl, rfl, rfl, trivial⟩ (by rfl) (by rfl) (by omega) (by show 16 ≤ 16; omega) (by omega) (by omega) rfl rfl ?_
  have hb_q1 : (-60) ≤ (108917793695 * r7 + 159561683699 * r8) / 68719476736 ∧ (108917793695 * r7 + 159561683699 * r8) / 68719476736 ≤ 60 := ⟨by omega, by omega⟩
  generalize hq_q1 : (108917793695 * r7 + 159561683699 * r8) / 68719476736 = q1 at hb_q1 ⊢
  refine jT_xlstore (v := (1, q1)) (LN := [(5, (1, q1)), (0, (4, 0)), (1, (0, r7)), (2, (0, r8)), (3, (4, 1)), (4, (0, 0))]) (pcN := 71) jIQ_161_69 rfl rfl rfl rfl ?_
  have g_1 : 0 ≤ (-68719476736) * q1 + 108917793694 * r7 + 159561683698 * r8 - 1 := by have := jcg (b := r7) (c := r8) (by omega) (by omega) (by omega); rw [hq_q1] at this; omega
  have g_2 : 0 ≤ (-68719476736) * q1 + 108917793694 * r7 + 159561683700 * r8 - 1 := by have := jcg (b := r7) (c := r8) (by omega) (by omega) (by omega); rw [hq_q1] at this; omega
  have g_3 : 0 ≤ (-68719476736) * q1 + 108917793696 * r7 + 159561683698 * r8 - 1 := by have := jcg (b := r7) (c := r8) (by omega) (by omega) (by omega); rw [hq_q1] at this; omega
  have g_4 : 0 ≤ (-68719476736) * q1 + 108917793696 * r7 + 159561683700 * r8 - 1 := by have := jcg (b := r7) (c := r8) (by omega) (by omega) (by omega); rw [hq_q1] at this; omega
  refine jT_xiload (v := (0, 0)) (pcN := 73) jIQ_161_71 rfl rfl rfl ?_
  refine jT_xifT (pcN := 107) jIQ_161_73 rfl (by decide +kernel) rfl ?_
  refine jT_xaload_n (v := (4, 0)) (pcN := 108) jIQ_161_107 rfl rfl rfl ?_
  refine jT_xgetf (a := 0) (t := 1) (ci := 13) (fi := 7) (c := jzQ_16) (v := (4, 9)) (pcN := 111) jIQ_161_108 rfl rfl rfl rfl rfl rfl rfl ?_
  refine jT_xiconst (k := 0) (pcN := 112) jIQ_161_111 rfl ?_
  refine jT_xlload (v := (1, q1)) (pcN := 114) jIQ_161_112 rfl rfl rfl ?_
  refine jT_adv 2 (pcN := 116) (LN := [(5, (1, q1)), (0, (4, 0)), (1, (0, r7)), (2, (0, r8)), (3, (4, 1)), (4, (0, 0))]) (stN := []) (hsN := [jzQ_16, (4, [(4, 13), (1, 1)], []), (8, [(4, 14), (4, 15)], []), jgh, jgh, jgh, jgh, jgh, jgh, (101, [], [-q1, r7, r8, 0, 0, 0]), jgh, jgh, jgh, (101, [], [0, 0, 0, 0, 0, 0]), jgh, jgh]) (c1 := 0) (s1 := 0) (c2 := 0) (s2 := 0) (by exact rfl) ?_ (by omega) (by omega)
  refine jT_xiconst (k := 0) (pcN := 117) jIQ_161_116 rfl ?_
  refine jT_xistore (v := (0, 0)) (LN := [(7, (0, 0)), (5, (1, q1)), (0, (4, 0)), (1, (0, r7)), (2, (0, r8)), (3, (4, 1)), (4, (0, 0))]) (pcN := 119) jIQ_161_117 rfl rfl rfl rfl ?_
  refine jT_xiload (v := (0, 0)) (pcN := 121) jIQ_161_119 rfl rfl rfl ?_
  refine jT_xbipush (k := 6) (pcN := 123) jIQ_161_121 (by decide) rfl ?_
  refine jT_xicF (t := 159) (pcN := 126) jIQ_161_123 rfl (by decide +kernel) rfl rfl ?_
  refine jT_xaload_n (v := (4, 0)) (pcN := 127) jIQ_161_126 rfl rfl rfl ?_
  refine jT_xgetf (a := 0) (t := 1) (ci := 13) (fi := 7) (c := jzQ_16) (v := (4, 9)) (pcN := 130) jIQ_161_127 rfl rfl rfl rfl rfl rfl rfl ?_
  refine jT_xiload (v := (0, 0)) (pcN := 132) jIQ_161_130 rfl rfl rfl ?_
  refine jT_xaload_n (v := (4, 1)) (pcN := 133) jIQ_161_132 rfl rfl rfl ?_
  refine jT_xgetf (a := 1) (t := 2) (ci := 4) (fi := 0) (c := (4, [(4, 13), (1, 1)], [])) (v := (4, 13)) (pcN := 136) jIQ_161_133 rfl rfl rfl rfl rfl rfl rfl ?_
  refine jT_xiload (v := (0, 0)) (pcN := 138) jIQ_161_136 rfl rfl rfl ?_
  refine jT_lald (x := 0) (a := 13) (j := 0) (fs := []) (X := [0, 0, 0, 0, 0, 0]) jIQ_161_138 rfl rfl rfl rfl ?_
  refine jT_eq (LN := [(7, (0, 0)), (5, (1, q1)), (0, (4, 0)), (1, (0, r7)), (2, (0, r8)), (3, (4, 1)), (4, (0, 0))]) (stN := [(1, 0), (0, 0), (4, 9)]) (hsN := [jzQ_16, (4, [(4, 13), (1, 1)], []), (8, [(4, 14), (4, 15)], []), jgh, jgh, jgh, jgh, jgh, jgh, (101, [], [-q1, r7, r8, 0, 0, 0]), jgh, jgh, jgh, (101, [], [0, 0, 0, 0, 0, 0]), jgh, jgh]) rfl rfl rfl ?_
  refine jT_xaload_n (v := (4, 0)) (pcN := 140) jIQ_161_139 rfl rfl rfl ?_
  refine jT_xgetf (a := 0) (t := 1) (ci := 13) (fi := 7) (c := jzQ_16) (v := (4, 9)) (pcN := 143) jIQ_161_140 rfl rfl rfl rfl rfl rfl rfl ?_
  refine jT_xiload (v := (0, 0)) (pcN := 145) jIQ_161_143 rfl rfl rfl ?_
  refine jT_lald (x := -q1) (a := 9) (j := 0) (fs := []) (X := [-q1, r7, r8, 0, 0, 0]) jIQ_161_145 rfl rfl rfl rfl ?_
  refine jT_eq (LN := [(7, (0, 0)), (5, (1, q1)), (0, (4, 0)), (1, (0, r7)), (2, (0, r8)), (3, (4, 1)), (4, (0, 0))]) (stN := [(1, -q1), (1, 0), (0, 0), (4, 9)]) (hsN := [jzQ_16, (4, [(4, 13), (1, 1)], []), (8, [(4, 14), (4, 15)], []), jgh, jgh, jgh, jgh, jgh, jgh, (101, [], [-q1, r7, r8, 0, 0, 0]), jgh, jgh, jgh, (101, [], [0, 0, 0, 0, 0, 0]), jgh, jgh]) rfl rfl rfl ?_
  refine jT_xaload_n (v := (4, 1)) (pcN := 147) jIQ_161_146 rfl rfl rfl ?_
  refine jT_xgetf (a := 1) (t := 2) (ci := 4) (fi := 1) (c := (4, [(4, 13), (1, 1)], [])) (v := (1, 1)) (pcN := 150) jIQ_161_147 rfl rfl rfl rfl rfl rfl rfl ?_
  refine jT_xlmul (x := -q1) (y := 1) (z := -q1) (pcN := 151) jIQ_161_150 rfl (by omega) rfl ?_
  refine jT_xlsub (x := 0) (y := -q1) (z := q1) (pcN := 152) jIQ_161_151 rfl (by omega) rfl ?_
  refine jT_adv 1 (pcN := 153) (LN := [(7, (0, 0)), (5, (1, q1)), (0, (4, 0)), (1, (0, r7)), (2, (0, r8)), (3, (4, 1)), (4, (0, 0))]) (stN := []) (hsN := [jzQ_16, (4, [(4, 13), (1, 1)], []), (8, [(4, 14), (4, 15)], []), jgh, jgh, jgh, jgh, jgh, jgh, (101, [], [q1, r7, r8, 0, 0, 0]), jgh, jgh, jgh, (101, [], [0, 0, 0, 0, 0, 0]), jgh, jgh]) (c1 := 0) (s1 := 0) (c2 := 0) (s2 := 0) (by exact rfl) ?_ (by omega) (by omega)
  refine jT_xiinc (x := 0) (z := 1) (LN := [(7, (0, 1)), (5, (1, q1)), (0, (4, 0)), (1, (0, r7)), (2, (0, r8)), (3, (4, 1)), (4, (0, 0))]) (pcN := 156) jIQ_161_153 rfl rfl (by decide) rfl rfl ?_
  refine jT_xgoto (pcN := 119) jIQ_161_156 rfl ?_
  refine jT_xiload (v := (0, 1)) (pcN := 121) jIQ_161_119 rfl rfl rfl ?_
  refine jT_xbipush (k := 6) (pcN := 123) jIQ_161_121 (by decide) rfl ?_
  refine jT_xicF (t := 159) (pcN := 126) jIQ_161_123 rfl (by decide +kernel) rfl rfl ?_
  refine jT_xaload_n (v := (4, 0)) (pcN := 127) jIQ_161_126 rfl rfl rfl ?_
  refine jT_xgetf (a := 0) (t := 1) (ci := 13) (fi := 7) (c := jzQ_16) (v := (4, 9)) (pcN := 130) jIQ_161_127 rfl rfl rfl rfl rfl rfl rfl ?_
  refine jT_xiload (v := (0, 1)) (pcN := 132) jIQ_161_130 rfl rfl rfl ?_
  refine jT_xaload_n (v := (4, 1)) (pcN := 133) jIQ_161_132 rfl rfl rfl ?_
  refine jT_xgetf (a := 1) (t := 2) (ci := 4) (fi := 0) (c := (4, [(4, 13), (1, 1)], [])) (v := (4, 13)) (pcN := 136) jIQ_161_133 rfl rfl rfl rfl rfl rfl rfl ?_
  refine jT_xiload (v := (0, 1)) (pcN := 138) jIQ_161_136 rfl rfl rfl ?_
  refine jT_lald (x := 0) (a := 13) (j := 1) (fs := []) (X := [0, 0, 0, 0, 0, 0]) jIQ_161_138 rfl rfl rfl rfl ?_
  refine jT_eq (LN := [(7, (0, 1)), (5, (1, q1)), (0, (4, 0)), (1, (0, r7)), (2, (0, r8)), (3, (4, 1)), (4, (0, 0))]) (stN := [(1, 0), (0, 1), (4, 9)]) (hsN := [jzQ_16, (4, [(4, 13), (1, 1)], []), (8, [(4, 14), (4, 15)], []), jgh, jgh, jgh, jgh, jgh, jgh, (101, [], [q1, r7, r8, 0, 0, 0]), jgh, jgh, jgh, (101, [], [0, 0, 0, 0, 0, 0]), jgh, jgh]) rfl rfl rfl ?_
  refine jT_xaload_n (v := (4, 0)) (pcN := 140) jIQ_161_139 rfl rfl rfl ?_
  refine jT_xgetf (a := 0) (t := 1) (ci := 13) (fi := 7) (c := jzQ_16) (v := (4, 9)) (pcN := 143) jIQ_161_140 rfl rfl rfl rfl rfl rfl rfl ?_
  refine jT_xiload (v := (0, 1)) (pcN := 145) jIQ_161_143 rfl rfl rfl ?_
  refine jT_lald (x := r7) (a := 9) (j := 1) (fs := []) (X := [q1, r7, r8, 0, 0, 0]) jIQ_161_145 rfl rfl rfl rfl ?_
  refine jT_eq (LN := [(7, (0, 1)), (5, (1, q1)), (0, (4, 0)), (1, (0, r7)), (2, (0, r8)), (3, (4, 1)), (4, (0, 0))]) (stN := [(1, r7), (1, 0), (0, 1), (4, 9)]) (hsN := [jzQ_16, (4, [(4, 13), (1, 1)], []), (8, [(4, 14), (4, 15)], []), jgh, jgh, jgh, jgh, jgh, jgh, (101, [], [q1, r7, r8, 0, 0, 0]), jgh, jgh, jgh, (101, [], [0, 0, 0, 0, 0, 0]), jgh, jgh]) rfl rfl rfl ?_
  refine jT_xaload_n (v := (4, 1)) (pcN := 147) jIQ_161_146 rfl rfl rfl ?_
  refine jT_xgetf (a := 1) (t := 2) (ci := 4) (fi := 1) (c := (4, [(4, 13), (1, 1)], [])) (v := (1, 1)) (pcN := 150) jIQ_161_147 rfl rfl rfl rfl rfl rfl rfl ?_
  refine jT_xlmul (x := r7) (y := 1) (z := r7) (pcN := 151) jIQ_161_150 rfl (by omega) rfl ?_
  refine jT_xlsub (x := 0) (y := r7) (z := -r7) (pcN := 152) jIQ_161_151 rfl (by omega) rfl ?_
  refine jT_adv 1 (pcN := 153) (LN := [(7, (0, 1)), (5, (1, q1)), (0, (4, 0)), (1, (0, r7)), (2, (0, r8)), (3, (4, 1)), (4, (0, 0))]) (stN := []) (hsN := [jzQ_16, (4, [(4, 13), (1, 1)], []), (8, [(4, 14), (4, 15)], []), jgh, jgh, jgh, jgh, jgh, jgh, (101, [], [q1, -r7, r8, 0, 0, 0]), jgh, jgh, jgh, (101, [], [0, 0, 0, 0, 0, 0]), jgh, jgh]) (c1 := 0) (s1 := 0) (c2 := 0) (s2 := 0) (by exact rfl) ?_ (by omega) (by omega)
  refine jT_xiinc (x := 1) (z := 2) (LN := [(7, (0, 2)), (5, (1, q1)), (0, (4, 0)), (1, (0, r7)), (2, (0, r8)), (3, (4, 1)), (4, (0, 0))]) (pcN := 156) jIQ_161_153 rfl rfl (by decide) rfl rfl ?_
  refine jT_xgoto (pcN := 119) jIQ_161_156 rfl ?_
  refine jT_xiload (v := (0, 2)) (pcN := 121) jIQ_161_119 rfl rfl rfl ?_
  refine jT_xbipush (k := 6) (pcN := 123) jIQ_161_121 (by decide) rfl ?_
  refine jT_xicF (t := 159) (pcN := 126) jIQ_161_123 rfl (by decide +kernel) rfl rfl ?_
  refine jT_xaload_n (v := (4, 0)) (pcN := 127) jIQ_161_126 rfl rfl rfl ?_
  refine jT_xgetf (a := 0) (t := 1) (ci := 13) (fi := 7) (c := jzQ_16) (v := (4, 9)) (pcN := 130) jIQ_161_127 rfl rfl rfl rfl rfl rfl rfl ?_
  refine jT_xiload (v := (0, 2)) (pcN := 132) jIQ_161_130 rfl rfl rfl ?_
  refine jT_xaload_n (v := (4, 1)) (pcN := 133) jIQ_161_132 rfl rfl rfl ?_
  refine jT_xgetf (a := 1) (t := 2) (ci := 4) (fi := 0) (c := (4, [(4, 13), (1, 1)], [])) (v := (4, 13)) (pcN := 136) jIQ_161_133 rfl rfl rfl rfl rfl rfl rfl ?_
  refine jT_xiload (v := (0, 2)) (pcN := 138) jIQ_161_136 rfl rfl rfl ?_
  refine jT_lald (x := 0) (a := 13) (j := 2) (fs := []) (X := [0, 0, 0, 0, 0, 0]) jIQ_161_138 rfl rfl rfl rfl ?_
  refine jT_eq (LN := [(7, (0, 2)), (5, (1, q1)), (0, (4, 0)), (1, (0, r7)), (2, (0, r8)), (3, (4, 1)), (4, (0, 0))]) (stN := [(1, 0), (0, 2), (4, 9)]) (hsN := [jzQ_16, (4, [(4, 13), (1, 1)], []), (8, [(4, 14), (4, 15)], []), jgh, jgh, jgh, jgh, jgh, jgh, (101, [], [q1, -r7, r8, 0, 0, 0]), jgh, jgh, jgh, (101, [], [0, 0, 0, 0, 0, 0]), jgh, jgh]) rfl rfl rfl ?_
  refine jT_xaload_n (v := (4, 0)) (pcN := 140) jIQ_161_139 rfl rfl rfl ?_
  refine jT_xgetf (a := 0) (t := 1) (ci := 13) (fi := 7) (c := jzQ_16) (v := (4, 9)) (pcN := 143) jIQ_161_140 rfl rfl rfl rfl rfl rfl rfl ?_
  refine jT_xiload (v := (0, 2)) (pcN := 145) jIQ_161_143 rfl rfl rfl ?_
  refine jT_lald (x := r8) (a := 9) (j := 2) (fs := []) (X := [q1, -r7, r8, 0, 0, 0]) jIQ_161_145 rfl rfl rfl rfl ?_
  refine jT_eq (LN := [(7, (0, 2)), (5, (1, q1)), (0, (4, 0)), (1, (0, r7)), (2, (0, r8)), (3, (4, 1)), (4, (0, 0))]) (stN := [(1, r8), (1, 0), (0, 2), (4, 9)]) (hsN := [jzQ_16, (4, [(4, 13), (1, 1)], []), (8, [(4, 14), (4, 15)], []), jgh, jgh, jgh, jgh, jgh, jgh, (101, [], [q1, -r7, r8, 0, 0, 0]), jgh, jgh, jgh, (101, [], [0, 0, 0, 0, 0, 0]), jgh, jgh]) rfl rfl rfl ?_
  refine jT_xaload_n (v := (4, 1)) (pcN := 147) jIQ_161_146 rfl rfl rfl ?_
  refine jT_xgetf (a := 1) (t := 2) (ci := 4) (fi := 1) (c := (4, [(4, 13), (1, 1)], [])) (v := (1, 1)) (pcN := 150) jIQ_161_147 rfl rfl rfl rfl rfl rfl rfl ?_
  refine jT_xlmul (x := r8) (y := 1) (z := r8) (pcN := 151) jIQ_161_150 rfl (by omega) rfl ?_
  refine jT_xlsub (x := 0) (y := r8) (z := -r8) (pcN := 152) jIQ_161_151 rfl (by omega) rfl ?_
  refine jT_adv 1 (pcN := 153) (LN := [(7, (0, 2)), (5, (1, q1)), (0, (4, 0)), (1, (0, r7)), (2, (0, r8)), (3, (4, 1)), (4, (0, 0))]) (stN := []) (hsN := [jzQ_16, (4, [(4, 13), (1, 1)], []), (8, [(4, 14), (4, 15)], []), jgh, jgh, jgh, jgh, jgh, jgh, (101, [], [q1, -r7, -r8, 0, 0, 0]), jgh, jgh, jgh, (101, [], [0, 0, 0, 0, 0, 0]), jgh, jgh]) (c1 := 0) (s1 := 0) (c2 := 0) (s2 := 0) (by exact rfl) ?_ (by omega) (by omega)
  refine jT_xiinc (x := 2) (z := 3) (LN := [(7, (0, 3)), (5, (1, q1)), (0, (4, 0)), (1, (0, r7)), (2, (0, r8)), (3, (4, 1)), (4, (0, 0))]) (pcN := 156) jIQ_161_153 rfl rfl (by decide) rfl rfl ?_
  refine jT_xgoto (pcN := 119) jIQ_161_156 rfl ?_
  refine jT_xiload (v := (0, 3)) (pcN := 121) jIQ_161_119 rfl rfl rfl ?_
  refine jT_xbipush (k := 6) (pcN := 123) jIQ_161_121 (by decide) rfl ?_
  refine jT_xicF (t := 159) (pcN := 126) jIQ_161_123 rfl (by decide +kernel) rfl rfl ?_
  refine jT_xaload_n (v := (4, 0)) (pcN := 127) jIQ_161_126 rfl rfl rfl ?_
  refine jT_xgetf (a := 0) (t := 1) (ci := 13) (fi := 7) (c := jzQ_16) (v := (4, 9)) (pcN := 130) jIQ_161_127 rfl rfl rfl rfl rfl rfl rfl ?_
  refine jT_xiload (v := (0, 3)) (pcN := 132) jIQ_161_130 rfl rfl rfl ?_
  refine jT_xaload_n (v := (4, 1)) (pcN := 133) jIQ_161_132 rfl rfl rfl ?_
  refine jT_xgetf (a := 1) (t := 2) (ci := 4) (fi := 0) (c := (4, [(4, 13), (1, 1)], [])) (v := (4, 13)) (pcN := 136) jIQ_161_133 rfl rfl rfl rfl rfl rfl rfl ?_
  refine jT_xiload (v := (0, 3)) (pcN := 138) jIQ_161_136 rfl rfl rfl ?_
  refine jT_lald (x := 0) (a := 13) (j := 3) (fs := []) (X := [0, 0, 0, 0, 0, 0]) jIQ_161_138 rfl rfl rfl rfl ?_
  refine jT_eq (LN := [(7, (0, 3)), (5, (1, q1)), (0, (4, 0)), (1, (0, r7)), (2, (0, r8)), (3, (4, 1)), (4, (0, 0))]) (stN := [(1, 0), (0, 3), (4, 9)]) (hsN := [jzQ_16, (4, [(4, 13), (1, 1)], []), (8, [(4, 14), (4, 15)], []), jgh, jgh, jgh, jgh, jgh, jgh, (101, [], [q1, -r7, -r8, 0, 0, 0]), jgh, jgh, jgh, (101, [], [0, 0, 0, 0, 0, 0]), jgh, jgh]) rfl rfl rfl ?_
  refine jT_xaload_n (v := (4, 0)) (pcN := 140) jIQ_161_139 rfl rfl rfl ?_
  refine jT_xgetf (a := 0) (t := 1) (ci := 13) (fi := 7) (c := jzQ_16) (v := (4, 9)) (pcN := 143) jIQ_161_140 rfl rfl rfl rfl rfl rfl rfl ?_
  refine jT_xiload (v := (0, 3)) (pcN := 145) jIQ_161_143 rfl rfl rfl ?_
  refine jT_lald (x := 0) (a := 9) (j := 3) (fs := []) (X := [q1, -r7, -r8, 0, 0, 0]) jIQ_161_145 rfl rfl rfl rfl ?_
  refine jT_eq (LN := [(7, (0, 3)), (5, (1, q1)), (0, (4, 0)), (1, (0, r7)), (2, (0, r8)), (3, (4, 1)), (4, (0, 0))]) (stN := [(1, 0), (1, 0), (0, 3), (4, 9)]) (hsN := [jzQ_16, (4, [(4, 13), (1, 1)], []), (8, [(4, 14), (4, 15)], []), jgh, jgh, jgh, jgh, jgh, jgh, (101, [], [q1, -r7, -r8, 0, 0, 0]), jgh, jgh, jgh, (101, [], [0, 0, 0, 0, 0, 0]), jgh, jgh]) rfl rfl rfl ?_
  refine jT_xaload_n (v := (4, 1)) (pcN := 147) jIQ_161_146 rfl rfl rfl ?_
  refine jT_xgetf (a := 1) (t := 2) (ci := 4) (fi := 1) (c := (4, [(4, 13), (1, 1)], [])) (v := (1, 1)) (pcN := 150) jIQ_161_147 rfl rfl rfl rfl rfl rfl rfl ?_
  refine jT_xlmul (x := 0) (y := 1) (z := 0) (pcN := 151) jIQ_161_150 rfl (by decide) rfl ?_
  refine jT_xlsub (x := 0) (y := 0) (z := 0) (pcN := 152) jIQ_161_151 rfl (by decide) rfl ?_
  refine jT_adv 1 (pcN := 153) (LN := [(7, (0, 3)), (5, (1, q1)), (0, (4, 0)), (1, (0, r7)), (2, (0, r8)), (3, (4, 1)), (4, (0, 0))]) (stN := []) (hsN := [jzQ_16, (4, [(4, 13), (1, 1)], []), (8, [(4, 14), (4, 15)], []), jgh, jgh, jgh, jgh, jgh, jgh, (101, [], [q1, -r7, -r8, 0, 0, 0]), jgh, jgh, jgh, (101, [], [0, 0, 0, 0, 0, 0]), jgh, jgh]) (c1 := 0) (s1 := 0) (c2 := 0) (s2 := 0) (by exact rfl) ?_ (by omega) (by omega)
  refine jT_xiinc (x := 3) (z := 4) (LN := [(7, (0, 4)), (5, (1, q1)), (0, (4, 0)), (1, (0, r7)), (2, (0, r8)), (3, (4, 1)), (4, (0, 0))]) (pcN := 156) jIQ_161_153 rfl rfl (by decide) rfl rfl ?_
  refine jT_xgoto (pcN := 119) jIQ_161_156 rfl ?_
  refine jT_xiload (v := (0, 4)) (pcN := 121) jIQ_161_119 rfl rfl rfl ?_
  refine jT_xbipush (k := 6) (pcN := 123) jIQ_161_121 (by decide) rfl ?_
  refine jT_xicF (t := 159) (pcN := 126) jIQ_161_123 rfl (by decide +kernel) rfl rfl ?_
  refine jT_xaload_n (v := (4, 0)) (pcN := 127) jIQ_161_126 rfl rfl rfl ?_
  refine jT_xgetf (a := 0) (t := 1) (ci := 13) (fi := 7) (c := jzQ_16) (v := (4, 9)) (pcN := 130) jIQ_161_127 rfl rfl rfl rfl rfl rfl rfl ?_
  refine jT_xiload (v := (0, 4)) (pcN := 132) jIQ_161_130 rfl rfl rfl ?_
  refine jT_xaload_n (v := (4, 1)) (pcN := 133) jIQ_161_132 rfl rfl rfl ?_
  refine jT_xgetf (a := 1) (t := 2) (ci := 4) (fi := 0) (c := (4, [(4, 13), (1, 1)], [])) (v := (4, 13)) (pcN := 136) jIQ_161_133 rfl rfl rfl rfl rfl rfl rfl ?_
  refine jT_xiload (v := (0, 4)) (pcN := 138) jIQ_161_136 rfl rfl rfl ?_
  refine jT_lald (x := 0) (a := 13) (j := 4) (fs := []) (X := [0, 0, 0, 0, 0, 0]) jIQ_161_138 rfl rfl rfl rfl ?_
  refine jT_eq (LN := [(7, (0, 4)), (5, (1, q1)), (0, (4, 0)), (1, (0, r7)), (2, (0, r8)), (3, (4, 1)), (4, (0, 0))]) (stN := [(1, 0), (0, 4), (4, 9)]) (hsN := [jzQ_16, (4, [(4, 13), (1, 1)], []), (8, [(4, 14), (4, 15)], []), jgh, jgh, jgh, jgh, jgh, jgh, (101, [], [q1, -r7, -r8, 0, 0, 0]), jgh, jgh, jgh, (101, [], [0, 0, 0, 0, 0, 0]), jgh, jgh]) rfl rfl rfl ?_
  refine jT_xaload_n (v := (4, 0)) (pcN := 140) jIQ_161_139 rfl rfl rfl ?_
  refine jT_xgetf (a := 0) (t := 1) (ci := 13) (fi := 7) (c := jzQ_16) (v := (4, 9)) (pcN := 143) jIQ_161_140 rfl rfl rfl rfl rfl rfl rfl ?_
  refine jT_xiload (v := (0, 4)) (pcN := 145) jIQ_161_143 rfl rfl rfl ?_
  refine jT_lald (x := 0) (a := 9) (j := 4) (fs := []) (X := [q1, -r7, -r8, 0, 0, 0]) jIQ_161_145 rfl rfl rfl rfl ?_
  refine jT_eq (LN := [(7, (0, 4)), (5, (1, q1)), (0, (4, 0)), (1, (0, r7)), (2, (0, r8)), (3, (4, 1)), (4, (0, 0))]) (stN := [(1, 0), (1, 0), (0, 4), (4, 9)]) (hsN := [jzQ_16, (4, [(4, 13), (1, 1)], []), (8, [(4, 14), (4, 15)], []), jgh, jgh, jgh, jgh, jgh, jgh, (101, [], [q1, -r7, -r8, 0, 0, 0]), jgh, jgh, jgh, (101, [], [0, 0, 0, 0, 0, 0]), jgh, jgh]) rfl rfl rfl ?_
  refine jT_xaload_n (v := (4, 1)) (pcN := 147) jIQ_161_146 rfl rfl rfl ?_
  refine jT_xgetf (a := 1) (t := 2) (ci := 4) (fi := 1) (c := (4, [(4, 13), (1, 1)], [])) (v := (1, 1)) (pcN := 150) jIQ_161_147 rfl rfl rfl rfl rfl rfl rfl ?_
  refine jT_xlmul (x := 0) (y := 1) (z := 0) (pcN := 151) jIQ_161_150 rfl (by decide) rfl ?_
  refine jT_xlsub (x := 0) (y := 0) (z := 0) (pcN := 152) jIQ_161_151 rfl (by decide) rfl ?_
  refine jT_adv 1 (pcN := 153) (LN := [(7, (0, 4)), (5, (1, q1)), (0, (4, 0)), (1, (0, r7)), (2, (0, r8)), (3, (4, 1)), (4, (0, 0))]) (stN := []) (hsN := [jzQ_16, (4, [(4, 13), (1, 1)], []), (8, [(4, 14), (4, 15)], []), jgh, jgh, jgh, jgh, jgh, jgh, (101, [], [q1, -r7, -r8, 0, 0, 0]), jgh, jgh, jgh, (101, [], [0, 0, 0, 0, 0, 0]), jgh, jgh]) (c1 := 0) (s1 := 0) (c2 := 0) (s2 := 0) (by exact rfl) ?_ (by omega) (by omega)
  refine jT_xiinc (x := 4) (z := 5) (LN := [(7, (0, 5)), (5, (1, q1)), (0, (4, 0)), (1, (0, r7)), (2, (0, r8)), (3, (4, 1)), (4, (0, 0))]) (pcN := 156) jIQ_161_153 rfl rfl (by decide) rfl rfl ?_
  refine jT_xgoto (pcN := 119) jIQ_161_156 rfl ?_
  refine jT_xiload (v := (0, 5)) (pcN := 121) jIQ_161_119 rfl rfl rfl ?_
  refine jT_xbipush (k := 6) (pcN := 123) jIQ_161_121 (by decide) rfl ?_
  refine jT_xicF (t := 159) (pcN := 126) jIQ_161_123 rfl (by decide +kernel) rfl rfl ?_
  refine jT_xaload_n (v := (4, 0)) (pcN := 127) jIQ_161_126 rfl rfl rfl ?_
  refine jT_xgetf (a := 0) (t := 1) (ci := 13) (fi := 7) (c := jzQ_16) (v := (4, 9)) (pcN := 130) jIQ_161_127 rfl rfl rfl rfl rfl rfl rfl ?_
  refine jT_xiload (v := (0, 5)) (pcN := 132) jIQ_161_130 rfl rfl rfl ?_
  refine jT_xaload_n (v := (4, 1)) (pcN := 133) jIQ_161_132 rfl rfl rfl ?_
  refine jT_xgetf (a := 1) (t := 2) (ci := 4) (fi := 0) (c := (4, [(4, 13), (1, 1)], [])) (v := (4, 13)) (pcN := 136) jIQ_161_133 rfl rfl rfl rfl rfl rfl rfl ?_
  refine jT_xiload (v := (0, 5)) (pcN := 138) jIQ_161_136 rfl rfl rfl ?_
  refine jT_lald (x := 0) (a := 13) (j := 5) (fs := []) (X := [0, 0, 0, 0, 0, 0]) jIQ_161_138 rfl rfl rfl rfl ?_
  refine jT_eq (LN := [(7, (0, 5)), (5, (1, q1)), (0, (4, 0)), (1, (0, r7)), (2, (0, r8)), (3, (4, 1)), (4, (0, 0))]) (stN := [(1, 0), (0, 5), (4, 9)]) (hsN := [jzQ_16, (4, [(4, 13), (1, 1)], []), (8, [(4, 14), (4, 15)], []), jgh, jgh, jgh, jgh, jgh, jgh, (101, [], [q1, -r7, -r8, 0, 0, 0]), jgh, jgh, jgh, (101, [], [0, 0, 0, 0, 0, 0]), jgh, jgh]) rfl rfl rfl ?_
  refine jT_xaload_n (v := (4, 0)) (pcN := 140) jIQ_161_139 rfl rfl rfl ?_
  refine jT_xgetf (a := 0) (t := 1) (ci := 13) (fi := 7) (c := jzQ_16) (v := (4, 9)) (pcN := 143) jIQ_161_140 rfl rfl rfl rfl rfl rfl rfl ?_
  refine jT_xiload (v := (0, 5)) (pcN := 145) jIQ_161_143 rfl rfl rfl ?_
  refine jT_lald (x := 0) (a := 9) (j := 5) (fs := []) (X := [q1, -r7, -r8, 0, 0, 0]) jIQ_161_145 rfl rfl rfl rfl ?_
  refine jT_eq (LN := [(7, (0, 5)), (5, (1, q1)), (0, (4, 0)), (1, (0, r7)), (2, (0, r8)), (3, (4, 1)), (4, (0, 0))]) (stN := [(1, 0), (1, 0), (0, 5), (4, 9)]) (hsN := [jzQ_16, (4, [(4, 13), (1, 1)], []), (8, [(4, 14), (4, 15)], []), jgh, jgh, jgh, jgh, jgh, jgh, (101, [], [q1, -r7, -r8, 0, 0, 0]), jgh, jgh, jgh, (101, [], [0, 0, 0, 0, 0, 0]), jgh, jgh]) rfl rfl rfl ?_
  refine jT_xaload_n (v := (4, 1)) (pcN := 147) jIQ_161_146 rfl rfl rfl ?_
  refine jT_xgetf (a := 1) (t := 2) (ci := 4) (fi := 1) (c := (4, [(4, 13), (1, 1)], [])) (v := (1, 1)) (pcN := 150) jIQ_161_147 rfl rfl rfl rfl rfl rfl rfl ?_
  refine jT_xlmul (x := 0) (y := 1) (z := 0) (pcN := 151) jIQ_161_150 rfl (by decide) rfl ?_
  refine jT_xlsub (x := 0) (y := 0) (z := 0) (pcN := 152) jIQ_161_151 rfl (by decide) rfl ?_
  refine jT_adv 1 (pcN := 153) (LN := [(7, (0, 5)), (5, (1, q1)), (0, (4, 0)), (1, (0, r7)), (2, (0, r8)), (3, (4, 1)), (4, (0, 0))]) (stN := []) (hsN := [jzQ_16, (4, [(4, 13), (1, 1)], []), (8, [(4, 14), (4, 15)], []), jgh, jgh, jgh, jgh, jgh, jgh, (101, [], [q1, -r7, -r8, 0, 0, 0]), jgh, jgh, jgh, (101, [], [0, 0, 0, 0, 0, 0]), jgh, jgh]) (c1 := 0) (s1 := 0) (c2 := 0) (s2 := 0) (by exact rfl) ?_ (by omega) (by omega)
  refine jT_xiinc (x := 5) (z := 6) (LN := [(7, (0, 6)), (5, (1, q1)), (0, (4, 0)), (1, (0, r7)), (2, (0, r8)), (3, (4, 1)), (4, (0, 0))]) (pcN := 156) jIQ_161_153 rfl rfl (by decide) rfl rfl ?_
  refine jT_xgoto (pcN := 119) jIQ_161_156 rfl ?_
  refine jT_xiload (v := (0, 6)) (pcN := 121) jIQ_161_119 rfl rfl rfl ?_
  refine jT_xbipush (k := 6) (pcN := 123) jIQ_161_121 (by decide) rfl ?_
  refine jT_xicT (pcN := 159) jIQ_161_123 rfl (by decide +kernel) rfl ?_
  refine jT_xaload_n (v := (4, 0)) (pcN := 160) jIQ_161_159 rfl rfl rfl ?_
  refine jT_xgetf (a := 0) (t := 1) (ci := 13) (fi := 0) (c := jzQ_16) (v := (4, 2)) (pcN := 163) jIQ_161_160 rfl rfl rfl rfl rfl rfl rfl ?_
  refine jT_xaload_n (v := (4, 0)) (pcN := 164) jIQ_161_163 rfl rfl rfl ?_
  refine jT_xgetf (a := 0) (t := 1) (ci := 13) (fi := 7) (c := jzQ_16) (v := (4, 9)) (pcN := 167) jIQ_161_164 rfl rfl rfl rfl rfl rfl rfl ?_
  refine jT_callA [2, 9, 14, 15] (y := 38) (pcN := 170) (dC := 1) (bc1 := 0) (bc2 := 0) (c1 := 0) (c2 := 0) (as := [(4, 2), (4, 9)]) (asC := [(4, 0), (4, 1)]) (LN := [(7, (0, 6)), (5, (1, q1)), (0, (4, 0)), (1, (0, r7)), (2, (0, r8)), (3, (4, 1)), (4, (0, 0))]) (stN := []) (hsC := [(8, [(4, 2), (4, 3)], []), (101, [], [q1, -r7, -r8, 0, 0, 0]), jgh, jgh]) (ex := []) (v := (0, (-1))) (st2 := [(0, (-1))]) (hs2 := [jzQ_16, (4, [(4, 13), (1, 1)], []), (8, [(4, 14), (4, 15)], []), jgh, jgh, jgh, jgh, jgh, jgh, (101, [], [q1, -r7, -r8, 0, 0, 0]), jgh, jgh, jgh, (101, [], [0, 0, 0, 0, 0, 0]), jgh, jgh]) (jQl_sp38_117 (d := 0) (by omega) (by omega) (by omega) (by omega) (by omega) (by omega) (by omega)) (by rfl) (by rfl) (by rfl) (by rfl) ⟨rfl, rfl, rfl, rfl, trivial⟩ (by rfl) (by rfl) (by omega) (by show 16 ≤ 16; omega) (by omega) (by omega) rfl rfl ?_
  refine jT_xifT (pcN := 177) jIQ_161_170 rfl (by decide +kernel) rfl ?_
  refine jT_xiconst (k := 0) (pcN := 178) jIQ_161_177 rfl ?_
  subst hq_q1
  exact jT_ret rfl (by decide) (by show 16 ≤ 16; omega) (by omega) (by omega) ⟨rfl, rfl, rfl⟩
theorem jIQ_160_32 : jmI (jm 160) 32 = (.aload_n 0, 1) := by rfl
theorem jIQ_160_33 : jmI (jm 160) 33 = (.getfield 67, 3) := by rfl
theorem jIQ_160_36 : jmI (jm 160) 36 = (.iload_n 3, 1) := by rfl
theorem jIQ_160_40 : jmI (jm 160) 40 = (.astore 5, 2) := by rfl
theorem jIQ_160_42 : jmI (jm 160) 42 = (.aload_n 0, 1) := by rfl
theorem jIQ_160_43 : jmI (jm 160) 43 = (.getfield 10, 3) := by rfl
theorem jIQ_160_46 : jmI (jm 160) 46 = (.aload 5, 2) := by rfl
theorem jIQ_160_48 : jmI (jm 160) 48 = (.lconst 1, 1) := by rfl
theorem jIQ_160_49 : jmI (jm 160) 49 = (.lconst 1, 1) := by rfl
def jzQ_296 : JC := (9, [(4, 14), (4, 15), (4, 16), (4, 17), (4, 18)], [])
def jzQ_297 : JC := (114, [], [19, 19, 19, 19, 19, 19, 19, 19])
def jpQ_298 : List JC := [jzQ_7, (8, [(4, 12), (4, 13)], []), jgh, jgh, jgh, jgh, jgh, jgh, (101, [], [0, 0, 0, 0, 0, 0]), (101, [], [0, 0, 0, 0, 0, 0]), jgh, jzQ_296, jgh, (101, [], [0, 0, 0, 0, 0, 0]), jzQ_297, jgh, jgh, jgh, jgh, (4, [(4, 20), (1, 1)], []), (101, [], [0, 0, 0, 0, 0, 0]), (101, [], [1, 0, 0, 0, 0, 0]), (4, [(4, 21), (1, 1)], [])]
def jpQ_299 : List JC := [jzQ_7, (8, [(4, 12), (4, 13)], []), jgh, jgh, jgh, jgh, jgh, jgh, (101, [], [0, 0, 0, 0, 0, 0]), (101, [], [0, 0, 0, 0, 0, 0]), jgh, jzQ_296, jgh, (101, [], [(-1), 0, 0, 0, 0, 0]), jzQ_297, jgh, jgh, jgh, jgh, (4, [(4, 20), (1, 1)], []), (101, [], [0, 0, 0, 0, 0, 0]), (101, [], [1, 0, 0, 0, 0, 0]), (4, [(4, 21), (1, 1)], [])]
theorem jIQ_160_56 : jmI (jm 160) 56 = (.ifCond .le 14, 3) := by rfl
theorem jIQ_160_70 : jmI (jm 160) 70 = (.aload_n 0, 1) := by rfl
theorem jIQ_160_71 : jmI (jm 160) 71 = (.getfield 10, 3) := by rfl
theorem jIQ_160_74 : jmI (jm 160) 74 = (.aload_n 0, 1) := by rfl
theorem jIQ_160_75 : jmI (jm 160) 75 = (.getfield 54, 3) := by rfl
theorem jIQ_160_78 : jmI (jm 160) 78 = (.iload 4, 2) := by rfl
theorem jIQ_160_83 : jmI (jm 160) 83 = (.iconst 0, 1) := by rfl
theorem jIQ_160_84 : jmI (jm 160) 84 = (.istore 6, 2) := by rfl
theorem jIQ_160_86 : jmI (jm 160) 86 = (.iload_n 1, 1) := by rfl
theorem jIQ_160_88 : jmI (jm 160) 88 = (.istore 7, 2) := by rfl
theorem jIQ_160_90 : jmI (jm 160) 90 = (.iload 7, 2) := by rfl
theorem jIQ_160_92 : jmI (jm 160) 92 = (.iload_n 1, 1) := by rfl
theorem jIQ_160_93 : jmI (jm 160) 93 = (.if_icmp .gt 50, 3) := by rfl
theorem jIQ_160_96 : jmI (jm 160) 96 = (.iload_n 2, 1) := by rfl
theorem jIQ_160_98 : jmI (jm 160) 98 = (.istore 8, 2) := by rfl
theorem jIQ_160_100 : jmI (jm 160) 100 = (.iload 8, 2) := by rfl
theorem jIQ_160_102 : jmI (jm 160) 102 = (.iload_n 2, 1) := by rfl
theorem jIQ_160_103 : jmI (jm 160) 103 = (.if_icmp .gt 34, 3) := by rfl
theorem jIQ_160_106 : jmI (jm 160) 106 = (.iload 6, 2) := by rfl
theorem jIQ_160_108 : jmI (jm 160) 108 = (.aload_n 0, 1) := by rfl
theorem jIQ_160_109 : jmI (jm 160) 109 = (.iload 7, 2) := by rfl
theorem jIQ_160_111 : jmI (jm 160) 111 = (.iload 8, 2) := by rfl
theorem jIQ_160_113 : jmI (jm 160) 113 = (.aload 5, 2) := by rfl
theorem jIQ_160_115 : jmI (jm 160) 115 = (.iload 4, 2) := by rfl
theorem jIQ_160_120 : jmI (jm 160) 120 = (.ifCond .eq 7, 3) := by rfl
theorem jIQ_160_127 : jmI (jm 160) 127 = (.iconst 0, 1) := by rfl
theorem jIQ_160_128 : jmI (jm 160) 128 = (.iadd, 1) := by rfl
theorem jIQ_160_129 : jmI (jm 160) 129 = (.istore 6, 2) := by rfl
theorem jIQ_160_131 : jmI (jm 160) 131 = (.iinc 8 1, 3) := by rfl
theorem jIQ_160_134 : jmI (jm 160) 134 = (.goto (-34), 3) := by rfl
theorem jQl_gc_128 {xs : List Int} {d b1 b2 : Nat} {Q : Nat → JV → List JC → Prop} (hd : 3 < d) {y1 y2 r7 : Int} (h_y1 : 0 ≤ y1 ∧ y1 ≤ 20) (h_y2 : 0 ≤ y2 ∧ y2 ≤ 10) (h_r7 : (-20) ≤ r7 ∧ r7 ≤ 20) (h : ∀ (u8_0 u8_1 u8_2 u8_3 u8_4 u8_5 : Int), jT xs d 160 21 137 [(7, (0, r7)), (6, (0, 0)), (5, (4, 19)), (0, (4, 0)), (1, (0, y1)), (2, (0, y2)), (4, (0, 0))] [] [jzQ_7, (8, [(4, 12), (4, 13)], []), jgh, jgh, jgh, jgh, jgh, jgh, (101, [], [u8_0, u8_1, u8_2, u8_3, u8_4, u8_5]), (101, [], [0, 0, 0, 0, 0, 0]), jgh, jzQ_296, jgh, (101, [], [0, 0, 0, 0, 0, 0]), jzQ_297, jgh, jgh, jgh, jgh, (4, [(4, 20), (1, 1)], []), (101, [], [0, 0, 0, 0, 0, 0]), (101, [], [1, 0, 0, 0, 0, 0]), (4, [(4, 21), (1, 1)], [])] b1 b2 Q) : ∀ (q : Nat) (r8 u8_0 u8_1 u8_2 u8_3 u8_4 u8_5 : Int), -y2 ≤ r8 → r8 + (q : Int) = y2 + 1 → jT xs d 160 21 100 [(8, (0, r8)), (7, (0, r7)), (6, (0, 0)), (5, (4, 19)), (0, (4, 0)), (1, (0, y1)), (2, (0, y2)), (4, (0, 0))] [] [jzQ_7, (8, [(4, 12), (4, 13)], []), jgh, jgh, jgh, jgh, jgh, jgh, (101, [], [u8_0, u8_1, u8_2, u8_3, u8_4, u8_5]), (101, [], [0, 0, 0, 0, 0, 0]), jgh, jzQ_296, jgh, (101, [], [0, 0, 0, 0, 0, 0]), jzQ_297, jgh, jgh, jgh, jgh, (4, [(4, 20), (1, 1)], []), (101, [], [0, 0, 0, 0, 0, 0]), (101, [], [1, 0, 0, 0, 0, 0]), (4, [(4, 21), (1, 1)], [])] (b1 + 0 * q) (b2 + 0 * q) Q := by
  intro q
  induction q with
  | zero =>
    intro r8 u8_0 u8_1 u8_2 u8_3 u8_4 u8_5 h0 ht
    have e : r8 = y2 + 1 := by omega
    subst r8
    refine jT.mono (b1 := b1) (b2 := b2) ?_ (Nat.le_refl _) (by omega) (by omega) (fun _ _ _ z => z)
    refine jT_xiload (v := (0, y2 + 1)) (pcN := 102) jIQ_160_100 rfl rfl rfl ?_
    refine jT_xiload_n (v := (0, y2)) (pcN := 103) jIQ_160_102 rfl rfl rfl ?_
    refine jT_icT (a := y2 + 1) (b := y2) (t := 137) (by rfl) (by rfl) (by rfl) (jw_idd (by omega) (by omega)) (jw_idd (by omega) (by omega)) (by simp only [jcP] <;> omega) ?_
    refine jT_loc (LN := [(7, (0, r7)), (6, (0, 0)), (5, (4, 19)), (0, (4, 0)), (1, (0, y1)), (2, (0, y2)), (4, (0, 0))]) (by show List.Nodup [7, 6, 5, 0, 1, 2, 4]; decide) (by intro q hq; simp only [List.mem_cons, List.not_mem_nil, or_false] at hq; rcases hq with rfl | rfl | rfl | rfl | rfl | rfl | rfl <;> rfl) ?_
    exact h u8_0 u8_1 u8_2 u8_3 u8_4 u8_5
  | succ q ih =>
    intro r8 u8_0 u8_1 u8_2 u8_3 u8_4 u8_5 h0 ht
    have h_r8 : (-10) ≤ r8 ∧ r8 ≤ 10 := by omega
    have g_0 : r8 - y2 ≤ 0 := by omega
    refine jT.mono (b1 := b1 + 0 * q + 0) (b2 := b2 + 0 * q + 0) ?_ (Nat.le_refl _) (by omega) (by omega) (fun _ _ _ z => z)
    rcases (show (r7 < 0) ∨ (0 ≤ r7 ∧ r7 ≤ 0) ∨ (0 < r7) by omega) with g_1 | ⟨g_1, g_2⟩ | g_1
    · refine jT_xiload (v := (0, r8)) (pcN := 102) jIQ_160_100 rfl rfl rfl ?_
      refine jT_xiload_n (v := (0, y2)) (pcN := 103) jIQ_160_102 rfl rfl rfl ?_
      refine jT_icF (a := r8) (b := y2) (t := 137) (by rfl) (by rfl) (by rfl) (jw_idd (by omega) (by omega)) (jw_idd (by omega) (by omega)) (by simp only [jcP] <;> omega) ?_
      refine jT_xiload (v := (0, 0)) (pcN := 108) jIQ_160_106 rfl rfl rfl ?_
      refine jT_xaload_n (v := (4, 0)) (pcN := 109) jIQ_160_108 rfl rfl rfl ?_
      refine jT_xiload (v := (0, r7)) (pcN := 111) jIQ_160_109 rfl rfl rfl ?_
      refine jT_xiload (v := (0, r8)) (pcN := 113) jIQ_160_111 rfl rfl rfl ?_
      refine jT_xaload (v := (4, 19)) (pcN := 115) jIQ_160_113 rfl rfl rfl ?_
      refine jT_xiload (v := (0, 0)) (pcN := 117) jIQ_160_115 rfl rfl rfl ?_
      refine jT_callB [0, 19, 1, 2, 3, 4, 5, 6, 7, 8, 9, 10, 11, 20, 12, 13] (y := 161) (pcN := 120) (dC := 2) (bc1 := 0) (bc2 := 0) (c1 := (b1 + 0 * q + 0)) (c2 := (b2 + 0 * q + 0)) (as := [(4, 0), (0, r7), (0, r8), (4, 19), (0, 0)]) (asC := [(4, 0), (0, r7), (0, r8), (4, 1), (0, 0)]) (LN := [(8, (0, r8)), (7, (0, r7)), (6, (0, 0)), (5, (4, 19)), (0, (4, 0)), (1, (0, y1)), (2, (0, y2)), (4, (0, 0))]) (stN := [(0, 0)]) (hsC := [jzQ_16, (4, [(4, 13), (1, 1)], []), (8, [(4, 14), (4, 15)], []), jgh, jgh, jgh, jgh, jgh, jgh, (101, [], [u8_0, u8_1, u8_2, u8_3, u8_4, u8_5]), jgh, jgh, jgh, (101, [], [0, 0, 0, 0, 0, 0]), jgh, jgh]) (hsD := [jzQ_16, (4, [(4, 13), (1, 1)], []), (8, [(4, 14), (4, 15)], []), jgh, jgh, jgh, jgh, jgh, jgh, (101, [], [(108917793695 * r7 + 159561683699 * r8) / 68719476736, -r7, -r8, 0, 0, 0]), jgh, jgh, jgh, (101, [], [0, 0, 0, 0, 0, 0]), jgh, jgh]) (v := (0, 0)) (st2 := [(0, 0), (0, 0)]) (hs2 := [jzQ_7, (8, [(4, 12), (4, 13)], []), jgh, jgh, jgh, jgh, jgh, jgh, (101, [], [(108917793695 * r7 + 159561683699 * r8) / 68719476736, -r7, -r8, 0, 0, 0]), (101, [], [0, 0, 0, 0, 0, 0]), jgh, jzQ_296, jgh, (101, [], [0, 0, 0, 0, 0, 0]), jzQ_297, jgh, jgh, jgh, jgh, (4, [(4, 20), (1, 1)], []), (101, [], [0, 0, 0, 0, 0, 0]), (101, [], [1, 0, 0, 0, 0, 0]), (4, [(4, 21), (1, 1)], [])]) (jQ_161_126 (d := 0) (by omega) (by omega) (by omega)) (by rfl) (by rfl) (by rfl) (by rfl) ⟨rfl, rfl, rfl, rfl, rfl, rfl, rfl, rfl, rfl, rfl, rfl, rfl, rfl, rfl, rfl, rfl, trivial⟩ (by rfl) (by rfl) (by omega) (by show 21 ≤ 23; omega) (by omega) (by omega) rfl rfl ?_
      have hb_q1 : (-60) ≤ (108917793695 * r7 + 159561683699 * r8) / 68719476736 ∧ (108917793695 * r7 + 159561683699 * r8) / 68719476736 ≤ 60 := ⟨by omega, by omega⟩
      generalize hq_q1 : (108917793695 * r7 + 159561683699 * r8) / 68719476736 = q1 at hb_q1 ⊢
      refine jT_xifT (pcN := 127) jIQ_160_120 rfl (by decide +kernel) rfl ?_
      refine jT_xiconst (k := 0) (pcN := 128) jIQ_160_127 rfl ?_
      refine jT_xiadd (x := 0) (y := 0) (z := 0) (pcN := 129) jIQ_160_128 rfl (by decide) rfl ?_
      refine jT_xistore (v := (0, 0)) (LN := [(6, (0, 0)), (8, (0, r8)), (7, (0, r7)), (5, (4, 19)), (0, (4, 0)), (1, (0, y1)), (2, (0, y2)), (4, (0, 0))]) (pcN := 131) jIQ_160_129 rfl rfl rfl rfl ?_
      refine jT_xiinc (x := r8) (z := r8 + 1) (LN := [(8, (0, r8 + 1)), (6, (0, 0)), (7, (0, r7)), (5, (4, 19)), (0, (4, 0)), (1, (0, y1)), (2, (0, y2)), (4, (0, 0))]) (pcN := 134) jIQ_160_131 rfl rfl (rfl) rfl rfl ?_
      refine jT_xgoto (pcN := 100) jIQ_160_134 rfl ?_
      refine jT_loc (LN := [(8, (0, r8 + 1)), (7, (0, r7)), (6, (0, 0)), (5, (4, 19)), (0, (4, 0)), (1, (0, y1)), (2, (0, y2)), (4, (0, 0))]) (by show List.Nodup [8, 7, 6, 5, 0, 1, 2, 4]; decide) (by intro q hq; simp only [List.mem_cons, List.not_mem_nil, or_false] at hq; rcases hq with rfl | rfl | rfl | rfl | rfl | rfl | rfl | rfl <;> rfl) ?_
      exact ih (r8 + 1) q1 (-r7) (-r8) 0 0 0 (by omega) (by omega)
    · rcases (show (r8 < 0) ∨ (0 ≤ r8 ∧ r8 ≤ 0) ∨ (0 < r8) by omega) with g_3 | ⟨g_3, g_4⟩ | g_3
      · refine jT_xiload (v := (0, r8)) (pcN := 102) jIQ_160_100 rfl rfl rfl ?_
        refine jT_xiload_n (v := (0, y2)) (pcN := 103) jIQ_160_102 rfl rfl rfl ?_
        refine jT_icF (a := r8) (b := y2) (t := 137) (by rfl) (by rfl) (by rfl) (jw_idd (by omega) (by omega)) (jw_idd (by omega) (by omega)) (by simp only [jcP] <;> omega) ?_
        refine jT_xiload (v := (0, 0)) (pcN := 108) jIQ_160_106 rfl rfl rfl ?_
        refine jT_xaload_n (v := (4, 0)) (pcN := 109) jIQ_160_108 rfl rfl rfl ?_
        refine jT_xiload (v := (0, r7)) (pcN := 111) jIQ_160_109 rfl rfl rfl ?_
        refine jT_xiload (v := (0, r8)) (pcN := 113) jIQ_160_111 rfl rfl rfl ?_
        refine jT_xaload (v := (4, 19)) (pcN := 115) jIQ_160_113 rfl rfl rfl ?_
        refine jT_xiload (v := (0, 0)) (pcN := 117) jIQ_160_115 rfl rfl rfl ?_
        refine jT_callB [0, 19, 1, 2, 3, 4, 5, 6, 7, 8, 9, 10, 11, 20, 12, 13] (y := 161) (pcN := 120) (dC := 2) (bc1 := 0) (bc2 := 0) (c1 := (b1 + 0 * q + 0)) (c2 := (b2 + 0 * q + 0)) (as := [(4, 0), (0, r7), (0, r8), (4, 19), (0, 0)]) (asC := [(4, 0), (0, r7), (0, r8), (4, 1), (0, 0)]) (LN := [(8, (0, r8)), (7, (0, r7)), (6, (0, 0)), (5, (4, 19)), (0, (4, 0)), (1, (0, y1)), (2, (0, y2)), (4, (0, 0))]) (stN := [(0, 0)]) (hsC := [jzQ_16, (4, [(4, 13), (1, 1)], []), (8, [(4, 14), (4, 15)], []), jgh, jgh, jgh, jgh, jgh, jgh, (101, [], [u8_0, u8_1, u8_2, u8_3, u8_4, u8_5]), jgh, jgh, jgh, (101, [], [0, 0, 0, 0, 0, 0]), jgh, jgh]) (hsD := [jzQ_16, (4, [(4, 13), (1, 1)], []), (8, [(4, 14), (4, 15)], []), jgh, jgh, jgh, jgh, jgh, jgh, (101, [], [(108917793695 * r7 + 159561683699 * r8) / 68719476736, -r7, -r8, 0, 0, 0]), jgh, jgh, jgh, (101, [], [0, 0, 0, 0, 0, 0]), jgh, jgh]) (v := (0, 0)) (st2 := [(0, 0), (0, 0)]) (hs2 := [jzQ_7, (8, [(4, 12), (4, 13)], []), jgh, jgh, jgh, jgh, jgh, jgh, (101, [], [(108917793695 * r7 + 159561683699 * r8) / 68719476736, -r7, -r8, 0, 0, 0]), (101, [], [0, 0, 0, 0, 0, 0]), jgh, jzQ_296, jgh, (101, [], [0, 0, 0, 0, 0, 0]), jzQ_297, jgh, jgh, jgh, jgh, (4, [(4, 20), (1, 1)], []), (101, [], [0, 0, 0, 0, 0, 0]), (101, [], [1, 0, 0, 0, 0, 0]), (4, [(4, 21), (1, 1)], [])]) (jQ_161_125 (d := 0) (by omega) (by omega) (by omega) (by omega) (by omega)) (by rfl) (by rfl) (by rfl) (by rfl) ⟨rfl, rfl, rfl, rfl, rfl, rfl, rfl, rfl, rfl, rfl, rfl, rfl, rfl, rfl, rfl, rfl, trivial⟩ (by rfl) (by rfl) (by omega) (by show 21 ≤ 23; omega) (by omega) (by omega) rfl rfl ?_
        have hb_q1 : (-60) ≤ (108917793695 * r7 + 159561683699 * r8) / 68719476736 ∧ (108917793695 * r7 + 159561683699 * r8) / 68719476736 ≤ 60 := ⟨by omega, by omega⟩
        generalize hq_q1 : (108917793695 * r7 + 159561683699 * r8) / 68719476736 = q1 at hb_q1 ⊢
        refine jT_xifT (pcN := 127) jIQ_160_120 rfl (by decide +kernel) rfl ?_
        refine jT_xiconst (k := 0) (pcN := 128) jIQ_160_127 rfl ?_
        refine jT_xiadd (x := 0) (y := 0) (z := 0) (pcN := 129) jIQ_160_128 rfl (by decide) rfl ?_
        refine jT_xistore (v := (0, 0)) (LN := [(6, (0, 0)), (8, (0, r8)), (7, (0, r7)), (5, (4, 19)), (0, (4, 0)), (1, (0, y1)), (2, (0, y2)), (4, (0, 0))]) (pcN := 131) jIQ_160_129 rfl rfl rfl rfl ?_
        refine jT_xiinc (x := r8) (z := r8 + 1) (LN := [(8, (0, r8 + 1)), (6, (0, 0)), (7, (0, r7)), (5, (4, 19)), (0, (4, 0)), (1, (0, y1)), (2, (0, y2)), (4, (0, 0))]) (pcN := 134) jIQ_160_131 rfl rfl (rfl) rfl rfl ?_
        refine jT_xgoto (pcN := 100) jIQ_160_134 rfl ?_
        refine jT_loc (LN := [(8, (0, r8 + 1)), (7, (0, r7)), (6, (0, 0)), (5, (4, 19)), (0, (4, 0)), (1, (0, y1)), (2, (0, y2)), (4, (0, 0))]) (by show List.Nodup [8, 7, 6, 5, 0, 1, 2, 4]; decide) (by intro q hq; simp only [List.mem_cons, List.not_mem_nil, or_false] at hq; rcases hq with rfl | rfl | rfl | rfl | rfl | rfl | rfl | rfl <;> rfl) ?_
        exact ih (r8 + 1) q1 (-r7) (-r8) 0 0 0 (by omega) (by omega)
      · refine jT_xiload (v := (0, r8)) (pcN := 102) jIQ_160_100 rfl rfl rfl ?_
        refine jT_xiload_n (v := (0, y2)) (pcN := 103) jIQ_160_102 rfl rfl rfl ?_
        refine jT_icF (a := r8) (b := y2) (t := 137) (by rfl) (by rfl) (by rfl) (jw_idd (by omega) (by omega)) (jw_idd (by omega) (by omega)) (by simp only [jcP] <;> omega) ?_
        refine jT_xiload (v := (0, 0)) (pcN := 108) jIQ_160_106 rfl rfl rfl ?_
        refine jT_xaload_n (v := (4, 0)) (pcN := 109) jIQ_160_108 rfl rfl rfl ?_
        refine jT_xiload (v := (0, r7)) (pcN := 111) jIQ_160_109 rfl rfl rfl ?_
        refine jT_xiload (v := (0, r8)) (pcN := 113) jIQ_160_111 rfl rfl rfl ?_
        refine jT_xaload (v := (4, 19)) (pcN := 115) jIQ_160_113 rfl rfl rfl ?_
        refine jT_xiload (v := (0, 0)) (pcN := 117) jIQ_160_115 rfl rfl rfl ?_
        refine jT_callA [0, 19] (y := 161) (pcN := 120) (dC := 0) (bc1 := 0) (bc2 := 0) (c1 := (b1 + 0 * q + 0)) (c2 := (b2 + 0 * q + 0)) (as := [(4, 0), (0, r7), (0, r8), (4, 19), (0, 0)]) (asC := [(4, 0), (0, r7), (0, r8), (4, 1), (0, 0)]) (LN := [(8, (0, r8)), (7, (0, r7)), (6, (0, 0)), (5, (4, 19)), (0, (4, 0)), (1, (0, y1)), (2, (0, y2)), (4, (0, 0))]) (stN := [(0, 0)]) (hsC := [jgh, jgh]) (ex := []) (v := (0, 0)) (st2 := [(0, 0), (0, 0)]) (hs2 := [jzQ_7, (8, [(4, 12), (4, 13)], []), jgh, jgh, jgh, jgh, jgh, jgh, (101, [], [u8_0, u8_1, u8_2, u8_3, u8_4, u8_5]), (101, [], [0, 0, 0, 0, 0, 0]), jgh, jzQ_296, jgh, (101, [], [0, 0, 0, 0, 0, 0]), jzQ_297, jgh, jgh, jgh, jgh, (4, [(4, 20), (1, 1)], []), (101, [], [0, 0, 0, 0, 0, 0]), (101, [], [1, 0, 0, 0, 0, 0]), (4, [(4, 21), (1, 1)], [])]) (jQ_161_120 (d := 0) (by omega) (by omega) (by omega) (by omega) (by omega) (by omega)) (by rfl) (by rfl) (by rfl) (by rfl) ⟨rfl, rfl, trivial⟩ (by rfl) (by rfl) (by omega) (by show 21 ≤ 23; omega) (by omega) (by omega) rfl rfl ?_
        refine jT_xifT (pcN := 127) jIQ_160_120 rfl (by decide +kernel) rfl ?_
        refine jT_xiconst (k := 0) (pcN := 128) jIQ_160_127 rfl ?_
        refine jT_xiadd (x := 0) (y := 0) (z := 0) (pcN := 129) jIQ_160_128 rfl (by decide) rfl ?_
        refine jT_xistore (v := (0, 0)) (LN := [(6, (0, 0)), (8, (0, r8)), (7, (0, r7)), (5, (4, 19)), (0, (4, 0)), (1, (0, y1)), (2, (0, y2)), (4, (0, 0))]) (pcN := 131) jIQ_160_129 rfl rfl rfl rfl ?_
        refine jT_xiinc (x := r8) (z := r8 + 1) (LN := [(8, (0, r8 + 1)), (6, (0, 0)), (7, (0, r7)), (5, (4, 19)), (0, (4, 0)), (1, (0, y1)), (2, (0, y2)), (4, (0, 0))]) (pcN := 134) jIQ_160_131 rfl rfl (rfl) rfl rfl ?_
        refine jT_xgoto (pcN := 100) jIQ_160_134 rfl ?_
        refine jT_loc (LN := [(8, (0, r8 + 1)), (7, (0, r7)), (6, (0, 0)), (5, (4, 19)), (0, (4, 0)), (1, (0, y1)), (2, (0, y2)), (4, (0, 0))]) (by show List.Nodup [8, 7, 6, 5, 0, 1, 2, 4]; decide) (by intro q hq; simp only [List.mem_cons, List.not_mem_nil, or_false] at hq; rcases hq with rfl | rfl | rfl | rfl | rfl | rfl | rfl | rfl <;> rfl) ?_
        exact ih (r8 + 1) u8_0 u8_1 u8_2 u8_3 u8_4 u8_5 (by omega) (by omega)
      · refine jT_xiload (v := (0, r8)) (pcN := 102) jIQ_160_100 rfl rfl rfl ?_
        refine jT_xiload_n (v := (0, y2)) (pcN := 103) jIQ_160_102 rfl rfl rfl ?_
        refine jT_icF (a := r8) (b := y2) (t := 137) (by rfl) (by rfl) (by rfl) (jw_idd (by omega) (by omega)) (jw_idd (by omega) (by omega)) (by simp only [jcP] <;> omega) ?_
        refine jT_xiload (v := (0, 0)) (pcN := 108) jIQ_160_106 rfl rfl rfl ?_
        refine jT_xaload_n (v := (4, 0)) (pcN := 109) jIQ_160_108 rfl rfl rfl ?_
        refine jT_xiload (v := (0, r7)) (pcN := 111) jIQ_160_109 rfl rfl rfl ?_
        refine jT_xiload (v := (0, r8)) (pcN := 113) jIQ_160_111 rfl rfl rfl ?_
        refine jT_xaload (v := (4, 19)) (pcN := 115) jIQ_160_113 rfl rfl rfl ?_
        refine jT_xiload (v := (0, 0)) (pcN := 117) jIQ_160_115 rfl rfl rfl ?_
        refine jT_callB [0, 19, 1, 2, 3, 4, 5, 6, 7, 8, 9, 10, 11, 20, 12, 13] (y := 161) (pcN := 120) (dC := 2) (bc1 := 0) (bc2 := 0) (c1 := (b1 + 0 * q + 0)) (c2 := (b2 + 0 * q + 0)) (as := [(4, 0), (0, r7), (0, r8), (4, 19), (0, 0)]) (asC := [(4, 0), (0, r7), (0, r8), (4, 1), (0, 0)]) (LN := [(8, (0, r8)), (7, (0, r7)), (6, (0, 0)), (5, (4, 19)), (0, (4, 0)), (1, (0, y1)), (2, (0, y2)), (4, (0, 0))]) (stN := [(0, 0)]) (hsC := [jzQ_16, (4, [(4, 13), (1, 1)], []), (8, [(4, 14), (4, 15)], []), jgh, jgh, jgh, jgh, jgh, jgh, (101, [], [u8_0, u8_1, u8_2, u8_3, u8_4, u8_5]), jgh, jgh, jgh, (101, [], [0, 0, 0, 0, 0, 0]), jgh, jgh]) (hsD := [jzQ_16, (4, [(4, 13), (1, 1)], []), (8, [(4, 14), (4, 15)], []), jgh, jgh, jgh, jgh, jgh, jgh, (101, [], [(108917793695 * r7 + 159561683699 * r8) / 68719476736, -r7, -r8, 0, 0, 0]), jgh, jgh, jgh, (101, [], [0, 0, 0, 0, 0, 0]), jgh, jgh]) (v := (0, 0)) (st2 := [(0, 0), (0, 0)]) (hs2 := [jzQ_7, (8, [(4, 12), (4, 13)], []), jgh, jgh, jgh, jgh, jgh, jgh, (101, [], [(108917793695 * r7 + 159561683699 * r8) / 68719476736, -r7, -r8, 0, 0, 0]), (101, [], [0, 0, 0, 0, 0, 0]), jgh, jzQ_296, jgh, (101, [], [0, 0, 0, 0, 0, 0]), jzQ_297, jgh, jgh, jgh, jgh, (4, [(4, 20), (1, 1)], []), (101, [], [0, 0, 0, 0, 0, 0]), (101, [], [1, 0, 0, 0, 0, 0]), (4, [(4, 21), (1, 1)], [])]) (jQ_161_124 (d := 0) (by omega) (by omega) (by omega) (by omega) (by omega)) (by rfl) (by rfl) (by rfl) (by rfl) ⟨rfl, rfl, rfl, rfl, rfl, rfl, rfl, rfl, rfl, rfl, rfl, rfl, rfl, rfl, rfl, rfl, trivial⟩ (by rfl) (by rfl) (by omega) (by show 21 ≤ 23; omega) (by omega) (by omega) rfl rfl ?_
        have hb_q1 : (-60) ≤ (108917793695 * r7 + 159561683699 * r8) / 68719476736 ∧ (108917793695 * r7 + 159561683699 * r8) / 68719476736 ≤ 60 := ⟨by omega, by omega⟩
        generalize hq_q1 : (108917793695 * r7 + 159561683699 * r8) / 68719476736 = q1 at hb_q1 ⊢
        refine jT_xifT (pcN := 127) jIQ_160_120 rfl (by decide +kernel) rfl ?_
        refine jT_xiconst (k := 0) (pcN := 128) jIQ_160_127 rfl ?_
        refine jT_xiadd (x := 0) (y := 0) (z := 0) (pcN := 129) jIQ_160_128 rfl (by decide) rfl ?_
        refine jT_xistore (v := (0, 0)) (LN := [(6, (0, 0)), (8, (0, r8)), (7, (0, r7)), (5, (4, 19)), (0, (4, 0)), (1, (0, y1)), (2, (0, y2)), (4, (0, 0))]) (pcN := 131) jIQ_160_129 rfl rfl rfl rfl ?_
        refine jT_xiinc (x := r8) (z := r8 + 1) (LN := [(8, (0, r8 + 1)), (6, (0, 0)), (7, (0, r7)), (5, (4, 19)), (0, (4, 0)), (1, (0, y1)), (2, (0, y2)), (4, (0, 0))]) (pcN := 134) jIQ_160_131 rfl rfl (rfl) rfl rfl ?_
        refine jT_xgoto (pcN := 100) jIQ_160_134 rfl ?_
        refine jT_loc (LN := [(8, (0, r8 + 1)), (7, (0, r7)), (6, (0, 0)), (5, (4, 19)), (0, (4, 0)), (1, (0, y1)), (2, (0, y2)), (4, (0, 0))]) (by show List.Nodup [8, 7, 6, 5, 0, 1, 2, 4]; decide) (by intro q hq; simp only [List.mem_cons, List.not_mem_nil, or_false] at hq; rcases hq with rfl | rfl | rfl | rfl | rfl | rfl | rfl | rfl <;> rfl) ?_
        exact ih (r8 + 1) q1 (-r7) (-r8) 0 0 0 (by omega) (by omega)
    · refine jT_xiload (v := (0, r8)) (pcN := 102) jIQ_160_100 rfl rfl rfl ?_
      refine jT_xiload_n (v := (0, y2)) (pcN := 103) jIQ_160_102 rfl rfl rfl ?_
      refine jT_icF (a := r8) (b := y2) (t := 137) (by rfl) (by rfl) (by rfl) (jw_idd (by omega) (by omega)) (jw_idd (by omega) (by omega)) (by simp only [jcP] <;> omega) ?_
      refine jT_xiload (v := (0, 0)) (pcN := 108) jIQ_160_106 rfl rfl rfl ?_
      refine jT_xaload_n (v := (4, 0)) (pcN := 109) jIQ_160_108 rfl rfl rfl ?_
      refine jT_xiload (v := (0, r7)) (pcN := 111) jIQ_160_109 rfl rfl rfl ?_
      refine jT_xiload (v := (0, r8)) (pcN := 113) jIQ_160_111 rfl rfl rfl ?_
      refine jT_xaload (v := (4, 19)) (pcN := 115) jIQ_160_113 rfl rfl rfl ?_
      refine jT_xiload (v := (0, 0)) (pcN := 117) jIQ_160_115 rfl rfl rfl ?_
      refine jT_callB [0, 19, 1, 2, 3, 4, 5, 6, 7, 8, 9, 10, 11, 20, 12, 13] (y := 161) (pcN := 120) (dC := 2) (bc1 := 0) (bc2 := 0) (c1 := (b1 + 0 * q + 0)) (c2 := (b2 + 0 * q + 0)) (as := [(4, 0), (0, r7), (0, r8), (4, 19), (0, 0)]) (asC := [(4, 0), (0, r7), (0, r8), (4, 1), (0, 0)]) (LN := [(8, (0, r8)), (7, (0, r7)), (6, (0, 0)), (5, (4, 19)), (0, (4, 0)), (1, (0, y1)), (2, (0, y2)), (4, (0, 0))]) (stN := [(0, 0)]) (hsC := [jzQ_16, (4, [(4, 13), (1, 1)], []), (8, [(4, 14), (4, 15)], []), jgh, jgh, jgh, jgh, jgh, jgh, (101, [], [u8_0, u8_1, u8_2, u8_3, u8_4, u8_5]), jgh, jgh, jgh, (101, [], [0, 0, 0, 0, 0, 0]), jgh, jgh]) (hsD := [jzQ_16, (4, [(4, 13), (1, 1)], []), (8, [(4, 14), (4, 15)], []), jgh, jgh, jgh, jgh, jgh, jgh, (101, [], [(108917793695 * r7 + 159561683699 * r8) / 68719476736, -r7, -r8, 0, 0, 0]), jgh, jgh, jgh, (101, [], [0, 0, 0, 0, 0, 0]), jgh, jgh]) (v := (0, 0)) (st2 := [(0, 0), (0, 0)]) (hs2 := [jzQ_7, (8, [(4, 12), (4, 13)], []), jgh, jgh, jgh, jgh, jgh, jgh, (101, [], [(108917793695 * r7 + 159561683699 * r8) / 68719476736, -r7, -r8, 0, 0, 0]), (101, [], [0, 0, 0, 0, 0, 0]), jgh, jzQ_296, jgh, (101, [], [0, 0, 0, 0, 0, 0]), jzQ_297, jgh, jgh, jgh, jgh, (4, [(4, 20), (1, 1)], []), (101, [], [0, 0, 0, 0, 0, 0]), (101, [], [1, 0, 0, 0, 0, 0]), (4, [(4, 21), (1, 1)], [])]) (jQ_161_123 (d := 0) (by omega) (by omega) (by omega)) (by rfl) (by rfl) (by rfl) (by rfl) ⟨rfl, rfl, rfl, rfl, rfl, rfl, rfl, rfl, rfl, rfl, rfl, rfl, rfl, rfl, rfl, rfl, trivial⟩ (by rfl) (by rfl) (by omega) (by show 21 ≤ 23; omega) (by omega) (by omega) rfl rfl ?_
      have hb_q1 : (-60) ≤ (108917793695 * r7 + 159561683699 * r8) / 68719476736 ∧ (108917793695 * r7 + 159561683699 * r8) / 68719476736 ≤ 60 := ⟨by omega, by omega⟩
      generalize hq_q1 : (108917793695 * r7 + 159561683699 * r8) / 68719476736 = q1 at hb_q1 ⊢
      refine jT_xifT (pcN := 127) jIQ_160_120 rfl (by decide +kernel) rfl ?_
      refine jT_xiconst (k := 0) (pcN := 128) jIQ_160_127 rfl ?_
      refine jT_xiadd (x := 0) (y := 0) (z := 0) (pcN := 129) jIQ_160_128 rfl (by decide) rfl ?_
      refine jT_xistore (v := (0, 0)) (LN := [(6, (0, 0)), (8, (0, r8)), (7, (0, r7)), (5, (4, 19)), (0, (4, 0)), (1, (0, y1)), (2, (0, y2)), (4, (0, 0))]) (pcN := 131) jIQ_160_129 rfl rfl rfl rfl ?_
      refine jT_xiinc (x := r8) (z := r8 + 1) (LN := [(8, (0, r8 + 1)), (6, (0, 0)), (7, (0, r7)), (5, (4, 19)), (0, (4, 0)), (1, (0, y1)), (2, (0, y2)), (4, (0, 0))]) (pcN := 134) jIQ_160_131 rfl rfl (rfl) rfl rfl ?_
      refine jT_xgoto (pcN := 100) jIQ_160_134 rfl ?_
      refine jT_loc (LN := [(8, (0, r8 + 1)), (7, (0, r7)), (6, (0, 0)), (5, (4, 19)), (0, (4, 0)), (1, (0, y1)), (2, (0, y2)), (4, (0, 0))]) (by show List.Nodup [8, 7, 6, 5, 0, 1, 2, 4]; decide) (by intro q hq; simp only [List.mem_cons, List.not_mem_nil, or_false] at hq; rcases hq with rfl | rfl | rfl | rfl | rfl | rfl | rfl | rfl <;> rfl) ?_
      exact ih (r8 + 1) q1 (-r7) (-r8) 0 0 0 (by omega) (by omega)
theorem jIQ_160_137 : jmI (jm 160) 137 = (.iinc 7 1, 3) := by rfl
theorem jIQ_160_140 : jmI (jm 160) 140 = (.goto (-50), 3) := by rfl
theorem jQl_gc_127 {xs : List Int} {d b1 b2 : Nat} {Q : Nat → JV → List JC → Prop} (hd : 4 < d) {y1 y2 : Int} (h_y1 : 0 ≤ y1 ∧ y1 ≤ 20) (h_y2 : 0 ≤ y2 ∧ y2 ≤ 10) (h : ∀ (u8_0 u8_1 u8_2 u8_3 u8_4 u8_5 : Int), jT xs d 160 21 143 [(6, (0, 0))] [] [jzQ_7, (8, [(4, 12), (4, 13)], []), jgh, jgh, jgh, jgh, jgh, jgh, (101, [], [u8_0, u8_1, u8_2, u8_3, u8_4, u8_5]), (101, [], [0, 0, 0, 0, 0, 0]), jgh, jzQ_296, jgh, (101, [], [0, 0, 0, 0, 0, 0]), jzQ_297, jgh, jgh, jgh, jgh, (4, [(4, 20), (1, 1)], []), (101, [], [0, 0, 0, 0, 0, 0]), (101, [], [1, 0, 0, 0, 0, 0]), (4, [(4, 21), (1, 1)], [])] b1 b2 Q) : ∀ (q : Nat) (r7 u8_0 u8_1 u8_2 u8_3 u8_4 u8_5 : Int), -y1 ≤ r7 → r7 + (q : Int) = y1 + 1 → jT xs d 160 21 90 [(7, (0, r7)), (6, (0, 0)), (5, (4, 19)), (0, (4, 0)), (1, (0, y1)), (2, (0, y2)), (4, (0, 0))] [] [jzQ_7, (8, [(4, 12), (4, 13)], []), jgh, jgh, jgh, jgh, jgh, jgh, (101, [], [u8_0, u8_1, u8_2, u8_3, u8_4, u8_5]), (101, [], [0, 0, 0, 0, 0, 0]), jgh, jzQ_296, jgh, (101, [], [0, 0, 0, 0, 0, 0]), jzQ_297, jgh, jgh, jgh, jgh, (4, [(4, 20), (1, 1)], []), (101, [], [0, 0, 0, 0, 0, 0]), (101, [], [1, 0, 0, 0, 0, 0]), (4, [(4, 21), (1, 1)], [])] (b1 + 0 * q) (b2 + 0 * q) Q := by
  intro q
  induction q with
  | zero =>
    intro r7 u8_0 u8_1 u8_2 u8_3 u8_4 u8_5 h0 ht
    have e : r7 = y1 + 1 := by omega
    subst r7
    refine jT.mono (b1 := b1) (b2 := b2) ?_ (Nat.le_refl _) (by omega) (by omega) (fun _ _ _ z => z)
    refine jT_xiload (v := (0, y1 + 1)) (pcN := 92) jIQ_160_90 rfl rfl rfl ?_
    refine jT_xiload_n (v := (0, y1)) (pcN := 93) jIQ_160_92 rfl rfl rfl ?_
    refine jT_icT (a := y1 + 1) (b := y1) (t := 143) (by rfl) (by rfl) (by rfl) (jw_idd (by omega) (by omega)) (jw_idd (by omega) (by omega)) (by simp only [jcP] <;> omega) ?_
    refine jT_loc (LN := [(6, (0, 0))]) (by show List.Nodup [6]; decide) (by intro q hq; simp only [List.mem_cons, List.not_mem_nil, or_false] at hq; rcases hq with rfl <;> rfl) ?_
    exact h u8_0 u8_1 u8_2 u8_3 u8_4 u8_5
  | succ q ih =>
    intro r7 u8_0 u8_1 u8_2 u8_3 u8_4 u8_5 h0 ht
    have h_r7 : (-20) ≤ r7 ∧ r7 ≤ 20 := by omega
    have g_0 : r7 - y1 ≤ 0 := by omega
    refine jT.mono (b1 := b1 + 0 * q + 0) (b2 := b2 + 0 * q + 0) ?_ (Nat.le_refl _) (by omega) (by omega) (fun _ _ _ z => z)
    refine jT_xiload (v := (0, r7)) (pcN := 92) jIQ_160_90 rfl rfl rfl ?_
    refine jT_xiload_n (v := (0, y1)) (pcN := 93) jIQ_160_92 rfl rfl rfl ?_
    refine jT_icF (a := r7) (b := y1) (t := 143) (by rfl) (by rfl) (by rfl) (jw_idd (by omega) (by omega)) (jw_idd (by omega) (by omega)) (by simp only [jcP] <;> omega) ?_
    refine jT_xiload_n (v := (0, y2)) (pcN := 97) jIQ_160_96 rfl rfl rfl ?_
    refine jT_adv 1 (pcN := 98) (LN := [(7, (0, r7)), (6, (0, 0)), (5, (4, 19)), (0, (4, 0)), (1, (0, y1)), (2, (0, y2)), (4, (0, 0))]) (stN := [(0, -y2)]) (hsN := [jzQ_7, (8, [(4, 12), (4, 13)], []), jgh, jgh, jgh, jgh, jgh, jgh, (101, [], [u8_0, u8_1, u8_2, u8_3, u8_4, u8_5]), (101, [], [0, 0, 0, 0, 0, 0]), jgh, jzQ_296, jgh, (101, [], [0, 0, 0, 0, 0, 0]), jzQ_297, jgh, jgh, jgh, jgh, (4, [(4, 20), (1, 1)], []), (101, [], [0, 0, 0, 0, 0, 0]), (101, [], [1, 0, 0, 0, 0, 0]), (4, [(4, 21), (1, 1)], [])]) (c1 := 0) (s1 := 0) (c2 := (b1 + 0 * q + 0)) (s2 := (b2 + 0 * q + 0)) (by exact rfl) ?_ (by omega) (by omega)
    refine jT_xistore (v := (0, -y2)) (LN := [(8, (0, -y2)), (7, (0, r7)), (6, (0, 0)), (5, (4, 19)), (0, (4, 0)), (1, (0, y1)), (2, (0, y2)), (4, (0, 0))]) (pcN := 100) jIQ_160_98 rfl rfl rfl rfl ?_
    refine jT_loc (LN := [(8, (0, -y2)), (7, (0, r7)), (6, (0, 0)), (5, (4, 19)), (0, (4, 0)), (1, (0, y1)), (2, (0, y2)), (4, (0, 0))]) (by show List.Nodup [8, 7, 6, 5, 0, 1, 2, 4]; decide) (by intro q hq; simp only [List.mem_cons, List.not_mem_nil, or_false] at hq; rcases hq with rfl | rfl | rfl | rfl | rfl | rfl | rfl | rfl <;> rfl) ?_
    refine jT.mono (jQl_gc_128 (b1 := (b1 + 0 * q + 0)) (b2 := (b2 + 0 * q + 0)) (by omega) (y1 := y1) (y2 := y2) (r7 := r7) (by omega) (by omega) (by omega) (fun u8_0 u8_1 u8_2 u8_3 u8_4 u8_5 => ?_) ((y2 + 1 : Int) - (-y2)).toNat (-y2) u8_0 u8_1 u8_2 u8_3 u8_4 u8_5 (by omega) (by omega)) (Nat.le_refl _) (by omega) (by omega) (fun _ _ _ z => z)
    refine jT_xiinc (x := r7) (z := r7 + 1) (LN := [(7, (0, r7 + 1)), (6, (0, 0)), (5, (4, 19)), (0, (4, 0)), (1, (0, y1)), (2, (0, y2)), (4, (0, 0))]) (pcN := 140) jIQ_160_137 rfl rfl (rfl) rfl rfl ?_
    refine jT_xgoto (pcN := 90) jIQ_160_140 rfl ?_
    refine jT_loc (LN := [(7, (0, r7 + 1)), (6, (0, 0)), (5, (4, 19)), (0, (4, 0)), (1, (0, y1)), (2, (0, y2)), (4, (0, 0))]) (by show List.Nodup [7, 6, 5, 0, 1, 2, 4]; decide) (by intro q hq; simp only [List.mem_cons, List.not_mem_nil, or_false] at hq; rcases hq with rfl | rfl | rfl | rfl | rfl | rfl | rfl <;> rfl) ?_
    exact ih (r7 + 1) u8_0 u8_1 u8_2 u8_3 u8_4 u8_5 (by omega) (by omega)
def jpQ_332 : List JC := [jzQ_7, (8, [(4, 12), (4, 13)], []), jgh, jgh, jgh, jgh, jgh, jgh, jgh, (101, [], [0, 0, 0, 0, 0, 0]), jgh, jzQ_296, jgh, (101, [], [0, 0, 0, 0, 0, 0]), jzQ_297, jgh, jgh, jgh, jgh, (4, [(4, 20), (1, 1)], []), (101, [], [0, 0, 0, 0, 0, 0]), (101, [], [1, 0, 0, 0, 0, 0]), (4, [(4, 21), (1, 1)], [])]
def jpQ_333 : List JC := [jzQ_7, (8, [(4, 12), (4, 13)], []), jgh, jgh, jgh, jgh, jgh, jgh, (101, [], [0, 0, 0, 0, 0, 0]), (101, [], [0, 0, 0, 0, 0, 0]), jgh, jzQ_296, jgh, (101, [], [0, 0, 0, 0, 0, 0]), jzQ_297, jgh, jgh, jgh, jgh, (4, [(4, 20), (1, 1)], []), (101, [], [0, 0, 0, 0, 0, 0])]
theorem jQ_160_129 {xs : List Int} {d : Nat} {x1 x2 x3 : Int} (h_x1 : 0 ≤ x1 ∧ x1 ≤ 20) (h_x2 : 0 ≤ x2 ∧ x2 ≤ 10) (h_x3 : 0 ≤ x3 ∧ x3 ≤ 7) : jT xs (d + 5) 160 21 0 [(0, (4, 0)), (1, (0, x1)), (2, (0, x2)), (3, (0, x3)), (4, (0, 0))] [] jpQ_333 2 8 (fun k v hsN => k = 0 ∧ v = (0, 0) ∧ hsN = jpQ_332) := by
  refine jT_xaload_n (v := (4, 0)) (pcN := 1) jIQ_160_0 rfl rfl rfl ?_
  refine jT_xiload_n (v := (0, x1)) (pcN := 2) jIQ_160_1 rfl rfl rfl ?_
  refine jT_xiconst (k := 0) (pcN := 3) jIQ_160_2 rfl ?_
  refine jT_xbipush (k := 20) (pcN := 5) jIQ_160_3 (by decide) rfl ?_
  refine jT_fR [0] 21 (y := 116) (pcN := 8) (dC := 0) (bc1 := 0) (bc2 := 0) (c1 := 2) (c2 := 8) (as := [(4, 0), (0, x1), (0, 0), (0, 20)]) (asC := [(4, 0), (0, x1), (0, 0), (0, 20)]) (LN := [(0, (4, 0)), (1, (0, x1)), (2, (0, x2)), (3, (0, x3)), (4, (0, 0))]) (stN := []) (hsC := [jgh]) (v := (9, 0)) (st2 := []) (jQ_116_7 (d := 0) (by omega)) (by rfl) (by rfl) (by decide +kernel) (by rfl) (by rfl) (by omega) (by omega) (by omega) (by omega) rfl ?_
  refine jT_xaload_n (v := (4, 0)) (pcN := 9) jIQ_160_8 rfl rfl rfl ?_
  refine jT_xiload_n (v := (0, x2)) (pcN := 10) jIQ_160_9 rfl rfl rfl ?_
  refine jT_xiconst (k := 0) (pcN := 11) jIQ_160_10 rfl ?_
  refine jT_xbipush (k := 10) (pcN := 13) jIQ_160_11 (by decide) rfl ?_
  refine jT_fR [0] 21 (y := 116) (pcN := 16) (dC := 0) (bc1 := 0) (bc2 := 0) (c1 := 2) (c2 := 8) (as := [(4, 0), (0, x2), (0, 0), (0, 10)]) (asC := [(4, 0), (0, x2), (0, 0), (0, 10)]) (LN := [(0, (4, 0)), (1, (0, x1)), (2, (0, x2)), (3, (0, x3)), (4, (0, 0))]) (stN := []) (hsC := [jgh]) (v := (9, 0)) (st2 := []) (jQ_116_12 (d := 0) (by omega)) (by rfl) (by rfl) (by decide +kernel) (by rfl) (by rfl) (by omega) (by omega) (by omega) (by omega) rfl ?_
  refine jT_xaload_n (v := (4, 0)) (pcN := 17) jIQ_160_16 rfl rfl rfl ?_
  refine jT_xiload (v := (0, 0)) (pcN := 19) jIQ_160_17 rfl rfl rfl ?_
  refine jT_xiconst (k := 0) (pcN := 20) jIQ_160_19 rfl ?_
  refine jT_xbipush (k := 100) (pcN := 22) jIQ_160_20 (by decide) rfl ?_
  refine jT_fR [0] 21 (y := 116) (pcN := 25) (dC := 0) (bc1 := 0) (bc2 := 0) (c1 := 2) (c2 := 8) (as := [(4, 0), (0, 0), (0, 0), (0, 100)]) (asC := [(4, 0), (0, 0), (0, 0), (0, 100)]) (LN := [(0, (4, 0)), (1, (0, x1)), (2, (0, x2)), (3, (0, x3)), (4, (0, 0))]) (stN := []) (hsC := [jgh]) (v := (9, 0)) (st2 := []) (jQ_116_35 (d := 0)) (by rfl) (by rfl) (by decide +kernel) (by rfl) (by rfl) (by omega) (by omega) (by omega) (by omega) rfl ?_
  refine jT_xaload_n (v := (4, 0)) (pcN := 26) jIQ_160_25 rfl rfl rfl ?_
  refine jT_xiload_n (v := (0, x3)) (pcN := 27) jIQ_160_26 rfl rfl rfl ?_
  refine jT_xbipush (k := 8) (pcN := 29) jIQ_160_27 (by decide) rfl ?_
  refine jT_fR [0] 21 (y := 115) (pcN := 32) (dC := 0) (bc1 := 0) (bc2 := 0) (c1 := 2) (c2 := 8) (as := [(4, 0), (0, x3), (0, 8)]) (asC := [(4, 0), (0, x3), (0, 8)]) (LN := [(0, (4, 0)), (1, (0, x1)), (2, (0, x2)), (3, (0, x3)), (4, (0, 0))]) (stN := []) (hsC := [jgh]) (v := (9, 0)) (st2 := []) (jQ_115_26 (d := 0) (by omega)) (by rfl) (by rfl) (by decide +kernel) (by rfl) (by rfl) (by omega) (by omega) (by omega) (by omega) rfl ?_
  refine jT_xaload_n (v := (4, 0)) (pcN := 33) jIQ_160_32 rfl rfl rfl ?_
  refine jT_xgetf (a := 0) (t := 1) (ci := 13) (fi := 11) (c := jzQ_7) (v := (4, 11)) (pcN := 36) jIQ_160_33 rfl rfl rfl rfl rfl rfl rfl ?_
  refine jT_xiload_n (v := (0, x3)) (pcN := 37) jIQ_160_36 rfl rfl rfl ?_
  refine jT_fR [11, 14, 15, 16, 17, 18, 19] 21 (y := 57) (pcN := 40) (dC := 0) (bc1 := 0) (bc2 := 0) (c1 := 2) (c2 := 8) (as := [(4, 11), (0, x3)]) (asC := [(4, 0), (0, x3)]) (LN := [(0, (4, 0)), (1, (0, x1)), (2, (0, x2)), (3, (0, x3)), (4, (0, 0))]) (stN := []) (hsC := jpQ_76) (v := (4, 6)) (st2 := [(4, 19)]) (jQ_57_27 (d := 0) (by omega)) (by rfl) (by rfl) (by decide +kernel) (by rfl) (by rfl) (by omega) (by omega) (by omega) (by omega) rfl ?_
  refine jT_xastore (v := (4, 19)) (LN := [(5, (4, 19)), (0, (4, 0)), (1, (0, x1)), (2, (0, x2)), (3, (0, x3)), (4, (0, 0))]) (pcN := 42) jIQ_160_40 rfl rfl rfl rfl ?_
  refine jT_xaload_n (v := (4, 0)) (pcN := 43) jIQ_160_42 rfl rfl rfl ?_
  refine jT_xgetf (a := 0) (t := 1) (ci := 13) (fi := 0) (c := jzQ_7) (v := (4, 1)) (pcN := 46) jIQ_160_43 rfl rfl rfl rfl rfl rfl rfl ?_
  refine jT_xaload (v := (4, 19)) (pcN := 48) jIQ_160_46 rfl rfl rfl ?_
  refine jT_xlconst (z := 1) (pcN := 49) jIQ_160_48 rfl rfl ?_
  refine jT_xlconst (z := 1) (pcN := 50) jIQ_160_49 rfl rfl ?_
  refine jT_fA [] 21 (y := 8) (pcN := 53) (dC := 2) (bc1 := 2) (bc2 := 8) (c1 := 0) (c2 := 0) (as := [(1, 1), (1, 1)]) (asC := [(1, 1), (1, 1)]) (LN := [(5, (4, 19)), (0, (4, 0)), (1, (0, x1)), (2, (0, x2)), (3, (0, x3)), (4, (0, 0))]) (stN := [(4, 19), (4, 1)]) (hsC := []) (ex := [(101, [], [1, 0, 0, 0, 0, 0]), (4, [(4, 0), (1, 1)], [])]) (v := (4, 1)) (st2 := [(4, 22), (4, 19), (4, 1)]) (hs2 := jpQ_298) (jQ_8_30 (d := 0)) (by rfl) (by rfl) (by decide +kernel) (by rfl) (by rfl) (by omega) (by omega) (by omega) (by omega) rfl (by decide +kernel) ?_
  refine jT_fB [1, 19, 22, 12, 13, 20, 21] 23 (y := 46) (pcN := 56) (dC := 2) (bc1 := 0) (bc2 := 0) (c1 := 0) (c2 := 0) (as := [(4, 1), (4, 19), (4, 22)]) (asC := [(4, 0), (4, 1), (4, 2)]) (LN := [(5, (4, 19)), (0, (4, 0)), (1, (0, x1)), (2, (0, x2)), (3, (0, x3)), (4, (0, 0))]) (stN := []) (hsC := jpQ_78) (hsD := jpQ_77) (v := (0, (-1))) (st2 := [(0, (-1))]) (hs2 := jpQ_299) (jQ_46_34 (d := 0)) (by rfl) (by rfl) (by decide +kernel) (by rfl) (by rfl) (by omega) (by omega) (by omega) (by omega) rfl (by decide +kernel) ?_
  refine jT_xifT (pcN := 70) jIQ_160_56 rfl (by decide +kernel) rfl ?_
  refine jT_xaload_n (v := (4, 0)) (pcN := 71) jIQ_160_70 rfl rfl rfl ?_
  refine jT_xgetf (a := 0) (t := 1) (ci := 13) (fi := 0) (c := jzQ_7) (v := (4, 1)) (pcN := 74) jIQ_160_71 rfl rfl rfl rfl rfl rfl rfl ?_
  refine jT_xaload_n (v := (4, 0)) (pcN := 75) jIQ_160_74 rfl rfl rfl ?_
  refine jT_xgetf (a := 0) (t := 1) (ci := 13) (fi := 8) (c := jzQ_7) (v := (4, 9)) (pcN := 78) jIQ_160_75 rfl rfl rfl rfl rfl rfl rfl ?_
  refine jT_xiload (v := (0, 0)) (pcN := 80) jIQ_160_78 rfl rfl rfl ?_
  refine jT_fB [1, 9, 12, 13] 23 (y := 47) (pcN := 83) (dC := 2) (bc1 := 0) (bc2 := 0) (c1 := 0) (c2 := 0) (as := [(4, 1), (4, 9), (0, 0)]) (asC := [(4, 0), (4, 1), (0, 0)]) (LN := [(5, (4, 19)), (0, (4, 0)), (1, (0, x1)), (2, (0, x2)), (3, (0, x3)), (4, (0, 0))]) (stN := []) (hsC := jpQ_86) (hsD := jpQ_85) (v := (9, 0)) (st2 := []) (hs2 := jpQ_298) (jQ_47_39 (d := 0)) (by rfl) (by rfl) (by decide +kernel) (by rfl) (by rfl) (by omega) (by omega) (by omega) (by omega) rfl (by decide +kernel) ?_
  refine jT_xiconst (k := 0) (pcN := 84) jIQ_160_83 rfl ?_
  refine jT_xistore (v := (0, 0)) (LN := [(6, (0, 0)), (5, (4, 19)), (0, (4, 0)), (1, (0, x1)), (2, (0, x2)), (3, (0, x3)), (4, (0, 0))]) (pcN := 86) jIQ_160_84 rfl rfl rfl rfl ?_
  refine jT_xiload_n (v := (0, x1)) (pcN := 87) jIQ_160_86 rfl rfl rfl ?_
  refine jT_adv 1 (pcN := 88) (LN := [(6, (0, 0)), (5, (4, 19)), (0, (4, 0)), (1, (0, x1)), (2, (0, x2)), (3, (0, x3)), (4, (0, 0))]) (stN := [(0, -x1)]) (hsN := jpQ_298) (c1 := 0) (s1 := 0) (c2 := 0) (s2 := 0) (by exact rfl) ?_ (by omega) (by omega)
  refine jT_xistore (v := (0, -x1)) (LN := [(7, (0, -x1)), (6, (0, 0)), (5, (4, 19)), (0, (4, 0)), (1, (0, x1)), (2, (0, x2)), (3, (0, x3)), (4, (0, 0))]) (pcN := 90) jIQ_160_88 rfl rfl rfl rfl ?_
  refine jT_loc (LN := [(7, (0, -x1)), (6, (0, 0)), (5, (4, 19)), (0, (4, 0)), (1, (0, x1)), (2, (0, x2)), (4, (0, 0))]) (by show List.Nodup [7, 6, 5, 0, 1, 2, 4]; decide) (by intro q hq; simp only [List.mem_cons, List.not_mem_nil, or_false] at hq; rcases hq with rfl | rfl | rfl | rfl | rfl | rfl | rfl <;> rfl) ?_
  refine jT.mono (jQl_gc_127 (b1 := 0) (b2 := 0) (by omega) (y1 := x1) (y2 := x2) (by omega) (by omega) (fun u8_0 u8_1 u8_2 u8_3 u8_4 u8_5 => ?_) ((x1 + 1 : Int) - (-x1)).toNat (-x1) 0 0 0 0 0 0 (by omega) (by omega)) (Nat.le_refl _) (by omega) (by omega) (fun _ _ _ z => z)
  refine jT_forget (a := 8) (c := (101, [], [u8_0, u8_1, u8_2, u8_3, u8_4, u8_5])) rfl rfl ?_
  refine jT_eq (LN := [(6, (0, 0))]) (stN := []) (hsN := jpQ_332) rfl rfl rfl ?_
  refine jT_advK 1 (pcN := 145) (LN := [(6, (0, 0))]) (stN := [(0, 0)]) (hsN := jpQ_332) (c1 := 0) (s1 := 0) (c2 := 0) (s2 := 0) (by decide +kernel) ?_ (by omega) (by omega)
  exact jT_ret rfl (by decide) (by show 21 ≤ 23; omega) (by omega) (by omega) ⟨rfl, rfl, rfl⟩
theorem jQ_161_130 {xs : List Int} {d : Nat} {r7 r8 u9_0 u9_1 u9_2 u9_3 u9_4 u9_5 : Int} (h_r7 : (-20) ≤ r7 ∧ r7 ≤ 20) (h_r8 : (-10) ≤ r8 ∧ r8 ≤ 10) (g_0 : 0 < r7) : jT xs (d + 2) 161 16 0 [(0, (4, 0)), (1, (0, r7)), (2, (0, r8)), (3, (4, 1)), (4, (0, 0))] [] [jzQ_16, (4, [(4, 13), (1, 1)], []), (8, [(4, 14), (4, 15)], []), jgh, jgh, jgh, jgh, jgh, jgh, (101, [], [u9_0, u9_1, u9_2, u9_3, u9_4, u9_5]), jgh, jgh, jgh, (101, [], [0, 0, 0, 0, 0, 0]), jgh, jgh] 0 0 (fun k v hsN => k = 0 ∧ v = (0, 0) ∧ hsN = [jzQ_16, (4, [(4, 13), (1, 1)], []), (8, [(4, 14), (4, 15)], []), jgh, jgh, jgh, jgh, jgh, jgh, (101, [], [(108917793695 * r7 + 159561683699 * r8) / 68719476736, -r7, -r8, 0, 0, 0]), jgh, jgh, jgh, (101, [], [0, 0, 0, 0, 0, 0]), jgh, jgh]) := by
  refine jT_xiload_n (v := (0, r7)) (pcN := 1) jIQ_161_0 rfl rfl rfl ?_
  refine jT_ifT (a := r7) (t := 10) (by rfl) (by rfl) (by rfl) (jw_idd (by omega) (by omega)) (by simp only [jcP] <;> omega) ?_
  refine jT_xiconst (k := 0) (pcN := 11) jIQ_161_10 rfl ?_
  refine jT_xistore (v := (0, 0)) (LN := [(5, (0, 0)), (0, (4, 0)), (1, (0, r7)), (2, (0, r8)), (3, (4, 1)), (4, (0, 0))]) (pcN := 13) jIQ_161_11 rfl rfl rfl rfl ?_
  refine jT_xiload (v := (0, 0)) (pcN := 15) jIQ_161_13 rfl rfl rfl ?_
  refine jT_xbipush (k := 6) (pcN := 17) jIQ_161_15 (by decide) rfl ?_
  refine jT_xicF (t := 56) (pcN := 20) jIQ_161_17 rfl (by decide +kernel) rfl rfl ?_
  refine jT_xaload_n (v := (4, 0)) (pcN := 21) jIQ_161_20 rfl rfl rfl ?_
  refine jT_xgetf (a := 0) (t := 1) (ci := 13) (fi := 7) (c := jzQ_16) (v := (4, 9)) (pcN := 24) jIQ_161_21 rfl rfl rfl rfl rfl rfl rfl ?_
  refine jT_xiload (v := (0, 0)) (pcN := 26) jIQ_161_24 rfl rfl rfl ?_
  refine jT_xiload (v := (0, 0)) (pcN := 28) jIQ_161_26 rfl rfl rfl ?_
  refine jT_xiconst (k := 1) (pcN := 29) jIQ_161_28 rfl ?_
  refine jT_xicT (pcN := 37) jIQ_161_29 rfl (by decide +kernel) rfl ?_
  refine jT_xiload (v := (0, 0)) (pcN := 39) jIQ_161_37 rfl rfl rfl ?_
  refine jT_xiconst (k := 2) (pcN := 40) jIQ_161_39 rfl ?_
  refine jT_xicT (pcN := 48) jIQ_161_40 rfl (by decide +kernel) rfl ?_
  refine jT_xlconst (z := 0) (pcN := 49) jIQ_161_48 rfl rfl ?_
  refine jT_adv 1 (pcN := 50) (LN := [(5, (0, 0)), (0, (4, 0)), (1, (0, r7)), (2, (0, r8)), (3, (4, 1)), (4, (0, 0))]) (stN := []) (hsN := [jzQ_16, (4, [(4, 13), (1, 1)], []), (8, [(4, 14), (4, 15)], []), jgh, jgh, jgh, jgh, jgh, jgh, (101, [], [0, u9_1, u9_2, u9_3, u9_4, u9_5]), jgh, jgh, jgh, (101, [], [0, 0, 0, 0, 0, 0]), jgh, jgh]) (c1 := 0) (s1 := 0) (c2 := 0) (s2 := 0) (by exact rfl) ?_ (by omega) (by omega)
  refine jT_xiinc (x := 0) (z := 1) (LN := [(5, (0, 1)), (0, (4, 0)), (1, (0, r7)), (2, (0, r8)), (3, (4, 1)), (4, (0, 0))]) (pcN := 53) jIQ_161_50 rfl rfl (by decide) rfl rfl ?_
  refine jT_xgoto (pcN := 13) jIQ_161_53 rfl ?_
  refine jT_xiload (v := (0, 1)) (pcN := 15) jIQ_161_13 rfl rfl rfl ?_
  refine jT_xbipush (k := 6) (pcN := 17) jIQ_161_15 (by decide) rfl ?_
  refine jT_xicF (t := 56) (pcN := 20) jIQ_161_17 rfl (by decide +kernel) rfl rfl ?_
  refine jT_xaload_n (v := (4, 0)) (pcN := 21) jIQ_161_20 rfl rfl rfl ?_
  refine jT_xgetf (a := 0) (t := 1) (ci := 13) (fi := 7) (c := jzQ_16) (v := (4, 9)) (pcN := 24) jIQ_161_21 rfl rfl rfl rfl rfl rfl rfl ?_
  refine jT_xiload (v := (0, 1)) (pcN := 26) jIQ_161_24 rfl rfl rfl ?_
  refine jT_xiload (v := (0, 1)) (pcN := 28) jIQ_161_26 rfl rfl rfl ?_
  refine jT_xiconst (k := 1) (pcN := 29) jIQ_161_28 rfl ?_
  refine jT_xicF (t := 37) (pcN := 32) jIQ_161_29 rfl (by decide +kernel) rfl rfl ?_
  refine jT_xiload_n (v := (0, r7)) (pcN := 33) jIQ_161_32 rfl rfl rfl ?_
  refine jT_xi2l (x := r7) (z := r7) (pcN := 34) jIQ_161_33 rfl (jw_idd (by omega) (by omega)) rfl ?_
  refine jT_xgoto (pcN := 49) jIQ_161_34 rfl ?_
  refine jT_adv 1 (pcN := 50) (LN := [(5, (0, 1)), (0, (4, 0)), (1, (0, r7)), (2, (0, r8)), (3, (4, 1)), (4, (0, 0))]) (stN := []) (hsN := [jzQ_16, (4, [(4, 13), (1, 1)], []), (8, [(4, 14), (4, 15)], []), jgh, jgh, jgh, jgh, jgh, jgh, (101, [], [0, r7, u9_2, u9_3, u9_4, u9_5]), jgh, jgh, jgh, (101, [], [0, 0, 0, 0, 0, 0]), jgh, jgh]) (c1 := 0) (s1 := 0) (c2 := 0) (s2 := 0) (by exact rfl) ?_ (by omega) (by omega)
  refine jT_xiinc (x := 1) (z := 2) (LN := [(5, (0, 2)), (0, (4, 0)), (1, (0, r7)), (2, (0, r8)), (3, (4, 1)), (4, (0, 0))]) (pcN := 53) jIQ_161_50 rfl rfl (by decide) rfl rfl ?_
  refine jT_xgoto (pcN := 13) jIQ_161_53 rfl ?_
  refine jT_xiload (v := (0, 2)) (pcN := 15) jIQ_161_13 rfl rfl rfl ?_
  refine jT_xbipush (k := 6) (pcN := 17) jIQ_161_15 (by decide) rfl ?_
  refine jT_xicF (t := 56) (pcN := 20) jIQ_161_17 rfl (by decide +kernel) rfl rfl ?_
  refine jT_xaload_n (v := (4, 0)) (pcN := 21) jIQ_161_20 rfl rfl rfl ?_
  refine jT_xgetf (a := 0) (t := 1) (ci := 13) (fi := 7) (c := jzQ_16) (v := (4, 9)) (pcN := 24) jIQ_161_21 rfl rfl rfl rfl rfl rfl rfl ?_
  refine jT_xiload (v := (0, 2)) (pcN := 26) jIQ_161_24 rfl rfl rfl ?_
  refine jT_xiload (v := (0, 2)) (pcN := 28) jIQ_161_26 rfl rfl rfl ?_
  refine jT_xiconst (k := 1) (pcN := 29) jIQ_161_28 rfl ?_
  refine jT_xicT (pcN := 37) jIQ_161_29 rfl (by decide +kernel) rfl ?_
  refine jT_xiload (v := (0, 2)) (pcN := 39) jIQ_161_37 rfl rfl rfl ?_
  refine jT_xiconst (k := 2) (pcN := 40) jIQ_161_39 rfl ?_
  refine jT_xicF (t := 48) (pcN := 43) jIQ_161_40 rfl (by decide +kernel) rfl rfl ?_
  refine jT_xiload_n (v := (0, r8)) (pcN := 44) jIQ_161_43 rfl rfl rfl ?_
  refine jT_xi2l (x := r8) (z := r8) (pcN := 45) jIQ_161_44 rfl (jw_idd (by omega) (by omega)) rfl ?_
  refine jT_xgoto (pcN := 49) jIQ_161_45 rfl ?_
  refine jT_adv 1 (pcN := 50) (LN := [(5, (0, 2)), (0, (4, 0)), (1, (0, r7)), (2, (0, r8)), (3, (4, 1)), (4, (0, 0))]) (stN := []) (hsN := [jzQ_16, (4, [(4, 13), (1, 1)], []), (8, [(4, 14), (4, 15)], []), jgh, jgh, jgh, jgh, jgh, jgh, (101, [], [0, r7, r8, u9_3, u9_4, u9_5]), jgh, jgh, jgh, (101, [], [0, 0, 0, 0, 0, 0]), jgh, jgh]) (c1 := 0) (s1 := 0) (c2 := 0) (s2 := 0) (by exact rfl) ?_ (by omega) (by omega)
  refine jT_xiinc (x := 2) (z := 3) (LN := [(5, (0, 3)), (0, (4, 0)), (1, (0, r7)), (2, (0, r8)), (3, (4, 1)), (4, (0, 0))]) (pcN := 53) jIQ_161_50 rfl rfl (by decide) rfl rfl ?_
  refine jT_xgoto (pcN := 13) jIQ_161_53 rfl ?_
  refine jT_xiload (v := (0, 3)) (pcN := 15) jIQ_161_13 rfl rfl rfl ?_
  refine jT_xbipush (k := 6) (pcN := 17) jIQ_161_15 (by decide) rfl ?_
  refine jT_xicF (t := 56) (pcN := 20) jIQ_161_17 rfl (by decide +kernel) rfl rfl ?_
  refine jT_xaload_n (v := (4, 0)) (pcN := 21) jIQ_161_20 rfl rfl rfl ?_
  refine jT_xgetf (a := 0) (t := 1) (ci := 13) (fi := 7) (c := jzQ_16) (v := (4, 9)) (pcN := 24) jIQ_161_21 rfl rfl rfl rfl rfl rfl rfl ?_
  refine jT_xiload (v := (0, 3)) (pcN := 26) jIQ_161_24 rfl rfl rfl ?_
  refine jT_xiload (v := (0, 3)) (pcN := 28) jIQ_161_26 rfl rfl rfl ?_
  refine jT_xiconst (k := 1) (pcN := 29) jIQ_161_28 rfl ?_
  refine jT_xicT (pcN := 37) jIQ_161_29 rfl (by decide +kernel) rfl ?_
  refine jT_xiload (v := (0, 3)) (pcN := 39) jIQ_161_37 rfl rfl rfl ?_
  refine jT_xiconst (k := 2) (pcN := 40) jIQ_161_39 rfl ?_
  refine jT_xicT (pcN := 48) jIQ_161_40 rfl (by decide +kernel) rfl ?_
  refine jT_xlconst (z := 0) (pcN := 49) jIQ_161_48 rfl rfl ?_
  refine jT_adv 1 (pcN := 50) (LN := [(5, (0, 3)), (0, (4, 0)), (1, (0, r7)), (2, (0, r8)), (3, (4, 1)), (4, (0, 0))]) (stN := []) (hsN := [jzQ_16, (4, [(4, 13), (1, 1)], []), (8, [(4, 14), (4, 15)], []), jgh, jgh, jgh, jgh, jgh, jgh, (101, [], [0, r7, r8, 0, u9_4, u9_5]), jgh, jgh, jgh, (101, [], [0, 0, 0, 0, 0, 0]), jgh, jgh]) (c1 := 0) (s1 := 0) (c2 := 0) (s2 := 0) (by exact rfl) ?_ (by omega) (by omega)
  refine jT_xiinc (x := 3) (z := 4) (LN := [(5, (0, 4)), (0, (4, 0)), (1, (0, r7)), (2, (0, r8)), (3, (4, 1)), (4, (0, 0))]) (pcN := 53) jIQ_161_50 rfl rfl (by decide) rfl rfl ?_
  refine jT_xgoto (pcN := 13) jIQ_161_53 rfl ?_
  refine jT_xiload (v := (0, 4)) (pcN := 15) jIQ_161_13 rfl rfl rfl ?_
  refine jT_xbipush (k := 6) (pcN := 17) jIQ_161_15 (by decide) rfl ?_
  refine jT_xicF (t := 56) (pcN := 20) jIQ_161_17 rfl (by decide +kernel) rfl rfl ?_
  refine jT_xaload_n (v := (4, 0)) (pcN := 21) jIQ_161_20 rfl rfl rfl ?_
  refine jT_xgetf (a := 0) (t := 1) (ci := 13) (fi := 7) (c := jzQ_16) (v := (4, 9)) (pcN := 24) jIQ_161_21 rfl rfl rfl rfl rfl rfl rfl ?_
  refine jT_xiload (v := (0, 4)) (pcN := 26) jIQ_161_24 rfl rfl rfl ?_
  refine jT_xiload (v := (0, 4)) (pcN := 28) jIQ_161_26 rfl rfl rfl ?_
  refine jT_xiconst (k := 1) (pcN := 29) jIQ_161_28 rfl ?_
  refine jT_xicT (pcN := 37) jIQ_161_29 rfl (by decide +kernel) rfl ?_
  refine jT_xiload (v := (0, 4)) (pcN := 39) jIQ_161_37 rfl rfl rfl ?_
  refine jT_xiconst (k := 2) (pcN := 40) jIQ_161_39 rfl ?_
  refine jT_xicT (pcN := 48) jIQ_161_40 rfl (by decide +kernel) rfl ?_
  refine jT_xlconst (z := 0) (pcN := 49) jIQ_161_48 rfl rfl ?_
  refine jT_adv 1 (pcN := 50) (LN := [(5, (0, 4)), (0, (4, 0)), (1, (0, r7)), (2, (0, r8)), (3, (4, 1)), (4, (0, 0))]) (stN := []) (hsN := [jzQ_16, (4, [(4, 13), (1, 1)], []), (8, [(4, 14), (4, 15)], []), jgh, jgh, jgh, jgh, jgh, jgh, (101, [], [0, r7, r8, 0, 0, u9_5]), jgh, jgh, jgh, (101, [], [0, 0, 0, 0, 0, 0]), jgh, jgh]) (c1 := 0) (s1 := 0) (c2 := 0) (s2 := 0) (by exact rfl) ?_ (by omega) (by omega)
  refine jT_xiinc (x := 4) (z := 5) (LN := [(5, (0, 5)), (0, (4, 0)), (1, (0, r7)), (2, (0, r8)), (3, (4, 1)), (4, (0, 0))]) (pcN := 53) jIQ_161_50 rfl rfl (by decide) rfl rfl ?_
  refine jT_xgoto (pcN := 13) jIQ_161_53 rfl ?_
  refine jT_xiload (v := (0, 5)) (pcN := 15) jIQ_161_13 rfl rfl rfl ?_
  refine jT_xbipush (k := 6) (pcN := 17) jIQ_161_15 (by decide) rfl ?_
  refine jT_xicF (t := 56) (pcN := 20) jIQ_161_17 rfl (by decide +kernel) rfl rfl ?_
  refine jT_xaload_n (v := (4, 0)) (pcN := 21) jIQ_161_20 rfl rfl rfl ?_
  refine jT_xgetf (a := 0) (t := 1) (ci := 13) (fi := 7) (c := jzQ_16) (v := (4, 9)) (pcN := 24) jIQ_161_21 rfl rfl rfl rfl rfl rfl rfl ?_
  refine jT_xiload (v := (0, 5)) (pcN := 26) jIQ_161_24 rfl rfl rfl ?_
  refine jT_xiload (v := (0, 5)) (pcN := 28) jIQ_161_26 rfl rfl rfl ?_
  refine jT_xiconst (k := 1) (pcN := 29) jIQ_161_28 rfl ?_
  refine jT_xicT (pcN := 37) jIQ_161_29 rfl (by decide +kernel) rfl ?_
  refine jT_xiload (v := (0, 5)) (pcN := 39) jIQ_161_37 rfl rfl rfl ?_
  refine jT_xiconst (k := 2) (pcN := 40) jIQ_161_39 rfl ?_
  refine jT_xicT (pcN := 48) jIQ_161_40 rfl (by decide +kernel) rfl ?_
  refine jT_xlconst (z := 0) (pcN := 49) jIQ_161_48 rfl rfl ?_
  refine jT_adv 1 (pcN := 50) (LN := [(5, (0, 5)), (0, (4, 0)), (1, (0, r7)), (2, (0, r8)), (3, (4, 1)), (4, (0, 0))]) (stN := []) (hsN := [jzQ_16, (4, [(4, 13), (1, 1)], []), (8, [(4, 14), (4, 15)], []), jgh, jgh, jgh, jgh, jgh, jgh, (101, [], [0, r7, r8, 0, 0, 0]), jgh, jgh, jgh, (101, [], [0, 0, 0, 0, 0, 0]), jgh, jgh]) (c1 := 0) (s1 := 0) (c2 := 0) (s2 := 0) (by exact rfl) ?_ (by omega) (by omega)
  refine jT_xiinc (x := 5) (z := 6) (LN := [(5, (0, 6)), (0, (4, 0)), (1, (0, r7)), (2, (0, r8)), (3, (4, 1)), (4, (0, 0))]) (pcN := 53) jIQ_161_50 rfl rfl (by decide) rfl rfl ?_
  refine jT_xgoto (pcN := 13) jIQ_161_53 rfl ?_
  refine jT_xiload (v := (0, 6)) (pcN := 15) jIQ_161_13 rfl rfl rfl ?_
  refine jT_xbipush (k := 6) (pcN := 17) jIQ_161_15 (by decide) rfl ?_
  refine jT_xicT (pcN := 56) jIQ_161_17 rfl (by decide +kernel) rfl ?_
  refine jT_xaload_n (v := (4, 0)) (pcN := 57) jIQ_161_56 rfl rfl rfl ?_
  refine jT_xgetf (a := 0) (t := 1) (ci := 13) (fi := 0) (c := jzQ_16) (v := (4, 2)) (pcN := 60) jIQ_161_57 rfl rfl rfl rfl rfl rfl rfl ?_
  refine jT_xaload_n (v := (4, 0)) (pcN := 61) jIQ_161_60 rfl rfl rfl ?_
  refine jT_xgetf (a := 0) (t := 1) (ci := 13) (fi := 7) (c := jzQ_16) (v := (4, 9)) (pcN := 64) jIQ_161_61 rfl rfl rfl rfl rfl rfl rfl ?_
  refine jT_xlconst (z := 1) (pcN := 65) jIQ_161_64 rfl rfl ?_
  refine jT_xlconst (z := 1) (pcN := 66) jIQ_161_65 rfl rfl ?_
  refine jT_callA [2, 9, 14, 15] (y := 45) (pcN := 69) (dC := 1) (bc1 := 0) (bc2 := 0) (c1 := 0) (c2 := 0) (as := [(4, 2), (4, 9), (1, 1), (1, 1)]) (asC := [(4, 0), (4, 1), (1, 1), (1, 1)]) (LN := [(5, (0, 6)), (0, (4, 0)), (1, (0, r7)), (2, (0, r8)), (3, (4, 1)), (4, (0, 0))]) (stN := []) (hsC := [(8, [(4, 2), (4, 3)], []), (101, [], [0, r7, r8, 0, 0, 0]), jgh, jgh]) (ex := []) (v := (1, (108917793695 * r7 + 159561683699 * r8) / 68719476736)) (st2 := [(1, (108917793695 * r7 + 159561683699 * r8) / 68719476736)]) (hs2 := [jzQ_16, (4, [(4, 13), (1, 1)], []), (8, [(4, 14), (4, 15)], []), jgh, jgh, jgh, jgh, jgh, jgh, (101, [], [0, r7, r8, 0, 0, 0]), jgh, jgh, jgh, (101, [], [0, 0, 0, 0, 0, 0]), jgh, jgh]) (jQl_sp45_116 (d := 0) (by omega) (by omega)) (by rfl) (by rfl) (by rfl) (by rfl) ⟨rfl, rfl, rfl, rfl, trivial⟩ (by rfl) (by rfl) (by omega) (by show 16 ≤ 16; omega) (by omega) (by omega) rfl rfl ?_
  have hb_q1 : (-60) ≤ (108917793695 * r7 + 159561683699 * r8) / 68719476736 ∧ (108917793695 * r7 + 159561683699 * r8) / 68719476736 ≤ 60 := ⟨by omega, by omega⟩
  generalize hq_q1 : (108917793695 * r7 + 159561683699 * r8) / 68719476736 = q1 at hb_q1 ⊢
  refine jT_xlstore (v := (1, q1)) (LN := [(5, (1, q1)), (0, (4, 0)), (1, (0, r7)), (2, (0, r8)), (3, (4, 1)), (4, (0, 0))]) (pcN := 71) jIQ_161_69 rfl rfl rfl rfl ?_
  have g_1 : 0 ≤ (-68719476736) * q1 + 108917793694 * r7 + 159561683698 * r8 - 1 := by have := jcg (b := r7) (c := r8) (by omega) (by omega) (by omega); rw [hq_q1] at this; omega
  have g_2 : 0 ≤ (-68719476736) * q1 + 108917793694 * r7 + 159561683700 * r8 - 1 := by have := jcg (b := r7) (c := r8) (by omega) (by omega) (by omega); rw [hq_q1] at this; omega
  have g_3 : 0 ≤ (-68719476736) * q1 + 108917793696 * r7 + 159561683698 * r8 - 1 := by have := jcg (b := r7) (c := r8) (by omega) (by omega) (by omega); rw [hq_q1] at this; omega
  have g_4 : 0 ≤ (-68719476736) * q1 + 108917793696 * r7 + 159561683700 * r8 - 1 := by have := jcg (b := r7) (c := r8) (by omega) (by omega) (by omega); rw [hq_q1] at this; omega
  refine jT_xiload (v := (0, 0)) (pcN := 73) jIQ_161_71 rfl rfl rfl ?_
  refine jT_xifT (pcN := 107) jIQ_161_73 rfl (by decide +kernel) rfl ?_
  refine jT_xaload_n (v := (4, 0)) (pcN := 108) jIQ_161_107 rfl rfl rfl ?_
  refine jT_xgetf (a := 0) (t := 1) (ci := 13) (fi := 7) (c := jzQ_16) (v := (4, 9)) (pcN := 111) jIQ_161_108 rfl rfl rfl rfl rfl rfl rfl ?_
  refine jT_xiconst (k := 0) (pcN := 112) jIQ_161_111 rfl ?_
  refine jT_xlload (v := (1, q1)) (pcN := 114) jIQ_161_112 rfl rfl rfl ?_
  refine jT_adv 2 (pcN := 116) (LN := [(5, (1, q1)), (0, (4, 0)), (1, (0, r7)), (2, (0, r8)), (3, (4, 1)), (4, (0, 0))]) (stN := []) (hsN := [jzQ_16, (4, [(4, 13), (1, 1)], []), (8, [(4, 14), (4, 15)], []), jgh, jgh, jgh, jgh, jgh, jgh, (101, [], [-q1, r7, r8, 0, 0, 0]), jgh, jgh, jgh, (101, [], [0, 0, 0, 0, 0, 0]), jgh, jgh]) (c1 := 0) (s1 := 0) (c2 := 0) (s2 := 0) (by exact rfl) ?_ (by omega) (by omega)
  refine jT_xiconst (k := 0) (pcN := 117) jIQ_161_116 rfl ?_
  refine jT_xistore (v := (0, 0)) (LN := [(7, (0, 0)), (5, (1, q1)), (0, (4, 0)), (1, (0, r7)), (2, (0, r8)), (3, (4, 1)), (4, (0, 0))]) (pcN := 119) jIQ_161_117 rfl rfl rfl rfl ?_
  refine jT_xiload (v := (0, 0)) (pcN := 121) jIQ_161_119 rfl rfl rfl ?_
  refine jT_xbipush (k := 6) (pcN := 123) jIQ_161_121 (by decide) rfl ?_
  refine jT_xicF (t := 159) (pcN := 126) jIQ_161_123 rfl (by decide +kernel) rfl rfl ?_
  refine jT_xaload_n (v := (4, 0)) (pcN := 127) jIQ_161_126 rfl rfl rfl ?_
  refine jT_xgetf (a := 0) (t := 1) (ci := 13) (fi := 7) (c := jzQ_16) (v := (4, 9)) (pcN := 130) jIQ_161_127 rfl rfl rfl rfl rfl rfl rfl ?_
  refine jT_xiload (v := (0, 0)) (pcN := 132) jIQ_161_130 rfl rfl rfl ?_
  refine jT_xaload_n (v := (4, 1)) (pcN := 133) jIQ_161_132 rfl rfl rfl ?_
  refine jT_xgetf (a := 1) (t := 2) (ci := 4) (fi := 0) (c := (4, [(4, 13), (1, 1)], [])) (v := (4, 13)) (pcN := 136) jIQ_161_133 rfl rfl rfl rfl rfl rfl rfl ?_
  refine jT_xiload (v := (0, 0)) (pcN := 138) jIQ_161_136 rfl rfl rfl ?_
  refine jT_lald (x := 0) (a := 13) (j := 0) (fs := []) (X := [0, 0, 0, 0, 0, 0]) jIQ_161_138 rfl rfl rfl rfl ?_
  refine jT_eq (LN := [(7, (0, 0)), (5, (1, q1)), (0, (4, 0)), (1, (0, r7)), (2, (0, r8)), (3, (4, 1)), (4, (0, 0))]) (stN := [(1, 0), (0, 0), (4, 9)]) (hsN := [jzQ_16, (4, [(4, 13), (1, 1)], []), (8, [(4, 14), (4, 15)], []), jgh, jgh, jgh, jgh, jgh, jgh, (101, [], [-q1, r7, r8, 0, 0, 0]), jgh, jgh, jgh, (101, [], [0, 0, 0, 0, 0, 0]), jgh, jgh]) rfl rfl rfl ?_
  refine jT_xaload_n (v := (4, 0)) (pcN := 140) jIQ_161_139 rfl rfl rfl ?_
  refine jT_xgetf (a := 0) (t := 1) (ci := 13) (fi := 7) (c := jzQ_16) (v := (4, 9)) (pcN := 143) jIQ_161_140 rfl rfl rfl rfl rfl rfl rfl ?_
  refine jT_xiload (v := (0, 0)) (pcN := 145) jIQ_161_143 rfl rfl rfl ?_
  refine jT_lald (x := -q1) (a := 9) (j := 0) (fs := []) (X := [-q1, r7, r8, 0, 0, 0]) jIQ_161_145 rfl rfl rfl rfl ?_
  refine jT_eq (LN := [(7, (0, 0)), (5, (1, q1)), (0, (4, 0)), (1, (0, r7)), (2, (0, r8)), (3, (4, 1)), (4, (0, 0))]) (stN := [(1, -q1), (1, 0), (0, 0), (4, 9)]) (hsN := [jzQ_16, (4, [(4, 13), (1, 1)], []), (8, [(4, 14), (4, 15)], []), jgh, jgh, jgh, jgh, jgh, jgh, (101, [], [-q1, r7, r8, 0, 0, 0]), jgh, jgh, jgh, (101, [], [0, 0, 0, 0, 0, 0]), jgh, jgh]) rfl rfl rfl ?_
  refine jT_xaload_n (v := (4, 1)) (pcN := 147) jIQ_161_146 rfl rfl rfl ?_
  refine jT_xgetf (a := 1) (t := 2) (ci := 4) (fi := 1) (c := (4, [(4, 13), (1, 1)], [])) (v := (1, 1)) (pcN := 150) jIQ_161_147 rfl rfl rfl rfl rfl rfl rfl ?_
  refine jT_xlmul (x := -q1) (y := 1) (z := -q1) (pcN := 151) jIQ_161_150 rfl (by omega) rfl ?_
  refine jT_xlsub (x := 0) (y := -q1) (z := q1) (pcN := 152) jIQ_161_151 rfl (by omega) rfl ?_
  refine jT_adv 1 (pcN := 153) (LN := [(7, (0, 0)), (5, (1, q1)), (0, (4, 0)), (1, (0, r7)), (2, (0, r8)), (3, (4, 1)), (4, (0, 0))]) (stN := []) (hsN := [jzQ_16, (4, [(4, 13), (1, 1)], []), (8, [(4, 14), (4, 15)], []), jgh, jgh, jgh, jgh, jgh, jgh, (101, [], [q1, r7, r8, 0, 0, 0]), jgh, jgh, jgh, (101, [], [0, 0, 0, 0, 0, 0]), jgh, jgh]) (c1 := 0) (s1 := 0) (c2 := 0) (s2 := 0) (by exact rfl) ?_ (by omega) (by omega)
  refine jT_xiinc (x := 0) (z := 1) (LN := [(7, (0, 1)), (5, (1, q1)), (0, (4, 0)), (1, (0, r7)), (2, (0, r8)), (3, (4, 1)), (4, (0, 0))]) (pcN := 156) jIQ_161_153 rfl rfl (by decide) rfl rfl ?_
  refine jT_xgoto (pcN := 119) jIQ_161_156 rfl ?_
  refine jT_xiload (v := (0, 1)) (pcN := 121) jIQ_161_119 rfl rfl rfl ?_
  refine jT_xbipush (k := 6) (pcN := 123) jIQ_161_121 (by decide) rfl ?_
  refine jT_xicF (t := 159) (pcN := 126) jIQ_161_123 rfl (by decide +kernel) rfl rfl ?_
  refine jT_xaload_n (v := (4, 0)) (pcN := 127) jIQ_161_126 rfl rfl rfl ?_
  refine jT_xgetf (a := 0) (t := 1) (ci := 13) (fi := 7) (c := jzQ_16) (v := (4, 9)) (pcN := 130) jIQ_161_127 rfl rfl rfl rfl rfl rfl rfl ?_
  refine jT_xiload (v := (0, 1)) (pcN := 132) jIQ_161_130 rfl rfl rfl ?_
  refine jT_xaload_n (v := (4, 1)) (pcN := 133) jIQ_161_132 rfl rfl rfl ?_
  refine jT_xgetf (a := 1) (t := 2) (ci := 4) (fi := 0) (c := (4, [(4, 13), (1, 1)], [])) (v := (4, 13)) (pcN := 136) jIQ_161_133 rfl rfl rfl rfl rfl rfl rfl ?_
  refine jT_xiload (v := (0, 1)) (pcN := 138) jIQ_161_136 rfl rfl rfl ?_
  refine jT_lald (x := 0) (a := 13) (j := 1) (fs := []) (X := [0, 0, 0, 0, 0, 0]) jIQ_161_138 rfl rfl rfl rfl ?_
  refine jT_eq (LN := [(7, (0, 1)), (5, (1, q1)), (0, (4, 0)), (1, (0, r7)), (2, (0, r8)), (3, (4, 1)), (4, (0, 0))]) (stN := [(1, 0), (0, 1), (4, 9)]) (hsN := [jzQ_16, (4, [(4, 13), (1, 1)], []), (8, [(4, 14), (4, 15)], []), jgh, jgh, jgh, jgh, jgh, jgh, (101, [], [q1, r7, r8, 0, 0, 0]), jgh, jgh, jgh, (101, [], [0, 0, 0, 0, 0, 0]), jgh, jgh]) rfl rfl rfl ?_
  refine jT_xaload_n (v := (4, 0)) (pcN := 140) jIQ_161_139 rfl rfl rfl ?_
  refine jT_xgetf (a := 0) (t := 1) (ci := 13) (fi := 7) (c := jzQ_16) (v := (4, 9)) (pcN := 143) jIQ_161_140 rfl rfl rfl rfl rfl rfl rfl ?_
  refine jT_xiload (v := (0, 1)) (pcN := 145) jIQ_161_143 rfl rfl rfl ?_
  refine jT_lald (x := r7) (a := 9) (j := 1) (fs := []) (X := [q1, r7, r8, 0, 0, 0]) jIQ_161_145 rfl rfl rfl rfl ?_
  refine jT_eq (LN := [(7, (0, 1)), (5, (1, q1)), (0, (4, 0)), (1, (0, r7)), (2, (0, r8)), (3, (4, 1)), (4, (0, 0))]) (stN := [(1, r7), (1, 0), (0, 1), (4, 9)]) (hsN := [jzQ_16, (4, [(4, 13), (1, 1)], []), (8, [(4, 14), (4, 15)], []), jgh, jgh, jgh, jgh, jgh, jgh, (101, [], [q1, r7, r8, 0, 0, 0]), jgh, jgh, jgh, (101, [], [0, 0, 0, 0, 0, 0]), jgh, jgh]) rfl rfl rfl ?_
  refine jT_xaload_n (v := (4, 1)) (pcN := 147) jIQ_161_146 rfl rfl rfl ?_
  refine jT_xgetf (a := 1) (t := 2) (ci := 4) (fi := 1) (c := (4, [(4, 13), (1, 1)], [])) (v := (1, 1)) (pcN := 150) jIQ_161_147 rfl rfl rfl rfl rfl rfl rfl ?_
  refine jT_xlmul (x := r7) (y := 1) (z := r7) (pcN := 151) jIQ_161_150 rfl (by omega) rfl ?_
  refine jT_xlsub (x := 0) (y := r7) (z := -r7) (pcN := 152) jIQ_161_151 rfl (by omega) rfl ?_
  refine jT_adv 1 (pcN := 153) (LN := [(7, (0, 1)), (5, (1, q1)), (0, (4, 0)), (1, (0, r7)), (2, (0, r8)), (3, (4, 1)), (4, (0, 0))]) (stN := []) (hsN := [jzQ_16, (4, [(4, 13), (1, 1)], []), (8, [(4, 14), (4, 15)], []), jgh, jgh, jgh, jgh, jgh, jgh, (101, [], [q1, -r7, r8, 0, 0, 0]), jgh, jgh, jgh, (101, [], [0, 0, 0, 0, 0, 0]), jgh, jgh]) (c1 := 0) (s1 := 0) (c2 := 0) (s2 := 0) (by exact rfl) ?_ (by omega) (by omega)
  refine jT_xiinc (x := 1) (z := 2) (LN := [(7, (0, 2)), (5, (1, q1)), (0, (4, 0)), (1, (0, r7)), (2, (0, r8)), (3, (4, 1)), (4, (0, 0))]) (pcN := 156) jIQ_161_153 rfl rfl (by decide) rfl rfl ?_
  refine jT_xgoto (pcN := 119) jIQ_161_156 rfl ?_
  refine jT_xiload (v := (0, 2)) (pcN := 121) jIQ_161_119 rfl rfl rfl ?_
  refine jT_xbipush (k := 6) (pcN := 123) jIQ_161_121 (by decide) rfl ?_
  refine jT_xicF (t := 159) (pcN := 126) jIQ_161_123 rfl (by decide +kernel) rfl rfl ?_
  refine jT_xaload_n (v := (4, 0)) (pcN := 127) jIQ_161_126 rfl rfl rfl ?_
  refine jT_xgetf (a := 0) (t := 1) (ci := 13) (fi := 7) (c := jzQ_16) (v := (4, 9)) (pcN := 130) jIQ_161_127 rfl rfl rfl rfl rfl rfl rfl ?_
  refine jT_xiload (v := (0, 2)) (pcN := 132) jIQ_161_130 rfl rfl rfl ?_
  refine jT_xaload_n (v := (4, 1)) (pcN := 133) jIQ_161_132 rfl rfl rfl ?_
  refine jT_xgetf (a := 1) (t := 2) (ci := 4) (fi := 0) (c := (4, [(4, 13), (1, 1)], [])) (v := (4, 13)) (pcN := 136) jIQ_161_133 rfl rfl rfl rfl rfl rfl rfl ?_
  refine jT_xiload (v := (0, 2)) (pcN := 138) jIQ_161_136 rfl rfl rfl ?_
  refine jT_lald (x := 0) (a := 13) (j := 2) (fs := []) (X := [0, 0, 0, 0, 0, 0]) jIQ_161_138 rfl rfl rfl rfl ?_
  refine jT_eq (LN := [(7, (0, 2)), (5, (1, q1)), (0, (4, 0)), (1, (0, r7)), (2, (0, r8)), (3, (4, 1)), (4, (0, 0))]) (stN := [(1, 0), (0, 2), (4, 9)]) (hsN := [jzQ_16, (4, [(4, 13), (1, 1)], []), (8, [(4, 14), (4, 15)], []), jgh, jgh, jgh, jgh, jgh, jgh, (101, [], [q1, -r7, r8, 0, 0, 0]), jgh, jgh, jgh, (101, [], [0, 0, 0, 0, 0, 0]), jgh, jgh]) rfl rfl rfl ?_
  refine jT_xaload_n (v := (4, 0)) (pcN := 140) jIQ_161_139 rfl rfl rfl ?_
  refine jT_xgetf (a := 0) (t := 1) (ci := 13) (fi := 7) (c := jzQ_16) (v := (4, 9)) (pcN := 143) jIQ_161_140 rfl rfl rfl rfl rfl rfl rfl ?_
  refine jT_xiload (v := (0, 2)) (pcN := 145) jIQ_161_143 rfl rfl rfl ?_
  refine jT_lald (x := r8) (a := 9) (j := 2) (fs := []) (X := [q1, -r7, r8, 0, 0, 0]) jIQ_161_145 rfl rfl rfl rfl ?_
  refine jT_eq (LN := [(7, (0, 2)), (5, (1, q1)), (0, (4, 0)), (1, (0, r7)), (2, (0, r8)), (3, (4, 1)), (4, (0, 0))]) (stN := [(1, r8), (1, 0), (0, 2), (4, 9)]) (hsN := [jzQ_16, (4, [(4, 13), (1, 1)], []), (8, [(4, 14), (4, 15)], []), jgh, jgh, jgh, jgh, jgh, jgh, (101, [], [q1, -r7, r8, 0, 0, 0]), jgh, jgh, jgh, (101, [], [0, 0, 0, 0, 0, 0]), jgh, jgh]) rfl rfl rfl ?_
  refine jT_xaload_n (v := (4, 1)) (pcN := 147) jIQ_161_146 rfl rfl rfl ?_
  refine jT_xgetf (a := 1) (t := 2) (ci := 4) (fi := 1) (c := (4, [(4, 13), (1, 1)], [])) (v := (1, 1)) (pcN := 150) jIQ_161_147 rfl rfl rfl rfl rfl rfl rfl ?_
  refine jT_xlmul (x := r8) (y := 1) (z := r8) (pcN := 151) jIQ_161_150 rfl (by omega) rfl ?_
  refine jT_xlsub (x := 0) (y := r8) (z := -r8) (pcN := 152) jIQ_161_151 rfl (by omega) rfl ?_
  refine jT_adv 1 (pcN := 153) (LN := [(7, (0, 2)), (5, (1, q1)), (0, (4, 0)), (1, (0, r7)), (2, (0, r8)), (3, (4, 1)), (4, (0, 0))]) (stN := []) (hsN := [jzQ_16, (4, [(4, 13), (1, 1)], []), (8, [(4, 14), (4, 15)], []), jgh, jgh, jgh, jgh, jgh, jgh, (101, [], [q1, -r7, -r8, 0, 0, 0]), jgh, jgh, jgh, (101, [], [0, 0, 0, 0, 0, 0]), jgh, jgh]) (c1 := 0) (s1 := 0) (c2 := 0) (s2 := 0) (by exact rfl) ?_ (by omega) (by omega)
  refine jT_xiinc (x := 2) (z := 3) (LN := [(7, (0, 3)), (5, (1, q1)), (0, (4, 0)), (1, (0, r7)), (2, (0, r8)), (3, (4, 1)), (4, (0, 0))]) (pcN := 156) jIQ_161_153 rfl rfl (by decide) rfl rfl ?_
  refine jT_xgoto (pcN := 119) jIQ_161_156 rfl ?_
  refine jT_xiload (v := (0, 3)) (pcN := 121) jIQ_161_119 rfl rfl rfl ?_
  refine jT_xbipush (k := 6) (pcN := 123) jIQ_161_121 (by decide) rfl ?_
  refine jT_xicF (t := 159) (pcN := 126) jIQ_161_123 rfl (by decide +kernel) rfl rfl ?_
  refine jT_xaload_n (v := (4, 0)) (pcN := 127) jIQ_161_126 rfl rfl rfl ?_
  refine jT_xgetf (a := 0) (t := 1) (ci := 13) (fi := 7) (c := jzQ_16) (v := (4, 9)) (pcN := 130) jIQ_161_127 rfl rfl rfl rfl rfl rfl rfl ?_
  refine jT_xiload (v := (0, 3)) (pcN := 132) jIQ_161_130 rfl rfl rfl ?_
  refine jT_xaload_n (v := (4, 1)) (pcN := 133) jIQ_161_132 rfl rfl rfl ?_
  refine jT_xgetf (a := 1) (t := 2) (ci := 4) (fi := 0) (c := (4, [(4, 13), (1, 1)], [])) (v := (4, 13)) (pcN := 136) jIQ_161_133 rfl rfl rfl rfl rfl rfl rfl ?_
  refine jT_xiload (v := (0, 3)) (pcN := 138) jIQ_161_136 rfl rfl rfl ?_
  refine jT_lald (x := 0) (a := 13) (j := 3) (fs := []) (X := [0, 0, 0, 0, 0, 0]) jIQ_161_138 rfl rfl rfl rfl ?_
  refine jT_eq (LN := [(7, (0, 3)), (5, (1, q1)), (0, (4, 0)), (1, (0, r7)), (2, (0, r8)), (3, (4, 1)), (4, (0, 0))]) (stN := [(1, 0), (0, 3), (4, 9)]) (hsN := [jzQ_16, (4, [(4, 13), (1, 1)], []), (8, [(4, 14), (4, 15)], []), jgh, jgh, jgh, jgh, jgh, jgh, (101, [], [q1, -r7, -r8, 0, 0, 0]), jgh, jgh, jgh, (101, [], [0, 0, 0, 0, 0, 0]), jgh, jgh]) rfl rfl rfl ?_
  refine jT_xaload_n (v := (4, 0)) (pcN := 140) jIQ_161_139 rfl rfl rfl ?_
  refine jT_xgetf (a := 0) (t := 1) (ci := 13) (fi := 7) (c := jzQ_16) (v := (4, 9)) (pcN := 143) jIQ_161_140 rfl rfl rfl rfl rfl rfl rfl ?_
  refine jT_xiload (v := (0, 3)) (pcN := 145) jIQ_161_143 rfl rfl rfl ?_
  refine jT_lald (x := 0) (a := 9) (j := 3) (fs := []) (X := [q1, -r7, -r8, 0, 0, 0]) jIQ_161_145 rfl rfl rfl rfl ?_
  refine jT_eq (LN := [(7, (0, 3)), (5, (1, q1)), (0, (4, 0)), (1, (0, r7)), (2, (0, r8)), (3, (4, 1)), (4, (0, 0))]) (stN := [(1, 0), (1, 0), (0, 3), (4, 9)]) (hsN := [jzQ_16, (4, [(4, 13), (1, 1)], []), (8, [(4, 14), (4, 15)], []), jgh, jgh, jgh, jgh, jgh, jgh, (101, [], [q1, -r7, -r8, 0, 0, 0]), jgh, jgh, jgh, (101, [], [0, 0, 0, 0, 0, 0]), jgh, jgh]) rfl rfl rfl ?_
  refine jT_xaload_n (v := (4, 1)) (pcN := 147) jIQ_161_146 rfl rfl rfl ?_
  refine jT_xgetf (a := 1) (t := 2) (ci := 4) (fi := 1) (c := (4, [(4, 13), (1, 1)], [])) (v := (1, 1)) (pcN := 150) jIQ_161_147 rfl rfl rfl rfl rfl rfl rfl ?_
  refine jT_xlmul (x := 0) (y := 1) (z := 0) (pcN := 151) jIQ_161_150 rfl (by decide) rfl ?_
  refine jT_xlsub (x := 0) (y := 0) (z := 0) (pcN := 152) jIQ_161_151 rfl (by decide) rfl ?_
  refine jT_adv 1 (pcN := 153) (LN := [(7, (0, 3)), (5, (1, q1)), (0, (4, 0)), (1, (0, r7)), (2, (0, r8)), (3, (4, 1)), (4, (0, 0))]) (stN := []) (hsN := [jzQ_16, (4, [(4, 13), (1, 1)], []), (8, [(4, 14), (4, 15)], []), jgh, jgh, jgh, jgh, jgh, jgh, (101, [], [q1, -r7, -r8, 0, 0, 0]), jgh, jgh, jgh, (101, [], [0, 0, 0, 0, 0, 0]), jgh, jgh]) (c1 := 0) (s1 := 0) (c2 := 0) (s2 := 0) (by exact rfl) ?_ (by omega) (by omega)
  refine jT_xiinc (x := 3) (z := 4) (LN := [(7, (0, 4)), (5, (1, q1)), (0, (4, 0)), (1, (0, r7)), (2, (0, r8)), (3, (4, 1)), (4, (0, 0))]) (pcN := 156) jIQ_161_153 rfl rfl (by decide) rfl rfl ?_
  refine jT_xgoto (pcN := 119) jIQ_161_156 rfl ?_
  refine jT_xiload (v := (0, 4)) (pcN := 121) jIQ_161_119 rfl rfl rfl ?_
  refine jT_xbipush (k := 6) (pcN := 123) jIQ_161_121 (by decide) rfl ?_
  refine jT_xicF (t := 159) (pcN := 126) jIQ_161_123 rfl (by decide +kernel) rfl rfl ?_
  refine jT_xaload_n (v := (4, 0)) (pcN := 127) jIQ_161_126 rfl rfl rfl ?_
  refine jT_xgetf (a := 0) (t := 1) (ci := 13) (fi := 7) (c := jzQ_16) (v := (4, 9)) (pcN := 130) jIQ_161_127 rfl rfl rfl rfl rfl rfl rfl ?_
  refine jT_xiload (v := (0, 4)) (pcN := 132) jIQ_161_130 rfl rfl rfl ?_
  refine jT_xaload_n (v := (4, 1)) (pcN := 133) jIQ_161_132 rfl rfl rfl ?_
  refine jT_xgetf (a := 1) (t := 2) (ci := 4) (fi := 0) (c := (4, [(4, 13), (1, 1)], [])) (v := (4, 13)) (pcN := 136) jIQ_161_133 rfl rfl rfl rfl rfl rfl rfl ?_
  refine jT_xiload (v := (0, 4)) (pcN := 138) jIQ_161_136 rfl rfl rfl ?_
  refine jT_lald (x := 0) (a := 13) (j := 4) (fs := []) (X := [0, 0, 0, 0, 0, 0]) jIQ_161_138 rfl rfl rfl rfl ?_
  refine jT_eq (LN := [(7, (0, 4)), (5, (1, q1)), (0, (4, 0)), (1, (0, r7)), (2, (0, r8)), (3, (4, 1)), (4, (0, 0))]) (stN := [(1, 0), (0, 4), (4, 9)]) (hsN := [jzQ_16, (4, [(4, 13), (1, 1)], []), (8, [(4, 14), (4, 15)], []), jgh, jgh, jgh, jgh, jgh, jgh, (101, [], [q1, -r7, -r8, 0, 0, 0]), jgh, jgh, jgh, (101, [], [0, 0, 0, 0, 0, 0]), jgh, jgh]) rfl rfl rfl ?_
  refine jT_xaload_n (v := (4, 0)) (pcN := 140) jIQ_161_139 rfl rfl rfl ?_
  refine jT_xgetf (a := 0) (t := 1) (ci := 13) (fi := 7) (c := jzQ_16) (v := (4, 9)) (pcN := 143) jIQ_161_140 rfl rfl rfl rfl rfl rfl rfl ?_
  refine jT_xiload (v := (0, 4)) (pcN := 145) jIQ_161_143 rfl rfl rfl ?_
  refine jT_lald (x := 0) (a := 9) (j := 4) (fs := []) (X := [q1, -r7, -r8, 0, 0, 0]) jIQ_161_145 rfl rfl rfl rfl ?_
  refine jT_eq (LN := [(7, (0, 4)), (5, (1, q1)), (0, (4, 0)), (1, (0, r7)), (2, (0, r8)), (3, (4, 1)), (4, (0, 0))]) (stN := [(1, 0), (1, 0), (0, 4), (4, 9)]) (hsN := [jzQ_16, (4, [(4, 13), (1, 1)], []), (8, [(4, 14), (4, 15)], []), jgh, jgh, jgh, jgh, jgh, jgh, (101, [], [q1, -r7, -r8, 0, 0, 0]), jgh, jgh, jgh, (101, [], [0, 0, 0, 0, 0, 0]), jgh, jgh]) rfl rfl rfl ?_
  refine jT_xaload_n (v := (4, 1)) (pcN := 147) jIQ_161_146 rfl rfl rfl ?_
  refine jT_xgetf (a := 1) (t := 2) (ci := 4) (fi := 1) (c := (4, [(4, 13), (1, 1)], [])) (v := (1, 1)) (pcN := 150) jIQ_161_147 rfl rfl rfl rfl rfl rfl rfl ?_
  refine jT_xlmul (x := 0) (y := 1) (z := 0) (pcN := 151) jIQ_161_150 rfl (by decide) rfl ?_
  refine jT_xlsub (x := 0) (y := 0) (z := 0) (pcN := 152) jIQ_161_151 rfl (by decide) rfl ?_
  refine jT_adv 1 (pcN := 153) (LN := [(7, (0, 4)), (5, (1, q1)), (0, (4, 0)), (1, (0, r7)), (2, (0, r8)), (3, (4, 1)), (4, (0, 0))]) (stN := []) (hsN := [jzQ_16, (4, [(4, 13), (1, 1)], []), (8, [(4, 14), (4, 15)], []), jgh, jgh, jgh, jgh, jgh, jgh, (101, [], [q1, -r7, -r8, 0, 0, 0]), jgh, jgh, jgh, (101, [], [0, 0, 0, 0, 0, 0]), jgh, jgh]) (c1 := 0) (s1 := 0) (c2 := 0) (s2 := 0) (by exact rfl) ?_ (by omega) (by omega)
  refine jT_xiinc (x := 4) (z := 5) (LN := [(7, (0, 5)), (5, (1, q1)), (0, (4, 0)), (1, (0, r7)), (2, (0, r8)), (3, (4, 1)), (4, (0, 0))]) (pcN := 156) jIQ_161_153 rfl rfl (by decide) rfl rfl ?_
  refine jT_xgoto (pcN := 119) jIQ_161_156 rfl ?_
  refine jT_xiload (v := (0, 5)) (pcN := 121) jIQ_161_119 rfl rfl rfl ?_
  refine jT_xbipush (k := 6) (pcN := 123) jIQ_161_121 (by decide) rfl ?_
  refine jT_xicF (t := 159) (pcN := 126) jIQ_161_123 rfl (by decide +kernel) rfl rfl ?_
  refine jT_xaload_n (v := (4, 0)) (pcN := 127) jIQ_161_126 rfl rfl rfl ?_
  refine jT_xgetf (a := 0) (t := 1) (ci := 13) (fi := 7) (c := jzQ_16) (v := (4, 9)) (pcN := 130) jIQ_161_127 rfl rfl rfl rfl rfl rfl rfl ?_
  refine jT_xiload (v := (0, 5)) (pcN := 132) jIQ_161_130 rfl rfl rfl ?_
  refine jT_xaload_n (v := (4, 1)) (pcN := 133) jIQ_161_132 rfl rfl rfl ?_
  refine jT_xgetf (a := 1) (t := 2) (ci := 4) (fi := 0) (c := (4, [(4, 13), (1, 1)], [])) (v := (4, 13)) (pcN := 136) jIQ_161_133 rfl rfl rfl rfl rfl rfl rfl ?_
  refine jT_xiload (v := (0, 5)) (pcN := 138) jIQ_161_136 rfl rfl rfl ?_
  refine jT_lald (x := 0) (a := 13) (j := 5) (fs := []) (X := [0, 0, 0, 0, 0, 0]) jIQ_161_138 rfl rfl rfl rfl ?_
  refine jT_eq (LN := [(7, (0, 5)), (5, (1, q1)), (0, (4, 0)), (1, (0, r7)), (2, (0, r8)), (3, (4, 1)), (4, (0, 0))]) (stN := [(1, 0), (0, 5), (4, 9)]) (hsN := [jzQ_16, (4, [(4, 13), (1, 1)], []), (8, [(4, 14), (4, 15)], []), jgh, jgh, jgh, jgh, jgh, jgh, (101, [], [q1, -r7, -r8, 0, 0, 0]), jgh, jgh, jgh, (101, [], [0, 0, 0, 0, 0, 0]), jgh, jgh]) rfl rfl rfl ?_
  refine jT_xaload_n (v := (4, 0)) (pcN := 140) jIQ_161_139 rfl rfl rfl ?_
  refine jT_xgetf (a := 0) (t := 1) (ci := 13) (fi := 7) (c := jzQ_16) (v := (4, 9)) (pcN := 143) jIQ_161_140 rfl rfl rfl rfl rfl rfl rfl ?_
  refine jT_xiload (v := (0, 5)) (pcN := 145) jIQ_161_143 rfl rfl rfl ?_
  refine jT_lald (x := 0) (a := 9) (j := 5) (fs := []) (X := [q1, -r7, -r8, 0, 0, 0]) jIQ_161_145 rfl rfl rfl rfl ?_
  refine jT_eq (LN := [(7, (0, 5)), (5, (1, q1)), (0, (4, 0)), (1, (0, r7)), (2, (0, r8)), (3, (4, 1)), (4, (0, 0))]) (stN := [(1, 0), (1, 0), (0, 5), (4, 9)]) (hsN := [jzQ_16, (4, [(4, 13), (1, 1)], []), (8, [(4, 14), (4, 15)], []), jgh, jgh, jgh, jgh, jgh, jgh, (101, [], [q1, -r7, -r8, 0, 0, 0]), jgh, jgh, jgh, (101, [], [0, 0, 0, 0, 0, 0]), jgh, jgh]) rfl rfl rfl ?_
  refine jT_xaload_n (v := (4, 1)) (pcN := 147) jIQ_161_146 rfl rfl rfl ?_
  refine jT_xgetf (a := 1) (t := 2) (ci := 4) (fi := 1) (c := (4, [(4, 13), (1, 1)], [])) (v := (1, 1)) (pcN := 150) jIQ_161_147 rfl rfl rfl rfl rfl rfl rfl ?_
  refine jT_xlmul (x := 0) (y := 1) (z := 0) (pcN := 151) jIQ_161_150 rfl (by decide) rfl ?_
  refine jT_xlsub (x := 0) (y := 0) (z := 0) (pcN := 152) jIQ_161_151 rfl (by decide) rfl ?_
  refine jT_adv 1 (pcN := 153) (LN := [(7, (0, 5)), (5, (1, q1)), (0, (4, 0)), (1, (0, r7)), (2, (0, r8)), (3, (4, 1)), (4, (0, 0))]) (stN := []) (hsN := [jzQ_16, (4, [(4, 13), (1, 1)], []), (8, [(4, 14), (4, 15)], []), jgh, jgh, jgh, jgh, jgh, jgh, (101, [], [q1, -r7, -r8, 0, 0, 0]), jgh, jgh, jgh, (101, [], [0, 0, 0, 0, 0, 0]), jgh, jgh]) (c1 := 0) (s1 := 0) (c2 := 0) (s2 := 0) (by exact rfl) ?_ (by omega) (by omega)
  refine jT_xiinc (x := 5) (z := 6) (LN := [(7, (0, 6)), (5, (1, q1)), (0, (4, 0)), (1, (0, r7)), (2, (0, r8)), (3, (4, 1)), (4, (0, 0))]) (pcN := 156) jIQ_161_153 rfl rfl (by decide) rfl rfl ?_
  refine jT_xgoto (pcN := 119) jIQ_161_156 rfl ?_
  refine jT_xiload (v := (0, 6)) (pcN := 121) jIQ_161_119 rfl rfl rfl ?_
  refine jT_xbipush (k := 6) (pcN := 123) jIQ_161_121 (by decide) rfl ?_
  refine jT_xicT (pcN := 159) jIQ_161_123 rfl (by decide +kernel) rfl ?_
  refine jT_xaload_n (v := (4, 0)) (pcN := 160) jIQ_161_159 rfl rfl rfl ?_
  refine jT_xgetf (a := 0) (t := 1) (ci := 13) (fi := 0) (c := jzQ_16) (v := (4, 2)) (pcN := 163) jIQ_161_160 rfl rfl rfl rfl rfl rfl rfl ?_
  refine jT_xaload_n (v := (4, 0)) (pcN := 164) jIQ_161_163 rfl rfl rfl ?_
  refine jT_xgetf (a := 0) (t := 1) (ci := 13) (fi := 7) (c := jzQ_16) (v := (4, 9)) (pcN := 167) jIQ_161_164 rfl rfl rfl rfl rfl rfl rfl ?_
  refine jT_callA [2, 9, 14, 15] (y := 38) (pcN := 170) (dC := 1) (bc1 := 0) (bc2 := 0) (c1 := 0) (c2 := 0) (as := [(4, 2), (4, 9)]) (asC := [(4, 0), (4, 1)]) (LN := [(7, (0, 6)), (5, (1, q1)), (0, (4, 0)), (1, (0, r7)), (2, (0, r8)), (3, (4, 1)), (4, (0, 0))]) (stN := []) (hsC := [(8, [(4, 2), (4, 3)], []), (101, [], [q1, -r7, -r8, 0, 0, 0]), jgh, jgh]) (ex := []) (v := (0, (-1))) (st2 := [(0, (-1))]) (hs2 := [jzQ_16, (4, [(4, 13), (1, 1)], []), (8, [(4, 14), (4, 15)], []), jgh, jgh, jgh, jgh, jgh, jgh, (101, [], [q1, -r7, -r8, 0, 0, 0]), jgh, jgh, jgh, (101, [], [0, 0, 0, 0, 0, 0]), jgh, jgh]) (jQl_sp38_117 (d := 0) (by omega) (by omega) (by omega) (by omega) (by omega) (by omega) (by omega)) (by rfl) (by rfl) (by rfl) (by rfl) ⟨rfl, rfl, rfl, rfl, trivial⟩ (by rfl) (by rfl) (by omega) (by show 16 ≤ 16; omega) (by omega) (by omega) rfl rfl ?_
  refine jT_xifT (pcN := 177) jIQ_161_170 rfl (by decide +kernel) rfl ?_
  refine jT_xiconst (k := 0) (pcN := 178) jIQ_161_177 rfl ?_
  subst hq_q1
  exact jT_ret rfl (by decide) (by show 16 ≤ 16; omega) (by omega) (by omega) ⟨rfl, rfl, rfl⟩
theorem jQ_161_131 {xs : List Int} {d : Nat} {r7 r8 u9_0 u9_1 u9_2 u9_3 u9_4 u9_5 : Int} (h_r7 : (-20) ≤ r7 ∧ r7 ≤ 20) (h_r8 : (-10) ≤ r8 ∧ r8 ≤ 10) (g_0 : 0 ≤ r7) (g_1 : r7 ≤ 0) (g_2 : 0 < r8) : jT xs (d + 2) 161 16 0 [(0, (4, 0)), (1, (0, r7)), (2, (0, r8)), (3, (4, 1)), (4, (0, 0))] [] [jzQ_16, (4, [(4, 13), (1, 1)], []), (8, [(4, 14), (4, 15)], []), jgh, jgh, jgh, jgh, jgh, jgh, (101, [], [u9_0, u9_1, u9_2, u9_3, u9_4, u9_5]), jgh, jgh, jgh, (101, [], [0, 0, 0, 0, 0, 0]), jgh, jgh] 0 0 (fun k v hsN => k = 0 ∧ v = (0, 0) ∧ hsN = [jzQ_16, (4, [(4, 13), (1, 1)], []), (8, [(4, 14), (4, 15)], []), jgh, jgh, jgh, jgh, jgh, jgh, (101, [], [(108917793695 * r7 + 159561683699 * r8) / 68719476736, -r7, -r8, 0, 0, 0]), jgh, jgh, jgh, (101, [], [0, 0, 0, 0, 0, 0]), jgh, jgh]) := by
  refine jT_xiload_n (v := (0, r7)) (pcN := 1) jIQ_161_0 rfl rfl rfl ?_
  refine jT_ifF (a := r7) (t := 10) (by rfl) (by rfl) (by rfl) (jw_idd (by omega) (by omega)) (by simp only [jcP] <;> omega) ?_
  refine jT_xiload_n (v := (0, r8)) (pcN := 5) jIQ_161_4 rfl rfl rfl ?_
  refine jT_ifT (a := r8) (t := 10) (by rfl) (by rfl) (by rfl) (jw_idd (by omega) (by omega)) (by simp only [jcP] <;> omega) ?_
  refine jT_xiconst (k := 0) (pcN := 11) jIQ_161_10 rfl ?_
  refine jT_xistore (v := (0, 0)) (LN := [(5, (0, 0)), (0, (4, 0)), (1, (0, r7)), (2, (0, r8)), (3, (4, 1)), (4, (0, 0))]) (pcN := 13) jIQ_161_11 rfl rfl rfl rfl ?_
  refine jT_xiload (v := (0, 0)) (pcN := 15) jIQ_161_13 rfl rfl rfl ?_
  refine jT_xbipush (k := 6) (pcN := 17) jIQ_161_15 (by decide) rfl ?_
  refine jT_xicF (t := 56) (pcN := 20) jIQ_161_17 rfl (by decide +kernel) rfl rfl ?_
  refine jT_xaload_n (v := (4, 0)) (pcN := 21) jIQ_161_20 rfl rfl rfl ?_
  refine jT_xgetf (a := 0) (t := 1) (ci := 13) (fi := 7) (c := jzQ_16) (v := (4, 9)) (pcN := 24) jIQ_161_21 rfl rfl rfl rfl rfl rfl rfl ?_
  refine jT_xiload (v := (0, 0)) (pcN := 26) jIQ_161_24 rfl rfl rfl ?_
  refine jT_xiload (v := (0, 0)) (pcN := 28) jIQ_161_26 rfl rfl rfl ?_
  refine jT_xiconst (k := 1) (pcN := 29) jIQ_161_28 rfl ?_
  refine jT_xicT (pcN := 37) jIQ_161_29 rfl (by decide +kernel) rfl ?_
  refine jT_xiload (v := (0, 0)) (pcN := 39) jIQ_161_37 rfl rfl rfl ?_
  refine jT_xiconst (k := 2) (pcN := 40) jIQ_161_39 rfl ?_
  refine jT_xicT (pcN := 48) jIQ_161_40 rfl (by decide +kernel) rfl ?_
  refine jT_xlconst (z := 0) (pcN := 49) jIQ_161_48 rfl rfl ?_
  refine jT_adv 1 (pcN := 50) (LN := [(5, (0, 0)), (0, (4, 0)), (1, (0, r7)), (2, (0, r8)), (3, (4, 1)), (4, (0, 0))]) (stN := []) (hsN := [jzQ_16, (4, [(4, 13), (1, 1)], []), (8, [(4, 14), (4, 15)], []), jgh, jgh, jgh, jgh, jgh, jgh, (101, [], [0, u9_1, u9_2, u9_3, u9_4, u9_5]), jgh, jgh, jgh, (101, [], [0, 0, 0, 0, 0, 0]), jgh, jgh]) (c1 := 0) (s1 := 0) (c2 := 0) (s2 := 0) (by exact rfl) ?_ (by omega) (by omega)
  refine jT_xiinc (x := 0) (z := 1) (LN := [(5, (0, 1)), (0, (4, 0)), (1, (0, r7)), (2, (0, r8)), (3, (4, 1)), (4, (0, 0))]) (pcN := 53) jIQ_161_50 rfl rfl (by decide) rfl rfl ?_
  refine jT_xgoto (pcN := 13) jIQ_161_53 rfl ?_
  refine jT_xiload (v := (0, 1)) (pcN := 15) jIQ_161_13 rfl rfl rfl ?_
  refine jT_xbipush (k := 6) (pcN := 17) jIQ_161_15 (by decide) rfl ?_
  refine jT_xicF (t := 56) (pcN := 20) jIQ_161_17 rfl (by decide +kernel) rfl rfl ?_
  refine jT_xaload_n (v := (4, 0)) (pcN := 21) jIQ_161_20 rfl rfl rfl ?_
  refine jT_xgetf (a := 0) (t := 1) (ci := 13) (fi := 7) (c := jzQ_16) (v := (4, 9)) (pcN := 24) jIQ_161_21 rfl rfl rfl rfl rfl rfl rfl ?_
  refine jT_xiload (v := (0, 1)) (pcN := 26) jIQ_161_24 rfl rfl rfl ?_
  refine jT_xiload (v := (0, 1)) (pcN := 28) jIQ_161_26 rfl rfl rfl ?_
  refine jT_xiconst (k := 1) (pcN := 29) jIQ_161_28 rfl ?_
  refine jT_xicF (t := 37) (pcN := 32) jIQ_161_29 rfl (by decide +kernel) rfl rfl ?_
  refine jT_xiload_n (v := (0, r7)) (pcN := 33) jIQ_161_32 rfl rfl rfl ?_
  refine jT_xi2l (x := r7) (z := r7) (pcN := 34) jIQ_161_33 rfl (jw_idd (by omega) (by omega)) rfl ?_
  refine jT_xgoto (pcN := 49) jIQ_161_34 rfl ?_
  refine jT_adv 1 (pcN := 50) (LN := [(5, (0, 1)), (0, (4, 0)), (1, (0, r7)), (2, (0, r8)), (3, (4, 1)), (4, (0, 0))]) (stN := []) (hsN := [jzQ_16, (4, [(4, 13), (1, 1)], []), (8, [(4, 14), (4, 15)], []), jgh, jgh, jgh, jgh, jgh, jgh, (101, [], [0, r7, u9_2, u9_3, u9_4, u9_5]), jgh, jgh, jgh, (101, [], [0, 0, 0, 0, 0, 0]), jgh, jgh]) (c1 := 0) (s1 := 0) (c2 := 0) (s2 := 0) (by exact rfl) ?_ (by omega) (by omega)
  refine jT_xiinc (x := 1) (z := 2) (LN := [(5, (0, 2)), (0, (4, 0)), (1, (0, r7)), (2, (0, r8)), (3, (4, 1)), (4, (0, 0))]) (pcN := 53) jIQ_161_50 rfl rfl (by decide) rfl rfl ?_
  refine jT_xgoto (pcN := 13) jIQ_161_53 rfl ?_
  refine jT_xiload (v := (0, 2)) (pcN := 15) jIQ_161_13 rfl rfl rfl ?_
  refine jT_xbipush (k := 6) (pcN := 17) jIQ_161_15 (by decide) rfl ?_
  refine jT_xicF (t := 56) (pcN := 20) jIQ_161_17 rfl (by decide +kernel) rfl rfl ?_
  refine jT_xaload_n (v := (4, 0)) (pcN := 21) jIQ_161_20 rfl rfl rfl ?_
  refine jT_xgetf (a := 0) (t := 1) (ci := 13) (fi := 7) (c := jzQ_16) (v := (4, 9)) (pcN := 24) jIQ_161_21 rfl rfl rfl rfl rfl rfl rfl ?_
  refine jT_xiload (v := (0, 2)) (pcN := 26) jIQ_161_24 rfl rfl rfl ?_
  refine jT_xiload (v := (0, 2)) (pcN := 28) jIQ_161_26 rfl rfl rfl ?_
  refine jT_xiconst (k := 1) (pcN := 29) jIQ_161_28 rfl ?_
  refine jT_xicT (pcN := 37) jIQ_161_29 rfl (by decide +kernel) rfl ?_
  refine jT_xiload (v := (0, 2)) (pcN := 39) jIQ_161_37 rfl rfl rfl ?_
  refine jT_xiconst (k := 2) (pcN := 40) jIQ_161_39 rfl ?_
  refine jT_xicF (t := 48) (pcN := 43) jIQ_161_40 rfl (by decide +kernel) rfl rfl ?_
  refine jT_xiload_n (v := (0, r8)) (pcN := 44) jIQ_161_43 rfl rfl rfl ?_
  refine jT_xi2l (x := r8) (z := r8) (pcN := 45) jIQ_161_44 rfl (jw_idd (by omega) (by omega)) rfl ?_
  refine jT_xgoto (pcN := 49) jIQ_161_45 rfl ?_
  refine jT_adv 1 (pcN := 50) (LN := [(5, (0, 2)), (0, (4, 0)), (1, (0, r7)), (2, (0, r8)), (3, (4, 1)), (4, (0, 0))]) (stN := []) (hsN := [jzQ_16, (4, [(4, 13), (1, 1)], []), (8, [(4, 14), (4, 15)], []), jgh, jgh, jgh, jgh, jgh, jgh, (101, [], [0, r7, r8, u9_3, u9_4, u9_5]), jgh, jgh, jgh, (101, [], [0, 0, 0, 0, 0, 0]), jgh, jgh]) (c1 := 0) (s1 := 0) (c2 := 0) (s2 := 0) (by exact rfl) ?_ (by omega) (by omega)
  refine jT_xiinc (x := 2) (z := 3) (LN := [(5, (0, 3)), (0, (4, 0)), (1, (0, r7)), (2, (0, r8)), (3, (4, 1)), (4, (0, 0))]) (pcN := 53) jIQ_161_50 rfl rfl (by decide) rfl rfl ?_
  refine jT_xgoto (pcN := 13) jIQ_161_53 rfl ?_
  refine jT_xiload (v := (0, 3)) (pcN := 15) jIQ_161_13 rfl rfl rfl ?_
  refine jT_xbipush (k := 6) (pcN := 17) jIQ_161_15 (by decide) rfl ?_
  refine jT_xicF (t := 56) (pcN := 20) jIQ_161_17 rfl (by decide +kernel) rfl rfl ?_
  refine jT_xaload_n (v := (4, 0)) (pcN := 21) jIQ_161_20 rfl rfl rfl ?_
  refine jT_xgetf (a := 0) (t := 1) (ci := 13) (fi := 7) (c := jzQ_16) (v := (4, 9)) (pcN := 24) jIQ_161_21 rfl rfl rfl rfl rfl rfl rfl ?_
  refine jT_xiload (v := (0, 3)) (pcN := 26) jIQ_161_24 rfl rfl rfl ?_
  refine jT_xiload (v := (0, 3)) (pcN := 28) jIQ_161_26 rfl rfl rfl ?_
  refine jT_xiconst (k := 1) (pcN := 29) jIQ_161_28 rfl ?_
  refine jT_xicT (pcN := 37) jIQ_161_29 rfl (by decide +kernel) rfl ?_
  refine jT_xiload (v := (0, 3)) (pcN := 39) jIQ_161_37 rfl rfl rfl ?_
  refine jT_xiconst (k := 2) (pcN := 40) jIQ_161_39 rfl ?_
  refine jT_xicT (pcN := 48) jIQ_161_40 rfl (by decide +kernel) rfl ?_
  refine jT_xlconst (z := 0) (pcN := 49) jIQ_161_48 rfl rfl ?_
  refine jT_adv 1 (pcN := 50) (LN := [(5, (0, 3)), (0, (4, 0)), (1, (0, r7)), (2, (0, r8)), (3, (4, 1)), (4, (0, 0))]) (stN := []) (hsN := [jzQ_16, (4, [(4, 13), (1, 1)], []), (8, [(4, 14), (4, 15)], []), jgh, jgh, jgh, jgh, jgh, jgh, (101, [], [0, r7, r8, 0, u9_4, u9_5]), jgh, jgh, jgh, (101, [], [0, 0, 0, 0, 0, 0]), jgh, jgh]) (c1 := 0) (s1 := 0) (c2 := 0) (s2 := 0) (by exact rfl) ?_ (by omega) (by omega)
  refine jT_xiinc (x := 3) (z := 4) (LN := [(5, (0, 4)), (0, (4, 0)), (1, (0, r7)), (2, (0, r8)), (3, (4, 1)), (4, (0, 0))]) (pcN := 53) jIQ_161_50 rfl rfl (by decide) rfl rfl ?_
  refine jT_xgoto (pcN := 13) jIQ_161_53 rfl ?_
  refine jT_xiload (v := (0, 4)) (pcN := 15) jIQ_161_13 rfl rfl rfl ?_
  refine jT_xbipush (k := 6) (pcN := 17) jIQ_161_15 (by decide) rfl ?_
  refine jT_xicF (t := 56) (pcN := 20) jIQ_161_17 rfl (by decide +kernel) rfl rfl ?_
  refine jT_xaload_n (v := (4, 0)) (pcN := 21) jIQ_161_20 rfl rfl rfl ?_
  refine jT_xgetf (a := 0) (t := 1) (ci := 13) (fi := 7) (c := jzQ_16) (v := (4, 9)) (pcN := 24) jIQ_161_21 rfl rfl rfl rfl rfl rfl rfl ?_
  refine jT_xiload (v := (0, 4)) (pcN := 26) jIQ_161_24 rfl rfl rfl ?_
  refine jT_xiload (v := (0, 4)) (pcN := 28) jIQ_161_26 rfl rfl rfl ?_
  refine jT_xiconst (k := 1) (pcN := 29) jIQ_161_28 rfl ?_
  refine jT_xicT (pcN := 37) jIQ_161_29 rfl (by decide +kernel) rfl ?_
  refine jT_xiload (v := (0, 4)) (pcN := 39) jIQ_161_37 rfl rfl rfl ?_
  refine jT_xiconst (k := 2) (pcN := 40) jIQ_161_39 rfl ?_
  refine jT_xicT (pcN := 48) jIQ_161_40 rfl (by decide +kernel) rfl ?_
  refine jT_xlconst (z := 0) (pcN := 49) jIQ_161_48 rfl rfl ?_
  refine jT_adv 1 (pcN := 50) (LN := [(5, (0, 4)), (0, (4, 0)), (1, (0, r7)), (2, (0, r8)), (3, (4, 1)), (4, (0, 0))]) (stN := []) (hsN := [jzQ_16, (4, [(4, 13), (1, 1)], []), (8, [(4, 14), (4, 15)], []), jgh, jgh, jgh, jgh, jgh, jgh, (101, [], [0, r7, r8, 0, 0, u9_5]), jgh, jgh, jgh, (101, [], [0, 0, 0, 0, 0, 0]), jgh, jgh]) (c1 := 0) (s1 := 0) (c2 := 0) (s2 := 0) (by exact rfl) ?_ (by omega) (by omega)
  refine jT_xiinc (x := 4) (z := 5) (LN := [(5, (0, 5)), (0, (4, 0)), (1, (0, r7)), (2, (0, r8)), (3, (4, 1)), (4, (0, 0))]) (pcN := 53) jIQ_161_50 rfl rfl (by decide) rfl rfl ?_
  refine jT_xgoto (pcN := 13) jIQ_161_53 rfl ?_
  refine jT_xiload (v := (0, 5)) (pcN := 15) jIQ_161_13 rfl rfl rfl ?_
  refine jT_xbipush (k := 6) (pcN := 17) jIQ_161_15 (by decide) rfl ?_
  refine jT_xicF (t := 56) (pcN := 20) jIQ_161_17 rfl (by decide +kernel) rfl rfl ?_
  refine jT_xaload_n (v := (4, 0)) (pcN := 21) jIQ_161_20 rfl rfl rfl ?_
  refine jT_xgetf (a := 0) (t := 1) (ci := 13) (fi := 7) (c := jzQ_16) (v := (4, 9)) (pcN := 24) jIQ_161_21 rfl rfl rfl rfl rfl rfl rfl ?_
  refine jT_xiload (v := (0, 5)) (pcN := 26) jIQ_161_24 rfl rfl rfl ?_
  refine jT_xiload (v := (0, 5)) (pcN := 28) jIQ_161_26 rfl rfl rfl ?_
  refine jT_xiconst (k := 1) (pcN := 29) jIQ_161_28 rfl ?_
  refine jT_xicT (pcN := 37) jIQ_161_29 rfl (by decide +kernel) rfl ?_
  refine jT_xiload (v := (0, 5)) (pcN := 39) jIQ_161_37 rfl rfl rfl ?_
  refine jT_xiconst (k := 2) (pcN := 40) jIQ_161_39 rfl ?_
  refine jT_xicT (pcN := 48) jIQ_161_40 rfl (by decide +kernel) rfl ?_
  refine jT_xlconst (z := 0) (pcN := 49) jIQ_161_48 rfl rfl ?_
  refine jT_adv 1 (pcN := 50) (LN := [(5, (0, 5)), (0, (4, 0)), (1, (0, r7)), (2, (0, r8)), (3, (4, 1)), (4, (0, 0))]) (stN := []) (hsN := [jzQ_16, (4, [(4, 13), (1, 1)], []), (8, [(4, 14), (4, 15)], []), jgh, jgh, jgh, jgh, jgh, jgh, (101, [], [0, r7, r8, 0, 0, 0]), jgh, jgh, jgh, (101, [], [0, 0, 0, 0, 0, 0]), jgh, jgh]) (c1 := 0) (s1 := 0) (c2 := 0) (s2 := 0) (by exact rfl) ?_ (by omega) (by omega)
  refine jT_xiinc (x := 5) (z := 6) (LN := [(5, (0, 6)), (0, (4, 0)), (1, (0, r7)), (2, (0, r8)), (3, (4, 1)), (4, (0, 0))]) (pcN := 53) jIQ_161_50 rfl rfl (by decide) rfl rfl ?_
  refine jT_xgoto (pcN := 13) jIQ_161_53 rfl ?_
  refine jT_xiload (v := (0, 6)) (pcN := 15) jIQ_161_13 rfl rfl rfl ?_
  refine jT_xbipush (k := 6) (pcN := 17) jIQ_161_15 (by decide) rfl ?_
  refine jT_xicT (pcN := 56) jIQ_161_17 rfl (by decide +kernel) rfl ?_
  refine jT_xaload_n (v := (4, 0)) (pcN := 57) jIQ_161_56 rfl rfl rfl ?_
  refine jT_xgetf (a := 0) (t := 1) (ci := 13) (fi := 0) (c := jzQ_16) (v := (4, 2)) (pcN := 60) jIQ_161_57 rfl rfl rfl rfl rfl rfl rfl ?_
  refine jT_xaload_n (v := (4, 0)) (pcN := 61) jIQ_161_60 rfl rfl rfl ?_
  refine jT_xgetf (a := 0) (t := 1) (ci := 13) (fi := 7) (c := jzQ_16) (v := (4, 9)) (pcN := 64) jIQ_161_61 rfl rfl rfl rfl rfl rfl rfl ?_
  refine jT_xlconst (z := 1) (pcN := 65) jIQ_161_64 rfl rfl ?_
  refine jT_xlconst (z := 1) (pcN := 66) jIQ_161_65 rfl rfl ?_
  refine jT_callA [2, 9, 14, 15] (y := 45) (pcN := 69) (dC := 1) (bc1 := 0) (bc2 := 0) (c1 := 0) (c2 := 0) (as := [(4, 2), (4, 9), (1, 1), (1, 1)]) (asC := [(4, 0), (4, 1), (1, 1), (1, 1)]) (LN := [(5, (0, 6)), (0, (4, 0)), (1, (0, r7)), (2, (0, r8)), (3, (4, 1)), (4, (0, 0))]) (stN := []) (hsC := [(8, [(4, 2), (4, 3)], []), (101, [], [0, r7, r8, 0, 0, 0]), jgh, jgh]) (ex := []) (v := (1, (108917793695 * r7 + 159561683699 * r8) / 68719476736)) (st2 := [(1, (108917793695 * r7 + 159561683699 * r8) / 68719476736)]) (hs2 := [jzQ_16, (4, [(4, 13), (1, 1)], []), (8, [(4, 14), (4, 15)], []), jgh, jgh, jgh, jgh, jgh, jgh, (101, [], [0, r7, r8, 0, 0, 0]), jgh, jgh, jgh, (101, [], [0, 0, 0, 0, 0, 0]), jgh, jgh]) (jQl_sp45_116 (d := 0) (by omega) (by omega)) (by rfl) (by rfl) (by rfl) (by rfl) ⟨rfl, rfl, rfl, rfl, trivial⟩ (by rfl) (by rfl) (by omega) (by show 16 ≤ 16; omega) (by omega) (by omega) rfl rfl ?_
  have hb_q1 : (-60) ≤ (108917793695 * r7 + 159561683699 * r8) / 68719476736 ∧ (108917793695 * r7 + 159561683699 * r8) / 68719476736 ≤ 60 := ⟨by omega, by omega⟩
  generalize hq_q1 : (108917793695 * r7 + 159561683699 * r8) / 68719476736 = q1 at hb_q1 ⊢
  refine jT_xlstore (v := (1, q1)) (LN := [(5, (1, q1)), (0, (4, 0)), (1, (0, r7)), (2, (0, r8)), (3, (4, 1)), (4, (0, 0))]) (pcN := 71) jIQ_161_69 rfl rfl rfl rfl ?_
  have g_3 : 0 ≤ (-68719476736) * q1 + 108917793694 * r7 + 159561683698 * r8 - 1 := by have := jcg (b := r7) (c := r8) (by omega) (by omega) (by omega); rw [hq_q1] at this; omega
  have g_4 : 0 ≤ (-68719476736) * q1 + 108917793694 * r7 + 159561683700 * r8 - 1 := by have := jcg (b := r7) (c := r8) (by omega) (by omega) (by omega); rw [hq_q1] at this; omega
  have g_5 : 0 ≤ (-68719476736) * q1 + 108917793696 * r7 + 159561683698 * r8 - 1 := by have := jcg (b := r7) (c := r8) (by omega) (by omega) (by omega); rw [hq_q1] at this; omega
  have g_6 : 0 ≤ (-68719476736) * q1 + 108917793696 * r7 + 159561683700 * r8 - 1 := by have := jcg (b := r7) (c := r8) (by omega) (by omega) (by omega); rw [hq_q1] at this; omega
  refine jT_xiload (v := (0, 0)) (pcN := 73) jIQ_161_71 rfl rfl rfl ?_
  refine jT_xifT (pcN := 107) jIQ_161_73 rfl (by decide +kernel) rfl ?_
  refine jT_xaload_n (v := (4, 0)) (pcN := 108) jIQ_161_107 rfl rfl rfl ?_
  refine jT_xgetf (a := 0) (t := 1) (ci := 13) (fi := 7) (c := jzQ_16) (v := (4, 9)) (pcN := 111) jIQ_161_108 rfl rfl rfl rfl rfl rfl rfl ?_
  refine jT_xiconst (k := 0) (pcN := 112) jIQ_161_111 rfl ?_
  refine jT_xlload (v := (1, q1)) (pcN := 114) jIQ_161_112 rfl rfl rfl ?_
  refine jT_adv 2 (pcN := 116) (LN := [(5, (1, q1)), (0, (4, 0)), (1, (0, r7)), (2, (0, r8)), (3, (4, 1)), (4, (0, 0))]) (stN := []) (hsN := [jzQ_16, (4, [(4, 13), (1, 1)], []), (8, [(4, 14), (4, 15)], []), jgh, jgh, jgh, jgh, jgh, jgh, (101, [], [-q1, r7, r8, 0, 0, 0]), jgh, jgh, jgh, (101, [], [0, 0, 0, 0, 0, 0]), jgh, jgh]) (c1 := 0) (s1 := 0) (c2 := 0) (s2 := 0) (by exact rfl) ?_ (by omega) (by omega)
  refine jT_xiconst (k := 0) (pcN := 117) jIQ_161_116 rfl ?_
  refine jT_xistore (v := (0, 0)) (LN := [(7, (0, 0)), (5, (1, q1)), (0, (4, 0)), (1, (0, r7)), (2, (0, r8)), (3, (4, 1)), (4, (0, 0))]) (pcN := 119) jIQ_161_117 rfl rfl rfl rfl ?_
  refine jT_xiload (v := (0, 0)) (pcN := 121) jIQ_161_119 rfl rfl rfl ?_
  refine jT_xbipush (k := 6) (pcN := 123) jIQ_161_121 (by decide) rfl ?_
  refine jT_xicF (t := 159) (pcN := 126) jIQ_161_123 rfl (by decide +kernel) rfl rfl ?_
  refine jT_xaload_n (v := (4, 0)) (pcN := 127) jIQ_161_126 rfl rfl rfl ?_
  refine jT_xgetf (a := 0) (t := 1) (ci := 13) (fi := 7) (c := jzQ_16) (v := (4, 9)) (pcN := 130) jIQ_161_127 rfl rfl rfl rfl rfl rfl rfl ?_
  refine jT_xiload (v := (0, 0)) (pcN := 132) jIQ_161_130 rfl rfl rfl ?_
  refine jT_xaload_n (v := (4, 1)) (pcN := 133) jIQ_161_132 rfl rfl rfl ?_
  refine jT_xgetf (a := 1) (t := 2) (ci := 4) (fi := 0) (c := (4, [(4, 13), (1, 1)], [])) (v := (4, 13)) (pcN := 136) jIQ_161_133 rfl rfl rfl rfl rfl rfl rfl ?_
  refine jT_xiload (v := (0, 0)) (pcN := 138) jIQ_161_136 rfl rfl rfl ?_
  refine jT_lald (x := 0) (a := 13) (j := 0) (fs := []) (X := [0, 0, 0, 0, 0, 0]) jIQ_161_138 rfl rfl rfl rfl ?_
  refine jT_eq (LN := [(7, (0, 0)), (5, (1, q1)), (0, (4, 0)), (1, (0, r7)), (2, (0, r8)), (3, (4, 1)), (4, (0, 0))]) (stN := [(1, 0), (0, 0), (4, 9)]) (hsN := [jzQ_16, (4, [(4, 13), (1, 1)], []), (8, [(4, 14), (4, 15)], []), jgh, jgh, jgh, jgh, jgh, jgh, (101, [], [-q1, r7, r8, 0, 0, 0]), jgh, jgh, jgh, (101, [], [0, 0, 0, 0, 0, 0]), jgh, jgh]) rfl rfl rfl ?_
  refine jT_xaload_n (v := (4, 0)) (pcN := 140) jIQ_161_139 rfl rfl rfl ?_
  refine jT_xgetf (a := 0) (t := 1) (ci := 13) (fi := 7) (c := jzQ_16) (v := (4, 9)) (pcN := 143) jIQ_161_140 rfl rfl rfl rfl rfl rfl rfl ?_
  refine jT_xiload (v := (0, 0)) (pcN := 145) jIQ_161_143 rfl rfl rfl ?_
  refine jT_lald (x := -q1) (a := 9) (j := 0) (fs := []) (X := [-q1, r7, r8, 0, 0, 0]) jIQ_161_145 rfl rfl rfl rfl ?_
  refine jT_eq (LN := [(7, (0, 0)), (5, (1, q1)), (0, (4, 0)), (1, (0, r7)), (2, (0, r8)), (3, (4, 1)), (4, (0, 0))]) (stN := [(1, -q1), (1, 0), (0, 0), (4, 9)]) (hsN := [jzQ_16, (4, [(4, 13), (1, 1)], []), (8, [(4, 14), (4, 15)], []), jgh, jgh, jgh, jgh, jgh, jgh, (101, [], [-q1, r7, r8, 0, 0, 0]), jgh, jgh, jgh, (101, [], [0, 0, 0, 0, 0, 0]), jgh, jgh]) rfl rfl rfl ?_
  refine jT_xaload_n (v := (4, 1)) (pcN := 147) jIQ_161_146 rfl rfl rfl ?_
  refine jT_xgetf (a := 1) (t := 2) (ci := 4) (fi := 1) (c := (4, [(4, 13), (1, 1)], [])) (v := (1, 1)) (pcN := 150) jIQ_161_147 rfl rfl rfl rfl rfl rfl rfl ?_
  refine jT_xlmul (x := -q1) (y := 1) (z := -q1) (pcN := 151) jIQ_161_150 rfl (by omega) rfl ?_
  refine jT_xlsub (x := 0) (y := -q1) (z := q1) (pcN := 152) jIQ_161_151 rfl (by omega) rfl ?_
  refine jT_adv 1 (pcN := 153) (LN := [(7, (0, 0)), (5, (1, q1)), (0, (4, 0)), (1, (0, r7)), (2, (0, r8)), (3, (4, 1)), (4, (0, 0))]) (stN := []) (hsN := [jzQ_16, (4, [(4, 13), (1, 1)], []), (8, [(4, 14), (4, 15)], []), jgh, jgh, jgh, jgh, jgh, jgh, (101, [], [q1, r7, r8, 0, 0, 0]), jgh, jgh, jgh, (101, [], [0, 0, 0, 0, 0, 0]), jgh, jgh]) (c1 := 0) (s1 := 0) (c2 := 0) (s2 := 0) (by exact rfl) ?_ (by omega) (by omega)
  refine jT_xiinc (x := 0) (z := 1) (LN := [(7, (0, 1)), (5, (1, q1)), (0, (4, 0)), (1, (0, r7)), (2, (0, r8)), (3, (4, 1)), (4, (0, 0))]) (pcN := 156) jIQ_161_153 rfl rfl (by decide) rfl rfl ?_
  refine jT_xgoto (pcN := 119) jIQ_161_156 rfl ?_
  refine jT_xiload (v := (0, 1)) (pcN := 121) jIQ_161_119 rfl rfl rfl ?_
  refine jT_xbipush (k := 6) (pcN := 123) jIQ_161_121 (by decide) rfl ?_
  refine jT_xicF (t := 159) (pcN := 126) jIQ_161_123 rfl (by decide +kernel) rfl rfl ?_
  refine jT_xaload_n (v := (4, 0)) (pcN := 127) jIQ_161_126 rfl rfl rfl ?_
  refine jT_xgetf (a := 0) (t := 1) (ci := 13) (fi := 7) (c := jzQ_16) (v := (4, 9)) (pcN := 130) jIQ_161_127 rfl rfl rfl rfl rfl rfl rfl ?_
  refine jT_xiload (v := (0, 1)) (pcN := 132) jIQ_161_130 rfl rfl rfl ?_
  refine jT_xaload_n (v := (4, 1)) (pcN := 133) jIQ_161_132 rfl rfl rfl ?_
  refine jT_xgetf (a := 1) (t := 2) (ci := 4) (fi := 0) (c := (4, [(4, 13), (1, 1)], [])) (v := (4, 13)) (pcN := 136) jIQ_161_133 rfl rfl rfl rfl rfl rfl rfl ?_
  refine jT_xiload (v := (0, 1)) (pcN := 138) jIQ_161_136 rfl rfl rfl ?_
  refine jT_lald (x := 0) (a := 13) (j := 1) (fs := []) (X := [0, 0, 0, 0, 0, 0]) jIQ_161_138 rfl rfl rfl rfl ?_
  refine jT_eq (LN := [(7, (0, 1)), (5, (1, q1)), (0, (4, 0)), (1, (0, r7)), (2, (0, r8)), (3, (4, 1)), (4, (0, 0))]) (stN := [(1, 0), (0, 1), (4, 9)]) (hsN := [jzQ_16, (4, [(4, 13), (1, 1)], []), (8, [(4, 14), (4, 15)], []), jgh, jgh, jgh, jgh, jgh, jgh, (101, [], [q1, r7, r8, 0, 0, 0]), jgh, jgh, jgh, (101, [], [0, 0, 0, 0, 0, 0]), jgh, jgh]) rfl rfl rfl ?_
  refine jT_xaload_n (v := (4, 0)) (pcN := 140) jIQ_161_139 rfl rfl rfl ?_
  refine jT_xgetf (a := 0) (t := 1) (ci := 13) (fi := 7) (c := jzQ_16) (v := (4, 9)) (pcN := 143) jIQ_161_140 rfl rfl rfl rfl rfl rfl rfl ?_
  refine jT_xiload (v := (0, 1)) (pcN := 145) jIQ_161_143 rfl rfl rfl ?_
  refine jT_lald (x := r7) (a := 9) (j := 1) (fs := []) (X := [q1, r7, r8, 0, 0, 0]) jIQ_161_145 rfl rfl rfl rfl ?_
  refine jT_eq (LN := [(7, (0, 1)), (5, (1, q1)), (0, (4, 0)), (1, (0, r7)), (2, (0, r8)), (3, (4, 1)), (4, (0, 0))]) (stN := [(1, r7), (1, 0), (0, 1), (4, 9)]) (hsN := [jzQ_16, (4, [(4, 13), (1, 1)], []), (8, [(4, 14), (4, 15)], []), jgh, jgh, jgh, jgh, jgh, jgh, (101, [], [q1, r7, r8, 0, 0, 0]), jgh, jgh, jgh, (101, [], [0, 0, 0, 0, 0, 0]), jgh, jgh]) rfl rfl rfl ?_
  refine jT_xaload_n (v := (4, 1)) (pcN := 147) jIQ_161_146 rfl rfl rfl ?_
  refine jT_xgetf (a := 1) (t := 2) (ci := 4) (fi := 1) (c := (4, [(4, 13), (1, 1)], [])) (v := (1, 1)) (pcN := 150) jIQ_161_147 rfl rfl rfl rfl rfl rfl rfl ?_
  refine jT_xlmul (x := r7) (y := 1) (z := r7) (pcN := 151) jIQ_161_150 rfl (by omega) rfl ?_
  refine jT_xlsub (x := 0) (y := r7) (z := -r7) (pcN := 152) jIQ_161_151 rfl (by omega) rfl ?_
  refine jT_adv 1 (pcN := 153) (LN := [(7, (0, 1)), (5, (1, q1)), (0, (4, 0)), (1, (0, r7)), (2, (0, r8)), (3, (4, 1)), (4, (0, 0))]) (stN := []) (hsN := [jzQ_16, (4, [(4, 13), (1, 1)], []), (8, [(4, 14), (4, 15)], []), jgh, jgh, jgh, jgh, jgh, jgh, (101, [], [q1, -r7, r8, 0, 0, 0]), jgh, jgh, jgh, (101, [], [0, 0, 0, 0, 0, 0]), jgh, jgh]) (c1 := 0) (s1 := 0) (c2 := 0) (s2 := 0) (by exact rfl) ?_ (by omega) (by omega)
  refine jT_xiinc (x := 1) (z := 2) (LN := [(7, (0, 2)), (5, (1, q1)), (0, (4, 0)), (1, (0, r7)), (2, (0, r8)), (3, (4, 1)), (4, (0, 0))]) (pcN := 156) jIQ_161_153 rfl rfl (by decide) rfl rfl ?_
  refine jT_xgoto (pcN := 119) jIQ_161_156 rfl ?_
  refine jT_xiload (v := (0, 2)) (pcN := 121) jIQ_161_119 rfl rfl rfl ?_
  refine jT_xbipush (k := 6) (pcN := 123) jIQ_161_121 (by decide) rfl ?_
  refine jT_xicF (t := 159) (pcN := 126) jIQ_161_123 rfl (by decide +kernel) rfl rfl ?_
  refine jT_xaload_n (v := (4, 0)) (pcN := 127) jIQ_161_126 rfl rfl rfl ?_
  refine jT_xgetf (a := 0) (t := 1) (ci := 13) (fi := 7) (c := jzQ_16) (v := (4, 9)) (pcN := 130) jIQ_161_127 rfl rfl rfl rfl rfl rfl rfl ?_
  refine jT_xiload (v := (0, 2)) (pcN := 132) jIQ_161_130 rfl rfl rfl ?_
  refine jT_xaload_n (v := (4, 1)) (pcN := 133) jIQ_161_132 rfl rfl rfl ?_
  refine jT_xgetf (a := 1) (t := 2) (ci := 4) (fi := 0) (c := (4, [(4, 13), (1, 1)], [])) (v := (4, 13)) (pcN := 136) jIQ_161_133 rfl rfl rfl rfl rfl rfl rfl ?_
  refine jT_xiload (v := (0, 2)) (pcN := 138) jIQ_161_136 rfl rfl rfl ?_
  refine jT_lald (x := 0) (a := 13) (j := 2) (fs := []) (X := [0, 0, 0, 0, 0, 0]) jIQ_161_138 rfl rfl rfl rfl ?_
  refine jT_eq (LN := [(7, (0, 2)), (5, (1, q1)), (0, (4, 0)), (1, (0, r7)), (2, (0, r8)), (3, (4, 1)), (4, (0, 0))]) (stN := [(1, 0), (0, 2), (4, 9)]) (hsN := [jzQ_16, (4, [(4, 13), (1, 1)], []), (8, [(4, 14), (4, 15)], []), jgh, jgh, jgh, jgh, jgh, jgh, (101, [], [q1, -r7, r8, 0, 0, 0]), jgh, jgh, jgh, (101, [], [0, 0, 0, 0, 0, 0]), jgh, jgh]) rfl rfl rfl ?_
  refine jT_xaload_n (v := (4, 0)) (pcN := 140) jIQ_161_139 rfl rfl rfl ?_
  refine jT_xgetf (a := 0) (t := 1) (ci := 13) (fi := 7) (c := jzQ_16) (v := (4, 9)) (pcN := 143) jIQ_161_140 rfl rfl rfl rfl rfl rfl rfl ?_
  refine jT_xiload (v := (0, 2)) (pcN := 145) jIQ_161_143 rfl rfl rfl ?_
  refine jT_lald (x := r8) (a := 9) (j := 2) (fs := []) (X := [q1, -r7, r8, 0, 0, 0]) jIQ_161_145 rfl rfl rfl rfl ?_
  refine jT_eq (LN := [(7, (0, 2)), (5, (1, q1)), (0, (4, 0)), (1, (0, r7)), (2, (0, r8)), (3, (4, 1)), (4, (0, 0))]) (stN := [(1, r8), (1, 0), (0, 2), (4, 9)]) (hsN := [jzQ_16, (4, [(4, 13), (1, 1)], []), (8, [(4, 14), (4, 15)], []), jgh, jgh, jgh, jgh, jgh, jgh, (101, [], [q1, -r7, r8, 0, 0, 0]), jgh, jgh, jgh, (101, [], [0, 0, 0, 0, 0, 0]), jgh, jgh]) rfl rfl rfl ?_
  refine jT_xaload_n (v := (4, 1)) (pcN := 147) jIQ_161_146 rfl rfl rfl ?_
  refine jT_xgetf (a := 1) (t := 2) (ci := 4) (fi := 1) (c := (4, [(4, 13), (1, 1)], [])) (v := (1, 1)) (pcN := 150) jIQ_161_147 rfl rfl rfl rfl rfl rfl rfl ?_
  refine jT_xlmul (x := r8) (y := 1) (z := r8) (pcN := 151) jIQ_161_150 rfl (by omega) rfl ?_
  refine jT_xlsub (x := 0) (y := r8) (z := -r8) (pcN := 152) jIQ_161_151 rfl (by omega) rfl ?_
  refine jT_adv 1 (pcN := 153) (LN := [(7, (0, 2)), (5, (1, q1)), (0, (4, 0)), (1, (0, r7)), (2, (0, r8)), (3, (4, 1)), (4, (0, 0))]) (stN := []) (hsN := [jzQ_16, (4, [(4, 13), (1, 1)], []), (8, [(4, 14), (4, 15)], []), jgh, jgh, jgh, jgh, jgh, jgh, (101, [], [q1, -r7, -r8, 0, 0, 0]), jgh, jgh, jgh, (101, [], [0, 0, 0, 0, 0, 0]), jgh, jgh]) (c1 := 0) (s1 := 0) (c2 := 0) (s2 := 0) (by exact rfl) ?_ (by omega) (by omega)
  refine jT_xiinc (x := 2) (z := 3) (LN := [(7, (0, 3)), (5, (1, q1)), (0, (4, 0)), (1, (0, r7)), (2, (0, r8)), (3, (4, 1)), (4, (0, 0))]) (pcN := 156) jIQ_161_153 rfl rfl (by decide) rfl rfl ?_
  refine jT_xgoto (pcN := 119) jIQ_161_156 rfl ?_
  refine jT_xiload (v := (0, 3)) (pcN := 121) jIQ_161_119 rfl rfl rfl ?_
  refine jT_xbipush (k := 6) (pcN := 123) jIQ_161_121 (by decide) rfl ?_
  refine jT_xicF (t := 159) (pcN := 126) jIQ_161_123 rfl (by decide +kernel) rfl rfl ?_
  refine jT_xaload_n (v := (4, 0)) (pcN := 127) jIQ_161_126 rfl rfl rfl ?_
  refine jT_xgetf (a := 0) (t := 1) (ci := 13) (fi := 7) (c := jzQ_16) (v := (4, 9)) (pcN := 130) jIQ_161_127 rfl rfl rfl rfl rfl rfl rfl ?_
  refine jT_xiload (v := (0, 3)) (pcN := 132) jIQ_161_130 rfl rfl rfl ?_
  refine jT_xaload_n (v := (4, 1)) (pcN := 133) jIQ_161_132 rfl rfl rfl ?_
  refine jT_xgetf (a := 1) (t := 2) (ci := 4) (fi := 0) (c := (4, [(4, 13), (1, 1)], [])) (v := (4, 13)) (pcN := 136) jIQ_161_133 rfl rfl rfl rfl rfl rfl rfl ?_
  refine jT_xiload (v := (0, 3)) (pcN := 138) jIQ_161_136 rfl rfl rfl ?_
  refine jT_lald (x := 0) (a := 13) (j := 3) (fs := []) (X := [0, 0, 0, 0, 0, 0]) jIQ_161_138 rfl rfl rfl rfl ?_
  refine jT_eq (LN := [(7, (0, 3)), (5, (1, q1)), (0, (4, 0)), (1, (0, r7)), (2, (0, r8)), (3, (4, 1)), (4, (0, 0))]) (stN := [(1, 0), (0, 3), (4, 9)]) (hsN := [jzQ_16, (4, [(4, 13), (1, 1)], []), (8, [(4, 14), (4, 15)], []), jgh, jgh, jgh, jgh, jgh, jgh, (101, [], [q1, -r7, -r8, 0, 0, 0]), jgh, jgh, jgh, (101, [], [0, 0, 0, 0, 0, 0]), jgh, jgh]) rfl rfl rfl ?_
  refine jT_xaload_n (v := (4, 0)) (pcN := 140) jIQ_161_139 rfl rfl rfl ?_
  refine jT_xgetf (a := 0) (t := 1) (ci := 13) (fi := 7) (c := jzQ_16) (v := (4, 9)) (pcN := 143) jIQ_161_140 rfl rfl rfl rfl rfl rfl rfl ?_
  refine jT_xiload (v := (0, 3)) (pcN := 145) jIQ_161_143 rfl rfl rfl ?_
  refine jT_lald (x := 0) (a := 9) (j := 3) (fs := []) (X := [q1, -r7, -r8, 0, 0, 0]) jIQ_161_145 rfl rfl rfl rfl ?_
  refine jT_eq (LN := [(7, (0, 3)), (5, (1, q1)), (0, (4, 0)), (1, (0, r7)), (2, (0, r8)), (3, (4, 1)), (4, (0, 0))]) (stN := [(1, 0), (1, 0), (0, 3), (4, 9)]) (hsN := [jzQ_16, (4, [(4, 13), (1, 1)], []), (8, [(4, 14), (4, 15)], []), jgh, jgh, jgh, jgh, jgh, jgh, (101, [], [q1, -r7, -r8, 0, 0, 0]), jgh, jgh, jgh, (101, [], [0, 0, 0, 0, 0, 0]), jgh, jgh]) rfl rfl rfl ?_
  refine jT_xaload_n (v := (4, 1)) (pcN := 147) jIQ_161_146 rfl rfl rfl ?_
  refine jT_xgetf (a := 1) (t := 2) (ci := 4) (fi := 1) (c := (4, [(4, 13), (1, 1)], [])) (v := (1, 1)) (pcN := 150) jIQ_161_147 rfl rfl rfl rfl rfl rfl rfl ?_
  refine jT_xlmul (x := 0) (y := 1) (z := 0) (pcN := 151) jIQ_161_150 rfl (by decide) rfl ?_
  refine jT_xlsub (x := 0) (y := 0) (z := 0) (pcN := 152) jIQ_161_151 rfl (by decide) rfl ?_
  refine jT_adv 1 (pcN := 153) (LN := [(7, (0, 3)), (5, (1, q1)), (0, (4, 0)), (1, (0, r7)), (2, (0, r8)), (3, (4, 1)), (4, (0, 0))]) (stN := []) (hsN := [jzQ_16, (4, [(4, 13), (1, 1)], []), (8, [(4, 14), (4, 15)], []), jgh, jgh, jgh, jgh, jgh, jgh, (101, [], [q1, -r7, -r8, 0, 0, 0]), jgh, jgh, jgh, (101, [], [0, 0, 0, 0, 0, 0]), jgh, jgh]) (c1 := 0) (s1 := 0) (c2 := 0) (s2 := 0) (by exact rfl) ?_ (by omega) (by omega)
  refine jT_xiinc (x := 3) (z := 4) (LN := [(7, (0, 4)), (5, (1, q1)), (0, (4, 0)), (1, (0, r7)), (2, (0, r8)), (3, (4, 1)), (4, (0, 0))]) (pcN := 156) jIQ_161_153 rfl rfl (by decide) rfl rfl ?_
  refine jT_xgoto (pcN := 119) jIQ_161_156 rfl ?_
  refine jT_xiload (v := (0, 4)) (pcN := 121) jIQ_161_119 rfl rfl rfl ?_
  refine jT_xbipush (k := 6) (pcN := 123) jIQ_161_121 (by decide) rfl ?_
  refine jT_xicF (t := 159) (pcN := 126) jIQ_161_123 rfl (by decide +kernel) rfl rfl ?_
  refine jT_xaload_n (v := (4, 0)) (pcN := 127) jIQ_161_126 rfl rfl rfl ?_
  refine jT_xgetf (a := 0) (t := 1) (ci := 13) (fi := 7) (c := jzQ_16) (v := (4, 9)) (pcN := 130) jIQ_161_127 rfl rfl rfl rfl rfl rfl rfl ?_
  refine jT_xiload (v := (0, 4)) (pcN := 132) jIQ_161_130 rfl rfl rfl ?_
  refine jT_xaload_n (v := (4, 1)) (pcN := 133) jIQ_161_132 rfl rfl rfl ?_
  refine jT_xgetf (a := 1) (t := 2) (ci := 4) (fi := 0) (c := (4, [(4, 13), (1, 1)], [])) (v := (4, 13)) (pcN := 136) jIQ_161_133 rfl rfl rfl rfl rfl rfl rfl ?_
  refine jT_xiload (v := (0, 4)) (pcN := 138) jIQ_161_136 rfl rfl rfl ?_
  refine jT_lald (x := 0) (a := 13) (j := 4) (fs := []) (X := [0, 0, 0, 0, 0, 0]) jIQ_161_138 rfl rfl rfl rfl ?_
  refine jT_eq (LN := [(7, (0, 4)), (5, (1, q1)), (0, (4, 0)), (1, (0, r7)), (2, (0, r8)), (3, (4, 1)), (4, (0, 0))]) (stN := [(1, 0), (0, 4), (4, 9)]) (hsN := [jzQ_16, (4, [(4, 13), (1, 1)], []), (8, [(4, 14), (4, 15)], []), jgh, jgh, jgh, jgh, jgh, jgh, (101, [], [q1, -r7, -r8, 0, 0, 0]), jgh, jgh, jgh, (101, [], [0, 0, 0, 0, 0, 0]), jgh, jgh]) rfl rfl rfl ?_
  refine jT_xaload_n (v := (4, 0)) (pcN := 140) jIQ_161_139 rfl rfl rfl ?_
  refine jT_xgetf (a := 0) (t := 1) (ci := 13) (fi := 7) (c := jzQ_16) (v := (4, 9)) (pcN := 143) jIQ_161_140 rfl rfl rfl rfl rfl rfl rfl ?_
  refine jT_xiload (v := (0, 4)) (pcN := 145) jIQ_161_143 rfl rfl rfl ?_
  refine jT_lald (x := 0) (a := 9) (j := 4) (fs := []) (X := [q1, -r7, -r8, 0, 0, 0]) jIQ_161_145 rfl rfl rfl rfl ?_
  refine jT_eq (LN := [(7, (0, 4)), (5, (1, q1)), (0, (4, 0)), (1, (0, r7)), (2, (0, r8)), (3, (4, 1)), (4, (0, 0))]) (stN := [(1, 0), (1, 0), (0, 4), (4, 9)]) (hsN := [jzQ_16, (4, [(4, 13), (1, 1)], []), (8, [(4, 14), (4, 15)], []), jgh, jgh, jgh, jgh, jgh, jgh, (101, [], [q1, -r7, -r8, 0, 0, 0]), jgh, jgh, jgh, (101, [], [0, 0, 0, 0, 0, 0]), jgh, jgh]) rfl rfl rfl ?_
  refine jT_xaload_n (v := (4, 1)) (pcN := 147) jIQ_161_146 rfl rfl rfl ?_
  refine jT_xgetf (a := 1) (t := 2) (ci := 4) (fi := 1) (c := (4, [(4, 13), (1, 1)], [])) (v := (1, 1)) (pcN := 150) jIQ_161_147 rfl rfl rfl rfl rfl rfl rfl ?_
  refine jT_xlmul (x := 0) (y := 1) (z := 0) (pcN := 151) jIQ_161_150 rfl (by decide) rfl ?_
  refine jT_xlsub (x := 0) (y := 0) (z := 0) (pcN := 152) jIQ_161_151 rfl (by decide) rfl ?_
  refine jT_adv 1 (pcN := 153) (LN := [(7, (0, 4)), (5, (1, q1)), (0, (4, 0)), (1, (0, r7)), (2, (0, r8)), (3, (4, 1)), (4, (0, 0))]) (stN := []) (hsN := [jzQ_16, (4, [(4, 13), (1, 1)], []), (8, [(4, 14), (4, 15)], []), jgh, jgh, jgh, jgh, jgh, jgh, (101, [], [q1, -r7, -r8, 0, 0, 0]), jgh, jgh, jgh, (101, [], [0, 0, 0, 0, 0, 0]), jgh, jgh]) (c1 := 0) (s1 := 0) (c2 := 0) (s2 := 0) (by exact rfl) ?_ (by omega) (by omega)
  refine jT_xiinc (x := 4) (z := 5) (LN := [(7, (0, 5)), (5, (1, q1)), (0, (4, 0)), (1, (0, r7)), (2, (0, r8)), (3, (4, 1)), (4, (0, 0))]) (pcN := 156) jIQ_161_153 rfl rfl (by decide) rfl rfl ?_
  refine jT_xgoto (pcN := 119) jIQ_161_156 rfl ?_
  refine jT_xiload (v := (0, 5)) (pcN := 121) jIQ_161_119 rfl rfl rfl ?_
  refine jT_xbipush (k := 6) (pcN := 123) jIQ_161_121 (by decide) rfl ?_
  refine jT_xicF (t := 159) (pcN := 126) jIQ_161_123 rfl (by decide +kernel) rfl rfl ?_
  refine jT_xaload_n (v := (4, 0)) (pcN := 127) jIQ_161_126 rfl rfl rfl ?_
  refine jT_xgetf (a := 0) (t := 1) (ci := 13) (fi := 7) (c := jzQ_16) (v := (4, 9)) (pcN := 130) jIQ_161_127 rfl rfl rfl rfl rfl rfl rfl ?_
  refine jT_xiload (v := (0, 5)) (pcN := 132) jIQ_161_130 rfl rfl rfl ?_
  refine jT_xaload_n (v := (4, 1)) (pcN := 133) jIQ_161_132 rfl rfl rfl ?_
  refine jT_xgetf (a := 1) (t := 2) (ci := 4) (fi := 0) (c := (4, [(4, 13), (1, 1)], [])) (v := (4, 13)) (pcN := 136) jIQ_161_133 rfl rfl rfl rfl rfl rfl rfl ?_
  refine jT_xiload (v := (0, 5)) (pcN := 138) jIQ_161_136 rfl rfl rfl ?_
  refine jT_lald (x := 0) (a := 13) (j := 5) (fs := []) (X := [0, 0, 0, 0, 0, 0]) jIQ_161_138 rfl rfl rfl rfl ?_
  refine jT_eq (LN := [(7, (0, 5)), (5, (1, q1)), (0, (4, 0)), (1, (0, r7)), (2, (0, r8)), (3, (4, 1)), (4, (0, 0))]) (stN := [(1, 0), (0, 5), (4, 9)]) (hsN := [jzQ_16, (4, [(4, 13), (1, 1)], []), (8, [(4, 14), (4, 15)], []), jgh, jgh, jgh, jgh, jgh, jgh, (101, [], [q1, -r7, -r8, 0, 0, 0]), jgh, jgh, jgh, (101, [], [0, 0, 0, 0, 0, 0]), jgh, jgh]) rfl rfl rfl ?_
  refine jT_xaload_n (v := (4, 0)) (pcN := 140) jIQ_161_139 rfl rfl rfl ?_
  refine jT_xgetf (a := 0) (t := 1) (ci := 13) (fi := 7) (c := jzQ_16) (v := (4, 9)) (pcN := 143) jIQ_161_140 rfl rfl rfl rfl rfl rfl rfl ?_
  refine jT_xiload (v := (0, 5)) (pcN := 145) jIQ_161_143 rfl rfl rfl ?_
  refine jT_lald (x := 0) (a := 9) (j := 5) (fs := []) (X := [q1, -r7, -r8, 0, 0, 0]) jIQ_161_145 rfl rfl rfl rfl ?_
  refine jT_eq (LN := [(7, (0, 5)), (5, (1, q1)), (0, (4, 0)), (1, (0, r7)), (2, (0, r8)), (3, (4, 1)), (4, (0, 0))]) (stN := [(1, 0), (1, 0), (0, 5), (4, 9)]) (hsN := [jzQ_16, (4, [(4, 13), (1, 1)], []), (8, [(4, 14), (4, 15)], []), jgh, jgh, jgh, jgh, jgh, jgh, (101, [], [q1, -r7, -r8, 0, 0, 0]), jgh, jgh, jgh, (101, [], [0, 0, 0, 0, 0, 0]), jgh, jgh]) rfl rfl rfl ?_
  refine jT_xaload_n (v := (4, 1)) (pcN := 147) jIQ_161_146 rfl rfl rfl ?_
  refine jT_xgetf (a := 1) (t := 2) (ci := 4) (fi := 1) (c := (4, [(4, 13), (1, 1)], [])) (v := (1, 1)) (pcN := 150) jIQ_161_147 rfl rfl rfl rfl rfl rfl rfl ?_
  refine jT_xlmul (x := 0) (y := 1) (z := 0) (pcN := 151) jIQ_161_150 rfl (by decide) rfl ?_
  refine jT_xlsub (x := 0) (y := 0) (z := 0) (pcN := 152) jIQ_161_151 rfl (by decide) rfl ?_
  refine jT_adv 1 (pcN := 153) (LN := [(7, (0, 5)), (5, (1, q1)), (0, (4, 0)), (1, (0, r7)), (2, (0, r8)), (3, (4, 1)), (4, (0, 0))]) (stN := []) (hsN := [jzQ_16, (4, [(4, 13), (1, 1)], []), (8, [(4, 14), (4, 15)], []), jgh, jgh, jgh, jgh, jgh, jgh, (101, [], [q1, -r7, -r8, 0, 0, 0]), jgh, jgh, jgh, (101, [], [0, 0, 0, 0, 0, 0]), jgh, jgh]) (c1 := 0) (s1 := 0) (c2 := 0) (s2 := 0) (by exact rfl) ?_ (by omega) (by omega)
  refine jT_xiinc (x := 5) (z := 6) (LN := [(7, (0, 6)), (5, (1, q1)), (0, (4, 0)), (1, (0, r7)), (2, (0, r8)), (3, (4, 1)), (4, (0, 0))]) (pcN := 156) jIQ_161_153 rfl rfl (by decide) rfl rfl ?_
  refine jT_xgoto (pcN := 119) jIQ_161_156 rfl ?_
  refine jT_xiload (v := (0, 6)) (pcN := 121) jIQ_161_119 rfl rfl rfl ?_
  refine jT_xbipush (k := 6) (pcN := 123) jIQ_161_121 (by decide) rfl ?_
  refine jT_xicT (pcN := 159) jIQ_161_123 rfl (by decide +kernel) rfl ?_
  refine jT_xaload_n (v := (4, 0)) (pcN := 160) jIQ_161_159 rfl rfl rfl ?_
  refine jT_xgetf (a := 0) (t := 1) (ci := 13) (fi := 0) (c := jzQ_16) (v := (4, 2)) (pcN := 163) jIQ_161_160 rfl rfl rfl rfl rfl rfl rfl ?_
  refine jT_xaload_n (v := (4, 0)) (pcN := 164) jIQ_161_163 rfl rfl rfl ?_
  refine jT_xgetf (a := 0) (t := 1) (ci := 13) (fi := 7) (c := jzQ_16) (v := (4, 9)) (pcN := 167) jIQ_161_164 rfl rfl rfl rfl rfl rfl rfl ?_
  refine jT_callA [2, 9, 14, 15] (y := 38) (pcN := 170) (dC := 1) (bc1 := 0) (bc2 := 0) (c1 := 0) (c2 := 0) (as := [(4, 2), (4, 9)]) (asC := [(4, 0), (4, 1)]) (LN := [(7, (0, 6)), (5, (1, q1)), (0, (4, 0)), (1, (0, r7)), (2, (0, r8)), (3, (4, 1)), (4, (0, 0))]) (stN := []) (hsC := [(8, [(4, 2), (4, 3)], []), (101, [], [q1, -r7, -r8, 0, 0, 0]), jgh, jgh]) (ex := []) (v := (0, (-1))) (st2 := [(0, (-1))]) (hs2 := [jzQ_16, (4, [(4, 13), (1, 1)], []), (8, [(4, 14), (4, 15)], []), jgh, jgh, jgh, jgh, jgh, jgh, (101, [], [q1, -r7, -r8, 0, 0, 0]), jgh, jgh, jgh, (101, [], [0, 0, 0, 0, 0, 0]), jgh, jgh]) (jQl_sp38_117 (d := 0) (by omega) (by omega) (by omega) (by omega) (by omega) (by omega) (by omega)) (by rfl) (by rfl) (by rfl) (by rfl) ⟨rfl, rfl, rfl, rfl, trivial⟩ (by rfl) (by rfl) (by omega) (by show 16 ≤ 16; omega) (by omega) (by omega) rfl rfl ?_
  refine jT_xifT (pcN := 177) jIQ_161_170 rfl (by decide +kernel) rfl ?_
  refine jT_xiconst (k := 0) (pcN := 178) jIQ_161_177 rfl ?_
  subst hq_q1
  exact jT_ret rfl (by decide) (by show 16 ≤ 16; omega) (by omega) (by omega) ⟨rfl, rfl, rfl⟩
theorem jQ_161_132 {xs : List Int} {d : Nat} {r7 r8 u9_0 u9_1 u9_2 u9_3 u9_4 u9_5 : Int} (h_r7 : (-20) ≤ r7 ∧ r7 ≤ 20) (h_r8 : (-10) ≤ r8 ∧ r8 ≤ 10) (g_0 : 0 ≤ r7) (g_1 : r7 ≤ 0) (g_2 : r8 < 0) : jT xs (d + 2) 161 16 0 [(0, (4, 0)), (1, (0, r7)), (2, (0, r8)), (3, (4, 1)), (4, (0, 0))] [] [jzQ_16, (4, [(4, 13), (1, 1)], []), (8, [(4, 14), (4, 15)], []), jgh, jgh, jgh, jgh, jgh, jgh, (101, [], [u9_0, u9_1, u9_2, u9_3, u9_4, u9_5]), jgh, jgh, jgh, (101, [], [0, 0, 0, 0, 0, 0]), jgh, jgh] 0 0 (fun k v hsN => k = 0 ∧ v = (0, 0) ∧ hsN = [jzQ_16, (4, [(4, 13), (1, 1)], []), (8, [(4, 14), (4, 15)], []), jgh, jgh, jgh, jgh, jgh, jgh, (101, [], [(108917793695 * r7 + 159561683699 * r8) / 68719476736, -r7, -r8, 0, 0, 0]), jgh, jgh, jgh, (101, [], [0, 0, 0, 0, 0, 0]), jgh, jgh]) := by
  refine jT_xiload_n (v := (0, r7)) (pcN := 1) jIQ_161_0 rfl rfl rfl ?_
  refine jT_ifF (a := r7) (t := 10) (by rfl) (by rfl) (by rfl) (jw_idd (by omega) (by omega)) (by simp only [jcP] <;> omega) ?_
  refine jT_xiload_n (v := (0, r8)) (pcN := 5) jIQ_161_4 rfl rfl rfl ?_
  refine jT_ifT (a := r8) (t := 10) (by rfl) (by rfl) (by rfl) (jw_idd (by omega) (by omega)) (by simp only [jcP] <;> omega) ?_
  refine jT_xiconst (k := 0) (pcN := 11) jIQ_161_10 rfl ?_
  refine jT_xistore (v := (0, 0)) (LN := [(5, (0, 0)), (0, (4, 0)), (1, (0, r7)), (2, (0, r8)), (3, (4, 1)), (4, (0, 0))]) (pcN := 13) jIQ_161_11 rfl rfl rfl rfl ?_
  refine jT_xiload (v := (0, 0)) (pcN := 15) jIQ_161_13 rfl rfl rfl ?_
  refine jT_xbipush (k := 6) (pcN := 17) jIQ_161_15 (by decide) rfl ?_
  refine jT_xicF (t := 56) (pcN := 20) jIQ_161_17 rfl (by decide +kernel) rfl rfl ?_
  refine jT_xaload_n (v := (4, 0)) (pcN := 21) jIQ_161_20 rfl rfl rfl ?_
  refine jT_xgetf (a := 0) (t := 1) (ci := 13) (fi := 7) (c := jzQ_16) (v := (4, 9)) (pcN := 24) jIQ_161_21 rfl rfl rfl rfl rfl rfl rfl ?_
  refine jT_xiload (v := (0, 0)) (pcN := 26) jIQ_161_24 rfl rfl rfl ?_
  refine jT_xiload (v := (0, 0)) (pcN := 28) jIQ_161_26 rfl rfl rfl ?_
  refine jT_xiconst (k := 1) (pcN := 29) jIQ_161_28 rfl ?_
  refine jT_xicT (pcN := 37) jIQ_161_29 rfl (by decide +kernel) rfl ?_
  refine jT_xiload (v := (0, 0)) (pcN := 39) jIQ_161_37 rfl rfl rfl ?_
  refine jT_xiconst (k := 2) (pcN := 40) jIQ_161_39 rfl ?_
  refine jT_xicT (pcN := 48) jIQ_161_40 rfl (by decide +kernel) rfl ?_
  refine jT_xlconst (z := 0) (pcN := 49) jIQ_161_48 rfl rfl ?_
  refine jT_adv 1 (pcN := 50) (LN := [(5, (0, 0)), (0, (4, 0)), (1, (0, r7)), (2, (0, r8)), (3, (4, 1)), (4, (0, 0))]) (stN := []) (hsN := [jzQ_16, (4, [(4, 13), (1, 1)], []), (8, [(4, 14), (4, 15)], []), jgh, jgh, jgh, jgh, jgh, jgh, (101, [], [0, u9_1, u9_2, u9_3, u9_4, u9_5]), jgh, jgh, jgh, (101, [], [0, 0, 0, 0, 0, 0]), jgh, jgh]) (c1 := 0) (s1 := 0) (c2 := 0) (s2 := 0) (by exact rfl) ?_ (by omega) (by omega)
  refine jT_xiinc (x := 0) (z := 1) (LN := [(5, (0, 1)), (0, (4, 0)), (1, (0, r7)), (2, (0, r8)), (3, (4, 1)), (4, (0, 0))]) (pcN := 53) jIQ_161_50 rfl rfl (by decide) rfl rfl ?_
  refine jT_xgoto (pcN := 13) jIQ_161_53 rfl ?_
  refine jT_xiload (v := (0, 1)) (pcN := 15) jIQ_161_13 rfl rfl rfl ?_
  refine jT_xbipush (k := 6) (pcN := 17) jIQ_161_15 (by decide) rfl ?_
  refine jT_xicF (t := 56) (pcN := 20) jIQ_161_17 rfl (by decide +kernel) rfl rfl ?_
  refine jT_xaload_n (v := (4, 0)) (pcN := 21) jIQ_161_20 rfl rfl rfl ?_
  refine jT_xgetf (a := 0) (t := 1) (ci := 13) (fi := 7) (c := jzQ_16) (v := (4, 9)) (pcN := 24) jIQ_161_21 rfl rfl rfl rfl rfl rfl rfl ?_
  refine jT_xiload (v := (0, 1)) (pcN := 26) jIQ_161_24 rfl rfl rfl ?_
  refine jT_xiload (v := (0, 1)) (pcN := 28) jIQ_161_26 rfl rfl rfl ?_
  refine jT_xiconst (k := 1) (pcN := 29) jIQ_161_28 rfl ?_
  refine jT_xicF (t := 37) (pcN := 32) jIQ_161_29 rfl (by decide +kernel) rfl rfl ?_
  refine jT_xiload_n (v := (0, r7)) (pcN := 33) jIQ_161_32 rfl rfl rfl ?_
  refine jT_xi2l (x := r7) (z := r7) (pcN := 34) jIQ_161_33 rfl (jw_idd (by omega) (by omega)) rfl ?_
  refine jT_xgoto (pcN := 49) jIQ_161_34 rfl ?_
  refine jT_adv 1 (pcN := 50) (LN := [(5, (0, 1)), (0, (4, 0)), (1, (0, r7)), (2, (0, r8)), (3, (4, 1)), (4, (0, 0))]) (stN := []) (hsN := [jzQ_16, (4, [(4, 13), (1, 1)], []), (8, [(4, 14), (4, 15)], []), jgh, jgh, jgh, jgh, jgh, jgh, (101, [], [0, r7, u9_2, u9_3, u9_4, u9_5]), jgh, jgh, jgh, (101, [], [0, 0, 0, 0, 0, 0]), jgh, jgh]) (c1 := 0) (s1 := 0) (c2 := 0) (s2 := 0) (by exact rfl) ?_ (by omega) (by omega)
  refine jT_xiinc (x := 1) (z := 2) (LN := [(5, (0, 2)), (0, (4, 0)), (1, (0, r7)), (2, (0, r8)), (3, (4, 1)), (4, (0, 0))]) (pcN := 53) jIQ_161_50 rfl rfl (by decide) rfl rfl ?_
  refine jT_xgoto (pcN := 13) jIQ_161_53 rfl ?_
  refine jT_xiload (v := (0, 2)) (pcN := 15) jIQ_161_13 rfl rfl rfl ?_
  refine jT_xbipush (k := 6) (pcN := 17) jIQ_161_15 (by decide) rfl ?_
  refine jT_xicF (t := 56) (pcN := 20) jIQ_161_17 rfl (by decide +kernel) rfl rfl ?_
  refine jT_xaload_n (v := (4, 0)) (pcN := 21) jIQ_161_20 rfl rfl rfl ?_
  refine jT_xgetf (a := 0) (t := 1) (ci := 13) (fi := 7) (c := jzQ_16) (v := (4, 9)) (pcN := 24) jIQ_161_21 rfl rfl rfl rfl rfl rfl rfl ?_
  refine jT_xiload (v := (0, 2)) (pcN := 26) jIQ_161_24 rfl rfl rfl ?_
  refine jT_xiload (v := (0, 2)) (pcN := 28) jIQ_161_26 rfl rfl rfl ?_
  refine jT_xiconst (k := 1) (pcN := 29) jIQ_161_28 rfl ?_
  refine jT_xicT (pcN := 37) jIQ_161_29 rfl (by decide +kernel) rfl ?_
  refine jT_xiload (v := (0, 2)) (pcN := 39) jIQ_161_37 rfl rfl rfl ?_
  refine jT_xiconst (k := 2) (pcN := 40) jIQ_161_39 rfl ?_
  refine jT_xicF (t := 48) (pcN := 43) jIQ_161_40 rfl (by decide +kernel) rfl rfl ?_
  refine jT_xiload_n (v := (0, r8)) (pcN := 44) jIQ_161_43 rfl rfl rfl ?_
  refine jT_xi2l (x := r8) (z := r8) (pcN := 45) jIQ_161_44 rfl (jw_idd (by omega) (by omega)) rfl ?_
  refine jT_xgoto (pcN := 49) jIQ_161_45 rfl ?_
  refine jT_adv 1 (pcN := 50) (LN := [(5, (0, 2)), (0, (4, 0)), (1, (0, r7)), (2, (0, r8)), (3, (4, 1)), (4, (0, 0))]) (stN := []) (hsN := [jzQ_16, (4, [(4, 13), (1, 1)], []), (8, [(4, 14), (4, 15)], []), jgh, jgh, jgh, jgh, jgh, jgh, (101, [], [0, r7, r8, u9_3, u9_4, u9_5]), jgh, jgh, jgh, (101, [], [0, 0, 0, 0, 0, 0]), jgh, jgh]) (c1 := 0) (s1 := 0) (c2 := 0) (s2 := 0) (by exact rfl) ?_ (by omega) (by omega)
  refine jT_xiinc (x := 2) (z := 3) (LN := [(5, (0, 3)), (0, (4, 0)), (1, (0, r7)), (2, (0, r8)), (3, (4, 1)), (4, (0, 0))]) (pcN := 53) jIQ_161_50 rfl rfl (by decide) rfl rfl ?_
  refine jT_xgoto (pcN := 13) jIQ_161_53 rfl ?_
  refine jT_xiload (v := (0, 3)) (pcN := 15) jIQ_161_13 rfl rfl rfl ?_
  refine jT_xbipush (k := 6) (pcN := 17) jIQ_161_15 (by decide) rfl ?_
  refine jT_xicF (t := 56) (pcN := 20) jIQ_161_17 rfl (by decide +kernel) rfl rfl ?_
  refine jT_xaload_n (v := (4, 0)) (pcN := 21) jIQ_161_20 rfl rfl rfl ?_
  refine jT_xgetf (a := 0) (t := 1) (ci := 13) (fi := 7) (c := jzQ_16) (v := (4, 9)) (pcN := 24) jIQ_161_21 rfl rfl rfl rfl rfl rfl rfl ?_
  refine jT_xiload (v := (0, 3)) (pcN := 26) jIQ_161_24 rfl rfl rfl ?_
  refine jT_xiload (v := (0, 3)) (pcN := 28) jIQ_161_26 rfl rfl rfl ?_
  refine jT_xiconst (k := 1) (pcN := 29) jIQ_161_28 rfl ?_
  refine jT_xicT (pcN := 37) jIQ_161_29 rfl (by decide +kernel) rfl ?_
  refine jT_xiload (v := (0, 3)) (pcN := 39) jIQ_161_37 rfl rfl rfl ?_
  refine jT_xiconst (k := 2) (pcN := 40) jIQ_161_39 rfl ?_
  refine jT_xicT (pcN := 48) jIQ_161_40 rfl (by decide +kernel) rfl ?_
  refine jT_xlconst (z := 0) (pcN := 49) jIQ_161_48 rfl rfl ?_
  refine jT_adv 1 (pcN := 50) (LN := [(5, (0, 3)), (0, (4, 0)), (1, (0, r7)), (2, (0, r8)), (3, (4, 1)), (4, (0, 0))]) (stN := []) (hsN := [jzQ_16, (4, [(4, 13), (1, 1)], []), (8, [(4, 14), (4, 15)], []), jgh, jgh, jgh, jgh, jgh, jgh, (101, [], [0, r7, r8, 0, u9_4, u9_5]), jgh, jgh, jgh, (101, [], [0, 0, 0, 0, 0, 0]), jgh, jgh]) (c1 := 0) (s1 := 0) (c2 := 0) (s2 := 0) (by exact rfl) ?_ (by omega) (by omega)
  refine jT_xiinc (x := 3) (z := 4) (LN := [(5, (0, 4)), (0, (4, 0)), (1, (0, r7)), (2, (0, r8)), (3, (4, 1)), (4, (0, 0))]) (pcN := 53) jIQ_161_50 rfl rfl (by decide) rfl rfl ?_
  refine jT_xgoto (pcN := 13) jIQ_161_53 rfl ?_
  refine jT_xiload (v := (0, 4)) (pcN := 15) jIQ_161_13 rfl rfl rfl ?_
  refine jT_xbipush (k := 6) (pcN := 17) jIQ_161_15 (by decide) rfl ?_
  refine jT_xicF (t := 56) (pcN := 20) jIQ_161_17 rfl (by decide +kernel) rfl rfl ?_
  refine jT_xaload_n (v := (4, 0)) (pcN := 21) jIQ_161_20 rfl rfl rfl ?_
  refine jT_xgetf (a := 0) (t := 1) (ci := 13) (fi := 7) (c := jzQ_16) (v := (4, 9)) (pcN := 24) jIQ_161_21 rfl rfl rfl rfl rfl rfl rfl ?_
  refine jT_xiload (v := (0, 4)) (pcN := 26) jIQ_161_24 rfl rfl rfl ?_
  refine jT_xiload (v := (0, 4)) (pcN := 28) jIQ_161_26 rfl rfl rfl ?_
  refine jT_xiconst (k := 1) (pcN := 29) jIQ_161_28 rfl ?_
  refine jT_xicT (pcN := 37) jIQ_161_29 rfl (by decide +kernel) rfl ?_
  refine jT_xiload (v := (0, 4)) (pcN := 39) jIQ_161_37 rfl rfl rfl ?_
  refine jT_xiconst (k := 2) (pcN := 40) jIQ_161_39 rfl ?_
  refine jT_xicT (pcN := 48) jIQ_161_40 rfl (by decide +kernel) rfl ?_
  refine jT_xlconst (z := 0) (pcN := 49) jIQ_161_48 rfl rfl ?_
  refine jT_adv 1 (pcN := 50) (LN := [(5, (0, 4)), (0, (4, 0)), (1, (0, r7)), (2, (0, r8)), (3, (4, 1)), (4, (0, 0))]) (stN := []) (hsN := [jzQ_16, (4, [(4, 13), (1, 1)], []), (8, [(4, 14), (4, 15)], []), jgh, jgh, jgh, jgh, jgh, jgh, (101, [], [0, r7, r8, 0, 0, u9_5]), jgh, jgh, jgh, (101, [], [0, 0, 0, 0, 0, 0]), jgh, jgh]) (c1 := 0) (s1 := 0) (c2 := 0) (s2 := 0) (by exact rfl) ?_ (by omega) (by omega)
  refine jT_xiinc (x := 4) (z := 5) (LN := [(5, (0, 5)), (0, (4, 0)), (1, (0, r7)), (2, (0, r8)), (3, (4, 1)), (4, (0, 0))]) (pcN := 53) jIQ_161_50 rfl rfl (by decide) rfl rfl ?_
  refine jT_xgoto (pcN := 13) jIQ_161_53 rfl ?_
  refine jT_xiload (v := (0, 5)) (pcN := 15) jIQ_161_13 rfl rfl rfl ?_
  refine jT_xbipush (k := 6) (pcN := 17) jIQ_161_15 (by decide) rfl ?_
  refine jT_xicF (t := 56) (pcN := 20) jIQ_161_17 rfl (by decide +kernel) rfl rfl ?_
  refine jT_xaload_n (v := (4, 0)) (pcN := 21) jIQ_161_20 rfl rfl rfl ?_
  refine jT_xgetf (a := 0) (t := 1) (ci := 13) (fi := 7) (c := jzQ_16) (v := (4, 9)) (pcN := 24) jIQ_161_21 rfl rfl rfl rfl rfl rfl rfl ?_
  refine jT_xiload (v := (0, 5)) (pcN := 26) jIQ_161_24 rfl rfl rfl ?_
  refine jT_xiload (v := (0, 5)) (pcN := 28) jIQ_161_26 rfl rfl rfl ?_
  refine jT_xiconst (k := 1) (pcN := 29) jIQ_161_28 rfl ?_
  refine jT_xicT (pcN := 37) jIQ_161_29 rfl (by decide +kernel) rfl ?_
  refine jT_xiload (v := (0, 5)) (pcN := 39) jIQ_161_37 rfl rfl rfl ?_
  refine jT_xiconst (k := 2) (pcN := 40) jIQ_161_39 rfl ?_
  refine jT_xicT (pcN := 48) jIQ_161_40 rfl (by decide +kernel) rfl ?_
  refine jT_xlconst (z := 0) (pcN := 49) jIQ_161_48 rfl rfl ?_
  refine jT_adv 1 (pcN := 50) (LN := [(5, (0, 5)), (0, (4, 0)), (1, (0, r7)), (2, (0, r8)), (3, (4, 1)), (4, (0, 0))]) (stN := []) (hsN := [jzQ_16, (4, [(4, 13), (1, 1)], []), (8, [(4, 14), (4, 15)], []), jgh, jgh, jgh, jgh, jgh, jgh, (101, [], [0, r7, r8, 0, 0, 0]), jgh, jgh, jgh, (101, [], [0, 0, 0, 0, 0, 0]), jgh, jgh]) (c1 := 0) (s1 := 0) (c2 := 0) (s2 := 0) (by exact rfl) ?_ (by omega) (by omega)
  refine jT_xiinc (x := 5) (z := 6) (LN := [(5, (0, 6)), (0, (4, 0)), (1, (0, r7)), (2, (0, r8)), (3, (4, 1)), (4, (0, 0))]) (pcN := 53) jIQ_161_50 rfl rfl (by decide) rfl rfl ?_
  refine jT_xgoto (pcN := 13) jIQ_161_53 rfl ?_
  refine jT_xiload (v := (0, 6)) (pcN := 15) jIQ_161_13 rfl rfl rfl ?_
  refine jT_xbipush (k := 6) (pcN := 17) jIQ_161_15 (by decide) rfl ?_
  refine jT_xicT (pcN := 56) jIQ_161_17 rfl (by decide +kernel) rfl ?_
  refine jT_xaload_n (v := (4, 0)) (pcN := 57) jIQ_161_56 rfl rfl rfl ?_
  refine jT_xgetf (a := 0) (t := 1) (ci := 13) (fi := 0) (c := jzQ_16) (v := (4, 2)) (pcN := 60) jIQ_161_57 rfl rfl rfl rfl rfl rfl rfl ?_
  refine jT_xaload_n (v := (4, 0)) (pcN := 61) jIQ_161_60 rfl rfl rfl ?_
  refine jT_xgetf (a := 0) (t := 1) (ci := 13) (fi := 7) (c := jzQ_16) (v := (4, 9)) (pcN := 64) jIQ_161_61 rfl rfl rfl rfl rfl rfl rfl ?_
  refine jT_xlconst (z := 1) (pcN := 65) jIQ_161_64 rfl rfl ?_
  refine jT_xlconst (z := 1) (pcN := 66) jIQ_161_65 rfl rfl ?_
  refine jT_callA [2, 9, 14, 15] (y := 45) (pcN := 69) (dC := 1) (bc1 := 0) (bc2 := 0) (c1 := 0) (c2 := 0) (as := [(4, 2), (4, 9), (1, 1), (1, 1)]) (asC := [(4, 0), (4, 1), (1, 1), (1, 1)]) (LN := [(5, (0, 6)), (0, (4, 0)), (1, (0, r7)), (2, (0, r8)), (3, (4, 1)), (4, (0, 0))]) (stN := []) (hsC := [(8, [(4, 2), (4, 3)], []), (101, [], [0, r7, r8, 0, 0, 0]), jgh, jgh]) (ex := []) (v := (1, (108917793695 * r7 + 159561683699 * r8) / 68719476736)) (st2 := [(1, (108917793695 * r7 + 159561683699 * r8) / 68719476736)]) (hs2 := [jzQ_16, (4, [(4, 13), (1, 1)], []), (8, [(4, 14), (4, 15)], []), jgh, jgh, jgh, jgh, jgh, jgh, (101, [], [0, r7, r8, 0, 0, 0]), jgh, jgh, jgh, (101, [], [0, 0, 0, 0, 0, 0]), jgh, jgh]) (jQl_sp45_116 (d := 0) (by omega) (by omega)) (by rfl) (by rfl) (by rfl) (by rfl) ⟨rfl, rfl, rfl, rfl, trivial⟩ (by rfl) (by rfl) (by omega) (by show 16 ≤ 16; omega) (by omega) (by omega) rfl rfl ?_
  have hb_q1 : (-60) ≤ (108917793695 * r7 + 159561683699 * r8) / 68719476736 ∧ (108917793695 * r7 + 159561683699 * r8) / 68719476736 ≤ 60 := ⟨by omega, by omega⟩
  generalize hq_q1 : (108917793695 * r7 + 159561683699 * r8) / 68719476736 = q1 at hb_q1 ⊢
  refine jT_xlstore (v := (1, q1)) (LN := [(5, (1, q1)), (0, (4, 0)), (1, (0, r7)), (2, (0, r8)), (3, (4, 1)), (4, (0, 0))]) (pcN := 71) jIQ_161_69 rfl rfl rfl rfl ?_
  have g_3 : 0 ≤ (-68719476736) * q1 + 108917793694 * r7 + 159561683698 * r8 - 1 := by have := jcg (b := r7) (c := r8) (by omega) (by omega) (by omega); rw [hq_q1] at this; omega
  have g_4 : 0 ≤ (-68719476736) * q1 + 108917793694 * r7 + 159561683700 * r8 - 1 := by have := jcg (b := r7) (c := r8) (by omega) (by omega) (by omega); rw [hq_q1] at this; omega
  have g_5 : 0 ≤ (-68719476736) * q1 + 108917793696 * r7 + 159561683698 * r8 - 1 := by have := jcg (b := r7) (c := r8) (by omega) (by omega) (by omega); rw [hq_q1] at this; omega
  have g_6 : 0 ≤ (-68719476736) * q1 + 108917793696 * r7 + 159561683700 * r8 - 1 := by have := jcg (b := r7) (c := r8) (by omega) (by omega) (by omega); rw [hq_q1] at this; omega
  refine jT_xiload (v := (0, 0)) (pcN := 73) jIQ_161_71 rfl rfl rfl ?_
  refine jT_xifT (pcN := 107) jIQ_161_73 rfl (by decide +kernel) rfl ?_
  refine jT_xaload_n (v := (4, 0)) (pcN := 108) jIQ_161_107 rfl rfl rfl ?_
  refine jT_xgetf (a := 0) (t := 1) (ci := 13) (fi := 7) (c := jzQ_16) (v := (4, 9)) (pcN := 111) jIQ_161_108 rfl rfl rfl rfl rfl rfl rfl ?_
  refine jT_xiconst (k := 0) (pcN := 112) jIQ_161_111 rfl ?_
  refine jT_xlload (v := (1, q1)) (pcN := 114) jIQ_161_112 rfl rfl rfl ?_
  refine jT_adv 2 (pcN := 116) (LN := [(5, (1, q1)), (0, (4, 0)), (1, (0, r7)), (2, (0, r8)), (3, (4, 1)), (4, (0, 0))]) (stN := []) (hsN := [jzQ_16, (4, [(4, 13), (1, 1)], []), (8, [(4, 14), (4, 15)], []), jgh, jgh, jgh, jgh, jgh, jgh, (101, [], [-q1, r7, r8, 0, 0, 0]), jgh, jgh, jgh, (101, [], [0, 0, 0, 0, 0, 0]), jgh, jgh]) (c1 := 0) (s1 := 0) (c2 := 0) (s2 := 0) (by exact rfl) ?_ (by omega) (by omega)
  refine jT_xiconst (k := 0) (pcN := 117) jIQ_161_116 rfl ?_
  refine jT_xistore (v := (0, 0)) (LN := [(7, (0, 0)), (5, (1, q1)), (0, (4, 0)), (1, (0, r7)), (2, (0, r8)), (3, (4, 1)), (4, (0, 0))]) (pcN := 119) jIQ_161_117 rfl rfl rfl rfl ?_
  refine jT_xiload (v := (0, 0)) (pcN := 121) jIQ_161_119 rfl rfl rfl ?_
  refine jT_xbipush (k := 6) (pcN := 123) jIQ_161_121 (by decide) rfl ?_
  refine jT_xicF (t := 159) (pcN := 126) jIQ_161_123 rfl (by decide +kernel) rfl rfl ?_
  refine jT_xaload_n (v := (4, 0)) (pcN := 127) jIQ_161_126 rfl rfl rfl ?_
  refine jT_xgetf (a := 0) (t := 1) (ci := 13) (fi := 7) (c := jzQ_16) (v := (4, 9)) (pcN := 130) jIQ_161_127 rfl rfl rfl rfl rfl rfl rfl ?_
  refine jT_xiload (v := (0, 0)) (pcN := 132) jIQ_161_130 rfl rfl rfl ?_
  refine jT_xaload_n (v := (4, 1)) (pcN := 133) jIQ_161_132 rfl rfl rfl ?_
  refine jT_xgetf (a := 1) (t := 2) (ci := 4) (fi := 0) (c := (4, [(4, 13), (1, 1)], [])) (v := (4, 13)) (pcN := 136) jIQ_161_133 rfl rfl rfl rfl rfl rfl rfl ?_
  refine jT_xiload (v := (0, 0)) (pcN := 138) jIQ_161_136 rfl rfl rfl ?_
  refine jT_lald (x := 0) (a := 13) (j := 0) (fs := []) (X := [0, 0, 0, 0, 0, 0]) jIQ_161_138 rfl rfl rfl rfl ?_
  refine jT_eq (LN := [(7, (0, 0)), (5, (1, q1)), (0, (4, 0)), (1, (0, r7)), (2, (0, r8)), (3, (4, 1)), (4, (0, 0))]) (stN := [(1, 0), (0, 0), (4, 9)]) (hsN := [jzQ_16, (4, [(4, 13), (1, 1)], []), (8, [(4, 14), (4, 15)], []), jgh, jgh, jgh, jgh, jgh, jgh, (101, [], [-q1, r7, r8, 0, 0, 0]), jgh, jgh, jgh, (101, [], [0, 0, 0, 0, 0, 0]), jgh, jgh]) rfl rfl rfl ?_
  refine jT_xaload_n (v := (4, 0)) (pcN := 140) jIQ_161_139 rfl rfl rfl ?_
  refine jT_xgetf (a := 0) (t := 1) (ci := 13) (fi := 7) (c := jzQ_16) (v := (4, 9)) (pcN := 143) jIQ_161_140 rfl rfl rfl rfl rfl rfl rfl ?_
  refine jT_xiload (v := (0, 0)) (pcN := 145) jIQ_161_143 rfl rfl rfl ?_
  refine jT_lald (x := -q1) (a := 9) (j := 0) (fs := []) (X := [-q1, r7, r8, 0, 0, 0]) jIQ_161_145 rfl rfl rfl rfl ?_
  refine jT_eq (LN := [(7, (0, 0)), (5, (1, q1)), (0, (4, 0)), (1, (0, r7)), (2, (0, r8)), (3, (4, 1)), (4, (0, 0))]) (stN := [(1, -q1), (1, 0), (0, 0), (4, 9)]) (hsN := [jzQ_16, (4, [(4, 13), (1, 1)], []), (8, [(4, 14), (4, 15)], []), jgh, jgh, jgh, jgh, jgh, jgh, (101, [], [-q1, r7, r8, 0, 0, 0]), jgh, jgh, jgh, (101, [], [0, 0, 0, 0, 0, 0]), jgh, jgh]) rfl rfl rfl ?_
  refine jT_xaload_n (v := (4, 1)) (pcN := 147) jIQ_161_146 rfl rfl rfl ?_
  refine jT_xgetf (a := 1) (t := 2) (ci := 4) (fi := 1) (c := (4, [(4, 13), (1, 1)], [])) (v := (1, 1)) (pcN := 150) jIQ_161_147 rfl rfl rfl rfl rfl rfl rfl ?_
  refine jT_xlmul (x := -q1) (y := 1) (z := -q1) (pcN := 151) jIQ_161_150 rfl (by omega) rfl ?_
  refine jT_xlsub (x := 0) (y := -q1) (z := q1) (pcN := 152) jIQ_161_151 rfl (by omega) rfl ?_
  refine jT_adv 1 (pcN := 153) (LN := [(7, (0, 0)), (5, (1, q1)), (0, (4, 0)), (1, (0, r7)), (2, (0, r8)), (3, (4, 1)), (4, (0, 0))]) (stN := []) (hsN := [jzQ_16, (4, [(4, 13), (1, 1)], []), (8, [(4, 14), (4, 15)], []), jgh, jgh, jgh, jgh, jgh, jgh, (101, [], [q1, r7, r8, 0, 0, 0]), jgh, jgh, jgh, (101, [], [0, 0, 0, 0, 0, 0]), jgh, jgh]) (c1 := 0) (s1 := 0) (c2 := 0) (s2 := 0) (by exact rfl) ?_ (by omega) (by omega)
  refine jT_xiinc (x := 0) (z := 1) (LN := [(7, (0, 1)), (5, (1, q1)), (0, (4, 0)), (1, (0, r7)), (2, (0, r8)), (3, (4, 1)), (4, (0, 0))]) (pcN := 156) jIQ_161_153 rfl rfl (by decide) rfl rfl ?_
  refine jT_xgoto (pcN := 119) jIQ_161_156 rfl ?_
  refine jT_xiload (v := (0, 1)) (pcN := 121) jIQ_161_119 rfl rfl rfl ?_
  refine jT_xbipush (k := 6) (pcN := 123) jIQ_161_121 (by decide) rfl ?_
  refine jT_xicF (t := 159) (pcN := 126) jIQ_161_123 rfl (by decide +kernel) rfl rfl ?_
  refine jT_xaload_n (v := (4, 0)) (pcN := 127) jIQ_161_126 rfl rfl rfl ?_
  refine jT_xgetf (a := 0) (t := 1) (ci := 13) (fi := 7) (c := jzQ_16) (v := (4, 9)) (pcN := 130) jIQ_161_127 rfl rfl rfl rfl rfl rfl rfl ?_
  refine jT_xiload (v := (0, 1)) (pcN := 132) jIQ_161_130 rfl rfl rfl ?_
  refine jT_xaload_n (v := (4, 1)) (pcN := 133) jIQ_161_132 rfl rfl rfl ?_
  refine jT_xgetf (a := 1) (t := 2) (ci := 4) (fi := 0) (c := (4, [(4, 13), (1, 1)], [])) (v := (4, 13)) (pcN := 136) jIQ_161_133 rfl rfl rfl rfl rfl rfl rfl ?_
  refine jT_xiload (v := (0, 1)) (pcN := 138) jIQ_161_136 rfl rfl rfl ?_
  refine jT_lald (x := 0) (a := 13) (j := 1) (fs := []) (X := [0, 0, 0, 0, 0, 0]) jIQ_161_138 rfl rfl rfl rfl ?_
  refine jT_eq (LN := [(7, (0, 1)), (5, (1, q1)), (0, (4, 0)), (1, (0, r7)), (2, (0, r8)), (3, (4, 1)), (4, (0, 0))]) (stN := [(1, 0), (0, 1), (4, 9)]) (hsN := [jzQ_16, (4, [(4, 13), (1, 1)], []), (8, [(4, 14), (4, 15)], []), jgh, jgh, jgh, jgh, jgh, jgh, (101, [], [q1, r7, r8, 0, 0, 0]), jgh, jgh, jgh, (101, [], [0, 0, 0, 0, 0, 0]), jgh, jgh]) rfl rfl rfl ?_
  refine jT_xaload_n (v := (4, 0)) (pcN := 140) jIQ_161_139 rfl rfl rfl ?_
  refine jT_xgetf (a := 0) (t := 1) (ci := 13) (fi := 7) (c := jzQ_16) (v := (4, 9)) (pcN := 143) jIQ_161_140 rfl rfl rfl rfl rfl rfl rfl ?_
  refine jT_xiload (v := (0, 1)) (pcN := 145) jIQ_161_143 rfl rfl rfl ?_
  refine jT_lald (x := r7) (a := 9) (j := 1) (fs := []) (X := [q1, r7, r8, 0, 0, 0]) jIQ_161_145 rfl rfl rfl rfl ?_
  refine jT_eq (LN := [(7, (0, 1)), (5, (1, q1)), (0, (4, 0)), (1, (0, r7)), (2, (0, r8)), (3, (4, 1)), (4, (0, 0))]) (stN := [(1, r7), (1, 0), (0, 1), (4, 9)]) (hsN := [jzQ_16, (4, [(4, 13), (1, 1)], []), (8, [(4, 14), (4, 15)], []), jgh, jgh, jgh, jgh, jgh, jgh, (101, [], [q1, r7, r8, 0, 0, 0]), jgh, jgh, jgh, (101, [], [0, 0, 0, 0, 0, 0]), jgh, jgh]) rfl rfl rfl ?_
  refine jT_xaload_n (v := (4, 1)) (pcN := 147) jIQ_161_146 rfl rfl rfl ?_
  refine jT_xgetf (a := 1) (t := 2) (ci := 4) (fi := 1) (c := (4, [(4, 13), (1, 1)], [])) (v := (1, 1)) (pcN := 150) jIQ_161_147 rfl rfl rfl rfl rfl rfl rfl ?_
  refine jT_xlmul (x := r7) (y := 1) (z := r7) (pcN := 151) jIQ_161_150 rfl (by omega) rfl ?_
  refine jT_xlsub (x := 0) (y := r7) (z := -r7) (pcN := 152) jIQ_161_151 rfl (by omega) rfl ?_
  refine jT_adv 1 (pcN := 153) (LN := [(7, (0, 1)), (5, (1, q1)), (0, (4, 0)), (1, (0, r7)), (2, (0, r8)), (3, (4, 1)), (4, (0, 0))]) (stN := []) (hsN := [jzQ_16, (4, [(4, 13), (1, 1)], []), (8, [(4, 14), (4, 15)], []), jgh, jgh, jgh, jgh, jgh, jgh, (101, [], [q1, -r7, r8, 0, 0, 0]), jgh, jgh, jgh, (101, [], [0, 0, 0, 0, 0, 0]), jgh, jgh]) (c1 := 0) (s1 := 0) (c2 := 0) (s2 := 0) (by exact rfl) ?_ (by omega) (by omega)
  refine jT_xiinc (x := 1) (z := 2) (LN := [(7, (0, 2)), (5, (1, q1)), (0, (4, 0)), (1, (0, r7)), (2, (0, r8)), (3, (4, 1)), (4, (0, 0))]) (pcN := 156) jIQ_161_153 rfl rfl (by decide) rfl rfl ?_
  refine jT_xgoto (pcN := 119) jIQ_161_156 rfl ?_
  refine jT_xiload (v := (0, 2)) (pcN := 121) jIQ_161_119 rfl rfl rfl ?_
  refine jT_xbipush (k := 6) (pcN := 123) jIQ_161_121 (by decide) rfl ?_
  refine jT_xicF (t := 159) (pcN := 126) jIQ_161_123 rfl (by decide +kernel) rfl rfl ?_
  refine jT_xaload_n (v := (4, 0)) (pcN := 127) jIQ_161_126 rfl rfl rfl ?_
  refine jT_xgetf (a := 0) (t := 1) (ci := 13) (fi := 7) (c := jzQ_16) (v := (4, 9)) (pcN := 130) jIQ_161_127 rfl rfl rfl rfl rfl rfl rfl ?_
  refine jT_xiload (v := (0, 2)) (pcN := 132) jIQ_161_130 rfl rfl rfl ?_
  refine jT_xaload_n (v := (4, 1)) (pcN := 133) jIQ_161_132 rfl rfl rfl ?_
  refine jT_xgetf (a := 1) (t := 2) (ci := 4) (fi := 0) (c := (4, [(4, 13), (1, 1)], [])) (v := (4, 13)) (pcN := 136) jIQ_161_133 rfl rfl rfl rfl rfl rfl rfl ?_
  refine jT_xiload (v := (0, 2)) (pcN := 138) jIQ_161_136 rfl rfl rfl ?_
  refine jT_lald (x := 0) (a := 13) (j := 2) (fs := []) (X := [0, 0, 0, 0, 0, 0]) jIQ_161_138 rfl rfl rfl rfl ?_
  refine jT_eq (LN := [(7, (0, 2)), (5, (1, q1)), (0, (4, 0)), (1, (0, r7)), (2, (0, r8)), (3, (4, 1)), (4, (0, 0))]) (stN := [(1, 0), (0, 2), (4, 9)]) (hsN := [jzQ_16, (4, [(4, 13), (1, 1)], []), (8, [(4, 14), (4, 15)], []), jgh, jgh, jgh, jgh, jgh, jgh, (101, [], [q1, -r7, r8, 0, 0, 0]), jgh, jgh, jgh, (101, [], [0, 0, 0, 0, 0, 0]), jgh, jgh]) rfl rfl rfl ?_
  refine jT_xaload_n (v := (4, 0)) (pcN := 140) jIQ_161_139 rfl rfl rfl ?_
  refine jT_xgetf (a := 0) (t := 1) (ci := 13) (fi := 7) (c := jzQ_16) (v := (4, 9)) (pcN := 143) jIQ_161_140 rfl rfl rfl rfl rfl rfl rfl ?_
  refine jT_xiload (v := (0, 2)) (pcN := 145) jIQ_161_143 rfl rfl rfl ?_
  refine jT_lald (x := r8) (a := 9) (j := 2) (fs := []) (X := [q1, -r7, r8, 0, 0, 0]) jIQ_161_145 rfl rfl rfl rfl ?_
  refine jT_eq (LN := [(7, (0, 2)), (5, (1, q1)), (0, (4, 0)), (1, (0, r7)), (2, (0, r8)), (3, (4, 1)), (4, (0, 0))]) (stN := [(1, r8), (1, 0), (0, 2), (4, 9)]) (hsN := [jzQ_16, (4, [(4, 13), (1, 1)], []), (8, [(4, 14), (4, 15)], []), jgh, jgh, jgh, jgh, jgh, jgh, (101, [], [q1, -r7, r8, 0, 0, 0]), jgh, jgh, jgh, (101, [], [0, 0, 0, 0, 0, 0]), jgh, jgh]) rfl rfl rfl ?_
  refine jT_xaload_n (v := (4, 1)) (pcN := 147) jIQ_161_146 rfl rfl rfl ?_
  refine jT_xgetf (a := 1) (t := 2) (ci := 4) (fi := 1) (c := (4, [(4, 13), (1, 1)], [])) (v := (1, 1)) (pcN := 150) jIQ_161_147 rfl rfl rfl rfl rfl rfl rfl ?_
  refine jT_xlmul (x := r8) (y := 1) (z := r8) (pcN := 151) jIQ_161_150 rfl (by omega) rfl ?_
  refine jT_xlsub (x := 0) (y := r8) (z := -r8) (pcN := 152) jIQ_161_151 rfl (by omega) rfl ?_
  refine jT_adv 1 (pcN := 153) (LN := [(7, (0, 2)), (5, (1, q1)), (0, (4, 0)), (1, (0, r7)), (2, (0, r8)), (3, (4, 1)), (4, (0, 0))]) (stN := []) (hsN := [jzQ_16, (4, [(4, 13), (1, 1)], []), (8, [(4, 14), (4, 15)], []), jgh, jgh, jgh, jgh, jgh, jgh, (101, [], [q1, -r7, -r8, 0, 0, 0]), jgh, jgh, jgh, (101, [], [0, 0, 0, 0, 0, 0]), jgh, jgh]) (c1 := 0) (s1 := 0) (c2 := 0) (s2 := 0) (by exact rfl) ?_ (by omega) (by omega)
  refine jT_xiinc (x := 2) (z := 3) (LN := [(7, (0, 3)), (5, (1, q1)), (0, (4, 0)), (1, (0, r7)), (2, (0, r8)), (3, (4, 1)), (4, (0, 0))]) (pcN := 156) jIQ_161_153 rfl rfl (by decide) rfl rfl ?_
  refine jT_xgoto (pcN := 119) jIQ_161_156 rfl ?_
  refine jT_xiload (v := (0, 3)) (pcN := 121) jIQ_161_119 rfl rfl rfl ?_
  refine jT_xbipush (k := 6) (pcN := 123) jIQ_161_121 (by decide) rfl ?_
  refine jT_xicF (t := 159) (pcN := 126) jIQ_161_123 rfl (by decide +kernel) rfl rfl ?_
  refine jT_xaload_n (v := (4, 0)) (pcN := 127) jIQ_161_126 rfl rfl rfl ?_
  refine jT_xgetf (a := 0) (t := 1) (ci := 13) (fi := 7) (c := jzQ_16) (v := (4, 9)) (pcN := 130) jIQ_161_127 rfl rfl rfl rfl rfl rfl rfl ?_
  refine jT_xiload (v := (0, 3)) (pcN := 132) jIQ_161_130 rfl rfl rfl ?_
  refine jT_xaload_n (v := (4, 1)) (pcN := 133) jIQ_161_132 rfl rfl rfl ?_
  refine jT_xgetf (a := 1) (t := 2) (ci := 4) (fi := 0) (c := (4, [(4, 13), (1, 1)], [])) (v := (4, 13)) (pcN := 136) jIQ_161_133 rfl rfl rfl rfl rfl rfl rfl ?_
  refine jT_xiload (v := (0, 3)) (pcN := 138) jIQ_161_136 rfl rfl rfl ?_
  refine jT_lald (x := 0) (a := 13) (j := 3) (fs := []) (X := [0, 0, 0, 0, 0, 0]) jIQ_161_138 rfl rfl rfl rfl ?_
  refine jT_eq (LN := [(7, (0, 3)), (5, (1, q1)), (0, (4, 0)), (1, (0, r7)), (2, (0, r8)), (3, (4, 1)), (4, (0, 0))]) (stN := [(1, 0), (0, 3), (4, 9)]) (hsN := [jzQ_16, (4, [(4, 13), (1, 1)], []), (8, [(4, 14), (4, 15)], []), jgh, jgh, jgh, jgh, jgh, jgh, (101, [], [q1, -r7, -r8, 0, 0, 0]), jgh, jgh, jgh, (101, [], [0, 0, 0, 0, 0, 0]), jgh, jgh]) rfl rfl rfl ?_
  refine jT_xaload_n (v := (4, 0)) (pcN := 140) jIQ_161_139 rfl rfl rfl ?_
  refine jT_xgetf (a := 0) (t := 1) (ci := 13) (fi := 7) (c := jzQ_16) (v := (4, 9)) (pcN := 143) jIQ_161_140 rfl rfl rfl rfl rfl rfl rfl ?_
  refine jT_xiload (v := (0, 3)) (pcN := 145) jIQ_161_143 rfl rfl rfl ?_
  refine jT_lald (x := 0) (a := 9) (j := 3) (fs := []) (X := [q1, -r7, -r8, 0, 0, 0]) jIQ_161_145 rfl rfl rfl rfl ?_
  refine jT_eq (LN := [(7, (0, 3)), (5, (1, q1)), (0, (4, 0)), (1, (0, r7)), (2, (0, r8)), (3, (4, 1)), (4, (0, 0))]) (stN := [(1, 0), (1, 0), (0, 3), (4, 9)]) (hsN := [jzQ_16, (4, [(4, 13), (1, 1)], []), (8, [(4, 14), (4, 15)], []), jgh, jgh, jgh, jgh, jgh, jgh, (101, [], [q1, -r7, -r8, 0, 0, 0]), jgh, jgh, jgh, (101, [], [0, 0, 0, 0, 0, 0]), jgh, jgh]) rfl rfl rfl ?_
  refine jT_xaload_n (v := (4, 1)) (pcN := 147) jIQ_161_146 rfl rfl rfl ?_
  refine jT_xgetf (a := 1) (t := 2) (ci := 4) (fi := 1) (c := (4, [(4, 13), (1, 1)], [])) (v := (1, 1)) (pcN := 150) jIQ_161_147 rfl rfl rfl rfl rfl rfl rfl ?_
  refine jT_xlmul (x := 0) (y := 1) (z := 0) (pcN := 151) jIQ_161_150 rfl (by decide) rfl ?_
  refine jT_xlsub (x := 0) (y := 0) (z := 0) (pcN := 152) jIQ_161_151 rfl (by decide) rfl ?_
  refine jT_adv 1 (pcN := 153) (LN := [(7, (0, 3)), (5, (1, q1)), (0, (4, 0)), (1, (0, r7)), (2, (0, r8)), (3, (4, 1)), (4, (0, 0))]) (stN := []) (hsN := [jzQ_16, (4, [(4, 13), (1, 1)], []), (8, [(4, 14), (4, 15)], []), jgh, jgh, jgh, jgh, jgh, jgh, (101, [], [q1, -r7, -r8, 0, 0, 0]), jgh, jgh, jgh, (101, [], [0, 0, 0, 0, 0, 0]), jgh, jgh]) (c1 := 0) (s1 := 0) (c2 := 0) (s2 := 0) (by exact rfl) ?_ (by omega) (by omega)
  refine jT_xiinc (x := 3) (z := 4) (LN := [(7, (0, 4)), (5, (1, q1)), (0, (4, 0)), (1, (0, r7)), (2, (0, r8)), (3, (4, 1)), (4, (0, 0))]) (pcN := 156) jIQ_161_153 rfl rfl (by decide) rfl rfl ?_
  refine jT_xgoto (pcN := 119) jIQ_161_156 rfl ?_
  refine jT_xiload (v := (0, 4)) (pcN := 121) jIQ_161_119 rfl rfl rfl ?_
  refine jT_xbipush (k := 6) (pcN := 123) jIQ_161_121 (by decide) rfl ?_
  refine jT_xicF (t := 159) (pcN := 126) jIQ_161_123 rfl (by decide +kernel) rfl rfl ?_
  refine jT_xaload_n (v := (4, 0)) (pcN := 127) jIQ_161_126 rfl rfl rfl ?_
  refine jT_xgetf (a := 0) (t := 1) (ci := 13) (fi := 7) (c := jzQ_16) (v := (4, 9)) (pcN := 130) jIQ_161_127 rfl rfl rfl rfl rfl rfl rfl ?_
  refine jT_xiload (v := (0, 4)) (pcN := 132) jIQ_161_130 rfl rfl rfl ?_
  refine jT_xaload_n (v := (4, 1)) (pcN := 133) jIQ_161_132 rfl rfl rfl ?_
  refine jT_xgetf (a := 1) (t := 2) (ci := 4) (fi := 0) (c := (4, [(4, 13), (1, 1)], [])) (v := (4, 13)) (pcN := 136) jIQ_161_133 rfl rfl rfl rfl rfl rfl rfl ?_
  refine jT_xiload (v := (0, 4)) (pcN := 138) jIQ_161_136 rfl rfl rfl ?_
  refine jT_lald (x := 0) (a := 13) (j := 4) (fs := []) (X := [0, 0, 0, 0, 0, 0]) jIQ_161_138 rfl rfl rfl rfl ?_
  refine jT_eq (LN := [(7, (0, 4)), (5, (1, q1)), (0, (4, 0)), (1, (0, r7)), (2, (0, r8)), (3, (4, 1)), (4, (0, 0))]) (stN := [(1, 0), (0, 4), (4, 9)]) (hsN := [jzQ_16, (4, [(4, 13), (1, 1)], []), (8, [(4, 14), (4, 15)], []), jgh, jgh, jgh, jgh, jgh, jgh, (101, [], [q1, -r7, -r8, 0, 0, 0]), jgh, jgh, jgh, (101, [], [0, 0, 0, 0, 0, 0]), jgh, jgh]) rfl rfl rfl ?_
  refine jT_xaload_n (v := (4, 0)) (pcN := 140) jIQ_161_139 rfl rfl rfl ?_
  refine jT_xgetf (a := 0) (t := 1) (ci := 13) (fi := 7) (c := jzQ_16) (v := (4, 9)) (pcN := 143) jIQ_161_140 rfl rfl rfl rfl rfl rfl rfl ?_
  refine jT_xiload (v := (0, 4)) (pcN := 145) jIQ_161_143 rfl rfl rfl ?_
  refine jT_lald (x := 0) (a := 9) (j := 4) (fs := []) (X := [q1, -r7, -r8, 0, 0, 0]) jIQ_161_145 rfl rfl rfl rfl ?_
  refine jT_eq (LN := [(7, (0, 4)), (5, (1, q1)), (0, (4, 0)), (1, (0, r7)), (2, (0, r8)), (3, (4, 1)), (4, (0, 0))]) (stN := [(1, 0), (1, 0), (0, 4), (4, 9)]) (hsN := [jzQ_16, (4, [(4, 13), (1, 1)], []), (8, [(4, 14), (4, 15)], []), jgh, jgh, jgh, jgh, jgh, jgh, (101, [], [q1, -r7, -r8, 0, 0, 0]), jgh, jgh, jgh, (101, [], [0, 0, 0, 0, 0, 0]), jgh, jgh]) rfl rfl rfl ?_
  refine jT_xaload_n (v := (4, 1)) (pcN := 147) jIQ_161_146 rfl rfl rfl ?_
  refine jT_xgetf (a := 1) (t := 2) (ci := 4) (fi := 1) (c := (4, [(4, 13), (1, 1)], [])) (v := (1, 1)) (pcN := 150) jIQ_161_147 rfl rfl rfl rfl rfl rfl rfl ?_
  refine jT_xlmul (x := 0) (y := 1) (z := 0) (pcN := 151) jIQ_161_150 rfl (by decide) rfl ?_
  refine jT_xlsub (x := 0) (y := 0) (z := 0) (pcN := 152) jIQ_161_151 rfl (by decide) rfl ?_
  refine jT_adv 1 (pcN := 153) (LN := [(7, (0, 4)), (5, (1, q1)), (0, (4, 0)), (1, (0, r7)), (2, (0, r8)), (3, (4, 1)), (4, (0, 0))]) (stN := []) (hsN := [jzQ_16, (4, [(4, 13), (1, 1)], []), (8, [(4, 14), (4, 15)], []), jgh, jgh, jgh, jgh, jgh, jgh, (101, [], [q1, -r7, -r8, 0, 0, 0]), jgh, jgh, jgh, (101, [], [0, 0, 0, 0, 0, 0]), jgh, jgh]) (c1 := 0) (s1 := 0) (c2 := 0) (s2 := 0) (by exact rfl) ?_ (by omega) (by omega)
  refine jT_xiinc (x := 4) (z := 5) (LN := [(7, (0, 5)), (5, (1, q1)), (0, (4, 0)), (1, (0, r7)), (2, (0, r8)), (3, (4, 1)), (4, (0, 0))]) (pcN := 156) jIQ_161_153 rfl rfl (by decide) rfl rfl ?_
  refine jT_xgoto (pcN := 119) jIQ_161_156 rfl ?_
  refine jT_xiload (v := (0, 5)) (pcN := 121) jIQ_161_119 rfl rfl rfl ?_
  refine jT_xbipush (k := 6) (pcN := 123) jIQ_161_121 (by decide) rfl ?_
  refine jT_xicF (t := 159) (pcN := 126) jIQ_161_123 rfl (by decide +kernel) rfl rfl ?_
  refine jT_xaload_n (v := (4, 0)) (pcN := 127) jIQ_161_126 rfl rfl rfl ?_
  refine jT_xgetf (a := 0) (t := 1) (ci := 13) (fi := 7) (c := jzQ_16) (v := (4, 9)) (pcN := 130) jIQ_161_127 rfl rfl rfl rfl rfl rfl rfl ?_
  refine jT_xiload (v := (0, 5)) (pcN := 132) jIQ_161_130 rfl rfl rfl ?_
  refine jT_xaload_n (v := (4, 1)) (pcN := 133) jIQ_161_132 rfl rfl rfl ?_
  refine jT_xgetf (a := 1) (t := 2) (ci := 4) (fi := 0) (c := (4, [(4, 13), (1, 1)], [])) (v := (4, 13)) (pcN := 136) jIQ_161_133 rfl rfl rfl rfl rfl rfl rfl ?_
  refine jT_xiload (v := (0, 5)) (pcN := 138) jIQ_161_136 rfl rfl rfl ?_
  refine jT_lald (x := 0) (a := 13) (j := 5) (fs := []) (X := [0, 0, 0, 0, 0, 0]) jIQ_161_138 rfl rfl rfl rfl ?_
  refine jT_eq (LN := [(7, (0, 5)), (5, (1, q1)), (0, (4, 0)), (1, (0, r7)), (2, (0, r8)), (3, (4, 1)), (4, (0, 0))]) (stN := [(1, 0), (0, 5), (4, 9)]) (hsN := [jzQ_16, (4, [(4, 13), (1, 1)], []), (8, [(4, 14), (4, 15)], []), jgh, jgh, jgh, jgh, jgh, jgh, (101, [], [q1, -r7, -r8, 0, 0, 0]), jgh, jgh, jgh, (101, [], [0, 0, 0, 0, 0, 0]), jgh, jgh]) rfl rfl rfl ?_
  refine jT_xaload_n (v := (4, 0)) (pcN := 140) jIQ_161_139 rfl rfl rfl ?_
  refine jT_xgetf (a := 0) (t := 1) (ci := 13) (fi := 7) (c := jzQ_16) (v := (4, 9)) (pcN := 143) jIQ_161_140 rfl rfl rfl rfl rfl rfl rfl ?_
  refine jT_xiload (v := (0, 5)) (pcN := 145) jIQ_161_143 rfl rfl rfl ?_
  refine jT_lald (x := 0) (a := 9) (j := 5) (fs := []) (X := [q1, -r7, -r8, 0, 0, 0]) jIQ_161_145 rfl rfl rfl rfl ?_
  refine jT_eq (LN := [(7, (0, 5)), (5, (1, q1)), (0, (4, 0)), (1, (0, r7)), (2, (0, r8)), (3, (4, 1)), (4, (0, 0))]) (stN := [(1, 0), (1, 0), (0, 5), (4, 9)]) (hsN := [jzQ_16, (4, [(4, 13), (1, 1)], []), (8, [(4, 14), (4, 15)], []), jgh, jgh, jgh, jgh, jgh, jgh, (101, [], [q1, -r7, -r8, 0, 0, 0]), jgh, jgh, jgh, (101, [], [0, 0, 0, 0, 0, 0]), jgh, jgh]) rfl rfl rfl ?_
  refine jT_xaload_n (v := (4, 1)) (pcN := 147) jIQ_161_146 rfl rfl rfl ?_
  refine jT_xgetf (a := 1) (t := 2) (ci := 4) (fi := 1) (c := (4, [(4, 13), (1, 1)], [])) (v := (1, 1)) (pcN := 150) jIQ_161_147 rfl rfl rfl rfl rfl rfl rfl ?_
  refine jT_xlmul (x := 0) (y := 1) (z := 0) (pcN := 151) jIQ_161_150 rfl (by decide) rfl ?_
  refine jT_xlsub (x := 0) (y := 0) (z := 0) (pcN := 152) jIQ_161_151 rfl (by decide) rfl ?_
  refine jT_adv 1 (pcN := 153) (LN := [(7, (0, 5)), (5, (1, q1)), (0, (4, 0)), (1, (0, r7)), (2, (0, r8)), (3, (4, 1)), (4, (0, 0))]) (stN := []) (hsN := [jzQ_16, (4, [(4, 13), (1, 1)], []), (8, [(4, 14), (4, 15)], []), jgh, jgh, jgh, jgh, jgh, jgh, (101, [], [q1, -r7, -r8, 0, 0, 0]), jgh, jgh, jgh, (101, [], [0, 0, 0, 0, 0, 0]), jgh, jgh]) (c1 := 0) (s1 := 0) (c2 := 0) (s2 := 0) (by exact rfl) ?_ (by omega) (by omega)
  refine jT_xiinc (x := 5) (z := 6) (LN := [(7, (0, 6)), (5, (1, q1)), (0, (4, 0)), (1, (0, r7)), (2, (0, r8)), (3, (4, 1)), (4, (0, 0))]) (pcN := 156) jIQ_161_153 rfl rfl (by decide) rfl rfl ?_
  refine jT_xgoto (pcN := 119) jIQ_161_156 rfl ?_
  refine jT_xiload (v := (0, 6)) (pcN := 121) jIQ_161_119 rfl rfl rfl ?_
  refine jT_xbipush (k := 6) (pcN := 123) jIQ_161_121 (by decide) rfl ?_
  refine jT_xicT (pcN := 159) jIQ_161_123 rfl (by decide +kernel) rfl ?_
  refine jT_xaload_n (v := (4, 0)) (pcN := 160) jIQ_161_159 rfl rfl rfl ?_
  refine jT_xgetf (a := 0) (t := 1) (ci := 13) (fi := 0) (c := jzQ_16) (v := (4, 2)) (pcN := 163) jIQ_161_160 rfl rfl rfl rfl rfl rfl rfl ?_
  refine jT_xaload_n (v := (4, 0)) (pcN := 164) jIQ_161_163 rfl rfl rfl ?_
  refine jT_xgetf (a := 0) (t := 1) (ci := 13) (fi := 7) (c := jzQ_16) (v := (4, 9)) (pcN := 167) jIQ_161_164 rfl rfl rfl rfl rfl rfl rfl ?_
  refine jT_callA [2, 9, 14, 15] (y := 38) (pcN := 170) (dC := 1) (bc1 := 0) (bc2 := 0) (c1 := 0) (c2 := 0) (as := [(4, 2), (4, 9)]) (asC := [(4, 0), (4, 1)]) (LN := [(7, (0, 6)), (5, (1, q1)), (0, (4, 0)), (1, (0, r7)), (2, (0, r8)), (3, (4, 1)), (4, (0, 0))]) (stN := []) (hsC := [(8, [(4, 2), (4, 3)], []), (101, [], [q1, -r7, -r8, 0, 0, 0]), jgh, jgh]) (ex := []) (v := (0, (-1))) (st2 := [(0, (-1))]) (hs2 := [jzQ_16, (4, [(4, 13), (1, 1)], []), (8, [(4, 14), (4, 15)], []), jgh, jgh, jgh, jgh, jgh, jgh, (101, [], [q1, -r7, -r8, 0, 0, 0]), jgh, jgh, jgh, (101, [], [0, 0, 0, 0, 0, 0]), jgh, jgh]) (jQl_sp38_117 (d := 0) (by omega) (by omega) (by omega) (by omega) (by omega) (by omega) (by omega)) (by rfl) (by rfl) (by rfl) (by rfl) ⟨rfl, rfl, rfl, rfl, trivial⟩ (by rfl) (by rfl) (by omega) (by show 16 ≤ 16; omega) (by omega) (by omega) rfl rfl ?_
  refine jT_xifT (pcN := 177) jIQ_161_170 rfl (by decide +kernel) rfl ?_
  refine jT_xiconst (k := 0) (pcN := 178) jIQ_161_177 rfl ?_
  subst hq_q1
  exact jT_ret rfl (by decide) (by show 16 ≤ 16; omega) (by omega) (by omega) ⟨rfl, rfl, rfl⟩
theorem jQ_161_133 {xs : List Int} {d : Nat} {r7 r8 u9_0 u9_1 u9_2 u9_3 u9_4 u9_5 : Int} (h_r7 : (-20) ≤ r7 ∧ r7 ≤ 20) (h_r8 : (-10) ≤ r8 ∧ r8 ≤ 10) (g_0 : r7 < 0) : jT xs (d + 2) 161 16 0 [(0, (4, 0)), (1, (0, r7)), (2, (0, r8)), (3, (4, 1)), (4, (0, 0))] [] [jzQ_16, (4, [(4, 13), (1, 1)], []), (8, [(4, 14), (4, 15)], []), jgh, jgh, jgh, jgh, jgh, jgh, (101, [], [u9_0, u9_1, u9_2, u9_3, u9_4, u9_5]), jgh, jgh, jgh, (101, [], [0, 0, 0, 0, 0, 0]), jgh, jgh] 0 0 (fun k v hsN => k = 0 ∧ v = (0, 0) ∧ hsN = [jzQ_16, (4, [(4, 13), (1, 1)], []), (8, [(4, 14), (4, 15)], []), jgh, jgh, jgh, jgh, jgh, jgh, (101, [], [(108917793695 * r7 + 159561683699 * r8) / 68719476736, -r7, -r8, 0, 0, 0]), jgh, jgh, jgh, (101, [], [0, 0, 0, 0, 0, 0]), jgh, jgh]) := by
  refine jT_xiload_n (v := (0, r7)) (pcN := 1) jIQ_161_0 rfl rfl rfl ?_
  refine jT_ifT (a := r7) (t := 10) (by rfl) (by rfl) (by rfl) (jw_idd (by omega) (by omega)) (by simp only [jcP] <;> omega) ?_
  refine jT_xiconst (k := 0) (pcN := 11) jIQ_161_10 rfl ?_
  refine jT_xistore (v := (0, 0)) (LN := [(5, (0, 0)), (0, (4, 0)), (1, (0, r7)), (2, (0, r8)), (3, (4, 1)), (4, (0, 0))]) (pcN := 13) jIQ_161_11 rfl rfl rfl rfl ?_
  refine jT_xiload (v := (0, 0)) (pcN := 15) jIQ_161_13 rfl rfl rfl ?_
  refine jT_xbipush (k := 6) (pcN := 17) jIQ_161_15 (by decide) rfl ?_
  refine jT_xicF (t := 56) (pcN := 20) jIQ_161_17 rfl (by decide +kernel) rfl rfl ?_
  refine jT_xaload_n (v := (4, 0)) (pcN := 21) jIQ_161_20 rfl rfl rfl ?_
  refine jT_xgetf (a := 0) (t := 1) (ci := 13) (fi := 7) (c := jzQ_16) (v := (4, 9)) (pcN := 24) jIQ_161_21 rfl rfl rfl rfl rfl rfl rfl ?_
  refine jT_xiload (v := (0, 0)) (pcN := 26) jIQ_161_24 rfl rfl rfl ?_
  refine jT_xiload (v := (0, 0)) (pcN := 28) jIQ_161_26 rfl rfl rfl ?_
  refine jT_xiconst (k := 1) (pcN := 29) jIQ_161_28 rfl ?_
  refine jT_xicT (pcN := 37) jIQ_161_29 rfl (by decide +kernel) rfl ?_
  refine jT_xiload (v := (0, 0)) (pcN := 39) jIQ_161_37 rfl rfl rfl ?_
  refine jT_xiconst (k := 2) (pcN := 40) jIQ_161_39 rfl ?_
  refine jT_xicT (pcN := 48) jIQ_161_40 rfl (by decide +kernel) rfl ?_
  refine jT_xlconst (z := 0) (pcN := 49) jIQ_161_48 rfl rfl ?_
  refine jT_adv 1 (pcN := 50) (LN := [(5, (0, 0)), (0, (4, 0)), (1, (0, r7)), (2, (0, r8)), (3, (4, 1)), (4, (0, 0))]) (stN := []) (hsN := [jzQ_16, (4, [(4, 13), (1, 1)], []), (8, [(4, 14), (4, 15)], []), jgh, jgh, jgh, jgh, jgh, jgh, (101, [], [0, u9_1, u9_2, u9_3, u9_4, u9_5]), jgh, jgh, jgh, (101, [], [0, 0, 0, 0, 0, 0]), jgh, jgh]) (c1 := 0) (s1 := 0) (c2 := 0) (s2 := 0) (by exact rfl) ?_ (by omega) (by omega)
  refine jT_xiinc (x := 0) (z := 1) (LN := [(5, (0, 1)), (0, (4, 0)), (1, (0, r7)), (2, (0, r8)), (3, (4, 1)), (4, (0, 0))]) (pcN := 53) jIQ_161_50 rfl rfl (by decide) rfl rfl ?_
  refine jT_xgoto (pcN := 13) jIQ_161_53 rfl ?_
  refine jT_xiload (v := (0, 1)) (pcN := 15) jIQ_161_13 rfl rfl rfl ?_
  refine jT_xbipush (k := 6) (pcN := 17) jIQ_161_15 (by decide) rfl ?_
  refine jT_xicF (t := 56) (pcN := 20) jIQ_161_17 rfl (by decide +kernel) rfl rfl ?_
  refine jT_xaload_n (v := (4, 0)) (pcN := 21) jIQ_161_20 rfl rfl rfl ?_
  refine jT_xgetf (a := 0) (t := 1) (ci := 13) (fi := 7) (c := jzQ_16) (v := (4, 9)) (pcN := 24) jIQ_161_21 rfl rfl rfl rfl rfl rfl rfl ?_
  refine jT_xiload (v := (0, 1)) (pcN := 26) jIQ_161_24 rfl rfl rfl ?_
  refine jT_xiload (v := (0, 1)) (pcN := 28) jIQ_161_26 rfl rfl rfl ?_
  refine jT_xiconst (k := 1) (pcN := 29) jIQ_161_28 rfl ?_
  refine jT_xicF (t := 37) (pcN := 32) jIQ_161_29 rfl (by decide +kernel) rfl rfl ?_
  refine jT_xiload_n (v := (0, r7)) (pcN := 33) jIQ_161_32 rfl rfl rfl ?_
  refine jT_xi2l (x := r7) (z := r7) (pcN := 34) jIQ_161_33 rfl (jw_idd (by omega) (by omega)) rfl ?_
  refine jT_xgoto (pcN := 49) jIQ_161_34 rfl ?_
  refine jT_adv 1 (pcN := 50) (LN := [(5, (0, 1)), (0, (4, 0)), (1, (0, r7)), (2, (0, r8)), (3, (4, 1)), (4, (0, 0))]) (stN := []) (hsN := [jzQ_16, (4, [(4, 13), (1, 1)], []), (8, [(4, 14), (4, 15)], []), jgh, jgh, jgh, jgh, jgh, jgh, (101, [], [0, r7, u9_2, u9_3, u9_4, u9_5]), jgh, jgh, jgh, (101, [], [0, 0, 0, 0, 0, 0]), jgh, jgh]) (c1 := 0) (s1 := 0) (c2 := 0) (s2 := 0) (by exact rfl) ?_ (by omega) (by omega)
  refine jT_xiinc (x := 1) (z := 2) (LN := [(5, (0, 2)), (0, (4, 0)), (1, (0, r7)), (2, (0, r8)), (3, (4, 1)), (4, (0, 0))]) (pcN := 53) jIQ_161_50 rfl rfl (by decide) rfl rfl ?_
  refine jT_xgoto (pcN := 13) jIQ_161_53 rfl ?_
  refine jT_xiload (v := (0, 2)) (pcN := 15) jIQ_161_13 rfl rfl rfl ?_
  refine jT_xbipush (k := 6) (pcN := 17) jIQ_161_15 (by decide) rfl ?_
  refine jT_xicF (t := 56) (pcN := 20) jIQ_161_17 rfl (by decide +kernel) rfl rfl ?_
  refine jT_xaload_n (v := (4, 0)) (pcN := 21) jIQ_161_20 rfl rfl rfl ?_
  refine jT_xgetf (a := 0) (t := 1) (ci := 13) (fi := 7) (c := jzQ_16) (v := (4, 9)) (pcN := 24) jIQ_161_21 rfl rfl rfl rfl rfl rfl rfl ?_
  refine jT_xiload (v := (0, 2)) (pcN := 26) jIQ_161_24 rfl rfl rfl ?_
  refine jT_xiload (v := (0, 2)) (pcN := 28) jIQ_161_26 rfl rfl rfl ?_
  refine jT_xiconst (k := 1) (pcN := 29) jIQ_161_28 rfl ?_
  refine jT_xicT (pcN := 37) jIQ_161_29 rfl (by decide +kernel) rfl ?_
  refine jT_xiload (v := (0, 2)) (pcN := 39) jIQ_161_37 rfl rfl rfl ?_
  refine jT_xiconst (k := 2) (pcN := 40) jIQ_161_39 rfl ?_
  refine jT_xicF (t := 48) (pcN := 43) jIQ_161_40 rfl (by decide +kernel) rfl rfl ?_
  refine jT_xiload_n (v := (0, r8)) (pcN := 44) jIQ_161_43 rfl rfl rfl ?_
  refine jT_xi2l (x := r8) (z := r8) (pcN := 45) jIQ_161_44 rfl (jw_idd (by omega) (by omega)) rfl ?_
  refine jT_xgoto (pcN := 49) jIQ_161_45 rfl ?_
  refine jT_adv 1 (pcN := 50) (LN := [(5, (0, 2)), (0, (4, 0)), (1, (0, r7)), (2, (0, r8)), (3, (4, 1)), (4, (0, 0))]) (stN := []) (hsN := [jzQ_16, (4, [(4, 13), (1, 1)], []), (8, [(4, 14), (4, 15)], []), jgh, jgh, jgh, jgh, jgh, jgh, (101, [], [0, r7, r8, u9_3, u9_4, u9_5]), jgh, jgh, jgh, (101, [], [0, 0, 0, 0, 0, 0]), jgh, jgh]) (c1 := 0) (s1 := 0) (c2 := 0) (s2 := 0) (by exact rfl) ?_ (by omega) (by omega)
  refine jT_xiinc (x := 2) (z := 3) (LN := [(5, (0, 3)), (0, (4, 0)), (1, (0, r7)), (2, (0, r8)), (3, (4, 1)), (4, (0, 0))]) (pcN := 53) jIQ_161_50 rfl rfl (by decide) rfl rfl ?_
  refine jT_xgoto (pcN := 13) jIQ_161_53 rfl ?_
  refine jT_xiload (v := (0, 3)) (pcN := 15) jIQ_161_13 rfl rfl rfl ?_
  refine jT_xbipush (k := 6) (pcN := 17) jIQ_161_15 (by decide) rfl ?_
  refine jT_xicF (t := 56) (pcN := 20) jIQ_161_17 rfl (by decide +kernel) rfl rfl ?_
  refine jT_xaload_n (v := (4, 0)) (pcN := 21) jIQ_161_20 rfl rfl rfl ?_
  refine jT_xgetf (a := 0) (t := 1) (ci := 13) (fi := 7) (c := jzQ_16) (v := (4, 9)) (pcN := 24) jIQ_161_21 rfl rfl rfl rfl rfl rfl rfl ?_
  refine jT_xiload (v := (0, 3)) (pcN := 26) jIQ_161_24 rfl rfl rfl ?_
  refine jT_xiload (v := (0, 3)) (pcN := 28) jIQ_161_26 rfl rfl rfl ?_
  refine jT_xiconst (k := 1) (pcN := 29) jIQ_161_28 rfl ?_
  refine jT_xicT (pcN := 37) jIQ_161_29 rfl (by decide +kernel) rfl ?_
  refine jT_xiload (v := (0, 3)) (pcN := 39) jIQ_161_37 rfl rfl rfl ?_
  refine jT_xiconst (k := 2) (pcN := 40) jIQ_161_39 rfl ?_
  refine jT_xicT (pcN := 48) jIQ_161_40 rfl (by decide +kernel) rfl ?_
  refine jT_xlconst (z := 0) (pcN := 49) jIQ_161_48 rfl rfl ?_
  refine jT_adv 1 (pcN := 50) (LN := [(5, (0, 3)), (0, (4, 0)), (1, (0, r7)), (2, (0, r8)), (3, (4, 1)), (4, (0, 0))]) (stN := []) (hsN := [jzQ_16, (4, [(4, 13), (1, 1)], []), (8, [(4, 14), (4, 15)], []), jgh, jgh, jgh, jgh, jgh, jgh, (101, [], [0, r7, r8, 0, u9_4, u9_5]), jgh, jgh, jgh, (101, [], [0, 0, 0, 0, 0, 0]), jgh, jgh]) (c1 := 0) (s1 := 0) (c2 := 0) (s2 := 0) (by exact rfl) ?_ (by omega) (by omega)
  refine jT_xiinc (x := 3) (z := 4) (LN := [(5, (0, 4)), (0, (4, 0)), (1, (0, r7)), (2, (0, r8)), (3, (4, 1)), (4, (0, 0))]) (pcN := 53) jIQ_161_50 rfl rfl (by decide) rfl rfl ?_
  refine jT_xgoto (pcN := 13) jIQ_161_53 rfl ?_
  refine jT_xiload (v := (0, 4)) (pcN := 15) jIQ_161_13 rfl rfl rfl ?_
  refine jT_xbipush (k := 6) (pcN := 17) jIQ_161_15 (by decide) rfl ?_
  refine jT_xicF (t := 56) (pcN := 20) jIQ_161_17 rfl (by decide +kernel) rfl rfl ?_
  refine jT_xaload_n (v := (4, 0)) (pcN := 21) jIQ_161_20 rfl rfl rfl ?_
  refine jT_xgetf (a := 0) (t := 1) (ci := 13) (fi := 7) (c := jzQ_16) (v := (4, 9)) (pcN := 24) jIQ_161_21 rfl rfl rfl rfl rfl rfl rfl ?_
  refine jT_xiload (v := (0, 4)) (pcN := 26) jIQ_161_24 rfl rfl rfl ?_
  refine jT_xiload (v := (0, 4)) (pcN := 28) jIQ_161_26 rfl rfl rfl ?_
  refine jT_xiconst (k := 1) (pcN := 29) jIQ_161_28 rfl ?_
  refine jT_xicT (pcN := 37) jIQ_161_29 rfl (by decide +kernel) rfl ?_
  refine jT_xiload (v := (0, 4)) (pcN := 39) jIQ_161_37 rfl rfl rfl ?_
  refine jT_xiconst (k := 2) (pcN := 40) jIQ_161_39 rfl ?_
  refine jT_xicT (pcN := 48) jIQ_161_40 rfl (by decide +kernel) rfl ?_
  refine jT_xlconst (z := 0) (pcN := 49) jIQ_161_48 rfl rfl ?_
  refine jT_adv 1 (pcN := 50) (LN := [(5, (0, 4)), (0, (4, 0)), (1, (0, r7)), (2, (0, r8)), (3, (4, 1)), (4, (0, 0))]) (stN := []) (hsN := [jzQ_16, (4, [(4, 13), (1, 1)], []), (8, [(4, 14), (4, 15)], []), jgh, jgh, jgh, jgh, jgh, jgh, (101, [], [0, r7, r8, 0, 0, u9_5]), jgh, jgh, jgh, (101, [], [0, 0, 0, 0, 0, 0]), jgh, jgh]) (c1 := 0) (s1 := 0) (c2 := 0) (s2 := 0) (by exact rfl) ?_ (by omega) (by omega)
  refine jT_xiinc (x := 4) (z := 5) (LN := [(5, (0, 5)), (0, (4, 0)), (1, (0, r7)), (2, (0, r8)), (3, (4, 1)), (4, (0, 0))]) (pcN := 53) jIQ_161_50 rfl rfl (by decide) rfl rfl ?_
  refine jT_xgoto (pcN := 13) jIQ_161_53 rfl ?_
  refine jT_xiload (v := (0, 5)) (pcN := 15) jIQ_161_13 rfl rfl rfl ?_
  refine jT_xbipush (k := 6) (pcN := 17) jIQ_161_15 (by decide) rfl ?_
  refine jT_xicF (t := 56) (pcN := 20) jIQ_161_17 rfl (by decide +kernel) rfl rfl ?_
  refine jT_xaload_n (v := (4, 0)) (pcN := 21) jIQ_161_20 rfl rfl rfl ?_
  refine jT_xgetf (a := 0) (t := 1) (ci := 13) (fi := 7) (c := jzQ_16) (v := (4, 9)) (pcN := 24) jIQ_161_21 rfl rfl rfl rfl rfl rfl rfl ?_
  refine jT_xiload (v := (0, 5)) (pcN := 26) jIQ_161_24 rfl rfl rfl ?_
  refine jT_xiload (v := (0, 5)) (pcN := 28) jIQ_161_26 rfl rfl rfl ?_
  refine jT_xiconst (k := 1) (pcN := 29) jIQ_161_28 rfl ?_
  refine jT_xicT (pcN := 37) jIQ_161_29 rfl (by decide +kernel) rfl ?_
  refine jT_xiload (v := (0, 5)) (pcN := 39) jIQ_161_37 rfl rfl rfl ?_
  refine jT_xiconst (k := 2) (pcN := 40) jIQ_161_39 rfl ?_
  refine jT_xicT (pcN := 48) jIQ_161_40 rfl (by decide +kernel) rfl ?_
  refine jT_xlconst (z := 0) (pcN := 49) jIQ_161_48 rfl rfl ?_
  refine jT_adv 1 (pcN := 50) (LN := [(5, (0, 5)), (0, (4, 0)), (1, (0, r7)), (2, (0, r8)), (3, (4, 1)), (4, (0, 0))]) (stN := []) (hsN := [jzQ_16, (4, [(4, 13), (1, 1)], []), (8, [(4, 14), (4, 15)], []), jgh, jgh, jgh, jgh, jgh, jgh, (101, [], [0, r7, r8, 0, 0, 0]), jgh, jgh, jgh, (101, [], [0, 0, 0, 0, 0, 0]), jgh, jgh]) (c1 := 0) (s1 := 0) (c2 := 0) (s2 := 0) (by exact rfl) ?_ (by omega) (by omega)
  refine jT_xiinc (x := 5) (z := 6) (LN := [(5, (0, 6)), (0, (4, 0)), (1, (0, r7)), (2, (0, r8)), (3, (4, 1)), (4, (0, 0))]) (pcN := 53) jIQ_161_50 rfl rfl (by decide) rfl rfl ?_
  refine jT_xgoto (pcN := 13) jIQ_161_53 rfl ?_
  refine jT_xiload (v := (0, 6)) (pcN := 15) jIQ_161_13 rfl rfl rfl ?_
  refine jT_xbipush (k := 6) (pcN := 17) jIQ_161_15 (by decide) rfl ?_
  refine jT_xicT (pcN := 56) jIQ_161_17 rfl (by decide +kernel) rfl ?_
  refine jT_xaload_n (v := (4, 0)) (pcN := 57) jIQ_161_56 rfl rfl rfl ?_
  refine jT_xgetf (a := 0) (t := 1) (ci := 13) (fi := 0) (c := jzQ_16) (v := (4, 2)) (pcN := 60) jIQ_161_57 rfl rfl rfl rfl rfl rfl rfl ?_
  refine jT_xaload_n (v := (4, 0)) (pcN := 61) jIQ_161_60 rfl rfl rfl ?_
  refine jT_xgetf (a := 0) (t := 1) (ci := 13) (fi := 7) (c := jzQ_16) (v := (4, 9)) (pcN := 64) jIQ_161_61 rfl rfl rfl rfl rfl rfl rfl ?_
  refine jT_xlconst (z := 1) (pcN := 65) jIQ_161_64 rfl rfl ?_
  refine jT_xlconst (z := 1) (pcN := 66) jIQ_161_65 rfl rfl ?_
  refine jT_callA [2, 9, 14, 15] (y := 45) (pcN := 69) (dC := 1) (bc1 := 0) (bc2 := 0) (c1 := 0) (c2 := 0) (as := [(4, 2), (4, 9), (1, 1), (1, 1)]) (asC := [(4, 0), (4, 1), (1, 1), (1, 1)]) (LN := [(5, (0, 6)), (0, (4, 0)), (1, (0, r7)), (2, (0, r8)), (3, (4, 1)), (4, (0, 0))]) (stN := []) (hsC := [(8, [(4, 2), (4, 3)], []), (101, [], [0, r7, r8, 0, 0, 0]), jgh, jgh]) (ex := []) (v := (1, (108917793695 * r7 + 159561683699 * r8) / 68719476736)) (st2 := [(1, (108917793695 * r7 + 159561683699 * r8) / 68719476736)]) (hs2 := [jzQ_16, (4, [(4, 13), (1, 1)], []), (8, [(4, 14), (4, 15)], []), jgh, jgh, jgh, jgh, jgh, jgh, (101, [], [0, r7, r8, 0, 0, 0]), jgh, jgh, jgh, (101, [], [0, 0, 0, 0, 0, 0]), jgh, jgh]) (jQl_sp45_116 (d := 0) (by omega) (by omega)) (by rfl) (by rfl) (by rfl) (by rfl) ⟨rfl, rfl, rfl, rfl, trivial⟩ (by rfl) (by rfl) (by omega) (by show 16 ≤ 16; omega) (by omega) (by omega) rfl rfl ?_
  have hb_q1 : (-60) ≤ (108917793695 * r7 + 159561683699 * r8) / 68719476736 ∧ (108917793695 * r7 + 159561683699 * r8) / 68719476736 ≤ 60 := ⟨by omega, by omega⟩
  generalize hq_q1 : (108917793695 * r7 + 159561683699 * r8) / 68719476736 = q1 at hb_q1 ⊢
  refine jT_xlstore (v := (1, q1)) (LN := [(5, (1, q1)), (0, (4, 0)), (1, (0, r7)), (2, (0, r8)), (3, (4, 1)), (4, (0, 0))]) (pcN := 71) jIQ_161_69 rfl rfl rfl rfl ?_
  have g_1 : 0 ≤ (-68719476736) * q1 + 108917793694 * r7 + 159561683698 * r8 - 1 := by have := jcg (b := r7) (c := r8) (by omega) (by omega) (by omega); rw [hq_q1] at this; omega
  have g_2 : 0 ≤ (-68719476736) * q1 + 108917793694 * r7 + 159561683700 * r8 - 1 := by have := jcg (b := r7) (c := r8) (by omega) (by omega) (by omega); rw [hq_q1] at this; omega
  have g_3 : 0 ≤ (-68719476736) * q1 + 108917793696 * r7 + 159561683698 * r8 - 1 := by have := jcg (b := r7) (c := r8) (by omega) (by omega) (by omega); rw [hq_q1] at this; omega
  have g_4 : 0 ≤ (-68719476736) * q1 + 108917793696 * r7 + 159561683700 * r8 - 1 := by have := jcg (b := r7) (c := r8) (by omega) (by omega) (by omega); rw [hq_q1] at this; omega
  refine jT_xiload (v := (0, 0)) (pcN := 73) jIQ_161_71 rfl rfl rfl ?_
  refine jT_xifT (pcN := 107) jIQ_161_73 rfl (by decide +kernel) rfl ?_
  refine jT_xaload_n (v := (4, 0)) (pcN := 108) jIQ_161_107 rfl rfl rfl ?_
  refine jT_xgetf (a := 0) (t := 1) (ci := 13) (fi := 7) (c := jzQ_16) (v := (4, 9)) (pcN := 111) jIQ_161_108 rfl rfl rfl rfl rfl rfl rfl ?_
  refine jT_xiconst (k := 0) (pcN := 112) jIQ_161_111 rfl ?_
  refine jT_xlload (v := (1, q1)) (pcN := 114) jIQ_161_112 rfl rfl rfl ?_
  refine jT_adv 2 (pcN := 116) (LN := [(5, (1, q1)), (0, (4, 0)), (1, (0, r7)), (2, (0, r8)), (3, (4, 1)), (4, (0, 0))]) (stN := []) (hsN := [jzQ_16, (4, [(4, 13), (1, 1)], []), (8, [(4, 14), (4, 15)], []), jgh, jgh, jgh, jgh, jgh, jgh, (101, [], [-q1, r7, r8, 0, 0, 0]), jgh, jgh, jgh, (101, [], [0, 0, 0, 0, 0, 0]), jgh, jgh]) (c1 := 0) (s1 := 0) (c2 := 0) (s2 := 0) (by exact rfl) ?_ (by omega) (by omega)
  refine jT_xiconst (k := 0) (pcN := 117) jIQ_161_116 rfl ?_
  refine jT_xistore (v := (0, 0)) (LN := [(7, (0, 0)), (5, (1, q1)), (0, (4, 0)), (1, (0, r7)), (2, (0, r8)), (3, (4, 1)), (4, (0, 0))]) (pcN := 119) jIQ_161_117 rfl rfl rfl rfl ?_
  refine jT_xiload (v := (0, 0)) (pcN := 121) jIQ_161_119 rfl rfl rfl ?_
  refine jT_xbipush (k := 6) (pcN := 123) jIQ_161_121 (by decide) rfl ?_
  refine jT_xicF (t := 159) (pcN := 126) jIQ_161_123 rfl (by decide +kernel) rfl rfl ?_
  refine jT_xaload_n (v := (4, 0)) (pcN := 127) jIQ_161_126 rfl rfl rfl ?_
  refine jT_xgetf (a := 0) (t := 1) (ci := 13) (fi := 7) (c := jzQ_16) (v := (4, 9)) (pcN := 130) jIQ_161_127 rfl rfl rfl rfl rfl rfl rfl ?_
  refine jT_xiload (v := (0, 0)) (pcN := 132) jIQ_161_130 rfl rfl rfl ?_
  refine jT_xaload_n (v := (4, 1)) (pcN := 133) jIQ_161_132 rfl rfl rfl ?_
  refine jT_xgetf (a := 1) (t := 2) (ci := 4) (fi := 0) (c := (4, [(4, 13), (1, 1)], [])) (v := (4, 13)) (pcN := 136) jIQ_161_133 rfl rfl rfl rfl rfl rfl rfl ?_
  refine jT_xiload (v := (0, 0)) (pcN := 138) jIQ_161_136 rfl rfl rfl ?_
  refine jT_lald (x := 0) (a := 13) (j := 0) (fs := []) (X := [0, 0, 0, 0, 0, 0]) jIQ_161_138 rfl rfl rfl rfl ?_
  refine jT_eq (LN := [(7, (0, 0)), (5, (1, q1)), (0, (4, 0)), (1, (0, r7)), (2, (0, r8)), (3, (4, 1)), (4, (0, 0))]) (stN := [(1, 0), (0, 0), (4, 9)]) (hsN := [jzQ_16, (4, [(4, 13), (1, 1)], []), (8, [(4, 14), (4, 15)], []), jgh, jgh, jgh, jgh, jgh, jgh, (101, [], [-q1, r7, r8, 0, 0, 0]), jgh, jgh, jgh, (101, [], [0, 0, 0, 0, 0, 0]), jgh, jgh]) rfl rfl rfl ?_
  refine jT_xaload_n (v := (4, 0)) (pcN := 140) jIQ_161_139 rfl rfl rfl ?_
  refine jT_xgetf (a := 0) (t := 1) (ci := 13) (fi := 7) (c := jzQ_16) (v := (4, 9)) (pcN := 143) jIQ_161_140 rfl rfl rfl rfl rfl rfl rfl ?_
  refine jT_xiload (v := (0, 0)) (pcN := 145) jIQ_161_143 rfl rfl rfl ?_
  refine jT_lald (x := -q1) (a := 9) (j := 0) (fs := []) (X := [-q1, r7, r8, 0, 0, 0]) jIQ_161_145 rfl rfl rfl rfl ?_
  refine jT_eq (LN := [(7, (0, 0)), (5, (1, q1)), (0, (4, 0)), (1, (0, r7)), (2, (0, r8)), (3, (4, 1)), (4, (0, 0))]) (stN := [(1, -q1), (1, 0), (0, 0), (4, 9)]) (hsN := [jzQ_16, (4, [(4, 13), (1, 1)], []), (8, [(4, 14), (4, 15)], []), jgh, jgh, jgh, jgh, jgh, jgh, (101, [], [-q1, r7, r8, 0, 0, 0]), jgh, jgh, jgh, (101, [], [0, 0, 0, 0, 0, 0]), jgh, jgh]) rfl rfl rfl ?_
  refine jT_xaload_n (v := (4, 1)) (pcN := 147) jIQ_161_146 rfl rfl rfl ?_
  refine jT_xgetf (a := 1) (t := 2) (ci := 4) (fi := 1) (c := (4, [(4, 13), (1, 1)], [])) (v := (1, 1)) (pcN := 150) jIQ_161_147 rfl rfl rfl rfl rfl rfl rfl ?_
  refine jT_xlmul (x := -q1) (y := 1) (z := -q1) (pcN := 151) jIQ_161_150 rfl (by omega) rfl ?_
  refine jT_xlsub (x := 0) (y := -q1) (z := q1) (pcN := 152) jIQ_161_151 rfl (by omega) rfl ?_
  refine jT_adv 1 (pcN := 153) (LN := [(7, (0, 0)), (5, (1, q1)), (0, (4, 0)), (1, (0, r7)), (2, (0, r8)), (3, (4, 1)), (4, (0, 0))]) (stN := []) (hsN := [jzQ_16, (4, [(4, 13), (1, 1)], []), (8, [(4, 14), (4, 15)], []), jgh, jgh, jgh, jgh, jgh, jgh, (101, [], [q1, r7, r8, 0, 0, 0]), jgh, jgh, jgh, (101, [], [0, 0, 0, 0, 0, 0]), jgh, jgh]) (c1 := 0) (s1 := 0) (c2 := 0) (s2 := 0) (by exact rfl) ?_ (by omega) (by omega)
  refine jT_xiinc (x := 0) (z := 1) (LN := [(7, (0, 1)), (5, (1, q1)), (0, (4, 0)), (1, (0, r7)), (2, (0, r8)), (3, (4, 1)), (4, (0, 0))]) (pcN := 156) jIQ_161_153 rfl rfl (by decide) rfl rfl ?_
  refine jT_xgoto (pcN := 119) jIQ_161_156 rfl ?_
  refine jT_xiload (v := (0, 1)) (pcN := 121) jIQ_161_119 rfl rfl rfl ?_
  refine jT_xbipush (k := 6) (pcN := 123) jIQ_161_121 (by decide) rfl ?_
  refine jT_xicF (t := 159) (pcN := 126) jIQ_161_123 rfl (by decide +kernel) rfl rfl ?_
  refine jT_xaload_n (v := (4, 0)) (pcN := 127) jIQ_161_126 rfl rfl rfl ?_
  refine jT_xgetf (a := 0) (t := 1) (ci := 13) (fi := 7) (c := jzQ_16) (v := (4, 9)) (pcN := 130) jIQ_161_127 rfl rfl rfl rfl rfl rfl rfl ?_
  refine jT_xiload (v := (0, 1)) (pcN := 132) jIQ_161_130 rfl rfl rfl ?_
  refine jT_xaload_n (v := (4, 1)) (pcN := 133) jIQ_161_132 rfl rfl rfl ?_
  refine jT_xgetf (a := 1) (t := 2) (ci := 4) (fi := 0) (c := (4, [(4, 13), (1, 1)], [])) (v := (4, 13)) (pcN := 136) jIQ_161_133 rfl rfl rfl rfl rfl rfl rfl ?_
  refine jT_xiload (v := (0, 1)) (pcN := 138) jIQ_161_136 rfl rfl rfl ?_
  refine jT_lald (x := 0) (a := 13) (j := 1) (fs := []) (X := [0, 0, 0, 0, 0, 0]) jIQ_161_138 rfl rfl rfl rfl ?_
  refine jT_eq (LN := [(7, (0, 1)), (5, (1, q1)), (0, (4, 0)), (1, (0, r7)), (2, (0, r8)), (3, (4, 1)), (4, (0, 0))]) (stN := [(1, 0), (0, 1), (4, 9)]) (hsN := [jzQ_16, (4, [(4, 13), (1, 1)], []), (8, [(4, 14), (4, 15)], []), jgh, jgh, jgh, jgh, jgh, jgh, (101, [], [q1, r7, r8, 0, 0, 0]), jgh, jgh, jgh, (101, [], [0, 0, 0, 0, 0, 0]), jgh, jgh]) rfl rfl rfl ?_
  refine jT_xaload_n (v := (4, 0)) (pcN := 140) jIQ_161_139 rfl rfl rfl ?_
  refine jT_xgetf (a := 0) (t := 1) (ci := 13) (fi := 7) (c := jzQ_16) (v := (4, 9)) (pcN := 143) jIQ_161_140 rfl rfl rfl rfl rfl rfl rfl ?_
  refine jT_xiload (v := (0, 1)) (pcN := 145) jIQ_161_143 rfl rfl rfl ?_
  refine jT_lald (x := r7) (a := 9) (j := 1) (fs := []) (X := [q1, r7, r8, 0, 0, 0]) jIQ_161_145 rfl rfl rfl rfl ?_
  refine jT_eq (LN := [(7, (0, 1)), (5, (1, q1)), (0, (4, 0)), (1, (0, r7)), (2, (0, r8)), (3, (4, 1)), (4, (0, 0))]) (stN := [(1, r7), (1, 0), (0, 1), (4, 9)]) (hsN := [jzQ_16, (4, [(4, 13), (1, 1)], []), (8, [(4, 14), (4, 15)], []), jgh, jgh, jgh, jgh, jgh, jgh, (101, [], [q1, r7, r8, 0, 0, 0]), jgh, jgh, jgh, (101, [], [0, 0, 0, 0, 0, 0]), jgh, jgh]) rfl rfl rfl ?_
  refine jT_xaload_n (v := (4, 1)) (pcN := 147) jIQ_161_146 rfl rfl rfl ?_
  refine jT_xgetf (a := 1) (t := 2) (ci := 4) (fi := 1) (c := (4, [(4, 13), (1, 1)], [])) (v := (1, 1)) (pcN := 150) jIQ_161_147 rfl rfl rfl rfl rfl rfl rfl ?_
  refine jT_xlmul (x := r7) (y := 1) (z := r7) (pcN := 151) jIQ_161_150 rfl (by omega) rfl ?_
  refine jT_xlsub (x := 0) (y := r7) (z := -r7) (pcN := 152) jIQ_161_151 rfl (by omega) rfl ?_
  refine jT_adv 1 (pcN := 153) (LN := [(7, (0, 1)), (5, (1, q1)), (0, (4, 0)), (1, (0, r7)), (2, (0, r8)), (3, (4, 1)), (4, (0, 0))]) (stN := []) (hsN := [jzQ_16, (4, [(4, 13), (1, 1)], []), (8, [(4, 14), (4, 15)], []), jgh, jgh, jgh, jgh, jgh, jgh, (101, [], [q1, -r7, r8, 0, 0, 0]), jgh, jgh, jgh, (101, [], [0, 0, 0, 0, 0, 0]), jgh, jgh]) (c1 := 0) (s1 := 0) (c2 := 0) (s2 := 0) (by exact rfl) ?_ (by omega) (by omega)
  refine jT_xiinc (x := 1) (z := 2) (LN := [(7, (0, 2)), (5, (1, q1)), (0, (4, 0)), (1, (0, r7)), (2, (0, r8)), (3, (4, 1)), (4, (0, 0))]) (pcN := 156) jIQ_161_153 rfl rfl (by decide) rfl rfl ?_
  refine jT_xgoto (pcN := 119) jIQ_161_156 rfl ?_
  refine jT_xiload (v := (0, 2)) (pcN := 121) jIQ_161_119 rfl rfl rfl ?_
  refine jT_xbipush (k := 6) (pcN := 123) jIQ_161_121 (by decide) rfl ?_
  refine jT_xicF (t := 159) (pcN := 126) jIQ_161_123 rfl (by decide +kernel) rfl rfl ?_
  refine jT_xaload_n (v := (4, 0)) (pcN := 127) jIQ_161_126 rfl rfl rfl ?_
  refine jT_xgetf (a := 0) (t := 1) (ci := 13) (fi := 7) (c := jzQ_16) (v := (4, 9)) (pcN := 130) jIQ_161_127 rfl rfl rfl rfl rfl rfl rfl ?_
  refine jT_xiload (v := (0, 2)) (pcN := 132) jIQ_161_130 rfl rfl rfl ?_
  refine jT_xaload_n (v := (4, 1)) (pcN := 133) jIQ_161_132 rfl rfl rfl ?_
  refine jT_xgetf (a := 1) (t := 2) (ci := 4) (fi := 0) (c := (4, [(4, 13), (1, 1)], [])) (v := (4, 13)) (pcN := 136) jIQ_161_133 rfl rfl rfl rfl rfl rfl rfl ?_
  refine jT_xiload (v := (0, 2)) (pcN := 138) jIQ_161_136 rfl rfl rfl ?_
  refine jT_lald (x := 0) (a := 13) (j := 2) (fs := []) (X := [0, 0, 0, 0, 0, 0]) jIQ_161_138 rfl rfl rfl rfl ?_
  refine jT_eq (LN := [(7, (0, 2)), (5, (1, q1)), (0, (4, 0)), (1, (0, r7)), (2, (0, r8)), (3, (4, 1)), (4, (0, 0))]) (stN := [(1, 0), (0, 2), (4, 9)]) (hsN := [jzQ_16, (4, [(4, 13), (1, 1)], []), (8, [(4, 14), (4, 15)], []), jgh, jgh, jgh, jgh, jgh, jgh, (101, [], [q1, -r7, r8, 0, 0, 0]), jgh, jgh, jgh, (101, [], [0, 0, 0, 0, 0, 0]), jgh, jgh]) rfl rfl rfl ?_
  refine jT_xaload_n (v := (4, 0)) (pcN := 140) jIQ_161_139 rfl rfl rfl ?_
  refine jT_xgetf (a := 0) (t := 1) (ci := 13) (fi := 7) (c := jzQ_16) (v := (4, 9)) (pcN := 143) jIQ_161_140 rfl rfl rfl rfl rfl rfl rfl ?_
  refine jT_xiload (v := (0, 2)) (pcN := 145) jIQ_161_143 rfl rfl rfl ?_
  refine jT_lald (x := r8) (a := 9) (j := 2) (fs := []) (X := [q1, -r7, r8, 0, 0, 0]) jIQ_161_145 rfl rfl rfl rfl ?_
  refine jT_eq (LN := [(7, (0, 2)), (5, (1, q1)), (0, (4, 0)), (1, (0, r7)), (2, (0, r8)), (3, (4, 1)), (4, (0, 0))]) (stN := [(1, r8), (1, 0), (0, 2), (4, 9)]) (hsN := [jzQ_16, (4, [(4, 13), (1, 1)], []), (8, [(4, 14), (4, 15)], []), jgh, jgh, jgh, jgh, jgh, jgh, (101, [], [q1, -r7, r8, 0, 0, 0]), jgh, jgh, jgh, (101, [], [0, 0, 0, 0, 0, 0]), jgh, jgh]) rfl rfl rfl ?_
  refine jT_xaload_n (v := (4, 1)) (pcN := 147) jIQ_161_146 rfl rfl rfl ?_
  refine jT_xgetf (a := 1) (t := 2) (ci := 4) (fi := 1) (c := (4, [(4, 13), (1, 1)], [])) (v := (1, 1)) (pcN := 150) jIQ_161_147 rfl rfl rfl rfl rfl rfl rfl ?_
  refine jT_xlmul (x := r8) (y := 1) (z := r8) (pcN := 151) jIQ_161_150 rfl (by omega) rfl ?_
  refine jT_xlsub (x := 0) (y := r8) (z := -r8) (pcN := 152) jIQ_161_151 rfl (by omega) rfl ?_
  refine jT_adv 1 (pcN := 153) (LN := [(7, (0, 2)), (5, (1, q1)), (0, (4, 0)), (1, (0, r7)), (2, (0, r8)), (3, (4, 1)), (4, (0, 0))]) (stN := []) (hsN := [jzQ_16, (4, [(4, 13), (1, 1)], []), (8, [(4, 14), (4, 15)], []), jgh, jgh, jgh, jgh, jgh, jgh, (101, [], [q1, -r7, -r8, 0, 0, 0]), jgh, jgh, jgh, (101, [], [0, 0, 0, 0, 0, 0]), jgh, jgh]) (c1 := 0) (s1 := 0) (c2 := 0) (s2 := 0) (by exact rfl) ?_ (by omega) (by omega)
  refine jT_xiinc (x := 2) (z := 3) (LN := [(7, (0, 3)), (5, (1, q1)), (0, (4, 0)), (1, (0, r7)), (2, (0, r8)), (3, (4, 1)), (4, (0, 0))]) (pcN := 156) jIQ_161_153 rfl rfl (by decide) rfl rfl ?_
  refine jT_xgoto (pcN := 119) jIQ_161_156 rfl ?_
  refine jT_xiload (v := (0, 3)) (pcN := 121) jIQ_161_119 rfl rfl rfl ?_
  refine jT_xbipush (k := 6) (pcN := 123) jIQ_161_121 (by decide) rfl ?_
  refine jT_xicF (t := 159) (pcN := 126) jIQ_161_123 rfl (by decide +kernel) rfl rfl ?_
  refine jT_xaload_n (v := (4, 0)) (pcN := 127) jIQ_161_126 rfl rfl rfl ?_
  refine jT_xgetf (a := 0) (t := 1) (ci := 13) (fi := 7) (c := jzQ_16) (v := (4, 9)) (pcN := 130) jIQ_161_127 rfl rfl rfl rfl rfl rfl rfl ?_
  refine jT_xiload (v := (0, 3)) (pcN := 132) jIQ_161_130 rfl rfl rfl ?_
  refine jT_xaload_n (v := (4, 1)) (pcN := 133) jIQ_161_132 rfl rfl rfl ?_
  refine jT_xgetf (a := 1) (t := 2) (ci := 4) (fi := 0) (c := (4, [(4, 13), (1, 1)], [])) (v := (4, 13)) (pcN := 136) jIQ_161_133 rfl rfl rfl rfl rfl rfl rfl ?_
  refine jT_xiload (v := (0, 3)) (pcN := 138) jIQ_161_136 rfl rfl rfl ?_
  refine jT_lald (x := 0) (a := 13) (j := 3) (fs := []) (X := [0, 0, 0, 0, 0, 0]) jIQ_161_138 rfl rfl rfl rfl ?_
  refine jT_eq (LN := [(7, (0, 3)), (5, (1, q1)), (0, (4, 0)), (1, (0, r7)), (2, (0, r8)), (3, (4, 1)), (4, (0, 0))]) (stN := [(1, 0), (0, 3), (4, 9)]) (hsN := [jzQ_16, (4, [(4, 13), (1, 1)], []), (8, [(4, 14), (4, 15)], []), jgh, jgh, jgh, jgh, jgh, jgh, (101, [], [q1, -r7, -r8, 0, 0, 0]), jgh, jgh, jgh, (101, [], [0, 0, 0, 0, 0, 0]), jgh, jgh]) rfl rfl rfl ?_
  refine jT_xaload_n (v := (4, 0)) (pcN := 140) jIQ_161_139 rfl rfl rfl ?_
  refine jT_xgetf (a := 0) (t := 1) (ci := 13) (fi := 7) (c := jzQ_16) (v := (4, 9)) (pcN := 143) jIQ_161_140 rfl rfl rfl rfl rfl rfl rfl ?_
  refine jT_xiload (v := (0, 3)) (pcN := 145) jIQ_161_143 rfl rfl rfl ?_
  refine jT_lald (x := 0) (a := 9) (j := 3) (fs := []) (X := [q1, -r7, -r8, 0, 0, 0]) jIQ_161_145 rfl rfl rfl rfl ?_
  refine jT_eq (LN := [(7, (0, 3)), (5, (1, q1)), (0, (4, 0)), (1, (0, r7)), (2, (0, r8)), (3, (4, 1)), (4, (0, 0))]) (stN := [(1, 0), (1, 0), (0, 3), (4, 9)]) (hsN := [jzQ_16, (4, [(4, 13), (1, 1)], []), (8, [(4, 14), (4, 15)], []), jgh, jgh, jgh, jgh, jgh, jgh, (101, [], [q1, -r7, -r8, 0, 0, 0]), jgh, jgh, jgh, (101, [], [0, 0, 0, 0, 0, 0]), jgh, jgh]) rfl rfl rfl ?_
  refine jT_xaload_n (v := (4, 1)) (pcN := 147) jIQ_161_146 rfl rfl rfl ?_
  refine jT_xgetf (a := 1) (t := 2) (ci := 4) (fi := 1) (c := (4, [(4, 13), (1, 1)], [])) (v := (1, 1)) (pcN := 150) jIQ_161_147 rfl rfl rfl rfl rfl rfl rfl ?_
  refine jT_xlmul (x := 0) (y := 1) (z := 0) (pcN := 151) jIQ_161_150 rfl (by decide) rfl ?_
  refine jT_xlsub (x := 0) (y := 0) (z := 0) (pcN := 152) jIQ_161_151 rfl (by decide) rfl ?_
  refine jT_adv 1 (pcN := 153) (LN := [(7, (0, 3)), (5, (1, q1)), (0, (4, 0)), (1, (0, r7)), (2, (0, r8)), (3, (4, 1)), (4, (0, 0))]) (stN := []) (hsN := [jzQ_16, (4, [(4, 13), (1, 1)], []), (8, [(4, 14), (4, 15)], []), jgh, jgh, jgh, jgh, jgh, jgh, (101, [], [q1, -r7, -r8, 0, 0, 0]), jgh, jgh, jgh, (101, [], [0, 0, 0, 0, 0, 0]), jgh, jgh]) (c1 := 0) (s1 := 0) (c2 := 0) (s2 := 0) (by exact rfl) ?_ (by omega) (by omega)
  refine jT_xiinc (x := 3) (z := 4) (LN := [(7, (0, 4)), (5, (1, q1)), (0, (4, 0)), (1, (0, r7)), (2, (0, r8)), (3, (4, 1)), (4, (0, 0))]) (pcN := 156) jIQ_161_153 rfl rfl (by decide) rfl rfl ?_
  refine jT_xgoto (pcN := 119) jIQ_161_156 rfl ?_
  refine jT_xiload (v := (0, 4)) (pcN := 121) jIQ_161_119 rfl rfl rfl ?_
  refine jT_xbipush (k := 6) (pcN := 123) jIQ_161_121 (by decide) rfl ?_
  refine jT_xicF (t := 159) (pcN := 126) jIQ_161_123 rfl (by decide +kernel) rfl rfl ?_
  refine jT_xaload_n (v := (4, 0)) (pcN := 127) jIQ_161_126 rfl rfl rfl ?_
  refine jT_xgetf (a := 0) (t := 1) (ci := 13) (fi := 7) (c := jzQ_16) (v := (4, 9)) (pcN := 130) jIQ_161_127 rfl rfl rfl rfl rfl rfl rfl ?_
  refine jT_xiload (v := (0, 4)) (pcN := 132) jIQ_161_130 rfl rfl rfl ?_
  refine jT_xaload_n (v := (4, 1)) (pcN := 133) jIQ_161_132 rfl rfl rfl ?_
  refine jT_xgetf (a := 1) (t := 2) (ci := 4) (fi := 0) (c := (4, [(4, 13), (1, 1)], [])) (v := (4, 13)) (pcN := 136) jIQ_161_133 rfl rfl rfl rfl rfl rfl rfl ?_
  refine jT_xiload (v := (0, 4)) (pcN := 138) jIQ_161_136 rfl rfl rfl ?_
  refine jT_lald (x := 0) (a := 13) (j := 4) (fs := []) (X := [0, 0, 0, 0, 0, 0]) jIQ_161_138 rfl rfl rfl rfl ?_
  refine jT_eq (LN := [(7, (0, 4)), (5, (1, q1)), (0, (4, 0)), (1, (0, r7)), (2, (0, r8)), (3, (4, 1)), (4, (0, 0))]) (stN := [(1, 0), (0, 4), (4, 9)]) (hsN := [jzQ_16, (4, [(4, 13), (1, 1)], []), (8, [(4, 14), (4, 15)], []), jgh, jgh, jgh, jgh, jgh, jgh, (101, [], [q1, -r7, -r8, 0, 0, 0]), jgh, jgh, jgh, (101, [], [0, 0, 0, 0, 0, 0]), jgh, jgh]) rfl rfl rfl ?_
  refine jT_xaload_n (v := (4, 0)) (pcN := 140) jIQ_161_139 rfl rfl rfl ?_
  refine jT_xgetf (a := 0) (t := 1) (ci := 13) (fi := 7) (c := jzQ_16) (v := (4, 9)) (pcN := 143) jIQ_161_140 rfl rfl rfl rfl rfl rfl rfl ?_
  refine jT_xiload (v := (0, 4)) (pcN := 145) jIQ_161_143 rfl rfl rfl ?_
  refine jT_lald (x := 0) (a := 9) (j := 4) (fs := []) (X := [q1, -r7, -r8, 0, 0, 0]) jIQ_161_145 rfl rfl rfl rfl ?_
  refine jT_eq (LN := [(7, (0, 4)), (5, (1, q1)), (0, (4, 0)), (1, (0, r7)), (2, (0, r8)), (3, (4, 1)), (4, (0, 0))]) (stN := [(1, 0), (1, 0), (0, 4), (4, 9)]) (hsN := [jzQ_16, (4, [(4, 13), (1, 1)], []), (8, [(4, 14), (4, 15)], []), jgh, jgh, jgh, jgh, jgh, jgh, (101, [], [q1, -r7, -r8, 0, 0, 0]), jgh, jgh, jgh, (101, [], [0, 0, 0, 0, 0, 0]), jgh, jgh]) rfl rfl rfl ?_
  refine jT_xaload_n (v := (4, 1)) (pcN := 147) jIQ_161_146 rfl rfl rfl ?_
  refine jT_xgetf (a := 1) (t := 2) (ci := 4) (fi := 1) (c := (4, [(4, 13), (1, 1)], [])) (v := (1, 1)) (pcN := 150) jIQ_161_147 rfl rfl rfl rfl rfl rfl rfl ?_
  refine jT_xlmul (x := 0) (y := 1) (z := 0) (pcN := 151) jIQ_161_150 rfl (by decide) rfl ?_
  refine jT_xlsub (x := 0) (y := 0) (z := 0) (pcN := 152) jIQ_161_151 rfl (by decide) rfl ?_
  refine jT_adv 1 (pcN := 153) (LN := [(7, (0, 4)), (5, (1, q1)), (0, (4, 0)), (1, (0, r7)), (2, (0, r8)), (3, (4, 1)), (4, (0, 0))]) (stN := []) (hsN := [jzQ_16, (4, [(4, 13), (1, 1)], []), (8, [(4, 14), (4, 15)], []), jgh, jgh, jgh, jgh, jgh, jgh, (101, [], [q1, -r7, -r8, 0, 0, 0]), jgh, jgh, jgh, (101, [], [0, 0, 0, 0, 0, 0]), jgh, jgh]) (c1 := 0) (s1 := 0) (c2 := 0) (s2 := 0) (by exact rfl) ?_ (by omega) (by omega)
  refine jT_xiinc (x := 4) (z := 5) (LN := [(7, (0, 5)), (5, (1, q1)), (0, (4, 0)), (1, (0, r7)), (2, (0, r8)), (3, (4, 1)), (4, (0, 0))]) (pcN := 156) jIQ_161_153 rfl rfl (by decide) rfl rfl ?_
  refine jT_xgoto (pcN := 119) jIQ_161_156 rfl ?_
  refine jT_xiload (v := (0, 5)) (pcN := 121) jIQ_161_119 rfl rfl rfl ?_
  refine jT_xbipush (k := 6) (pcN := 123) jIQ_161_121 (by decide) rfl ?_
  refine jT_xicF (t := 159) (pcN := 126) jIQ_161_123 rfl (by decide +kernel) rfl rfl ?_
  refine jT_xaload_n (v := (4, 0)) (pcN := 127) jIQ_161_126 rfl rfl rfl ?_
  refine jT_xgetf (a := 0) (t := 1) (ci := 13) (fi := 7) (c := jzQ_16) (v := (4, 9)) (pcN := 130) jIQ_161_127 rfl rfl rfl rfl rfl rfl rfl ?_
  refine jT_xiload (v := (0, 5)) (pcN := 132) jIQ_161_130 rfl rfl rfl ?_
  refine jT_xaload_n (v := (4, 1)) (pcN := 133) jIQ_161_132 rfl rfl rfl ?_
  refine jT_xgetf (a := 1) (t := 2) (ci := 4) (fi := 0) (c := (4, [(4, 13), (1, 1)], [])) (v := (4, 13)) (pcN := 136) jIQ_161_133 rfl rfl rfl rfl rfl rfl rfl ?_
  refine jT_xiload (v := (0, 5)) (pcN := 138) jIQ_161_136 rfl rfl rfl ?_
  refine jT_lald (x := 0) (a := 13) (j := 5) (fs := []) (X := [0, 0, 0, 0, 0, 0]) jIQ_161_138 rfl rfl rfl rfl ?_
  refine jT_eq (LN := [(7, (0, 5)), (5, (1, q1)), (0, (4, 0)), (1, (0, r7)), (2, (0, r8)), (3, (4, 1)), (4, (0, 0))]) (stN := [(1, 0), (0, 5), (4, 9)]) (hsN := [jzQ_16, (4, [(4, 13), (1, 1)], []), (8, [(4, 14), (4, 15)], []), jgh, jgh, jgh, jgh, jgh, jgh, (101, [], [q1, -r7, -r8, 0, 0, 0]), jgh, jgh, jgh, (101, [], [0, 0, 0, 0, 0, 0]), jgh, jgh]) rfl rfl rfl ?_
  refine jT_xaload_n (v := (4, 0)) (pcN := 140) jIQ_161_139 rfl rfl rfl ?_
  refine jT_xgetf (a := 0) (t := 1) (ci := 13) (fi := 7) (c := jzQ_16) (v := (4, 9)) (pcN := 143) jIQ_161_140 rfl rfl rfl rfl rfl rfl rfl ?_
  refine jT_xiload (v := (0, 5)) (pcN := 145) jIQ_161_143 rfl rfl rfl ?_
  refine jT_lald (x := 0) (a := 9) (j := 5) (fs := []) (X := [q1, -r7, -r8, 0, 0, 0]) jIQ_161_145 rfl rfl rfl rfl ?_
  refine jT_eq (LN := [(7, (0, 5)), (5, (1, q1)), (0, (4, 0)), (1, (0, r7)), (2, (0, r8)), (3, (4, 1)), (4, (0, 0))]) (stN := [(1, 0), (1, 0), (0, 5), (4, 9)]) (hsN := [jzQ_16, (4, [(4, 13), (1, 1)], []), (8, [(4, 14), (4, 15)], []), jgh, jgh, jgh, jgh, jgh, jgh, (101, [], [q1, -r7, -r8, 0, 0, 0]), jgh, jgh, jgh, (101, [], [0, 0, 0, 0, 0, 0]), jgh, jgh]) rfl rfl rfl ?_
  refine jT_xaload_n (v := (4, 1)) (pcN := 147) jIQ_161_146 rfl rfl rfl ?_
  refine jT_xgetf (a := 1) (t := 2) (ci := 4) (fi := 1) (c := (4, [(4, 13), (1, 1)], [])) (v := (1, 1)) (pcN := 150) jIQ_161_147 rfl rfl rfl rfl rfl rfl rfl ?_
  refine jT_xlmul (x := 0) (y := 1) (z := 0) (pcN := 151) jIQ_161_150 rfl (by decide) rfl ?_
  refine jT_xlsub (x := 0) (y := 0) (z := 0) (pcN := 152) jIQ_161_151 rfl (by decide) rfl ?_
  refine jT_adv 1 (pcN := 153) (LN := [(7, (0, 5)), (5, (1, q1)), (0, (4, 0)), (1, (0, r7)), (2, (0, r8)), (3, (4, 1)), (4, (0, 0))]) (stN := []) (hsN := [jzQ_16, (4, [(4, 13), (1, 1)], []), (8, [(4, 14), (4, 15)], []), jgh, jgh, jgh, jgh, jgh, jgh, (101, [], [q1, -r7, -r8, 0, 0, 0]), jgh, jgh, jgh, (101, [], [0, 0, 0, 0, 0, 0]), jgh, jgh]) (c1 := 0) (s1 := 0) (c2 := 0) (s2 := 0) (by exact rfl) ?_ (by omega) (by omega)
  refine jT_xiinc (x := 5) (z := 6) (LN := [(7, (0, 6)), (5, (1, q1)), (0, (4, 0)), (1, (0, r7)), (2, (0, r8)), (3, (4, 1)), (4, (0, 0))]) (pcN := 156) jIQ_161_153 rfl rfl (by decide) rfl rfl ?_
  refine jT_xgoto (pcN := 119) jIQ_161_156 rfl ?_
  refine jT_xiload (v := (0, 6)) (pcN := 121) jIQ_161_119 rfl rfl rfl ?_
  refine jT_xbipush (k := 6) (pcN := 123) jIQ_161_121 (by decide) rfl ?_
  refine jT_xicT (pcN := 159) jIQ_161_123 rfl (by decide +kernel) rfl ?_
  refine jT_xaload_n (v := (4, 0)) (pcN := 160) jIQ_161_159 rfl rfl rfl ?_
  refine jT_xgetf (a := 0) (t := 1) (ci := 13) (fi := 0) (c := jzQ_16) (v := (4, 2)) (pcN := 163) jIQ_161_160 rfl rfl rfl rfl rfl rfl rfl ?_
  refine jT_xaload_n (v := (4, 0)) (pcN := 164) jIQ_161_163 rfl rfl rfl ?_
  refine jT_xgetf (a := 0) (t := 1) (ci := 13) (fi := 7) (c := jzQ_16) (v := (4, 9)) (pcN := 167) jIQ_161_164 rfl rfl rfl rfl rfl rfl rfl ?_
  refine jT_callA [2, 9, 14, 15] (y := 38) (pcN := 170) (dC := 1) (bc1 := 0) (bc2 := 0) (c1 := 0) (c2 := 0) (as := [(4, 2), (4, 9)]) (asC := [(4, 0), (4, 1)]) (LN := [(7, (0, 6)), (5, (1, q1)), (0, (4, 0)), (1, (0, r7)), (2, (0, r8)), (3, (4, 1)), (4, (0, 0))]) (stN := []) (hsC := [(8, [(4, 2), (4, 3)], []), (101, [], [q1, -r7, -r8, 0, 0, 0]), jgh, jgh]) (ex := []) (v := (0, (-1))) (st2 := [(0, (-1))]) (hs2 := [jzQ_16, (4, [(4, 13), (1, 1)], []), (8, [(4, 14), (4, 15)], []), jgh, jgh, jgh, jgh, jgh, jgh, (101, [], [q1, -r7, -r8, 0, 0, 0]), jgh, jgh, jgh, (101, [], [0, 0, 0, 0, 0, 0]), jgh, jgh]) (jQl_sp38_117 (d := 0) (by omega) (by omega) (by omega) (by omega) (by omega) (by omega) (by omega)) (by rfl) (by rfl) (by rfl) (by rfl) ⟨rfl, rfl, rfl, rfl, trivial⟩ (by rfl) (by rfl) (by omega) (by show 16 ≤ 16; omega) (by omega) (by omega) rfl rfl ?_
  refine jT_xifT (pcN := 177) jIQ_161_170 rfl (by decide +kernel) rfl ?_
  refine jT_xiconst (k := 0) (pcN := 178) jIQ_161_177 rfl ?_
  subst hq_q1
  exact jT_ret rfl (by decide) (by show 16 ≤ 16; omega) (by omega) (by omega) ⟨rfl, rfl, rfl⟩
def jzQ_334 : JC := (9, [(4, 15), (4, 16), (4, 17), (4, 18), (4, 19)], [])
def jzQ_335 : JC := (114, [], [20, 20, 20, 20, 20, 20, 20, 20])
def jpQ_336 : List JC := [jzQ_16, (101, [], [0]), (8, [(4, 13), (4, 14)], []), jgh, jgh, jgh, jgh, jgh, jgh, jgh, (101, [], [0, 0, 0, 0, 0, 0]), jgh, jzQ_334, jgh, (101, [], [0, 0, 0, 0, 0, 0]), jzQ_335, jgh, jgh, jgh, jgh, (4, [(4, 21), (1, 1)], []), (101, [], [0, 0, 0, 0, 0, 0]), (101, [], [1, 0, 0, 0, 0, 0]), (4, [(4, 22), (1, 1)], [])]
theorem jIQ_362_12 : jmI (jm 362) 12 = (.i2l, 1) := by rfl
theorem jIQ_362_14 : jmI (jm 362) 14 = (.goto 15, 3) := by rfl
theorem jIQ_362_29 : jmI (jm 362) 29 = (.iconst 0, 1) := by rfl
def jpQ_340 : List JC := [jzQ_16, (101, [], [0]), (8, [(4, 13), (4, 14)], []), jgh, jgh, jgh, jgh, jgh, jgh, (101, [], [0, 0, 0, 0, 0, 0]), (101, [], [0, 0, 0, 0, 0, 0]), jgh, jzQ_334, jgh, (101, [], [0, 0, 0, 0, 0, 0]), jzQ_335, jgh, jgh, jgh, jgh, (4, [(4, 21), (1, 1)], []), (101, [], [0, 0, 0, 0, 0, 0])]
theorem jQ_362_134 {xs : List Int} {d : Nat} {x1 x2 x3 : Int} (h_x1 : 0 ≤ x1 ∧ x1 ≤ 20) (h_x2 : 0 ≤ x2 ∧ x2 ≤ 10) (h_x3 : 0 ≤ x3 ∧ x3 ≤ 7) : jT xs (d + 6) 362 22 0 [(0, (4, 0)), (1, (0, x1)), (2, (0, x2)), (3, (0, x3)), (4, (0, 0)), (5, (4, 1))] [] jpQ_340 2 8 (fun k v hsN => k = 0 ∧ v = (0, 0) ∧ hsN = jpQ_336) := by
  refine jT_xaload (v := (4, 1)) (pcN := 2) jIQ_362_0 rfl rfl rfl ?_
  refine jT_xiconst (k := 0) (pcN := 3) jIQ_362_2 rfl ?_
  refine jT_xaload_n (v := (4, 0)) (pcN := 4) jIQ_362_3 rfl rfl rfl ?_
  refine jT_xiload_n (v := (0, x1)) (pcN := 5) jIQ_362_4 rfl rfl rfl ?_
  refine jT_xiload_n (v := (0, x2)) (pcN := 6) jIQ_362_5 rfl rfl rfl ?_
  refine jT_xiload_n (v := (0, x3)) (pcN := 7) jIQ_362_6 rfl rfl rfl ?_
  refine jT_xiload (v := (0, 0)) (pcN := 9) jIQ_362_7 rfl rfl rfl ?_
  refine jT_fB [0, 2, 3, 4, 5, 6, 7, 8, 9, 10, 11, 12, 13, 14, 15, 16, 17, 18, 19, 20, 21] 22 (y := 160) (pcN := 12) (dC := 5) (bc1 := 2) (bc2 := 8) (c1 := 0) (c2 := 0) (as := [(4, 0), (0, x1), (0, x2), (0, x3), (0, 0)]) (asC := [(4, 0), (0, x1), (0, x2), (0, x3), (0, 0)]) (LN := [(0, (4, 0)), (1, (0, x1)), (2, (0, x2)), (3, (0, x3)), (4, (0, 0)), (5, (4, 1))]) (stN := [(0, 0), (4, 1)]) (hsC := jpQ_333) (hsD := jpQ_332) (v := (0, 0)) (st2 := [(0, 0), (0, 0), (4, 1)]) (hs2 := jpQ_336) (jQ_160_129 (d := 0) (by omega) (by omega) (by omega)) (by rfl) (by rfl) (by decide +kernel) (by rfl) (by rfl) (by omega) (by omega) (by omega) (by omega) rfl (by decide +kernel) ?_
  refine jT_xi2l (x := 0) (z := 0) (pcN := 13) jIQ_362_12 rfl (by decide +kernel) rfl ?_
  refine jT_adv 1 (pcN := 14) (LN := [(0, (4, 0)), (1, (0, x1)), (2, (0, x2)), (3, (0, x3)), (4, (0, 0)), (5, (4, 1))]) (stN := []) (hsN := jpQ_336) (c1 := 0) (s1 := 0) (c2 := 0) (s2 := 0) (by exact rfl) ?_ (by omega) (by omega)
  refine jT_xgoto (pcN := 29) jIQ_362_14 rfl ?_
  refine jT_xiconst (k := 0) (pcN := 30) jIQ_362_29 rfl ?_
  exact jT_ret rfl (by decide) (by show 22 ≤ 24; omega) (by omega) (by omega) ⟨rfl, rfl, rfl⟩
theorem jQ_189_135 {xs : List Int} {d : Nat} : jT xs d 189 0 0 [(0, (1, 0)), (2, (1, 0)), (4, (1, 100))] [] [] 0 0 (fun k v hsN => k = 0 ∧ v = (0, 1) ∧ hsN = [] ++ []) := by
  refine jT_advK 10 (pcN := 18) (LN := [(0, (1, 0)), (2, (1, 0)), (4, (1, 100))]) (stN := [(0, 1)]) (hsN := []) (c1 := 0) (s1 := 0) (c2 := 0) (s2 := 0) (by decide +kernel) ?_ (by omega) (by omega)
  exact jT_ret rfl (by decide) (by show 0 ≤ 0; omega) (by omega) (by omega) ⟨rfl, rfl, rfl⟩
theorem jQ_188_136 {xs : List Int} {d : Nat} {x3 : Int} (h_x3 : 0 ≤ x3 ∧ x3 ≤ 7) : jT xs (d + 1) 188 0 0 [(0, (0, x3))] [] [] 0 0 (fun k v hsN => k = 0 ∧ v = (0, 1) ∧ hsN = [] ++ []) := by
  refine jT_xiload_n (v := (0, x3)) (pcN := 1) jIQ_188_0 rfl rfl rfl ?_
  refine jT_xi2l (x := x3) (z := x3) (pcN := 2) jIQ_188_1 rfl (jw_idd (by omega) (by omega)) rfl ?_
  refine jT_xlconst (z := 0) (pcN := 3) jIQ_188_2 rfl rfl ?_
  refine jT_adv 1 (pcN := 6) (LN := [(0, (0, x3))]) (stN := [(1, 7), (1, 0), (1, x3)]) (hsN := []) (c1 := 0) (s1 := 0) (c2 := 0) (s2 := 0) (by exact rfl) ?_ (by omega) (by omega)
  refine jT_fR [] 0 (y := 189) (pcN := 9) (dC := 0) (bc1 := 0) (bc2 := 0) (c1 := 0) (c2 := 0) (as := [(1, x3), (1, 0), (1, 7)]) (asC := [(1, x3), (1, 0), (1, 7)]) (LN := [(0, (0, x3))]) (stN := []) (hsC := []) (v := (0, 1)) (st2 := [(0, 1)]) (jT_in_ok (d := 0) (v := x3) (lo := 0) (hi := 7) (by omega) (by omega) (by omega) (by omega) (by omega)) (by rfl) (by rfl) (by decide +kernel) (by rfl) (by rfl) (by omega) (by omega) (by omega) (by omega) rfl ?_
  exact jT_ret rfl (by decide) (by show 0 ≤ 0; omega) (by omega) (by omega) ⟨rfl, rfl, rfl⟩
theorem jQ_191_137 {xs : List Int} {d : Nat} : jT xs d 191 1 0 [(0, (4, 0)), (1, (0, 1)), (2, (0, 2))] [] [jgh] 0 0 (fun k v hsN => k = 0 ∧ v = (0, 0) ∧ hsN = [jgh] ++ []) := by
  refine jT_advK 5 (pcN := 18) (LN := [(0, (4, 0)), (1, (0, 1)), (2, (0, 2))]) (stN := [(0, 0)]) (hsN := [jgh]) (c1 := 0) (s1 := 0) (c2 := 0) (s2 := 0) (by decide +kernel) ?_ (by omega) (by omega)
  exact jT_ret rfl (by decide) (by show 1 ≤ 1; omega) (by omega) (by omega) ⟨rfl, rfl, rfl⟩
theorem jIQ_203_0 : jmI (jm 203) 0 = (.iconst 0, 1) := by rfl
theorem jIQ_203_1 : jmI (jm 203) 1 = (.istore_n 3, 1) := by rfl
theorem jIQ_203_2 : jmI (jm 203) 2 = (.iload_n 3, 1) := by rfl
theorem jIQ_203_3 : jmI (jm 203) 3 = (.bipush 6, 2) := by rfl
theorem jIQ_203_5 : jmI (jm 203) 5 = (.if_icmp .ge 21, 3) := by rfl
theorem jIQ_203_8 : jmI (jm 203) 8 = (.aload_n 0, 1) := by rfl
theorem jIQ_203_9 : jmI (jm 203) 9 = (.getfield 31, 3) := by rfl
theorem jIQ_203_12 : jmI (jm 203) 12 = (.iload_n 3, 1) := by rfl
theorem jIQ_203_13 : jmI (jm 203) 13 = (.aload_n 1, 1) := by rfl
theorem jIQ_203_14 : jmI (jm 203) 14 = (.iload_n 2, 1) := by rfl
theorem jIQ_203_15 : jmI (jm 203) 15 = (.iload_n 3, 1) := by rfl
theorem jIQ_203_16 : jmI (jm 203) 16 = (.iadd, 1) := by rfl
theorem jIQ_203_17 : jmI (jm 203) 17 = (.iaload, 1) := by rfl
def jpQ_354 : List JC := [jzQ_20, (100, [], jS0), jgh, jgh, jgh, jgh, jgh, (101, [], [0, 0, 0, 0, 0, 0]), jgh, jgh, jgh, jgh, jgh, jgh, jgh, jgh]
theorem jIQ_203_18 : jmI (jm 203) 18 = (.i2l, 1) := by rfl
theorem jIQ_203_20 : jmI (jm 203) 20 = (.iinc 3 1, 3) := by rfl
theorem jIQ_203_23 : jmI (jm 203) 23 = (.goto (-21), 3) := by rfl
theorem jIQ_203_26 : jmI (jm 203) 26 = (.aload_n 0, 1) := by rfl
theorem jIQ_203_27 : jmI (jm 203) 27 = (.aload_n 1, 1) := by rfl
theorem jIQ_203_28 : jmI (jm 203) 28 = (.iload_n 2, 1) := by rfl
theorem jIQ_203_29 : jmI (jm 203) 29 = (.bipush 6, 2) := by rfl
theorem jIQ_203_31 : jmI (jm 203) 31 = (.iadd, 1) := by rfl
theorem jIQ_203_32 : jmI (jm 203) 32 = (.iaload, 1) := by rfl
theorem jIQ_203_33 : jmI (jm 203) 33 = (.i2l, 1) := by rfl
theorem jQ_203_138 {xs : List Int} {d : Nat} {x3 : Int} (h_x3 : 0 ≤ x3 ∧ x3 ≤ 7) : jT xs d 203 16 0 [(0, (4, 0)), (1, (4, 1)), (2, (0, 7 * x3))] [] jpQ_354 0 0 (fun k v hsN => k = 0 ∧ v = (9, 0) ∧ hsN = jpQ_354 ++ []) := by
  refine jT_xiconst (k := 0) (pcN := 1) jIQ_203_0 rfl ?_
  refine jT_xistore_n (v := (0, 0)) (LN := [(3, (0, 0)), (0, (4, 0)), (1, (4, 1)), (2, (0, 7 * x3))]) (pcN := 2) jIQ_203_1 rfl rfl rfl rfl ?_
  refine jT_xiload_n (v := (0, 0)) (pcN := 3) jIQ_203_2 rfl rfl rfl ?_
  refine jT_xbipush (k := 6) (pcN := 5) jIQ_203_3 (by decide) rfl ?_
  refine jT_xicF (t := 26) (pcN := 8) jIQ_203_5 rfl (by decide +kernel) rfl rfl ?_
  refine jT_xaload_n (v := (4, 0)) (pcN := 9) jIQ_203_8 rfl rfl rfl ?_
  refine jT_xgetf (a := 0) (t := 1) (ci := 14) (fi := 9) (c := jzQ_20) (v := (4, 7)) (pcN := 12) jIQ_203_9 rfl rfl rfl rfl rfl rfl rfl ?_
  refine jT_xiload_n (v := (0, 0)) (pcN := 13) jIQ_203_12 rfl rfl rfl ?_
  refine jT_xaload_n (v := (4, 1)) (pcN := 14) jIQ_203_13 rfl rfl rfl ?_
  refine jT_xiload_n (v := (0, 7 * x3)) (pcN := 15) jIQ_203_14 rfl rfl rfl ?_
  refine jT_xiload_n (v := (0, 0)) (pcN := 16) jIQ_203_15 rfl rfl rfl ?_
  refine jT_xiadd (x := 7 * x3) (y := 0) (z := 7 * x3) (pcN := 17) jIQ_203_16 rfl (by omega) rfl ?_
  refine jT_iald (x := 0) (a := 1) (j := (7 * x3).toNat) (fs := []) (X := jS0) (by rfl) (by rfl) (by rfl) (jw_nn (by omega) (by omega)) (jS0_r0 (by omega) (by omega)) ?_
  refine jT_eq (LN := [(3, (0, 0)), (0, (4, 0)), (1, (4, 1)), (2, (0, 7 * x3))]) (stN := [(0, 0), (0, 0), (4, 7)]) (hsN := jpQ_354) rfl rfl rfl ?_
  refine jT_xi2l (x := 0) (z := 0) (pcN := 19) jIQ_203_18 rfl (by decide +kernel) rfl ?_
  refine jT_adv 1 (pcN := 20) (LN := [(3, (0, 0)), (0, (4, 0)), (1, (4, 1)), (2, (0, 7 * x3))]) (stN := []) (hsN := jpQ_354) (c1 := 0) (s1 := 0) (c2 := 0) (s2 := 0) (by exact rfl) ?_ (by omega) (by omega)
  refine jT_xiinc (x := 0) (z := 1) (LN := [(3, (0, 1)), (0, (4, 0)), (1, (4, 1)), (2, (0, 7 * x3))]) (pcN := 23) jIQ_203_20 rfl rfl (by decide) rfl rfl ?_
  refine jT_xgoto (pcN := 2) jIQ_203_23 rfl ?_
  refine jT_xiload_n (v := (0, 1)) (pcN := 3) jIQ_203_2 rfl rfl rfl ?_
  refine jT_xbipush (k := 6) (pcN := 5) jIQ_203_3 (by decide) rfl ?_
  refine jT_xicF (t := 26) (pcN := 8) jIQ_203_5 rfl (by decide +kernel) rfl rfl ?_
  refine jT_xaload_n (v := (4, 0)) (pcN := 9) jIQ_203_8 rfl rfl rfl ?_
  refine jT_xgetf (a := 0) (t := 1) (ci := 14) (fi := 9) (c := jzQ_20) (v := (4, 7)) (pcN := 12) jIQ_203_9 rfl rfl rfl rfl rfl rfl rfl ?_
  refine jT_xiload_n (v := (0, 1)) (pcN := 13) jIQ_203_12 rfl rfl rfl ?_
  refine jT_xaload_n (v := (4, 1)) (pcN := 14) jIQ_203_13 rfl rfl rfl ?_
  refine jT_xiload_n (v := (0, 7 * x3)) (pcN := 15) jIQ_203_14 rfl rfl rfl ?_
  refine jT_xiload_n (v := (0, 1)) (pcN := 16) jIQ_203_15 rfl rfl rfl ?_
  refine jT_xiadd (x := 7 * x3) (y := 1) (z := 7 * x3 + 1) (pcN := 17) jIQ_203_16 rfl (by omega) rfl ?_
  refine jT_iald (x := 0) (a := 1) (j := (7 * x3 + 1).toNat) (fs := []) (X := jS0) (by rfl) (by rfl) (by rfl) (jw_nn (by omega) (by omega)) (jS0_r1 (by omega) (by omega)) ?_
  refine jT_eq (LN := [(3, (0, 1)), (0, (4, 0)), (1, (4, 1)), (2, (0, 7 * x3))]) (stN := [(0, 0), (0, 1), (4, 7)]) (hsN := jpQ_354) rfl rfl rfl ?_
  refine jT_xi2l (x := 0) (z := 0) (pcN := 19) jIQ_203_18 rfl (by decide +kernel) rfl ?_
  refine jT_adv 1 (pcN := 20) (LN := [(3, (0, 1)), (0, (4, 0)), (1, (4, 1)), (2, (0, 7 * x3))]) (stN := []) (hsN := jpQ_354) (c1 := 0) (s1 := 0) (c2 := 0) (s2 := 0) (by exact rfl) ?_ (by omega) (by omega)
  refine jT_xiinc (x := 1) (z := 2) (LN := [(3, (0, 2)), (0, (4, 0)), (1, (4, 1)), (2, (0, 7 * x3))]) (pcN := 23) jIQ_203_20 rfl rfl (by decide) rfl rfl ?_
  refine jT_xgoto (pcN := 2) jIQ_203_23 rfl ?_
  refine jT_xiload_n (v := (0, 2)) (pcN := 3) jIQ_203_2 rfl rfl rfl ?_
  refine jT_xbipush (k := 6) (pcN := 5) jIQ_203_3 (by decide) rfl ?_
  refine jT_xicF (t := 26) (pcN := 8) jIQ_203_5 rfl (by decide +kernel) rfl rfl ?_
  refine jT_xaload_n (v := (4, 0)) (pcN := 9) jIQ_203_8 rfl rfl rfl ?_
  refine jT_xgetf (a := 0) (t := 1) (ci := 14) (fi := 9) (c := jzQ_20) (v := (4, 7)) (pcN := 12) jIQ_203_9 rfl rfl rfl rfl rfl rfl rfl ?_
  refine jT_xiload_n (v := (0, 2)) (pcN := 13) jIQ_203_12 rfl rfl rfl ?_
  refine jT_xaload_n (v := (4, 1)) (pcN := 14) jIQ_203_13 rfl rfl rfl ?_
  refine jT_xiload_n (v := (0, 7 * x3)) (pcN := 15) jIQ_203_14 rfl rfl rfl ?_
  refine jT_xiload_n (v := (0, 2)) (pcN := 16) jIQ_203_15 rfl rfl rfl ?_
  refine jT_xiadd (x := 7 * x3) (y := 2) (z := 7 * x3 + 2) (pcN := 17) jIQ_203_16 rfl (by omega) rfl ?_
  refine jT_iald (x := 0) (a := 1) (j := (7 * x3 + 2).toNat) (fs := []) (X := jS0) (by rfl) (by rfl) (by rfl) (jw_nn (by omega) (by omega)) (jS0_r2 (by omega) (by omega)) ?_
  refine jT_eq (LN := [(3, (0, 2)), (0, (4, 0)), (1, (4, 1)), (2, (0, 7 * x3))]) (stN := [(0, 0), (0, 2), (4, 7)]) (hsN := jpQ_354) rfl rfl rfl ?_
  refine jT_xi2l (x := 0) (z := 0) (pcN := 19) jIQ_203_18 rfl (by decide +kernel) rfl ?_
  refine jT_adv 1 (pcN := 20) (LN := [(3, (0, 2)), (0, (4, 0)), (1, (4, 1)), (2, (0, 7 * x3))]) (stN := []) (hsN := jpQ_354) (c1 := 0) (s1 := 0) (c2 := 0) (s2 := 0) (by exact rfl) ?_ (by omega) (by omega)
  refine jT_xiinc (x := 2) (z := 3) (LN := [(3, (0, 3)), (0, (4, 0)), (1, (4, 1)), (2, (0, 7 * x3))]) (pcN := 23) jIQ_203_20 rfl rfl (by decide) rfl rfl ?_
  refine jT_xgoto (pcN := 2) jIQ_203_23 rfl ?_
  refine jT_xiload_n (v := (0, 3)) (pcN := 3) jIQ_203_2 rfl rfl rfl ?_
  refine jT_xbipush (k := 6) (pcN := 5) jIQ_203_3 (by decide) rfl ?_
  refine jT_xicF (t := 26) (pcN := 8) jIQ_203_5 rfl (by decide +kernel) rfl rfl ?_
  refine jT_xaload_n (v := (4, 0)) (pcN := 9) jIQ_203_8 rfl rfl rfl ?_
  refine jT_xgetf (a := 0) (t := 1) (ci := 14) (fi := 9) (c := jzQ_20) (v := (4, 7)) (pcN := 12) jIQ_203_9 rfl rfl rfl rfl rfl rfl rfl ?_
  refine jT_xiload_n (v := (0, 3)) (pcN := 13) jIQ_203_12 rfl rfl rfl ?_
  refine jT_xaload_n (v := (4, 1)) (pcN := 14) jIQ_203_13 rfl rfl rfl ?_
  refine jT_xiload_n (v := (0, 7 * x3)) (pcN := 15) jIQ_203_14 rfl rfl rfl ?_
  refine jT_xiload_n (v := (0, 3)) (pcN := 16) jIQ_203_15 rfl rfl rfl ?_
  refine jT_xiadd (x := 7 * x3) (y := 3) (z := 7 * x3 + 3) (pcN := 17) jIQ_203_16 rfl (by omega) rfl ?_
  refine jT_iald (x := 0) (a := 1) (j := (7 * x3 + 3).toNat) (fs := []) (X := jS0) (by rfl) (by rfl) (by rfl) (jw_nn (by omega) (by omega)) (jS0_r3 (by omega) (by omega)) ?_
  refine jT_eq (LN := [(3, (0, 3)), (0, (4, 0)), (1, (4, 1)), (2, (0, 7 * x3))]) (stN := [(0, 0), (0, 3), (4, 7)]) (hsN := jpQ_354) rfl rfl rfl ?_
  refine jT_xi2l (x := 0) (z := 0) (pcN := 19) jIQ_203_18 rfl (by decide +kernel) rfl ?_
  refine jT_adv 1 (pcN := 20) (LN := [(3, (0, 3)), (0, (4, 0)), (1, (4, 1)), (2, (0, 7 * x3))]) (stN := []) (hsN := jpQ_354) (c1 := 0) (s1 := 0) (c2 := 0) (s2 := 0) (by exact rfl) ?_ (by omega) (by omega)
  refine jT_xiinc (x := 3) (z := 4) (LN := [(3, (0, 4)), (0, (4, 0)), (1, (4, 1)), (2, (0, 7 * x3))]) (pcN := 23) jIQ_203_20 rfl rfl (by decide) rfl rfl ?_
  refine jT_xgoto (pcN := 2) jIQ_203_23 rfl ?_
  refine jT_xiload_n (v := (0, 4)) (pcN := 3) jIQ_203_2 rfl rfl rfl ?_
  refine jT_xbipush (k := 6) (pcN := 5) jIQ_203_3 (by decide) rfl ?_
  refine jT_xicF (t := 26) (pcN := 8) jIQ_203_5 rfl (by decide +kernel) rfl rfl ?_
  refine jT_xaload_n (v := (4, 0)) (pcN := 9) jIQ_203_8 rfl rfl rfl ?_
  refine jT_xgetf (a := 0) (t := 1) (ci := 14) (fi := 9) (c := jzQ_20) (v := (4, 7)) (pcN := 12) jIQ_203_9 rfl rfl rfl rfl rfl rfl rfl ?_
  refine jT_xiload_n (v := (0, 4)) (pcN := 13) jIQ_203_12 rfl rfl rfl ?_
  refine jT_xaload_n (v := (4, 1)) (pcN := 14) jIQ_203_13 rfl rfl rfl ?_
  refine jT_xiload_n (v := (0, 7 * x3)) (pcN := 15) jIQ_203_14 rfl rfl rfl ?_
  refine jT_xiload_n (v := (0, 4)) (pcN := 16) jIQ_203_15 rfl rfl rfl ?_
  refine jT_xiadd (x := 7 * x3) (y := 4) (z := 7 * x3 + 4) (pcN := 17) jIQ_203_16 rfl (by omega) rfl ?_
  refine jT_iald (x := 0) (a := 1) (j := (7 * x3 + 4).toNat) (fs := []) (X := jS0) (by rfl) (by rfl) (by rfl) (jw_nn (by omega) (by omega)) (jS0_r4 (by omega) (by omega)) ?_
  refine jT_eq (LN := [(3, (0, 4)), (0, (4, 0)), (1, (4, 1)), (2, (0, 7 * x3))]) (stN := [(0, 0), (0, 4), (4, 7)]) (hsN := jpQ_354) rfl rfl rfl ?_
  refine jT_xi2l (x := 0) (z := 0) (pcN := 19) jIQ_203_18 rfl (by decide +kernel) rfl ?_
  refine jT_adv 1 (pcN := 20) (LN := [(3, (0, 4)), (0, (4, 0)), (1, (4, 1)), (2, (0, 7 * x3))]) (stN := []) (hsN := jpQ_354) (c1 := 0) (s1 := 0) (c2 := 0) (s2 := 0) (by exact rfl) ?_ (by omega) (by omega)
  refine jT_xiinc (x := 4) (z := 5) (LN := [(3, (0, 5)), (0, (4, 0)), (1, (4, 1)), (2, (0, 7 * x3))]) (pcN := 23) jIQ_203_20 rfl rfl (by decide) rfl rfl ?_
  refine jT_xgoto (pcN := 2) jIQ_203_23 rfl ?_
  refine jT_xiload_n (v := (0, 5)) (pcN := 3) jIQ_203_2 rfl rfl rfl ?_
  refine jT_xbipush (k := 6) (pcN := 5) jIQ_203_3 (by decide) rfl ?_
  refine jT_xicF (t := 26) (pcN := 8) jIQ_203_5 rfl (by decide +kernel) rfl rfl ?_
  refine jT_xaload_n (v := (4, 0)) (pcN := 9) jIQ_203_8 rfl rfl rfl ?_
  refine jT_xgetf (a := 0) (t := 1) (ci := 14) (fi := 9) (c := jzQ_20) (v := (4, 7)) (pcN := 12) jIQ_203_9 rfl rfl rfl rfl rfl rfl rfl ?_
  refine jT_xiload_n (v := (0, 5)) (pcN := 13) jIQ_203_12 rfl rfl rfl ?_
  refine jT_xaload_n (v := (4, 1)) (pcN := 14) jIQ_203_13 rfl rfl rfl ?_
  refine jT_xiload_n (v := (0, 7 * x3)) (pcN := 15) jIQ_203_14 rfl rfl rfl ?_
  refine jT_xiload_n (v := (0, 5)) (pcN := 16) jIQ_203_15 rfl rfl rfl ?_
  refine jT_xiadd (x := 7 * x3) (y := 5) (z := 7 * x3 + 5) (pcN := 17) jIQ_203_16 rfl (by omega) rfl ?_
  refine jT_iald (x := 0) (a := 1) (j := (7 * x3 + 5).toNat) (fs := []) (X := jS0) (by rfl) (by rfl) (by rfl) (jw_nn (by omega) (by omega)) (jS0_r5 (by omega) (by omega)) ?_
  refine jT_eq (LN := [(3, (0, 5)), (0, (4, 0)), (1, (4, 1)), (2, (0, 7 * x3))]) (stN := [(0, 0), (0, 5), (4, 7)]) (hsN := jpQ_354) rfl rfl rfl ?_
  refine jT_xi2l (x := 0) (z := 0) (pcN := 19) jIQ_203_18 rfl (by decide +kernel) rfl ?_
  refine jT_adv 1 (pcN := 20) (LN := [(3, (0, 5)), (0, (4, 0)), (1, (4, 1)), (2, (0, 7 * x3))]) (stN := []) (hsN := jpQ_354) (c1 := 0) (s1 := 0) (c2 := 0) (s2 := 0) (by exact rfl) ?_ (by omega) (by omega)
  refine jT_xiinc (x := 5) (z := 6) (LN := [(3, (0, 6)), (0, (4, 0)), (1, (4, 1)), (2, (0, 7 * x3))]) (pcN := 23) jIQ_203_20 rfl rfl (by decide) rfl rfl ?_
  refine jT_xgoto (pcN := 2) jIQ_203_23 rfl ?_
  refine jT_xiload_n (v := (0, 6)) (pcN := 3) jIQ_203_2 rfl rfl rfl ?_
  refine jT_xbipush (k := 6) (pcN := 5) jIQ_203_3 (by decide) rfl ?_
  refine jT_xicT (pcN := 26) jIQ_203_5 rfl (by decide +kernel) rfl ?_
  refine jT_xaload_n (v := (4, 0)) (pcN := 27) jIQ_203_26 rfl rfl rfl ?_
  refine jT_xaload_n (v := (4, 1)) (pcN := 28) jIQ_203_27 rfl rfl rfl ?_
  refine jT_xiload_n (v := (0, 7 * x3)) (pcN := 29) jIQ_203_28 rfl rfl rfl ?_
  refine jT_xbipush (k := 6) (pcN := 31) jIQ_203_29 (by decide) rfl ?_
  refine jT_xiadd (x := 7 * x3) (y := 6) (z := 7 * x3 + 6) (pcN := 32) jIQ_203_31 rfl (by omega) rfl ?_
  refine jT_iald (x := 1) (a := 1) (j := (7 * x3 + 6).toNat) (fs := []) (X := jS0) (by rfl) (by rfl) (by rfl) (jw_nn (by omega) (by omega)) (jS0_r6 (by omega) (by omega)) ?_
  refine jT_eq (LN := [(3, (0, 6)), (0, (4, 0)), (1, (4, 1)), (2, (0, 7 * x3))]) (stN := [(0, 1), (4, 0)]) (hsN := jpQ_354) rfl rfl rfl ?_
  refine jT_xi2l (x := 1) (z := 1) (pcN := 34) jIQ_203_33 rfl (by decide +kernel) rfl ?_
  refine jT_adv 1 (pcN := 37) (LN := [(3, (0, 6)), (0, (4, 0)), (1, (4, 1)), (2, (0, 7 * x3))]) (stN := []) (hsN := jpQ_354) (c1 := 0) (s1 := 0) (c2 := 0) (s2 := 0) (by exact rfl) ?_ (by omega) (by omega)
  exact jT_ret rfl (by decide) (by show 16 ≤ 16; omega) (by omega) (by omega) ⟨rfl, rfl, rfl⟩
theorem jIQ_202_0 : jmI (jm 202) 0 = (.aload_n 0, 1) := by rfl
theorem jIQ_202_1 : jmI (jm 202) 1 = (.aload_n 0, 1) := by rfl
theorem jIQ_202_2 : jmI (jm 202) 2 = (.getfield 9, 3) := by rfl
theorem jIQ_202_5 : jmI (jm 202) 5 = (.bipush 7, 2) := by rfl
theorem jIQ_202_7 : jmI (jm 202) 7 = (.iload_n 1, 1) := by rfl
theorem jIQ_202_8 : jmI (jm 202) 8 = (.imul, 1) := by rfl
theorem jQ_202_139 {xs : List Int} {d : Nat} {x3 : Int} (h_x3 : 0 ≤ x3 ∧ x3 ≤ 7) : jT xs (d + 1) 202 16 0 [(0, (4, 0)), (1, (0, x3))] [] jpQ_354 0 0 (fun k v hsN => k = 0 ∧ v = (9, 0) ∧ hsN = jpQ_354 ++ []) := by
  refine jT_xaload_n (v := (4, 0)) (pcN := 1) jIQ_202_0 rfl rfl rfl ?_
  refine jT_xaload_n (v := (4, 0)) (pcN := 2) jIQ_202_1 rfl rfl rfl ?_
  refine jT_xgetf (a := 0) (t := 1) (ci := 14) (fi := 1) (c := jzQ_20) (v := (4, 1)) (pcN := 5) jIQ_202_2 rfl rfl rfl rfl rfl rfl rfl ?_
  refine jT_xbipush (k := 7) (pcN := 7) jIQ_202_5 (by decide) rfl ?_
  refine jT_xiload_n (v := (0, x3)) (pcN := 8) jIQ_202_7 rfl rfl rfl ?_
  refine jT_ximul (x := 7) (y := x3) (z := 7 * x3) (pcN := 9) jIQ_202_8 rfl (rfl) rfl ?_
  refine jT_fR [0, 1, 2, 3, 4, 5, 6, 7, 8, 9, 10, 11, 12, 13, 14, 15] 16 (y := 203) (pcN := 12) (dC := 0) (bc1 := 0) (bc2 := 0) (c1 := 0) (c2 := 0) (as := [(4, 0), (4, 1), (0, 7 * x3)]) (asC := [(4, 0), (4, 1), (0, 7 * x3)]) (LN := [(0, (4, 0)), (1, (0, x3))]) (stN := []) (hsC := jpQ_354) (v := (9, 0)) (st2 := []) (jQ_203_138 (d := 0) (by omega)) (by rfl) (by rfl) (by decide +kernel) (by rfl) (by rfl) (by omega) (by omega) (by omega) (by omega) rfl ?_
  exact jT_ret rfl (by decide) (by show 16 ≤ 16; omega) (by omega) (by omega) ⟨rfl, rfl, rfl⟩
theorem jQ_200_140 {xs : List Int} {d : Nat} : jT xs d 200 1 0 [(0, (4, 0))] [] [(101, [], [(-1), 0, 0, 0, 0, 0])] 0 0 (fun k v hsN => k = 0 ∧ v = (0, 0) ∧ hsN = [(101, [], [(-1), 0, 0, 0, 0, 0])] ++ []) := by
  refine jT_advK 12 (pcN := 17) (LN := [(1, (0, 0)), (0, (4, 0))]) (stN := [(0, 0)]) (hsN := [(101, [], [(-1), 0, 0, 0, 0, 0])]) (c1 := 0) (s1 := 0) (c2 := 0) (s2 := 0) (by decide +kernel) ?_ (by omega) (by omega)
  exact jT_ret rfl (by decide) (by show 1 ≤ 1; omega) (by omega) (by omega) ⟨rfl, rfl, rfl⟩
def jzQ_371 : JC := (14, [(0, 0), (4, 2), (4, 3), (4, 4), (4, 5), (0, 0), (4, 6), (0, 0), (4, 7), (4, 8), (1, 1), (4, 9), (0, 0), (4, 10), (0, 0), (0, 0), (0, 0), (0, 0), (0, 0), (0, 0), (0, 0), (4, 11), (4, 12), (4, 13), (4, 14), (4, 15), (4, 16), (0, 0)], [])
def jpQ_372 : List JC := [jzQ_371, (101, [], [(-1), 0, 0, 0, 0, 0]), jgh, jgh, jgh, jgh, jgh, (130, [], [17, 18, 19, 20, 21, 22]), jgh, jgh, jgh, jgh, jgh, jgh, jgh, jgh, jgh, (100, [], (jenc (jlg 0))), jgh, jgh, jgh, jgh, jgh, (100, [], List.replicate 56 0)]
def jpQ_373 : List JC := [jzQ_371, (101, [], [(-1), 0, 0, 0, 0, 0]), jgh, jgh, jgh, jgh, jgh, (130, [], [17, 18, 19, 20, 21, 22]), jgh, jgh, jgh, jgh, jgh, jgh, jgh, jgh, jgh, (100, [], (jenc (jlg 0))), jgh, jgh, jgh, jgh, jgh, (100, [], List.replicate 56 0), (100, [], (jenc (-1)))]
def jpQ_374 : List JC := [jzQ_371, (101, [], [(-1), 0, 0, 0, 0, 0]), jgh, jgh, jgh, jgh, jgh, (130, [], [17, 18, 19, 20, 21, 22]), jgh, jgh, jgh, jgh, jgh, jgh, jgh, jgh, jgh, (100, [], (jenc (jlg 0))), jgh, jgh, jgh, jgh, jgh, (100, [], List.replicate 56 0), (100, [], (jenc (-1))), (100, [], (jenc ((-1) * (jlg 0))))]
def jpQ_375 : List JC := [jzQ_371, (101, [], [(-1), 0, 0, 0, 0, 0]), jgh, jgh, jgh, jgh, jgh, (130, [], [17, 18, 19, 20, 21, 22]), jgh, jgh, jgh, jgh, jgh, jgh, jgh, jgh, jgh, (100, [], (jenc (jlg 0))), jgh, jgh, jgh, jgh, jgh, (100, [], (jenc 0)), (100, [], (jenc (-1))), (100, [], (jenc ((-1) * (jlg 0))))]
def jpQ_376 : List JC := [jzQ_371, (101, [], [(-1), 0, 0, 0, 0, 0]), jgh, jgh, jgh, jgh, jgh, (130, [], [17, 18, 19, 20, 21, 22]), jgh, jgh, jgh, jgh, jgh, jgh, jgh, jgh, jgh, (100, [], (jenc (jlg 0))), jgh, jgh, jgh, jgh, jgh]
theorem jQ_214_141 {xs : List Int} {d : Nat} : jT xs (d + 2) 214 23 0 [(0, (4, 0)), (1, (4, 1))] [] jpQ_376 3 168 (fun k v hsN => k = 0 ∧ v = (4, 25) ∧ hsN = jpQ_376 ++ [(100, [], (jenc 0)), (100, [], (jenc (-1))), (100, [], (jenc ((-1) * (jlg 0))))]) := by
  refine jT_advK 18 (pcN := 25) (LN := [(3, (0, 0)), (2, (4, 23)), (0, (4, 0)), (1, (4, 1))]) (stN := [(1, (-1)), (4, 23)]) (hsN := jpQ_372) (c1 := 1) (s1 := 56) (c2 := 2) (s2 := 112) (by decide +kernel) ?_ (by omega) (by omega)
  refine jT_fA [] 24 (y := 178) (pcN := 28) (dC := 1) (bc1 := 1) (bc2 := 56) (c1 := 1) (c2 := 56) (as := [(1, (-1))]) (asC := [(1, (-1))]) (LN := [(3, (0, 0)), (2, (4, 23)), (0, (4, 0)), (1, (4, 1))]) (stN := [(4, 23)]) (hsC := []) (ex := [(100, [], (jenc (-1)))]) (v := (4, 0)) (st2 := [(4, 24), (4, 23)]) (hs2 := jpQ_373) (jT_big (d := 0) (v := (-1)) (by omega) (by omega)) (by rfl) (by rfl) (by decide +kernel) (by rfl) (by rfl) (by omega) (by omega) (by omega) (by omega) rfl (by decide +kernel) ?_
  refine jT_advK 4 (pcN := 34) (LN := [(3, (0, 0)), (2, (4, 23)), (0, (4, 0)), (1, (4, 1))]) (stN := [(4, 17), (4, 24), (4, 23)]) (hsN := jpQ_373) (c1 := 0) (s1 := 0) (c2 := 1) (s2 := 56) (by decide +kernel) ?_ (by omega) (by omega)
  refine jT_fA [24, 17] 25 (y := 179) (pcN := 37) (dC := 1) (bc1 := 1) (bc2 := 56) (c1 := 0) (c2 := 0) (as := [(4, 24), (4, 17)]) (asC := [(4, 0), (4, 1)]) (LN := [(3, (0, 0)), (2, (4, 23)), (0, (4, 0)), (1, (4, 1))]) (stN := [(4, 23)]) (hsC := [(100, [], (jenc (-1))), (100, [], (jenc (jlg 0)))]) (ex := [(100, [], (jenc ((-1) * (jlg 0))))]) (v := (4, 2)) (st2 := [(4, 25), (4, 23)]) (hs2 := jpQ_374) (jT_product (d := 0) (a := (-1)) (b := jlg 0) (by decide +kernel) (by decide +kernel)) (by rfl) (by rfl) (by decide +kernel) (by rfl) (by rfl) (by omega) (by omega) (by omega) (by omega) rfl (by decide +kernel) ?_
  refine jT_eq (LN := [(3, (0, 0)), (2, (4, 23)), (0, (4, 0)), (1, (4, 1))]) (stN := [(4, 25), (4, 23)]) (hsN := [jzQ_371, (101, [], [(-1), 0, 0, 0, 0, 0]), jgh, jgh, jgh, jgh, jgh, (130, [], [17, 18, 19, 20, 21, 22]), jgh, jgh, jgh, jgh, jgh, jgh, jgh, jgh, jgh, (100, [], (jenc (jlg 0))), jgh, jgh, jgh, jgh, jgh, (100, [], (jenc 0)), (100, [], (jenc (-1))), (100, [], (jenc ((-1) * (jlg 0))))]) rfl rfl (by show [jzQ_371, (101, [], [(-1), 0, 0, 0, 0, 0]), jgh, jgh, jgh, jgh, jgh, (130, [], [17, 18, 19, 20, 21, 22]), jgh, jgh, jgh, jgh, jgh, jgh, jgh, jgh, jgh, (100, [], (jenc (jlg 0))), jgh, jgh, jgh, jgh, jgh, (100, [], List.replicate 56 0), (100, [], (jenc (-1))), (100, [], (jenc ((-1) * (jlg 0))))] = _; rw [jrep56e]) ?_
  refine jT_fR [23, 25] 26 (y := 181) (pcN := 40) (dC := 0) (bc1 := 0) (bc2 := 0) (c1 := 0) (c2 := 0) (as := [(4, 23), (4, 25)]) (asC := [(4, 0), (4, 1)]) (LN := [(3, (0, 0)), (2, (4, 23)), (0, (4, 0)), (1, (4, 1))]) (stN := []) (hsC := [(100, [], (jenc 0)), (100, [], (jenc ((-1) * (jlg 0))))]) (v := (4, 1)) (st2 := [(4, 25)]) (jT_added_0l (d := 0) (b := (-1) * (jlg 0))) (by rfl) (by rfl) (by decide +kernel) (by rfl) (by rfl) (by omega) (by omega) (by omega) (by omega) rfl ?_
  refine jT_advK 62 (pcN := 48) (LN := [(3, (0, 6)), (2, (4, 25)), (0, (4, 0)), (1, (4, 1))]) (stN := [(4, 25)]) (hsN := jpQ_375) (c1 := 0) (s1 := 0) (c2 := 0) (s2 := 0) (by decide +kernel) ?_ (by omega) (by omega)
  exact jT_ret rfl (by decide) (by show 23 ≤ 26; omega) (by omega) (by omega) ⟨rfl, rfl, rfl⟩
theorem jIQ_213_17 : jmI (jm 213) 17 = (.iaload, 1) := by rfl
theorem jQ_213_142 {xs : List Int} {d : Nat} : jT xs (d + 3) 213 23 0 [(0, (4, 0)), (1, (4, 1))] [] jpQ_376 3 168 (fun k v hsN => k = 0 ∧ v = (0, (-1)) ∧ hsN = jpQ_376 ++ [(100, [], (jenc 0)), (100, [], (jenc (-1))), (100, [], (jenc ((-1) * (jlg 0))))]) := by
  refine jT_advK 1 (pcN := 1) (LN := [(0, (4, 0)), (1, (4, 1))]) (stN := [(4, 1)]) (hsN := jpQ_376) (c1 := 0) (s1 := 0) (c2 := 3) (s2 := 168) (by decide +kernel) ?_ (by omega) (by omega)
  refine jT_fR [1] 23 (y := 200) (pcN := 4) (dC := 0) (bc1 := 0) (bc2 := 0) (c1 := 3) (c2 := 168) (as := [(4, 1)]) (asC := [(4, 0)]) (LN := [(0, (4, 0)), (1, (4, 1))]) (stN := []) (hsC := [(101, [], [(-1), 0, 0, 0, 0, 0])]) (v := (0, 0)) (st2 := [(0, 0)]) (jQ_200_140 (d := 0)) (by rfl) (by rfl) (by decide +kernel) (by rfl) (by rfl) (by omega) (by omega) (by omega) (by omega) rfl ?_
  refine jT_advK 3 (pcN := 13) (LN := [(0, (4, 0)), (1, (4, 1))]) (stN := [(4, 1), (4, 0)]) (hsN := jpQ_376) (c1 := 0) (s1 := 0) (c2 := 3) (s2 := 168) (by decide +kernel) ?_ (by omega) (by omega)
  refine jT_fA [0, 1, 2, 3, 4, 5, 6, 7, 8, 9, 10, 11, 12, 13, 14, 15, 16, 17, 18, 19, 20, 21, 22] 23 (y := 214) (pcN := 16) (dC := 2) (bc1 := 3) (bc2 := 168) (c1 := 0) (c2 := 0) (as := [(4, 0), (4, 1)]) (asC := [(4, 0), (4, 1)]) (LN := [(0, (4, 0)), (1, (4, 1))]) (stN := []) (hsC := jpQ_376) (ex := [(100, [], (jenc 0)), (100, [], (jenc (-1))), (100, [], (jenc ((-1) * (jlg 0))))]) (v := (4, 25)) (st2 := [(4, 25)]) (hs2 := jpQ_375) (jQ_214_141 (d := 0)) (by rfl) (by rfl) (by decide +kernel) (by rfl) (by rfl) (by omega) (by omega) (by omega) (by omega) rfl (by decide +kernel) ?_
  refine jT_advK 1 (pcN := 17) (LN := [(0, (4, 0)), (1, (4, 1))]) (stN := [(0, 0), (4, 25)]) (hsN := jpQ_375) (c1 := 0) (s1 := 0) (c2 := 0) (s2 := 0) (by decide +kernel) ?_ (by omega) (by omega)
  refine jT_iald (x := (-1)) (a := 25) (j := 0) (fs := []) (X := (jenc ((-1) * (jlg 0)))) (by rfl) (by rfl) (by rfl) (by rfl) (jenc_sg (by decide +kernel)) ?_
  refine jT_eq (LN := [(0, (4, 0)), (1, (4, 1))]) (stN := [(0, (-1))]) (hsN := jpQ_375) rfl rfl rfl ?_
  exact jT_ret rfl (by decide) (by show 23 ≤ 26; omega) (by omega) (by omega) ⟨rfl, rfl, rfl⟩
def jzQ_378 : JC := (14, [(0, 0), (4, 2), (4, 3), (4, 4), (4, 5), (0, 0), (4, 6), (0, 0), (4, 7), (4, 1), (1, 1), (4, 8), (0, 0), (4, 9), (0, 0), (0, 0), (0, 0), (0, 0), (0, 0), (0, 0), (0, 0), (4, 10), (4, 11), (4, 12), (4, 13), (4, 14), (4, 15), (0, 0)], [])
def jpQ_379 : List JC := [jzQ_378, (101, [], [0, 0, 0, 0, 0, 0]), jgh, jgh, jgh, jgh, jgh, (130, [], [16, 17, 18, 19, 20, 21]), jgh, jgh, jgh, jgh, jgh, jgh, jgh, jgh, (100, [], (jenc (jlg 0))), jgh, jgh, jgh, jgh, jgh, (101, [], [(-1), 0, 0, 0, 0, 0])]
def jpQ_380 : List JC := [jzQ_378, (101, [], [0, 0, 0, 0, 0, 0]), jgh, jgh, jgh, jgh, jgh, (130, [], [16, 17, 18, 19, 20, 21]), jgh, jgh, jgh, jgh, jgh, jgh, jgh, jgh, (100, [], (jenc (jlg 0))), jgh, jgh, jgh, jgh, jgh, (101, [], [(-1), 0, 0, 0, 0, 0]), (100, [], (jenc 0)), (100, [], (jenc (-1))), (100, [], (jenc ((-1) * (jlg 0))))]
def jpQ_381 : List JC := [jzQ_378, (101, [], [0, 0, 0, 0, 0, 0]), jgh, jgh, jgh, jgh, jgh, (130, [], [16, 17, 18, 19, 20, 21]), jgh, jgh, jgh, jgh, jgh, jgh, jgh, jgh, (100, [], (jenc (jlg 0))), jgh, jgh, jgh, jgh, jgh]
def jpQ_382 : List JC := [(101, [], [(-1), 0, 0, 0, 0, 0]), (100, [], (jenc 0)), (100, [], (jenc (-1))), (100, [], (jenc ((-1) * (jlg 0))))]
theorem jQ_212_143 {xs : List Int} {d : Nat} : jT xs (d + 4) 212 22 0 [(0, (4, 0)), (1, (4, 1)), (2, (1, 1))] [] jpQ_381 4 174 (fun k v hsN => k = 0 ∧ v = (0, (-1)) ∧ hsN = jpQ_381 ++ jpQ_382) := by
  refine jT_advK 18 (pcN := 27) (LN := [(4, (4, 22)), (0, (4, 0)), (1, (4, 1)), (2, (1, 1))]) (stN := [(4, 22), (4, 0)]) (hsN := jpQ_379) (c1 := 1) (s1 := 6) (c2 := 3) (s2 := 168) (by decide +kernel) ?_ (by omega) (by omega)
  refine jT_fA [0, 22, 2, 3, 4, 5, 6, 7, 1, 8, 9, 10, 11, 12, 13, 14, 15, 16, 17, 18, 19, 20, 21] 23 (y := 213) (pcN := 30) (dC := 3) (bc1 := 3) (bc2 := 168) (c1 := 0) (c2 := 0) (as := [(4, 0), (4, 22)]) (asC := [(4, 0), (4, 1)]) (LN := [(4, (4, 22)), (0, (4, 0)), (1, (4, 1)), (2, (1, 1))]) (stN := []) (hsC := jpQ_376) (ex := [(100, [], (jenc 0)), (100, [], (jenc (-1))), (100, [], (jenc ((-1) * (jlg 0))))]) (v := (0, (-1))) (st2 := [(0, (-1))]) (hs2 := jpQ_380) (jQ_213_142 (d := 0)) (by rfl) (by rfl) (by decide +kernel) (by rfl) (by rfl) (by omega) (by omega) (by omega) (by omega) rfl (by decide +kernel) ?_
  exact jT_ret rfl (by decide) (by show 22 ≤ 26; omega) (by omega) (by omega) ⟨rfl, rfl, rfl⟩
theorem jQ_191_144 {xs : List Int} {d : Nat} : jT xs d 191 1 0 [(0, (4, 0)), (1, (0, 1)), (2, (0, 3))] [] [jgh] 0 0 (fun k v hsN => k = 0 ∧ v = (0, 0) ∧ hsN = [jgh] ++ []) := by
  refine jT_advK 5 (pcN := 18) (LN := [(0, (4, 0)), (1, (0, 1)), (2, (0, 3))]) (stN := [(0, 0)]) (hsN := [jgh]) (c1 := 0) (s1 := 0) (c2 := 0) (s2 := 0) (by decide +kernel) ?_ (by omega) (by omega)
  exact jT_ret rfl (by decide) (by show 1 ≤ 1; omega) (by omega) (by omega) ⟨rfl, rfl, rfl⟩
theorem jIQ_193_0 : jmI (jm 193) 0 = (.iconst 0, 1) := by rfl
theorem jIQ_193_1 : jmI (jm 193) 1 = (.istore_n 1, 1) := by rfl
theorem jIQ_193_2 : jmI (jm 193) 2 = (.iload_n 1, 1) := by rfl
theorem jIQ_193_3 : jmI (jm 193) 3 = (.bipush 6, 2) := by rfl
theorem jIQ_193_5 : jmI (jm 193) 5 = (.if_icmp .ge 16, 3) := by rfl
theorem jIQ_193_8 : jmI (jm 193) 8 = (.aload_n 0, 1) := by rfl
theorem jIQ_193_9 : jmI (jm 193) 9 = (.getfield 31, 3) := by rfl
theorem jIQ_193_12 : jmI (jm 193) 12 = (.iload_n 1, 1) := by rfl
theorem jIQ_193_13 : jmI (jm 193) 13 = (.lconst 0, 1) := by rfl
theorem jIQ_193_15 : jmI (jm 193) 15 = (.iinc 1 1, 3) := by rfl
theorem jIQ_193_18 : jmI (jm 193) 18 = (.goto (-16), 3) := by rfl
def jpQ_394 : List JC := [jzQ_20, jgh, jgh, jgh, jgh, jgh, jgh, (101, [], [0, 0, 0, 0, 0, 0]), jgh, jgh, jgh, jgh, jgh, jgh, jgh, jgh]
theorem jQ_193_145 {xs : List Int} {d : Nat} {u127_0 u127_1 u127_2 u127_3 u127_4 u127_5 : Int} : jT xs d 193 16 0 [(0, (4, 0))] [] [jzQ_20, jgh, jgh, jgh, jgh, jgh, jgh, (101, [], [u127_0, u127_1, u127_2, u127_3, u127_4, u127_5]), jgh, jgh, jgh, jgh, jgh, jgh, jgh, jgh] 0 0 (fun k v hsN => k = 0 ∧ v = (9, 0) ∧ hsN = jpQ_394) := by
  refine jT_xiconst (k := 0) (pcN := 1) jIQ_193_0 rfl ?_
  refine jT_xistore_n (v := (0, 0)) (LN := [(1, (0, 0)), (0, (4, 0))]) (pcN := 2) jIQ_193_1 rfl rfl rfl rfl ?_
  refine jT_xiload_n (v := (0, 0)) (pcN := 3) jIQ_193_2 rfl rfl rfl ?_
  refine jT_xbipush (k := 6) (pcN := 5) jIQ_193_3 (by decide) rfl ?_
  refine jT_xicF (t := 21) (pcN := 8) jIQ_193_5 rfl (by decide +kernel) rfl rfl ?_
  refine jT_xaload_n (v := (4, 0)) (pcN := 9) jIQ_193_8 rfl rfl rfl ?_
  refine jT_xgetf (a := 0) (t := 1) (ci := 14) (fi := 9) (c := jzQ_20) (v := (4, 7)) (pcN := 12) jIQ_193_9 rfl rfl rfl rfl rfl rfl rfl ?_
  refine jT_xiload_n (v := (0, 0)) (pcN := 13) jIQ_193_12 rfl rfl rfl ?_
  refine jT_xlconst (z := 0) (pcN := 14) jIQ_193_13 rfl rfl ?_
  refine jT_adv 1 (pcN := 15) (LN := [(1, (0, 0)), (0, (4, 0))]) (stN := []) (hsN := [jzQ_20, jgh, jgh, jgh, jgh, jgh, jgh, (101, [], [0, u127_1, u127_2, u127_3, u127_4, u127_5]), jgh, jgh, jgh, jgh, jgh, jgh, jgh, jgh]) (c1 := 0) (s1 := 0) (c2 := 0) (s2 := 0) (by exact rfl) ?_ (by omega) (by omega)
  refine jT_xiinc (x := 0) (z := 1) (LN := [(1, (0, 1)), (0, (4, 0))]) (pcN := 18) jIQ_193_15 rfl rfl (by decide) rfl rfl ?_
  refine jT_xgoto (pcN := 2) jIQ_193_18 rfl ?_
  refine jT_xiload_n (v := (0, 1)) (pcN := 3) jIQ_193_2 rfl rfl rfl ?_
  refine jT_xbipush (k := 6) (pcN := 5) jIQ_193_3 (by decide) rfl ?_
  refine jT_xicF (t := 21) (pcN := 8) jIQ_193_5 rfl (by decide +kernel) rfl rfl ?_
  refine jT_xaload_n (v := (4, 0)) (pcN := 9) jIQ_193_8 rfl rfl rfl ?_
  refine jT_xgetf (a := 0) (t := 1) (ci := 14) (fi := 9) (c := jzQ_20) (v := (4, 7)) (pcN := 12) jIQ_193_9 rfl rfl rfl rfl rfl rfl rfl ?_
  refine jT_xiload_n (v := (0, 1)) (pcN := 13) jIQ_193_12 rfl rfl rfl ?_
  refine jT_xlconst (z := 0) (pcN := 14) jIQ_193_13 rfl rfl ?_
  refine jT_adv 1 (pcN := 15) (LN := [(1, (0, 1)), (0, (4, 0))]) (stN := []) (hsN := [jzQ_20, jgh, jgh, jgh, jgh, jgh, jgh, (101, [], [0, 0, u127_2, u127_3, u127_4, u127_5]), jgh, jgh, jgh, jgh, jgh, jgh, jgh, jgh]) (c1 := 0) (s1 := 0) (c2 := 0) (s2 := 0) (by exact rfl) ?_ (by omega) (by omega)
  refine jT_xiinc (x := 1) (z := 2) (LN := [(1, (0, 2)), (0, (4, 0))]) (pcN := 18) jIQ_193_15 rfl rfl (by decide) rfl rfl ?_
  refine jT_xgoto (pcN := 2) jIQ_193_18 rfl ?_
  refine jT_xiload_n (v := (0, 2)) (pcN := 3) jIQ_193_2 rfl rfl rfl ?_
  refine jT_xbipush (k := 6) (pcN := 5) jIQ_193_3 (by decide) rfl ?_
  refine jT_xicF (t := 21) (pcN := 8) jIQ_193_5 rfl (by decide +kernel) rfl rfl ?_
  refine jT_xaload_n (v := (4, 0)) (pcN := 9) jIQ_193_8 rfl rfl rfl ?_
  refine jT_xgetf (a := 0) (t := 1) (ci := 14) (fi := 9) (c := jzQ_20) (v := (4, 7)) (pcN := 12) jIQ_193_9 rfl rfl rfl rfl rfl rfl rfl ?_
  refine jT_xiload_n (v := (0, 2)) (pcN := 13) jIQ_193_12 rfl rfl rfl ?_
  refine jT_xlconst (z := 0) (pcN := 14) jIQ_193_13 rfl rfl ?_
  refine jT_adv 1 (pcN := 15) (LN := [(1, (0, 2)), (0, (4, 0))]) (stN := []) (hsN := [jzQ_20, jgh, jgh, jgh, jgh, jgh, jgh, (101, [], [0, 0, 0, u127_3, u127_4, u127_5]), jgh, jgh, jgh, jgh, jgh, jgh, jgh, jgh]) (c1 := 0) (s1 := 0) (c2 := 0) (s2 := 0) (by exact rfl) ?_ (by omega) (by omega)
  refine jT_xiinc (x := 2) (z := 3) (LN := [(1, (0, 3)), (0, (4, 0))]) (pcN := 18) jIQ_193_15 rfl rfl (by decide) rfl rfl ?_
  refine jT_xgoto (pcN := 2) jIQ_193_18 rfl ?_
  refine jT_xiload_n (v := (0, 3)) (pcN := 3) jIQ_193_2 rfl rfl rfl ?_
  refine jT_xbipush (k := 6) (pcN := 5) jIQ_193_3 (by decide) rfl ?_
  refine jT_xicF (t := 21) (pcN := 8) jIQ_193_5 rfl (by decide +kernel) rfl rfl ?_
  refine jT_xaload_n (v := (4, 0)) (pcN := 9) jIQ_193_8 rfl rfl rfl ?_
  refine jT_xgetf (a := 0) (t := 1) (ci := 14) (fi := 9) (c := jzQ_20) (v := (4, 7)) (pcN := 12) jIQ_193_9 rfl rfl rfl rfl rfl rfl rfl ?_
  refine jT_xiload_n (v := (0, 3)) (pcN := 13) jIQ_193_12 rfl rfl rfl ?_
  refine jT_xlconst (z := 0) (pcN := 14) jIQ_193_13 rfl rfl ?_
  refine jT_adv 1 (pcN := 15) (LN := [(1, (0, 3)), (0, (4, 0))]) (stN := []) (hsN := [jzQ_20, jgh, jgh, jgh, jgh, jgh, jgh, (101, [], [0, 0, 0, 0, u127_4, u127_5]), jgh, jgh, jgh, jgh, jgh, jgh, jgh, jgh]) (c1 := 0) (s1 := 0) (c2 := 0) (s2 := 0) (by exact rfl) ?_ (by omega) (by omega)
  refine jT_xiinc (x := 3) (z := 4) (LN := [(1, (0, 4)), (0, (4, 0))]) (pcN := 18) jIQ_193_15 rfl rfl (by decide) rfl rfl ?_
  refine jT_xgoto (pcN := 2) jIQ_193_18 rfl ?_
  refine jT_xiload_n (v := (0, 4)) (pcN := 3) jIQ_193_2 rfl rfl rfl ?_
  refine jT_xbipush (k := 6) (pcN := 5) jIQ_193_3 (by decide) rfl ?_
  refine jT_xicF (t := 21) (pcN := 8) jIQ_193_5 rfl (by decide +kernel) rfl rfl ?_
  refine jT_xaload_n (v := (4, 0)) (pcN := 9) jIQ_193_8 rfl rfl rfl ?_
  refine jT_xgetf (a := 0) (t := 1) (ci := 14) (fi := 9) (c := jzQ_20) (v := (4, 7)) (pcN := 12) jIQ_193_9 rfl rfl rfl rfl rfl rfl rfl ?_
  refine jT_xiload_n (v := (0, 4)) (pcN := 13) jIQ_193_12 rfl rfl rfl ?_
  refine jT_xlconst (z := 0) (pcN := 14) jIQ_193_13 rfl rfl ?_
  refine jT_adv 1 (pcN := 15) (LN := [(1, (0, 4)), (0, (4, 0))]) (stN := []) (hsN := [jzQ_20, jgh, jgh, jgh, jgh, jgh, jgh, (101, [], [0, 0, 0, 0, 0, u127_5]), jgh, jgh, jgh, jgh, jgh, jgh, jgh, jgh]) (c1 := 0) (s1 := 0) (c2 := 0) (s2 := 0) (by exact rfl) ?_ (by omega) (by omega)
  refine jT_xiinc (x := 4) (z := 5) (LN := [(1, (0, 5)), (0, (4, 0))]) (pcN := 18) jIQ_193_15 rfl rfl (by decide) rfl rfl ?_
  refine jT_xgoto (pcN := 2) jIQ_193_18 rfl ?_
  refine jT_xiload_n (v := (0, 5)) (pcN := 3) jIQ_193_2 rfl rfl rfl ?_
  refine jT_xbipush (k := 6) (pcN := 5) jIQ_193_3 (by decide) rfl ?_
  refine jT_xicF (t := 21) (pcN := 8) jIQ_193_5 rfl (by decide +kernel) rfl rfl ?_
  refine jT_xaload_n (v := (4, 0)) (pcN := 9) jIQ_193_8 rfl rfl rfl ?_
  refine jT_xgetf (a := 0) (t := 1) (ci := 14) (fi := 9) (c := jzQ_20) (v := (4, 7)) (pcN := 12) jIQ_193_9 rfl rfl rfl rfl rfl rfl rfl ?_
  refine jT_xiload_n (v := (0, 5)) (pcN := 13) jIQ_193_12 rfl rfl rfl ?_
  refine jT_xlconst (z := 0) (pcN := 14) jIQ_193_13 rfl rfl ?_
  refine jT_adv 1 (pcN := 15) (LN := [(1, (0, 5)), (0, (4, 0))]) (stN := []) (hsN := jpQ_394) (c1 := 0) (s1 := 0) (c2 := 0) (s2 := 0) (by exact rfl) ?_ (by omega) (by omega)
  refine jT_advK 8 (pcN := 26) (LN := [(1, (0, 6)), (0, (4, 0))]) (stN := []) (hsN := jpQ_394) (c1 := 0) (s1 := 0) (c2 := 0) (s2 := 0) (by decide +kernel) ?_ (by omega) (by omega)
  exact jT_ret rfl (by decide) (by show 16 ≤ 16; omega) (by omega) (by omega) ⟨rfl, rfl, rfl⟩
theorem jIQ_209_0 : jmI (jm 209) 0 = (.aload_n 0, 1) := by rfl
theorem jIQ_209_1 : jmI (jm 209) 1 = (.aload_n 0, 1) := by rfl
theorem jIQ_209_2 : jmI (jm 209) 2 = (.getfield 31, 3) := by rfl
theorem jIQ_209_5 : jmI (jm 209) 5 = (.aload_n 0, 1) := by rfl
theorem jIQ_209_6 : jmI (jm 209) 6 = (.getfield 35, 3) := by rfl
theorem jIQ_211_0 : jmI (jm 211) 0 = (.aload_n 0, 1) := by rfl
theorem jIQ_211_1 : jmI (jm 211) 1 = (.iconst 0, 1) := by rfl
theorem jIQ_211_2 : jmI (jm 211) 2 = (.laload, 1) := by rfl
theorem jIQ_211_7 : jmI (jm 211) 7 = (.aload_n 0, 1) := by rfl
theorem jIQ_211_8 : jmI (jm 211) 8 = (.iconst 1, 1) := by rfl
theorem jIQ_211_9 : jmI (jm 211) 9 = (.laload, 1) := by rfl
theorem jIQ_211_16 : jmI (jm 211) 16 = (.aload_n 0, 1) := by rfl
theorem jIQ_211_17 : jmI (jm 211) 17 = (.iconst 2, 1) := by rfl
theorem jIQ_211_18 : jmI (jm 211) 18 = (.laload, 1) := by rfl
theorem jIQ_211_25 : jmI (jm 211) 25 = (.aload_n 0, 1) := by rfl
theorem jIQ_211_26 : jmI (jm 211) 26 = (.iconst 3, 1) := by rfl
theorem jIQ_211_27 : jmI (jm 211) 27 = (.laload, 1) := by rfl
theorem jIQ_211_34 : jmI (jm 211) 34 = (.aload_n 0, 1) := by rfl
theorem jIQ_211_35 : jmI (jm 211) 35 = (.iconst 4, 1) := by rfl
theorem jIQ_211_36 : jmI (jm 211) 36 = (.laload, 1) := by rfl
theorem jIQ_211_43 : jmI (jm 211) 43 = (.aload_n 0, 1) := by rfl
theorem jIQ_211_44 : jmI (jm 211) 44 = (.iconst 5, 1) := by rfl
theorem jIQ_211_45 : jmI (jm 211) 45 = (.laload, 1) := by rfl
theorem jQl_ro_146 {xs : List Int} {d : Nat} {r7 r8 : Int} (h_r7 : (-20) ≤ r7 ∧ r7 ≤ 20) (h_r8 : (-10) ≤ r8 ∧ r8 ≤ 10) {d1 d2 d3 d4 d5 d6 d7 d8 d9 : Int} (fd1 : ((FP.l2d (Int64.ofInt r7)).toNat : Int) = d1) (fd2 : jn64 (FP.dmul (ju64 4609816855700290920) (ju64 d1)) = true ∧ ((FP.dmul (ju64 4609816855700290920) (ju64 d1)).toNat : Int) = d2) (fd3 : jn64 (FP.dadd (ju64 0) (ju64 d2)) = true ∧ ((FP.dadd (ju64 0) (ju64 d2)).toNat : Int) = d3) (fd4 : ((FP.l2d (Int64.ofInt r8)).toNat : Int) = d4) (fd5 : jn64 (FP.dmul (ju64 4612410936051475313) (ju64 d4)) = true ∧ ((FP.dmul (ju64 4612410936051475313) (ju64 d4)).toNat : Int) = d5) (fd6 : jn64 (FP.dadd (ju64 d3) (ju64 d5)) = true ∧ ((FP.dadd (ju64 d3) (ju64 d5)).toNat : Int) = d6) (fd7 : jn64 (FP.dadd (ju64 d6) (ju64 0)) = true ∧ ((FP.dadd (ju64 d6) (ju64 0)).toNat : Int) = d7) (fd8 : jn64 (FP.dadd (ju64 d7) (ju64 0)) = true ∧ ((FP.dadd (ju64 d7) (ju64 0)).toNat : Int) = d8) (fd9 : jn64 (FP.dadd (ju64 d8) (ju64 0)) = true ∧ ((FP.dadd (ju64 d8) (ju64 0)).toNat : Int) = d9) : jT xs d 211 1 0 [(0, (4, 0))] [] [(101, [], [0, r7, r8, 0, 0, 0])] 0 0 (fun k v hsN => k = 0 ∧ v = (3, d9) ∧ hsN = [(101, [], [0, r7, r8, 0, 0, 0])]) := by
  refine jT_xaload_n (v := (4, 0)) (pcN := 1) jIQ_211_0 rfl rfl rfl ?_
  refine jT_xiconst (k := 0) (pcN := 2) jIQ_211_1 rfl ?_
  refine jT_lald (x := 0) (a := 0) (j := 0) (fs := []) (X := [0, r7, r8, 0, 0, 0]) jIQ_211_2 rfl rfl rfl rfl ?_
  refine jT_eq (LN := [(0, (4, 0))]) (stN := [(1, 0)]) (hsN := [(101, [], [0, r7, r8, 0, 0, 0])]) rfl rfl rfl ?_
  refine jT_l2d (x := 0) (z := 0) (by rfl) (by rfl) (by decide +kernel) ?_
  refine jT_adv 1 (pcN := 7) (LN := [(0, (4, 0))]) (stN := [(3, 4609816855700290920), (3, 0)]) (hsN := [(101, [], [0, r7, r8, 0, 0, 0])]) (c1 := 0) (s1 := 0) (c2 := 0) (s2 := 0) (by exact rfl) ?_ (by omega) (by omega)
  refine jT_xaload_n (v := (4, 0)) (pcN := 8) jIQ_211_7 rfl rfl rfl ?_
  refine jT_xiconst (k := 1) (pcN := 9) jIQ_211_8 rfl ?_
  refine jT_lald (x := r7) (a := 0) (j := 1) (fs := []) (X := [0, r7, r8, 0, 0, 0]) jIQ_211_9 rfl rfl rfl rfl ?_
  refine jT_eq (LN := [(0, (4, 0))]) (stN := [(1, r7), (3, 4609816855700290920), (3, 0)]) (hsN := [(101, [], [0, r7, r8, 0, 0, 0])]) rfl rfl rfl ?_
  refine jT_l2d (x := r7) (z := d1) (by rfl) (by rfl) fd1 ?_
  refine jT_dmul (x := 4609816855700290920) (y := d1) (z := d2) (by rfl) (by rfl) fd2 ?_
  refine jT_dadd (x := 0) (y := d2) (z := d3) (by rfl) (by rfl) fd3 ?_
  refine jT_adv 1 (pcN := 16) (LN := [(0, (4, 0))]) (stN := [(3, 4612410936051475313), (3, d3)]) (hsN := [(101, [], [0, r7, r8, 0, 0, 0])]) (c1 := 0) (s1 := 0) (c2 := 0) (s2 := 0) (by exact rfl) ?_ (by omega) (by omega)
  refine jT_xaload_n (v := (4, 0)) (pcN := 17) jIQ_211_16 rfl rfl rfl ?_
  refine jT_xiconst (k := 2) (pcN := 18) jIQ_211_17 rfl ?_
  refine jT_lald (x := r8) (a := 0) (j := 2) (fs := []) (X := [0, r7, r8, 0, 0, 0]) jIQ_211_18 rfl rfl rfl rfl ?_
  refine jT_eq (LN := [(0, (4, 0))]) (stN := [(1, r8), (3, 4612410936051475313), (3, d3)]) (hsN := [(101, [], [0, r7, r8, 0, 0, 0])]) rfl rfl rfl ?_
  refine jT_l2d (x := r8) (z := d4) (by rfl) (by rfl) fd4 ?_
  refine jT_dmul (x := 4612410936051475313) (y := d4) (z := d5) (by rfl) (by rfl) fd5 ?_
  refine jT_dadd (x := d3) (y := d5) (z := d6) (by rfl) (by rfl) fd6 ?_
  refine jT_adv 1 (pcN := 25) (LN := [(0, (4, 0))]) (stN := [(3, 4613504020090455085), (3, d6)]) (hsN := [(101, [], [0, r7, r8, 0, 0, 0])]) (c1 := 0) (s1 := 0) (c2 := 0) (s2 := 0) (by exact rfl) ?_ (by omega) (by omega)
  refine jT_xaload_n (v := (4, 0)) (pcN := 26) jIQ_211_25 rfl rfl rfl ?_
  refine jT_xiconst (k := 3) (pcN := 27) jIQ_211_26 rfl ?_
  refine jT_lald (x := 0) (a := 0) (j := 3) (fs := []) (X := [0, r7, r8, 0, 0, 0]) jIQ_211_27 rfl rfl rfl rfl ?_
  refine jT_eq (LN := [(0, (4, 0))]) (stN := [(1, 0), (3, 4613504020090455085), (3, d6)]) (hsN := [(101, [], [0, r7, r8, 0, 0, 0])]) rfl rfl rfl ?_
  refine jT_l2d (x := 0) (z := 0) (by rfl) (by rfl) (by decide +kernel) ?_
  refine jT_dmul (x := 4613504020090455085) (y := 0) (z := 0) (by rfl) (by rfl) (by decide +kernel) ?_
  refine jT_dadd (x := d6) (y := 0) (z := d7) (by rfl) (by rfl) fd7 ?_
  refine jT_adv 1 (pcN := 34) (LN := [(0, (4, 0))]) (stN := [(3, 4614972366274321729), (3, d7)]) (hsN := [(101, [], [0, r7, r8, 0, 0, 0])]) (c1 := 0) (s1 := 0) (c2 := 0) (s2 := 0) (by exact rfl) ?_ (by omega) (by omega)
  refine jT_xaload_n (v := (4, 0)) (pcN := 35) jIQ_211_34 rfl rfl rfl ?_
  refine jT_xiconst (k := 4) (pcN := 36) jIQ_211_35 rfl ?_
  refine jT_lald (x := 0) (a := 0) (j := 4) (fs := []) (X := [0, r7, r8, 0, 0, 0]) jIQ_211_36 rfl rfl rfl rfl ?_
  refine jT_eq (LN := [(0, (4, 0))]) (stN := [(1, 0), (3, 4614972366274321729), (3, d7)]) (hsN := [(101, [], [0, r7, r8, 0, 0, 0])]) rfl rfl rfl ?_
  refine jT_l2d (x := 0) (z := 0) (by rfl) (by rfl) (by decide +kernel) ?_
  refine jT_dmul (x := 4614972366274321729) (y := 0) (z := 0) (by rfl) (by rfl) (by decide +kernel) ?_
  refine jT_dadd (x := d7) (y := 0) (z := d8) (by rfl) (by rfl) fd8 ?_
  refine jT_adv 1 (pcN := 43) (LN := [(0, (4, 0))]) (stN := [(3, 4615515068267881011), (3, d8)]) (hsN := [(101, [], [0, r7, r8, 0, 0, 0])]) (c1 := 0) (s1 := 0) (c2 := 0) (s2 := 0) (by exact rfl) ?_ (by omega) (by omega)
  refine jT_xaload_n (v := (4, 0)) (pcN := 44) jIQ_211_43 rfl rfl rfl ?_
  refine jT_xiconst (k := 5) (pcN := 45) jIQ_211_44 rfl ?_
  refine jT_lald (x := 0) (a := 0) (j := 5) (fs := []) (X := [0, r7, r8, 0, 0, 0]) jIQ_211_45 rfl rfl rfl rfl ?_
  refine jT_eq (LN := [(0, (4, 0))]) (stN := [(1, 0), (3, 4615515068267881011), (3, d8)]) (hsN := [(101, [], [0, r7, r8, 0, 0, 0])]) rfl rfl rfl ?_
  refine jT_l2d (x := 0) (z := 0) (by rfl) (by rfl) (by decide +kernel) ?_
  refine jT_dmul (x := 4615515068267881011) (y := 0) (z := 0) (by rfl) (by rfl) (by decide +kernel) ?_
  refine jT_dadd (x := d8) (y := 0) (z := d9) (by rfl) (by rfl) fd9 ?_
  exact jT_ret rfl (by decide) (by show 1 ≤ 1; decide) (by omega) (by omega) ⟨rfl, rfl, rfl⟩
theorem jIQ_210_0 : jmI (jm 210) 0 = (.aload_n 1, 1) := by rfl
theorem jIQ_210_4 : jmI (jm 210) 4 = (.lload_n 2, 1) := by rfl
theorem jIQ_210_8 : jmI (jm 210) 8 = (.lstore 4, 2) := by rfl
theorem jIQ_210_10 : jmI (jm 210) 10 = (.aload_n 0, 1) := by rfl
theorem jIQ_210_11 : jmI (jm 210) 11 = (.aload_n 1, 1) := by rfl
theorem jIQ_210_12 : jmI (jm 210) 12 = (.lload 4, 2) := by rfl
theorem jIQ_210_14 : jmI (jm 210) 14 = (.lload_n 2, 1) := by rfl
theorem jIQ_210_15 : jmI (jm 210) 15 = (.lmul, 1) := by rfl
theorem jIQ_212_0 : jmI (jm 212) 0 = (.bipush 6, 2) := by rfl
theorem jIQ_212_4 : jmI (jm 212) 4 = (.astore 4, 2) := by rfl
theorem jIQ_212_6 : jmI (jm 212) 6 = (.aload_n 1, 1) := by rfl
theorem jIQ_212_7 : jmI (jm 212) 7 = (.iconst 0, 1) := by rfl
theorem jIQ_212_8 : jmI (jm 212) 8 = (.aload 4, 2) := by rfl
theorem jIQ_212_10 : jmI (jm 212) 10 = (.iconst 0, 1) := by rfl
theorem jIQ_212_11 : jmI (jm 212) 11 = (.bipush 6, 2) := by rfl
theorem jIQ_212_16 : jmI (jm 212) 16 = (.aload 4, 2) := by rfl
theorem jIQ_212_18 : jmI (jm 212) 18 = (.iconst 0, 1) := by rfl
theorem jIQ_212_20 : jmI (jm 212) 20 = (.laload, 1) := by rfl
theorem jIQ_212_21 : jmI (jm 212) 21 = (.lload_n 2, 1) := by rfl
theorem jIQ_212_22 : jmI (jm 212) 22 = (.lsub, 1) := by rfl
theorem jIQ_212_24 : jmI (jm 212) 24 = (.aload_n 0, 1) := by rfl
theorem jIQ_212_25 : jmI (jm 212) 25 = (.aload 4, 2) := by rfl
theorem jIQ_213_0 : jmI (jm 213) 0 = (.aload_n 1, 1) := by rfl
theorem jIQ_200_0 : jmI (jm 200) 0 = (.iconst 0, 1) := by rfl
theorem jIQ_200_1 : jmI (jm 200) 1 = (.istore_n 1, 1) := by rfl
theorem jIQ_200_2 : jmI (jm 200) 2 = (.iload_n 1, 1) := by rfl
theorem jIQ_200_3 : jmI (jm 200) 3 = (.bipush 6, 2) := by rfl
theorem jIQ_200_5 : jmI (jm 200) 5 = (.if_icmp .ge 19, 3) := by rfl
theorem jIQ_200_8 : jmI (jm 200) 8 = (.aload_n 0, 1) := by rfl
theorem jIQ_200_9 : jmI (jm 200) 9 = (.iload_n 1, 1) := by rfl
theorem jIQ_200_10 : jmI (jm 200) 10 = (.laload, 1) := by rfl
theorem jIQ_200_11 : jmI (jm 200) 11 = (.lconst 0, 1) := by rfl
theorem jIQ_200_13 : jmI (jm 200) 13 = (.ifCond .eq 5, 3) := by rfl
theorem jIQ_200_16 : jmI (jm 200) 16 = (.iconst 0, 1) := by rfl
theorem jQ_200_149 {xs : List Int} {d : Nat} {e0 e1 e2 e3 e4 e5 : Int} (h_e0 : (-4611686018427387903) ≤ e0 ∧ e0 ≤ 4611686018427387903) (h_e1 : (-4611686018427387903) ≤ e1 ∧ e1 ≤ 4611686018427387903) (h_e2 : (-4611686018427387903) ≤ e2 ∧ e2 ≤ 4611686018427387903) (h_e3 : (-4611686018427387903) ≤ e3 ∧ e3 ≤ 4611686018427387903) (h_e4 : (-4611686018427387903) ≤ e4 ∧ e4 ≤ 4611686018427387903) (h_e5 : (-4611686018427387903) ≤ e5 ∧ e5 ≤ 4611686018427387903) (g_0 : 0 ≤ e0 - 1) : jT xs d 200 1 0 [(0, (4, 0))] [] [(101, [], [e0, e1, e2, e3, e4, e5])] 0 0 (fun k v hsN => k = 0 ∧ v = (0, 0) ∧ hsN = [(101, [], [e0, e1, e2, e3, e4, e5])] ++ []) := by
  refine jT_xiconst (k := 0) (pcN := 1) jIQ_200_0 rfl ?_
  refine jT_xistore_n (v := (0, 0)) (LN := [(1, (0, 0)), (0, (4, 0))]) (pcN := 2) jIQ_200_1 rfl rfl rfl rfl ?_
  refine jT_xiload_n (v := (0, 0)) (pcN := 3) jIQ_200_2 rfl rfl rfl ?_
  refine jT_xbipush (k := 6) (pcN := 5) jIQ_200_3 (by decide) rfl ?_
  refine jT_xicF (t := 24) (pcN := 8) jIQ_200_5 rfl (by decide +kernel) rfl rfl ?_
  refine jT_xaload_n (v := (4, 0)) (pcN := 9) jIQ_200_8 rfl rfl rfl ?_
  refine jT_xiload_n (v := (0, 0)) (pcN := 10) jIQ_200_9 rfl rfl rfl ?_
  refine jT_lald (x := e0) (a := 0) (j := 0) (fs := []) (X := [e0, e1, e2, e3, e4, e5]) jIQ_200_10 rfl rfl rfl rfl ?_
  refine jT_eq (LN := [(1, (0, 0)), (0, (4, 0))]) (stN := [(1, e0)]) (hsN := [(101, [], [e0, e1, e2, e3, e4, e5])]) rfl rfl rfl ?_
  refine jT_xlconst (z := 0) (pcN := 12) jIQ_200_11 rfl rfl ?_
  refine jT_lcmp (a := e0) (b := 0) (z := 1) (by rfl) (by rfl) (jwl_idd (by omega) (by omega)) (jwl_idd (by omega) (by omega)) (by rw [decide_eq_true (show (0 : Int) < e0 by omega)]; rfl) ?_
  refine jT_xifF (t := 18) (pcN := 16) jIQ_200_13 rfl (by decide +kernel) rfl rfl ?_
  refine jT_xiconst (k := 0) (pcN := 17) jIQ_200_16 rfl ?_
  exact jT_ret rfl (by decide) (by show 1 ≤ 1; omega) (by omega) (by omega) ⟨rfl, rfl, rfl⟩
theorem jIQ_213_4 : jmI (jm 213) 4 = (.ifCond .eq 7, 3) := by rfl
theorem jIQ_213_11 : jmI (jm 213) 11 = (.aload_n 0, 1) := by rfl
theorem jIQ_213_12 : jmI (jm 213) 12 = (.aload_n 1, 1) := by rfl
theorem jIQ_214_7 : jmI (jm 214) 7 = (.iload_n 3, 1) := by rfl
theorem jIQ_214_8 : jmI (jm 214) 8 = (.bipush 6, 2) := by rfl
theorem jIQ_214_10 : jmI (jm 214) 10 = (.if_icmp .ge 37, 3) := by rfl
theorem jQl_lg_150_6 {xs : List Int} {d b1 b2 : Nat} {Q : Nat → JV → List JC → Prop} (hd : 1 < d) {a w e0 e1 e2 e3 e4 e5 : Int} (h_e0 : -4611686018427387903 ≤ e0 ∧ e0 ≤ 4611686018427387903) (h_e1 : -4611686018427387903 ≤ e1 ∧ e1 ≤ 4611686018427387903) (h_e2 : -4611686018427387903 ≤ e2 ∧ e2 ≤ 4611686018427387903) (h_e3 : -4611686018427387903 ≤ e3 ∧ e3 ≤ 4611686018427387903) (h_e4 : -4611686018427387903 ≤ e4 ∧ e4 ≤ 4611686018427387903) (h_e5 : -4611686018427387903 ≤ e5 ∧ e5 ≤ 4611686018427387903) (ha : a.natAbs ≤ 6 * 10 ^ 220) (hw : a + (0) = w) (h : jT xs d 214 23 47 [(2, (4, 23))] [] [jzQ_371, (101, [], [e0, e1, e2, e3, e4, e5]), jgh, jgh, jgh, jgh, jgh, (130, [], [17, 18, 19, 20, 21, 22]), jgh, jgh, jgh, jgh, jgh, jgh, jgh, jgh, jgh, (100, [], (jenc (jlg 0))), (100, [], (jenc (jlg 1))), (100, [], (jenc (jlg 2))), (100, [], (jenc (jlg 3))), (100, [], (jenc (jlg 4))), (100, [], (jenc (jlg 5))), (100, [], jenc w)] b1 b2 Q) : jT xs d 214 23 7 [(3, (0, 6)), (2, (4, 23)), (0, (4, 0)), (1, (4, 1))] [] [jzQ_371, (101, [], [e0, e1, e2, e3, e4, e5]), jgh, jgh, jgh, jgh, jgh, (130, [], [17, 18, 19, 20, 21, 22]), jgh, jgh, jgh, jgh, jgh, jgh, jgh, jgh, jgh, (100, [], (jenc (jlg 0))), (100, [], (jenc (jlg 1))), (100, [], (jenc (jlg 2))), (100, [], (jenc (jlg 3))), (100, [], (jenc (jlg 4))), (100, [], (jenc (jlg 5))), (100, [], jenc a)] (b1 + 0) (b2 + 0) Q := by
  have e : a = w := by omega
  subst e
  refine jT.mono (b1 := b1) (b2 := b2) ?_ (Nat.le_refl _) (by omega) (by omega) (fun _ _ _ z => z)
  refine jT_xiload_n (v := (0, 6)) (pcN := 8) jIQ_214_7 rfl rfl rfl ?_
  refine jT_xbipush (k := 6) (pcN := 10) jIQ_214_8 (by decide) rfl ?_
  refine jT_xicT (pcN := 47) jIQ_214_10 rfl (by decide +kernel) rfl ?_
  refine jT_loc (LN := [(2, (4, 23))]) (by show List.Nodup [2]; decide) (by intro q hq; simp only [List.mem_cons, List.not_mem_nil, or_false] at hq; rcases hq with rfl <;> rfl) ?_
  exact h
theorem jIQ_214_13 : jmI (jm 214) 13 = (.aload_n 1, 1) := by rfl
theorem jIQ_214_14 : jmI (jm 214) 14 = (.iload_n 3, 1) := by rfl
theorem jIQ_214_15 : jmI (jm 214) 15 = (.laload, 1) := by rfl
theorem jIQ_214_16 : jmI (jm 214) 16 = (.lconst 0, 1) := by rfl
theorem jIQ_214_18 : jmI (jm 214) 18 = (.ifCond .eq 23, 3) := by rfl
theorem jIQ_214_21 : jmI (jm 214) 21 = (.aload_n 2, 1) := by rfl
theorem jIQ_214_22 : jmI (jm 214) 22 = (.aload_n 1, 1) := by rfl
theorem jIQ_214_23 : jmI (jm 214) 23 = (.iload_n 3, 1) := by rfl
theorem jIQ_214_24 : jmI (jm 214) 24 = (.laload, 1) := by rfl
theorem jIQ_214_28 : jmI (jm 214) 28 = (.aload_n 0, 1) := by rfl
theorem jIQ_214_29 : jmI (jm 214) 29 = (.getfield 28, 3) := by rfl
theorem jIQ_214_32 : jmI (jm 214) 32 = (.iload_n 3, 1) := by rfl
theorem jIQ_214_33 : jmI (jm 214) 33 = (.aaload, 1) := by rfl
theorem jIQ_214_40 : jmI (jm 214) 40 = (.astore_n 2, 1) := by rfl
theorem jIQ_214_41 : jmI (jm 214) 41 = (.iinc 3 1, 3) := by rfl
theorem jIQ_214_44 : jmI (jm 214) 44 = (.goto (-37), 3) := by rfl
theorem jQl_lg_150_5 {xs : List Int} {d b1 b2 : Nat} {Q : Nat → JV → List JC → Prop} (hd : 1 < d) {a w e0 e1 e2 e3 e4 e5 : Int} (h_e0 : -4611686018427387903 ≤ e0 ∧ e0 ≤ 4611686018427387903) (h_e1 : -4611686018427387903 ≤ e1 ∧ e1 ≤ 4611686018427387903) (h_e2 : -4611686018427387903 ≤ e2 ∧ e2 ≤ 4611686018427387903) (h_e3 : -4611686018427387903 ≤ e3 ∧ e3 ≤ 4611686018427387903) (h_e4 : -4611686018427387903 ≤ e4 ∧ e4 ≤ 4611686018427387903) (h_e5 : -4611686018427387903 ≤ e5 ∧ e5 ≤ 4611686018427387903) (ha : a.natAbs ≤ 5 * 10 ^ 220) (hw : a + (e5 * jlg 5) = w) (h : jT xs d 214 23 47 [(2, (4, 23))] [] [jzQ_371, (101, [], [e0, e1, e2, e3, e4, e5]), jgh, jgh, jgh, jgh, jgh, (130, [], [17, 18, 19, 20, 21, 22]), jgh, jgh, jgh, jgh, jgh, jgh, jgh, jgh, jgh, (100, [], (jenc (jlg 0))), (100, [], (jenc (jlg 1))), (100, [], (jenc (jlg 2))), (100, [], (jenc (jlg 3))), (100, [], (jenc (jlg 4))), (100, [], (jenc (jlg 5))), (100, [], jenc w)] b1 b2 Q) : jT xs d 214 23 7 [(3, (0, 5)), (2, (4, 23)), (0, (4, 0)), (1, (4, 1))] [] [jzQ_371, (101, [], [e0, e1, e2, e3, e4, e5]), jgh, jgh, jgh, jgh, jgh, (130, [], [17, 18, 19, 20, 21, 22]), jgh, jgh, jgh, jgh, jgh, jgh, jgh, jgh, jgh, (100, [], (jenc (jlg 0))), (100, [], (jenc (jlg 1))), (100, [], (jenc (jlg 2))), (100, [], (jenc (jlg 3))), (100, [], (jenc (jlg 4))), (100, [], (jenc (jlg 5))), (100, [], jenc a)] (b1 + 3) (b2 + 168) Q := by
  rcases (show (e5 < 0) ∨ (e5 = 0) ∨ (0 < e5) by omega) with g_0 | g_0 | g_0
  · have hp := jlz_m (k := 5) (e := e5) (by decide) (by omega) (by omega)
    rcases (show (a = 0) ∨ (a ≠ 0) by omega) with ga | ga
    · subst ga
      refine jT_xiload_n (v := (0, 5)) (pcN := 8) jIQ_214_7 rfl rfl rfl ?_
      refine jT_xbipush (k := 6) (pcN := 10) jIQ_214_8 (by decide) rfl ?_
      refine jT_xicF (t := 47) (pcN := 13) jIQ_214_10 rfl (by decide +kernel) rfl rfl ?_
      refine jT_xaload_n (v := (4, 1)) (pcN := 14) jIQ_214_13 rfl rfl rfl ?_
      refine jT_xiload_n (v := (0, 5)) (pcN := 15) jIQ_214_14 rfl rfl rfl ?_
      refine jT_lald (x := e5) (a := 1) (j := 5) (fs := []) (X := [e0, e1, e2, e3, e4, e5]) jIQ_214_15 rfl rfl rfl rfl ?_
      refine jT_eq (LN := [(3, (0, 5)), (2, (4, 23)), (0, (4, 0)), (1, (4, 1))]) (stN := [(1, e5)]) (hsN := [jzQ_371, (101, [], [e0, e1, e2, e3, e4, e5]), jgh, jgh, jgh, jgh, jgh, (130, [], [17, 18, 19, 20, 21, 22]), jgh, jgh, jgh, jgh, jgh, jgh, jgh, jgh, jgh, (100, [], (jenc (jlg 0))), (100, [], (jenc (jlg 1))), (100, [], (jenc (jlg 2))), (100, [], (jenc (jlg 3))), (100, [], (jenc (jlg 4))), (100, [], (jenc (jlg 5))), (100, [], (jenc 0))]) rfl rfl rfl ?_
      refine jT_xlconst (z := 0) (pcN := 17) jIQ_214_16 rfl rfl ?_
      refine jT_lcmp (a := e5) (b := 0) (z := (-1)) (by rfl) (by rfl) (jwl_idd (by omega) (by omega)) (jwl_idd (by omega) (by omega)) (by rw [decide_eq_false (show ¬ ((0 : Int) < e5) by omega), decide_eq_false (show ¬ ((e5 : Int) = 0) by omega)]; rfl) ?_
      refine jT_xifF (t := 41) (pcN := 21) jIQ_214_18 rfl (by decide +kernel) rfl rfl ?_
      refine jT_xaload_n (v := (4, 23)) (pcN := 22) jIQ_214_21 rfl rfl rfl ?_
      refine jT_xaload_n (v := (4, 1)) (pcN := 23) jIQ_214_22 rfl rfl rfl ?_
      refine jT_xiload_n (v := (0, 5)) (pcN := 24) jIQ_214_23 rfl rfl rfl ?_
      refine jT_lald (x := e5) (a := 1) (j := 5) (fs := []) (X := [e0, e1, e2, e3, e4, e5]) jIQ_214_24 rfl rfl rfl rfl ?_
      refine jT_eq (LN := [(3, (0, 5)), (2, (4, 23)), (0, (4, 0)), (1, (4, 1))]) (stN := [(1, e5), (4, 23)]) (hsN := [jzQ_371, (101, [], [e0, e1, e2, e3, e4, e5]), jgh, jgh, jgh, jgh, jgh, (130, [], [17, 18, 19, 20, 21, 22]), jgh, jgh, jgh, jgh, jgh, jgh, jgh, jgh, jgh, (100, [], (jenc (jlg 0))), (100, [], (jenc (jlg 1))), (100, [], (jenc (jlg 2))), (100, [], (jenc (jlg 3))), (100, [], (jenc (jlg 4))), (100, [], (jenc (jlg 5))), (100, [], (jenc 0))]) rfl rfl rfl ?_
      refine jT_callA [] (y := 178) (pcN := 28) (dC := 1) (bc1 := 1) (bc2 := 56) (c1 := (b1 + 2)) (c2 := (b2 + 112)) (as := [(1, e5)]) (asC := [(1, e5)]) (LN := [(3, (0, 5)), (2, (4, 23)), (0, (4, 0)), (1, (4, 1))]) (stN := [(4, 23)]) (hsC := []) (ex := [(100, [], (jenc e5))]) (v := (4, 0)) (st2 := [(4, 24), (4, 23)]) (hs2 := [jzQ_371, (101, [], [e0, e1, e2, e3, e4, e5]), jgh, jgh, jgh, jgh, jgh, (130, [], [17, 18, 19, 20, 21, 22]), jgh, jgh, jgh, jgh, jgh, jgh, jgh, jgh, jgh, (100, [], (jenc (jlg 0))), (100, [], (jenc (jlg 1))), (100, [], (jenc (jlg 2))), (100, [], (jenc (jlg 3))), (100, [], (jenc (jlg 4))), (100, [], (jenc (jlg 5))), (100, [], (jenc 0)), (100, [], (jenc e5))]) (jT_big (d := 0) (v := e5) (by omega) (by omega)) (by rfl) (by rfl) (by rfl) (by rfl) trivial (by rfl) (by rfl) (by omega) (by show 23 ≤ 24; omega) (by omega) (by omega) rfl rfl ?_
      refine jT_xaload_n (v := (4, 0)) (pcN := 29) jIQ_214_28 rfl rfl rfl ?_
      refine jT_xgetf (a := 0) (t := 1) (ci := 14) (fi := 8) (c := jzQ_371) (v := (4, 7)) (pcN := 32) jIQ_214_29 rfl rfl rfl rfl rfl rfl rfl ?_
      refine jT_xiload_n (v := (0, 5)) (pcN := 33) jIQ_214_32 rfl rfl rfl ?_
      refine jT_aald (x := 22) (a := 7) (j := 5) (fs := []) (X := [17, 18, 19, 20, 21, 22]) (kd := 130) jIQ_214_33 rfl rfl rfl rfl rfl ?_
      refine jT_eq (LN := [(3, (0, 5)), (2, (4, 23)), (0, (4, 0)), (1, (4, 1))]) (stN := [(4, 22), (4, 24), (4, 23)]) (hsN := [jzQ_371, (101, [], [e0, e1, e2, e3, e4, e5]), jgh, jgh, jgh, jgh, jgh, (130, [], [17, 18, 19, 20, 21, 22]), jgh, jgh, jgh, jgh, jgh, jgh, jgh, jgh, jgh, (100, [], (jenc (jlg 0))), (100, [], (jenc (jlg 1))), (100, [], (jenc (jlg 2))), (100, [], (jenc (jlg 3))), (100, [], (jenc (jlg 4))), (100, [], (jenc (jlg 5))), (100, [], (jenc 0)), (100, [], (jenc e5))]) rfl rfl rfl ?_
      refine jT_callA [24, 22] (y := 179) (pcN := 37) (dC := 1) (bc1 := 1) (bc2 := 56) (c1 := (b1 + 1)) (c2 := (b2 + 56)) (as := [(4, 24), (4, 22)]) (asC := [(4, 0), (4, 1)]) (LN := [(3, (0, 5)), (2, (4, 23)), (0, (4, 0)), (1, (4, 1))]) (stN := [(4, 23)]) (hsC := [(100, [], (jenc e5)), (100, [], (jenc (jlg 5)))]) (ex := [(100, [], (jenc (e5 * jlg 5)))]) (v := (4, 2)) (st2 := [(4, 25), (4, 23)]) (hs2 := [jzQ_371, (101, [], [e0, e1, e2, e3, e4, e5]), jgh, jgh, jgh, jgh, jgh, (130, [], [17, 18, 19, 20, 21, 22]), jgh, jgh, jgh, jgh, jgh, jgh, jgh, jgh, jgh, (100, [], (jenc (jlg 0))), (100, [], (jenc (jlg 1))), (100, [], (jenc (jlg 2))), (100, [], (jenc (jlg 3))), (100, [], (jenc (jlg 4))), (100, [], (jenc (jlg 5))), (100, [], (jenc 0)), (100, [], (jenc e5)), (100, [], (jenc (e5 * jlg 5)))]) (jT_product (d := 0) (a := e5) (b := jlg 5) (jb54 (by omega) (by omega)) hp.1) (by rfl) (by rfl) (by rfl) (by rfl) ⟨rfl, rfl, trivial⟩ (by rfl) (by rfl) (by omega) (by show 23 ≤ 25; omega) (by omega) (by omega) rfl rfl ?_
      refine jT_callA [23, 25] (y := 181) (pcN := 40) (dC := 0) (bc1 := 0) (bc2 := 0) (c1 := (b1 + 1)) (c2 := (b2 + 56)) (as := [(4, 23), (4, 25)]) (asC := [(4, 0), (4, 1)]) (LN := [(3, (0, 5)), (2, (4, 23)), (0, (4, 0)), (1, (4, 1))]) (stN := []) (hsC := [(100, [], (jenc 0)), (100, [], (jenc (e5 * jlg 5)))]) (ex := []) (v := (4, 1)) (st2 := [(4, 25)]) (hs2 := [jzQ_371, (101, [], [e0, e1, e2, e3, e4, e5]), jgh, jgh, jgh, jgh, jgh, (130, [], [17, 18, 19, 20, 21, 22]), jgh, jgh, jgh, jgh, jgh, jgh, jgh, jgh, jgh, (100, [], (jenc (jlg 0))), (100, [], (jenc (jlg 1))), (100, [], (jenc (jlg 2))), (100, [], (jenc (jlg 3))), (100, [], (jenc (jlg 4))), (100, [], (jenc (jlg 5))), (100, [], (jenc 0)), (100, [], (jenc e5)), (100, [], (jenc (e5 * jlg 5)))]) (jT_added_0l (d := 0) (b := e5 * jlg 5)) (by rfl) (by rfl) (by rfl) (by rfl) ⟨rfl, rfl, trivial⟩ (by rfl) (by rfl) (by omega) (by show 23 ≤ 26; omega) (by omega) (by omega) rfl rfl ?_
      refine jT_xastore_n (v := (4, 25)) (LN := [(2, (4, 25)), (3, (0, 5)), (0, (4, 0)), (1, (4, 1))]) (pcN := 41) jIQ_214_40 rfl rfl rfl rfl ?_
      refine jT_xiinc (x := 5) (z := 6) (LN := [(3, (0, 6)), (2, (4, 25)), (0, (4, 0)), (1, (4, 1))]) (pcN := 44) jIQ_214_41 rfl rfl (by decide) rfl rfl ?_
      refine jT_xgoto (pcN := 7) jIQ_214_44 rfl ?_
      refine jT_loc (LN := [(3, (0, 6)), (2, (4, 25)), (0, (4, 0)), (1, (4, 1))]) (by show List.Nodup [3, 2, 0, 1]; decide) (by intro q hq; simp only [List.mem_cons, List.not_mem_nil, or_false] at hq; rcases hq with rfl | rfl | rfl | rfl <;> rfl) ?_
      refine jT_gc [0, 1, 2, 3, 4, 5, 6, 7, 8, 9, 10, 11, 12, 13, 14, 15, 16, 17, 18, 19, 20, 21, 22, 25] (hs0 := [jzQ_371, (101, [], [e0, e1, e2, e3, e4, e5]), jgh, jgh, jgh, jgh, jgh, (130, [], [17, 18, 19, 20, 21, 22]), jgh, jgh, jgh, jgh, jgh, jgh, jgh, jgh, jgh, (100, [], (jenc (jlg 0))), (100, [], (jenc (jlg 1))), (100, [], (jenc (jlg 2))), (100, [], (jenc (jlg 3))), (100, [], (jenc (jlg 4))), (100, [], (jenc (jlg 5))), (100, [], jenc (e5 * jlg 5))]) (L0 := [(3, (0, 6)), (2, (4, 23)), (0, (4, 0)), (1, (4, 1))]) (st0 := []) (by show jgB [0, 1, 2, 3, 4, 5, 6, 7, 8, 9, 10, 11, 12, 13, 14, 15, 16, 17, 18, 19, 20, 21, 22, 25] 26 = true; decide +kernel) rfl ⟨rfl, rfl, rfl, rfl, rfl, rfl, rfl, rfl, rfl, rfl, rfl, rfl, rfl, rfl, rfl, rfl, rfl, rfl, rfl, rfl, rfl, rfl, rfl, rfl, trivial⟩ rfl rfl (by decide +kernel) ?_
      exact jT.mono (jQl_lg_150_6 hd h_e0 h_e1 h_e2 h_e3 h_e4 h_e5 (Nat.le_trans hp.2.2 (by decide)) (by rw [Int.zero_add] at hw; omega) h) (Nat.le_refl _) (by omega) (by omega) (fun _ _ _ z => z)
    · refine jT_xiload_n (v := (0, 5)) (pcN := 8) jIQ_214_7 rfl rfl rfl ?_
      refine jT_xbipush (k := 6) (pcN := 10) jIQ_214_8 (by decide) rfl ?_
      refine jT_xicF (t := 47) (pcN := 13) jIQ_214_10 rfl (by decide +kernel) rfl rfl ?_
      refine jT_xaload_n (v := (4, 1)) (pcN := 14) jIQ_214_13 rfl rfl rfl ?_
      refine jT_xiload_n (v := (0, 5)) (pcN := 15) jIQ_214_14 rfl rfl rfl ?_
      refine jT_lald (x := e5) (a := 1) (j := 5) (fs := []) (X := [e0, e1, e2, e3, e4, e5]) jIQ_214_15 rfl rfl rfl rfl ?_
      refine jT_eq (LN := [(3, (0, 5)), (2, (4, 23)), (0, (4, 0)), (1, (4, 1))]) (stN := [(1, e5)]) (hsN := [jzQ_371, (101, [], [e0, e1, e2, e3, e4, e5]), jgh, jgh, jgh, jgh, jgh, (130, [], [17, 18, 19, 20, 21, 22]), jgh, jgh, jgh, jgh, jgh, jgh, jgh, jgh, jgh, (100, [], (jenc (jlg 0))), (100, [], (jenc (jlg 1))), (100, [], (jenc (jlg 2))), (100, [], (jenc (jlg 3))), (100, [], (jenc (jlg 4))), (100, [], (jenc (jlg 5))), (100, [], (jenc a))]) rfl rfl rfl ?_
      refine jT_xlconst (z := 0) (pcN := 17) jIQ_214_16 rfl rfl ?_
      refine jT_lcmp (a := e5) (b := 0) (z := (-1)) (by rfl) (by rfl) (jwl_idd (by omega) (by omega)) (jwl_idd (by omega) (by omega)) (by rw [decide_eq_false (show ¬ ((0 : Int) < e5) by omega), decide_eq_false (show ¬ ((e5 : Int) = 0) by omega)]; rfl) ?_
      refine jT_xifF (t := 41) (pcN := 21) jIQ_214_18 rfl (by decide +kernel) rfl rfl ?_
      refine jT_xaload_n (v := (4, 23)) (pcN := 22) jIQ_214_21 rfl rfl rfl ?_
      refine jT_xaload_n (v := (4, 1)) (pcN := 23) jIQ_214_22 rfl rfl rfl ?_
      refine jT_xiload_n (v := (0, 5)) (pcN := 24) jIQ_214_23 rfl rfl rfl ?_
      refine jT_lald (x := e5) (a := 1) (j := 5) (fs := []) (X := [e0, e1, e2, e3, e4, e5]) jIQ_214_24 rfl rfl rfl rfl ?_
      refine jT_eq (LN := [(3, (0, 5)), (2, (4, 23)), (0, (4, 0)), (1, (4, 1))]) (stN := [(1, e5), (4, 23)]) (hsN := [jzQ_371, (101, [], [e0, e1, e2, e3, e4, e5]), jgh, jgh, jgh, jgh, jgh, (130, [], [17, 18, 19, 20, 21, 22]), jgh, jgh, jgh, jgh, jgh, jgh, jgh, jgh, jgh, (100, [], (jenc (jlg 0))), (100, [], (jenc (jlg 1))), (100, [], (jenc (jlg 2))), (100, [], (jenc (jlg 3))), (100, [], (jenc (jlg 4))), (100, [], (jenc (jlg 5))), (100, [], (jenc a))]) rfl rfl rfl ?_
      refine jT_callA [] (y := 178) (pcN := 28) (dC := 1) (bc1 := 1) (bc2 := 56) (c1 := (b1 + 2)) (c2 := (b2 + 112)) (as := [(1, e5)]) (asC := [(1, e5)]) (LN := [(3, (0, 5)), (2, (4, 23)), (0, (4, 0)), (1, (4, 1))]) (stN := [(4, 23)]) (hsC := []) (ex := [(100, [], (jenc e5))]) (v := (4, 0)) (st2 := [(4, 24), (4, 23)]) (hs2 := [jzQ_371, (101, [], [e0, e1, e2, e3, e4, e5]), jgh, jgh, jgh, jgh, jgh, (130, [], [17, 18, 19, 20, 21, 22]), jgh, jgh, jgh, jgh, jgh, jgh, jgh, jgh, jgh, (100, [], (jenc (jlg 0))), (100, [], (jenc (jlg 1))), (100, [], (jenc (jlg 2))), (100, [], (jenc (jlg 3))), (100, [], (jenc (jlg 4))), (100, [], (jenc (jlg 5))), (100, [], (jenc a)), (100, [], (jenc e5))]) (jT_big (d := 0) (v := e5) (by omega) (by omega)) (by rfl) (by rfl) (by rfl) (by rfl) trivial (by rfl) (by rfl) (by omega) (by show 23 ≤ 24; omega) (by omega) (by omega) rfl rfl ?_
      refine jT_xaload_n (v := (4, 0)) (pcN := 29) jIQ_214_28 rfl rfl rfl ?_
      refine jT_xgetf (a := 0) (t := 1) (ci := 14) (fi := 8) (c := jzQ_371) (v := (4, 7)) (pcN := 32) jIQ_214_29 rfl rfl rfl rfl rfl rfl rfl ?_
      refine jT_xiload_n (v := (0, 5)) (pcN := 33) jIQ_214_32 rfl rfl rfl ?_
      refine jT_aald (x := 22) (a := 7) (j := 5) (fs := []) (X := [17, 18, 19, 20, 21, 22]) (kd := 130) jIQ_214_33 rfl rfl rfl rfl rfl ?_
      refine jT_eq (LN := [(3, (0, 5)), (2, (4, 23)), (0, (4, 0)), (1, (4, 1))]) (stN := [(4, 22), (4, 24), (4, 23)]) (hsN := [jzQ_371, (101, [], [e0, e1, e2, e3, e4, e5]), jgh, jgh, jgh, jgh, jgh, (130, [], [17, 18, 19, 20, 21, 22]), jgh, jgh, jgh, jgh, jgh, jgh, jgh, jgh, jgh, (100, [], (jenc (jlg 0))), (100, [], (jenc (jlg 1))), (100, [], (jenc (jlg 2))), (100, [], (jenc (jlg 3))), (100, [], (jenc (jlg 4))), (100, [], (jenc (jlg 5))), (100, [], (jenc a)), (100, [], (jenc e5))]) rfl rfl rfl ?_
      refine jT_callA [24, 22] (y := 179) (pcN := 37) (dC := 1) (bc1 := 1) (bc2 := 56) (c1 := (b1 + 1)) (c2 := (b2 + 56)) (as := [(4, 24), (4, 22)]) (asC := [(4, 0), (4, 1)]) (LN := [(3, (0, 5)), (2, (4, 23)), (0, (4, 0)), (1, (4, 1))]) (stN := [(4, 23)]) (hsC := [(100, [], (jenc e5)), (100, [], (jenc (jlg 5)))]) (ex := [(100, [], (jenc (e5 * jlg 5)))]) (v := (4, 2)) (st2 := [(4, 25), (4, 23)]) (hs2 := [jzQ_371, (101, [], [e0, e1, e2, e3, e4, e5]), jgh, jgh, jgh, jgh, jgh, (130, [], [17, 18, 19, 20, 21, 22]), jgh, jgh, jgh, jgh, jgh, jgh, jgh, jgh, jgh, (100, [], (jenc (jlg 0))), (100, [], (jenc (jlg 1))), (100, [], (jenc (jlg 2))), (100, [], (jenc (jlg 3))), (100, [], (jenc (jlg 4))), (100, [], (jenc (jlg 5))), (100, [], (jenc a)), (100, [], (jenc e5)), (100, [], (jenc (e5 * jlg 5)))]) (jT_product (d := 0) (a := e5) (b := jlg 5) (jb54 (by omega) (by omega)) hp.1) (by rfl) (by rfl) (by rfl) (by rfl) ⟨rfl, rfl, trivial⟩ (by rfl) (by rfl) (by omega) (by show 23 ≤ 25; omega) (by omega) (by omega) rfl rfl ?_
      refine jT_callA [23, 25] (y := 181) (pcN := 40) (dC := 1) (bc1 := 1) (bc2 := 56) (c1 := (b1 + 0)) (c2 := (b2 + 0)) (as := [(4, 23), (4, 25)]) (asC := [(4, 0), (4, 1)]) (LN := [(3, (0, 5)), (2, (4, 23)), (0, (4, 0)), (1, (4, 1))]) (stN := []) (hsC := [(100, [], (jenc a)), (100, [], (jenc (e5 * jlg 5)))]) (ex := [(100, [], (jenc (a + (e5 * jlg 5))))]) (v := (4, 2)) (st2 := [(4, 26)]) (hs2 := [jzQ_371, (101, [], [e0, e1, e2, e3, e4, e5]), jgh, jgh, jgh, jgh, jgh, (130, [], [17, 18, 19, 20, 21, 22]), jgh, jgh, jgh, jgh, jgh, jgh, jgh, jgh, jgh, (100, [], (jenc (jlg 0))), (100, [], (jenc (jlg 1))), (100, [], (jenc (jlg 2))), (100, [], (jenc (jlg 3))), (100, [], (jenc (jlg 4))), (100, [], (jenc (jlg 5))), (100, [], (jenc a)), (100, [], (jenc e5)), (100, [], (jenc (e5 * jlg 5))), (100, [], (jenc (a + (e5 * jlg 5))))]) (jT_added (d := 0) (a := a) (b := e5 * jlg 5) ga hp.2.1 (jb54k ha (by decide)) hp.1 (jb54a ha hp.2.2 (by decide))) (by rfl) (by rfl) (by rfl) (by rfl) ⟨rfl, rfl, trivial⟩ (by rfl) (by rfl) (by omega) (by show 23 ≤ 26; omega) (by omega) (by omega) rfl rfl ?_
      refine jT_xastore_n (v := (4, 26)) (LN := [(2, (4, 26)), (3, (0, 5)), (0, (4, 0)), (1, (4, 1))]) (pcN := 41) jIQ_214_40 rfl rfl rfl rfl ?_
      refine jT_xiinc (x := 5) (z := 6) (LN := [(3, (0, 6)), (2, (4, 26)), (0, (4, 0)), (1, (4, 1))]) (pcN := 44) jIQ_214_41 rfl rfl (by decide) rfl rfl ?_
      refine jT_xgoto (pcN := 7) jIQ_214_44 rfl ?_
      refine jT_loc (LN := [(3, (0, 6)), (2, (4, 26)), (0, (4, 0)), (1, (4, 1))]) (by show List.Nodup [3, 2, 0, 1]; decide) (by intro q hq; simp only [List.mem_cons, List.not_mem_nil, or_false] at hq; rcases hq with rfl | rfl | rfl | rfl <;> rfl) ?_
      refine jT_gc [0, 1, 2, 3, 4, 5, 6, 7, 8, 9, 10, 11, 12, 13, 14, 15, 16, 17, 18, 19, 20, 21, 22, 26] (hs0 := [jzQ_371, (101, [], [e0, e1, e2, e3, e4, e5]), jgh, jgh, jgh, jgh, jgh, (130, [], [17, 18, 19, 20, 21, 22]), jgh, jgh, jgh, jgh, jgh, jgh, jgh, jgh, jgh, (100, [], (jenc (jlg 0))), (100, [], (jenc (jlg 1))), (100, [], (jenc (jlg 2))), (100, [], (jenc (jlg 3))), (100, [], (jenc (jlg 4))), (100, [], (jenc (jlg 5))), (100, [], jenc (a + (e5 * jlg 5)))]) (L0 := [(3, (0, 6)), (2, (4, 23)), (0, (4, 0)), (1, (4, 1))]) (st0 := []) (by show jgB [0, 1, 2, 3, 4, 5, 6, 7, 8, 9, 10, 11, 12, 13, 14, 15, 16, 17, 18, 19, 20, 21, 22, 26] 27 = true; decide +kernel) rfl ⟨rfl, rfl, rfl, rfl, rfl, rfl, rfl, rfl, rfl, rfl, rfl, rfl, rfl, rfl, rfl, rfl, rfl, rfl, rfl, rfl, rfl, rfl, rfl, rfl, trivial⟩ rfl rfl (by decide +kernel) ?_
      exact jT.mono (jQl_lg_150_6 hd h_e0 h_e1 h_e2 h_e3 h_e4 h_e5 (jb1c ha hp.2.2 (by decide)) (by omega) h) (Nat.le_refl _) (by omega) (by omega) (fun _ _ _ z => z)
  · refine jT_xiload_n (v := (0, 5)) (pcN := 8) jIQ_214_7 rfl rfl rfl ?_
    refine jT_xbipush (k := 6) (pcN := 10) jIQ_214_8 (by decide) rfl ?_
    refine jT_xicF (t := 47) (pcN := 13) jIQ_214_10 rfl (by decide +kernel) rfl rfl ?_
    refine jT_xaload_n (v := (4, 1)) (pcN := 14) jIQ_214_13 rfl rfl rfl ?_
    refine jT_xiload_n (v := (0, 5)) (pcN := 15) jIQ_214_14 rfl rfl rfl ?_
    refine jT_lald (x := e5) (a := 1) (j := 5) (fs := []) (X := [e0, e1, e2, e3, e4, e5]) jIQ_214_15 rfl rfl rfl rfl ?_
    refine jT_eq (LN := [(3, (0, 5)), (2, (4, 23)), (0, (4, 0)), (1, (4, 1))]) (stN := [(1, e5)]) (hsN := [jzQ_371, (101, [], [e0, e1, e2, e3, e4, e5]), jgh, jgh, jgh, jgh, jgh, (130, [], [17, 18, 19, 20, 21, 22]), jgh, jgh, jgh, jgh, jgh, jgh, jgh, jgh, jgh, (100, [], (jenc (jlg 0))), (100, [], (jenc (jlg 1))), (100, [], (jenc (jlg 2))), (100, [], (jenc (jlg 3))), (100, [], (jenc (jlg 4))), (100, [], (jenc (jlg 5))), (100, [], (jenc a))]) rfl rfl rfl ?_
    refine jT_xlconst (z := 0) (pcN := 17) jIQ_214_16 rfl rfl ?_
    refine jT_lcmp (a := e5) (b := 0) (z := 0) (by rfl) (by rfl) (jwl_idd (by omega) (by omega)) (jwl_idd (by omega) (by omega)) (by rw [decide_eq_false (show ¬ ((0 : Int) < e5) by omega), decide_eq_true (show (e5 : Int) = 0 by omega)]; rfl) ?_
    refine jT_xifT (pcN := 41) jIQ_214_18 rfl (by decide +kernel) rfl ?_
    refine jT_xiinc (x := 5) (z := 6) (LN := [(3, (0, 6)), (2, (4, 23)), (0, (4, 0)), (1, (4, 1))]) (pcN := 44) jIQ_214_41 rfl rfl (by decide) rfl rfl ?_
    refine jT_xgoto (pcN := 7) jIQ_214_44 rfl ?_
    refine jT_loc (LN := [(3, (0, 6)), (2, (4, 23)), (0, (4, 0)), (1, (4, 1))]) (by show List.Nodup [3, 2, 0, 1]; decide) (by intro q hq; simp only [List.mem_cons, List.not_mem_nil, or_false] at hq; rcases hq with rfl | rfl | rfl | rfl <;> rfl) ?_
    exact jT.mono (jQl_lg_150_6 hd h_e0 h_e1 h_e2 h_e3 h_e4 h_e5 (by omega) (by rw [g_0, Int.zero_mul] at hw; omega) h) (Nat.le_refl _) (by omega) (by omega) (fun _ _ _ z => z)
  · have hp := jlz_m (k := 5) (e := e5) (by decide) (by omega) (by omega)
    rcases (show (a = 0) ∨ (a ≠ 0) by omega) with ga | ga
    · subst ga
      refine jT_xiload_n (v := (0, 5)) (pcN := 8) jIQ_214_7 rfl rfl rfl ?_
      refine jT_xbipush (k := 6) (pcN := 10) jIQ_214_8 (by decide) rfl ?_
      refine jT_xicF (t := 47) (pcN := 13) jIQ_214_10 rfl (by decide +kernel) rfl rfl ?_
      refine jT_xaload_n (v := (4, 1)) (pcN := 14) jIQ_214_13 rfl rfl rfl ?_
      refine jT_xiload_n (v := (0, 5)) (pcN := 15) jIQ_214_14 rfl rfl rfl ?_
      refine jT_lald (x := e5) (a := 1) (j := 5) (fs := []) (X := [e0, e1, e2, e3, e4, e5]) jIQ_214_15 rfl rfl rfl rfl ?_
      refine jT_eq (LN := [(3, (0, 5)), (2, (4, 23)), (0, (4, 0)), (1, (4, 1))]) (stN := [(1, e5)]) (hsN := [jzQ_371, (101, [], [e0, e1, e2, e3, e4, e5]), jgh, jgh, jgh, jgh, jgh, (130, [], [17, 18, 19, 20, 21, 22]), jgh, jgh, jgh, jgh, jgh, jgh, jgh, jgh, jgh, (100, [], (jenc (jlg 0))), (100, [], (jenc (jlg 1))), (100, [], (jenc (jlg 2))), (100, [], (jenc (jlg 3))), (100, [], (jenc (jlg 4))), (100, [], (jenc (jlg 5))), (100, [], (jenc 0))]) rfl rfl rfl ?_
      refine jT_xlconst (z := 0) (pcN := 17) jIQ_214_16 rfl rfl ?_
      refine jT_lcmp (a := e5) (b := 0) (z := 1) (by rfl) (by rfl) (jwl_idd (by omega) (by omega)) (jwl_idd (by omega) (by omega)) (by rw [decide_eq_true (show (0 : Int) < e5 by omega)]; rfl) ?_
      refine jT_xifF (t := 41) (pcN := 21) jIQ_214_18 rfl (by decide +kernel) rfl rfl ?_
      refine jT_xaload_n (v := (4, 23)) (pcN := 22) jIQ_214_21 rfl rfl rfl ?_
      refine jT_xaload_n (v := (4, 1)) (pcN := 23) jIQ_214_22 rfl rfl rfl ?_
      refine jT_xiload_n (v := (0, 5)) (pcN := 24) jIQ_214_23 rfl rfl rfl ?_
      refine jT_lald (x := e5) (a := 1) (j := 5) (fs := []) (X := [e0, e1, e2, e3, e4, e5]) jIQ_214_24 rfl rfl rfl rfl ?_
      refine jT_eq (LN := [(3, (0, 5)), (2, (4, 23)), (0, (4, 0)), (1, (4, 1))]) (stN := [(1, e5), (4, 23)]) (hsN := [jzQ_371, (101, [], [e0, e1, e2, e3, e4, e5]), jgh, jgh, jgh, jgh, jgh, (130, [], [17, 18, 19, 20, 21, 22]), jgh, jgh, jgh, jgh, jgh, jgh, jgh, jgh, jgh, (100, [], (jenc (jlg 0))), (100, [], (jenc (jlg 1))), (100, [], (jenc (jlg 2))), (100, [], (jenc (jlg 3))), (100, [], (jenc (jlg 4))), (100, [], (jenc (jlg 5))), (100, [], (jenc 0))]) rfl rfl rfl ?_
      refine jT_callA [] (y := 178) (pcN := 28) (dC := 1) (bc1 := 1) (bc2 := 56) (c1 := (b1 + 2)) (c2 := (b2 + 112)) (as := [(1, e5)]) (asC := [(1, e5)]) (LN := [(3, (0, 5)), (2, (4, 23)), (0, (4, 0)), (1, (4, 1))]) (stN := [(4, 23)]) (hsC := []) (ex := [(100, [], (jenc e5))]) (v := (4, 0)) (st2 := [(4, 24), (4, 23)]) (hs2 := [jzQ_371, (101, [], [e0, e1, e2, e3, e4, e5]), jgh, jgh, jgh, jgh, jgh, (130, [], [17, 18, 19, 20, 21, 22]), jgh, jgh, jgh, jgh, jgh, jgh, jgh, jgh, jgh, (100, [], (jenc (jlg 0))), (100, [], (jenc (jlg 1))), (100, [], (jenc (jlg 2))), (100, [], (jenc (jlg 3))), (100, [], (jenc (jlg 4))), (100, [], (jenc (jlg 5))), (100, [], (jenc 0)), (100, [], (jenc e5))]) (jT_big (d := 0) (v := e5) (by omega) (by omega)) (by rfl) (by rfl) (by rfl) (by rfl) trivial (by rfl) (by rfl) (by omega) (by show 23 ≤ 24; omega) (by omega) (by omega) rfl rfl ?_
      refine jT_xaload_n (v := (4, 0)) (pcN := 29) jIQ_214_28 rfl rfl rfl ?_
      refine jT_xgetf (a := 0) (t := 1) (ci := 14) (fi := 8) (c := jzQ_371) (v := (4, 7)) (pcN := 32) jIQ_214_29 rfl rfl rfl rfl rfl rfl rfl ?_
      refine jT_xiload_n (v := (0, 5)) (pcN := 33) jIQ_214_32 rfl rfl rfl ?_
      refine jT_aald (x := 22) (a := 7) (j := 5) (fs := []) (X := [17, 18, 19, 20, 21, 22]) (kd := 130) jIQ_214_33 rfl rfl rfl rfl rfl ?_
      refine jT_eq (LN := [(3, (0, 5)), (2, (4, 23)), (0, (4, 0)), (1, (4, 1))]) (stN := [(4, 22), (4, 24), (4, 23)]) (hsN := [jzQ_371, (101, [], [e0, e1, e2, e3, e4, e5]), jgh, jgh, jgh, jgh, jgh, (130, [], [17, 18, 19, 20, 21, 22]), jgh, jgh, jgh, jgh, jgh, jgh, jgh, jgh, jgh, (100, [], (jenc (jlg 0))), (100, [], (jenc (jlg 1))), (100, [], (jenc (jlg 2))), (100, [], (jenc (jlg 3))), (100, [], (jenc (jlg 4))), (100, [], (jenc (jlg 5))), (100, [], (jenc 0)), (100, [], (jenc e5))]) rfl rfl rfl ?_
      refine jT_callA [24, 22] (y := 179) (pcN := 37) (dC := 1) (bc1 := 1) (bc2 := 56) (c1 := (b1 + 1)) (c2 := (b2 + 56)) (as := [(4, 24), (4, 22)]) (asC := [(4, 0), (4, 1)]) (LN := [(3, (0, 5)), (2, (4, 23)), (0, (4, 0)), (1, (4, 1))]) (stN := [(4, 23)]) (hsC := [(100, [], (jenc e5)), (100, [], (jenc (jlg 5)))]) (ex := [(100, [], (jenc (e5 * jlg 5)))]) (v := (4, 2)) (st2 := [(4, 25), (4, 23)]) (hs2 := [jzQ_371, (101, [], [e0, e1, e2, e3, e4, e5]), jgh, jgh, jgh, jgh, jgh, (130, [], [17, 18, 19, 20, 21, 22]), jgh, jgh, jgh, jgh, jgh, jgh, jgh, jgh, jgh, (100, [], (jenc (jlg 0))), (100, [], (jenc (jlg 1))), (100, [], (jenc (jlg 2))), (100, [], (jenc (jlg 3))), (100, [], (jenc (jlg 4))), (100, [], (jenc (jlg 5))), (100, [], (jenc 0)), (100, [], (jenc e5)), (100, [], (jenc (e5 * jlg 5)))]) (jT_product (d := 0) (a := e5) (b := jlg 5) (jb54 (by omega) (by omega)) hp.1) (by rfl) (by rfl) (by rfl) (by rfl) ⟨rfl, rfl, trivial⟩ (by rfl) (by rfl) (by omega) (by show 23 ≤ 25; omega) (by omega) (by omega) rfl rfl ?_
      refine jT_callA [23, 25] (y := 181) (pcN := 40) (dC := 0) (bc1 := 0) (bc2 := 0) (c1 := (b1 + 1)) (c2 := (b2 + 56)) (as := [(4, 23), (4, 25)]) (asC := [(4, 0), (4, 1)]) (LN := [(3, (0, 5)), (2, (4, 23)), (0, (4, 0)), (1, (4, 1))]) (stN := []) (hsC := [(100, [], (jenc 0)), (100, [], (jenc (e5 * jlg 5)))]) (ex := []) (v := (4, 1)) (st2 := [(4, 25)]) (hs2 := [jzQ_371, (101, [], [e0, e1, e2, e3, e4, e5]), jgh, jgh, jgh, jgh, jgh, (130, [], [17, 18, 19, 20, 21, 22]), jgh, jgh, jgh, jgh, jgh, jgh, jgh, jgh, jgh, (100, [], (jenc (jlg 0))), (100, [], (jenc (jlg 1))), (100, [], (jenc (jlg 2))), (100, [], (jenc (jlg 3))), (100, [], (jenc (jlg 4))), (100, [], (jenc (jlg 5))), (100, [], (jenc 0)), (100, [], (jenc e5)), (100, [], (jenc (e5 * jlg 5)))]) (jT_added_0l (d := 0) (b := e5 * jlg 5)) (by rfl) (by rfl) (by rfl) (by rfl) ⟨rfl, rfl, trivial⟩ (by rfl) (by rfl) (by omega) (by show 23 ≤ 26; omega) (by omega) (by omega) rfl rfl ?_
      refine jT_xastore_n (v := (4, 25)) (LN := [(2, (4, 25)), (3, (0, 5)), (0, (4, 0)), (1, (4, 1))]) (pcN := 41) jIQ_214_40 rfl rfl rfl rfl ?_
      refine jT_xiinc (x := 5) (z := 6) (LN := [(3, (0, 6)), (2, (4, 25)), (0, (4, 0)), (1, (4, 1))]) (pcN := 44) jIQ_214_41 rfl rfl (by decide) rfl rfl ?_
      refine jT_xgoto (pcN := 7) jIQ_214_44 rfl ?_
      refine jT_loc (LN := [(3, (0, 6)), (2, (4, 25)), (0, (4, 0)), (1, (4, 1))]) (by show List.Nodup [3, 2, 0, 1]; decide) (by intro q hq; simp only [List.mem_cons, List.not_mem_nil, or_false] at hq; rcases hq with rfl | rfl | rfl | rfl <;> rfl) ?_
      refine jT_gc [0, 1, 2, 3, 4, 5, 6, 7, 8, 9, 10, 11, 12, 13, 14, 15, 16, 17, 18, 19, 20, 21, 22, 25] (hs0 := [jzQ_371, (101, [], [e0, e1, e2, e3, e4, e5]), jgh, jgh, jgh, jgh, jgh, (130, [], [17, 18, 19, 20, 21, 22]), jgh, jgh, jgh, jgh, jgh, jgh, jgh, jgh, jgh, (100, [], (jenc (jlg 0))), (100, [], (jenc (jlg 1))), (100, [], (jenc (jlg 2))), (100, [], (jenc (jlg 3))), (100, [], (jenc (jlg 4))), (100, [], (jenc (jlg 5))), (100, [], jenc (e5 * jlg 5))]) (L0 := [(3, (0, 6)), (2, (4, 23)), (0, (4, 0)), (1, (4, 1))]) (st0 := []) (by show jgB [0, 1, 2, 3, 4, 5, 6, 7, 8, 9, 10, 11, 12, 13, 14, 15, 16, 17, 18, 19, 20, 21, 22, 25] 26 = true; decide +kernel) rfl ⟨rfl, rfl, rfl, rfl, rfl, rfl, rfl, rfl, rfl, rfl, rfl, rfl, rfl, rfl, rfl, rfl, rfl, rfl, rfl, rfl, rfl, rfl, rfl, rfl, trivial⟩ rfl rfl (by decide +kernel) ?_
      exact jT.mono (jQl_lg_150_6 hd h_e0 h_e1 h_e2 h_e3 h_e4 h_e5 (Nat.le_trans hp.2.2 (by decide)) (by rw [Int.zero_add] at hw; omega) h) (Nat.le_refl _) (by omega) (by omega) (fun _ _ _ z => z)
    · refine jT_xiload_n (v := (0, 5)) (pcN := 8) jIQ_214_7 rfl rfl rfl ?_
      refine jT_xbipush (k := 6) (pcN := 10) jIQ_214_8 (by decide) rfl ?_
      refine jT_xicF (t := 47) (pcN := 13) jIQ_214_10 rfl (by decide +kernel) rfl rfl ?_
      refine jT_xaload_n (v := (4, 1)) (pcN := 14) jIQ_214_13 rfl rfl rfl ?_
      refine jT_xiload_n (v := (0, 5)) (pcN := 15) jIQ_214_14 rfl rfl rfl ?_
      refine jT_lald (x := e5) (a := 1) (j := 5) (fs := []) (X := [e0, e1, e2, e3, e4, e5]) jIQ_214_15 rfl rfl rfl rfl ?_
      refine jT_eq (LN := [(3, (0, 5)), (2, (4, 23)), (0, (4, 0)), (1, (4, 1))]) (stN := [(1, e5)]) (hsN := [jzQ_371, (101, [], [e0, e1, e2, e3, e4, e5]), jgh, jgh, jgh, jgh, jgh, (130, [], [17, 18, 19, 20, 21, 22]), jgh, jgh, jgh, jgh, jgh, jgh, jgh, jgh, jgh, (100, [], (jenc (jlg 0))), (100, [], (jenc (jlg 1))), (100, [], (jenc (jlg 2))), (100, [], (jenc (jlg 3))), (100, [], (jenc (jlg 4))), (100, [], (jenc (jlg 5))), (100, [], (jenc a))]) rfl rfl rfl ?_
      refine jT_xlconst (z := 0) (pcN := 17) jIQ_214_16 rfl rfl ?_
      refine jT_lcmp (a := e5) (b := 0) (z := 1) (by rfl) (by rfl) (jwl_idd (by omega) (by omega)) (jwl_idd (by omega) (by omega)) (by rw [decide_eq_true (show (0 : Int) < e5 by omega)]; rfl) ?_
      refine jT_xifF (t := 41) (pcN := 21) jIQ_214_18 rfl (by decide +kernel) rfl rfl ?_
      refine jT_xaload_n (v := (4, 23)) (pcN := 22) jIQ_214_21 rfl rfl rfl ?_
      refine jT_xaload_n (v := (4, 1)) (pcN := 23) jIQ_214_22 rfl rfl rfl ?_
      refine jT_xiload_n (v := (0, 5)) (pcN := 24) jIQ_214_23 rfl rfl rfl ?_
      refine jT_lald (x := e5) (a := 1) (j := 5) (fs := []) (X := [e0, e1, e2, e3, e4, e5]) jIQ_214_24 rfl rfl rfl rfl ?_
      refine jT_eq (LN := [(3, (0, 5)), (2, (4, 23)), (0, (4, 0)), (1, (4, 1))]) (stN := [(1, e5), (4, 23)]) (hsN := [jzQ_371, (101, [], [e0, e1, e2, e3, e4, e5]), jgh, jgh, jgh, jgh, jgh, (130, [], [17, 18, 19, 20, 21, 22]), jgh, jgh, jgh, jgh, jgh, jgh, jgh, jgh, jgh, (100, [], (jenc (jlg 0))), (100, [], (jenc (jlg 1))), (100, [], (jenc (jlg 2))), (100, [], (jenc (jlg 3))), (100, [], (jenc (jlg 4))), (100, [], (jenc (jlg 5))), (100, [], (jenc a))]) rfl rfl rfl ?_
      refine jT_callA [] (y := 178) (pcN := 28) (dC := 1) (bc1 := 1) (bc2 := 56) (c1 := (b1 + 2)) (c2 := (b2 + 112)) (as := [(1, e5)]) (asC := [(1, e5)]) (LN := [(3, (0, 5)), (2, (4, 23)), (0, (4, 0)), (1, (4, 1))]) (stN := [(4, 23)]) (hsC := []) (ex := [(100, [], (jenc e5))]) (v := (4, 0)) (st2 := [(4, 24), (4, 23)]) (hs2 := [jzQ_371, (101, [], [e0, e1, e2, e3, e4, e5]), jgh, jgh, jgh, jgh, jgh, (130, [], [17, 18, 19, 20, 21, 22]), jgh, jgh, jgh, jgh, jgh, jgh, jgh, jgh, jgh, (100, [], (jenc (jlg 0))), (100, [], (jenc (jlg 1))), (100, [], (jenc (jlg 2))), (100, [], (jenc (jlg 3))), (100, [], (jenc (jlg 4))), (100, [], (jenc (jlg 5))), (100, [], (jenc a)), (100, [], (jenc e5))]) (jT_big (d := 0) (v := e5) (by omega) (by omega)) (by rfl) (by rfl) (by rfl) (by rfl) trivial (by rfl) (by rfl) (by omega) (by show 23 ≤ 24; omega) (by omega) (by omega) rfl rfl ?_
      refine jT_xaload_n (v := (4, 0)) (pcN := 29) jIQ_214_28 rfl rfl rfl ?_
      refine jT_xgetf (a := 0) (t := 1) (ci := 14) (fi := 8) (c := jzQ_371) (v := (4, 7)) (pcN := 32) jIQ_214_29 rfl rfl rfl rfl rfl rfl rfl ?_
      refine jT_xiload_n (v := (0, 5)) (pcN := 33) jIQ_214_32 rfl rfl rfl ?_
      refine jT_aald (x := 22) (a := 7) (j := 5) (fs := []) (X := [17, 18, 19, 20, 21, 22]) (kd := 130) jIQ_214_33 rfl rfl rfl rfl rfl ?_
      refine jT_eq (LN := [(3, (0, 5)), (2, (4, 23)), (0, (4, 0)), (1, (4, 1))]) (stN := [(4, 22), (4, 24), (4, 23)]) (hsN := [jzQ_371, (101, [], [e0, e1, e2, e3, e4, e5]), jgh, jgh, jgh, jgh, jgh, (130, [], [17, 18, 19, 20, 21, 22]), jgh, jgh, jgh, jgh, jgh, jgh, jgh, jgh, jgh, (100, [], (jenc (jlg 0))), (100, [], (jenc (jlg 1))), (100, [], (jenc (jlg 2))), (100, [], (jenc (jlg 3))), (100, [], (jenc (jlg 4))), (100, [], (jenc (jlg 5))), (100, [], (jenc a)), (100, [], (jenc e5))]) rfl rfl rfl ?_
      refine jT_callA [24, 22] (y := 179) (pcN := 37) (dC := 1) (bc1 := 1) (bc2 := 56) (c1 := (b1 + 1)) (c2 := (b2 + 56)) (as := [(4, 24), (4, 22)]) (asC := [(4, 0), (4, 1)]) (LN := [(3, (0, 5)), (2, (4, 23)), (0, (4, 0)), (1, (4, 1))]) (stN := [(4, 23)]) (hsC := [(100, [], (jenc e5)), (100, [], (jenc (jlg 5)))]) (ex := [(100, [], (jenc (e5 * jlg 5)))]) (v := (4, 2)) (st2 := [(4, 25), (4, 23)]) (hs2 := [jzQ_371, (101, [], [e0, e1, e2, e3, e4, e5]), jgh, jgh, jgh, jgh, jgh, (130, [], [17, 18, 19, 20, 21, 22]), jgh, jgh, jgh, jgh, jgh, jgh, jgh, jgh, jgh, (100, [], (jenc (jlg 0))), (100, [], (jenc (jlg 1))), (100, [], (jenc (jlg 2))), (100, [], (jenc (jlg 3))), (100, [], (jenc (jlg 4))), (100, [], (jenc (jlg 5))), (100, [], (jenc a)), (100, [], (jenc e5)), (100, [], (jenc (e5 * jlg 5)))]) (jT_product (d := 0) (a := e5) (b := jlg 5) (jb54 (by omega) (by omega)) hp.1) (by rfl) (by rfl) (by rfl) (by rfl) ⟨rfl, rfl, trivial⟩ (by rfl) (by rfl) (by omega) (by show 23 ≤ 25; omega) (by omega) (by omega) rfl rfl ?_
      refine jT_callA [23, 25] (y := 181) (pcN := 40) (dC := 1) (bc1 := 1) (bc2 := 56) (c1 := (b1 + 0)) (c2 := (b2 + 0)) (as := [(4, 23), (4, 25)]) (asC := [(4, 0), (4, 1)]) (LN := [(3, (0, 5)), (2, (4, 23)), (0, (4, 0)), (1, (4, 1))]) (stN := []) (hsC := [(100, [], (jenc a)), (100, [], (jenc (e5 * jlg 5)))]) (ex := [(100, [], (jenc (a + (e5 * jlg 5))))]) (v := (4, 2)) (st2 := [(4, 26)]) (hs2 := [jzQ_371, (101, [], [e0, e1, e2, e3, e4, e5]), jgh, jgh, jgh, jgh, jgh, (130, [], [17, 18, 19, 20, 21, 22]), jgh, jgh, jgh, jgh, jgh, jgh, jgh, jgh, jgh, (100, [], (jenc (jlg 0))), (100, [], (jenc (jlg 1))), (100, [], (jenc (jlg 2))), (100, [], (jenc (jlg 3))), (100, [], (jenc (jlg 4))), (100, [], (jenc (jlg 5))), (100, [], (jenc a)), (100, [], (jenc e5)), (100, [], (jenc (e5 * jlg 5))), (100, [], (jenc (a + (e5 * jlg 5))))]) (jT_added (d := 0) (a := a) (b := e5 * jlg 5) ga hp.2.1 (jb54k ha (by decide)) hp.1 (jb54a ha hp.2.2 (by decide))) (by rfl) (by rfl) (by rfl) (by rfl) ⟨rfl, rfl, trivial⟩ (by rfl) (by rfl) (by omega) (by show 23 ≤ 26; omega) (by omega) (by omega) rfl rfl ?_
      refine jT_xastore_n (v := (4, 26)) (LN := [(2, (4, 26)), (3, (0, 5)), (0, (4, 0)), (1, (4, 1))]) (pcN := 41) jIQ_214_40 rfl rfl rfl rfl ?_
      refine jT_xiinc (x := 5) (z := 6) (LN := [(3, (0, 6)), (2, (4, 26)), (0, (4, 0)), (1, (4, 1))]) (pcN := 44) jIQ_214_41 rfl rfl (by decide) rfl rfl ?_
      refine jT_xgoto (pcN := 7) jIQ_214_44 rfl ?_
      refine jT_loc (LN := [(3, (0, 6)), (2, (4, 26)), (0, (4, 0)), (1, (4, 1))]) (by show List.Nodup [3, 2, 0, 1]; decide) (by intro q hq; simp only [List.mem_cons, List.not_mem_nil, or_false] at hq; rcases hq with rfl | rfl | rfl | rfl <;> rfl) ?_
      refine jT_gc [0, 1, 2, 3, 4, 5, 6, 7, 8, 9, 10, 11, 12, 13, 14, 15, 16, 17, 18, 19, 20, 21, 22, 26] (hs0 := [jzQ_371, (101, [], [e0, e1, e2, e3, e4, e5]), jgh, jgh, jgh, jgh, jgh, (130, [], [17, 18, 19, 20, 21, 22]), jgh, jgh, jgh, jgh, jgh, jgh, jgh, jgh, jgh, (100, [], (jenc (jlg 0))), (100, [], (jenc (jlg 1))), (100, [], (jenc (jlg 2))), (100, [], (jenc (jlg 3))), (100, [], (jenc (jlg 4))), (100, [], (jenc (jlg 5))), (100, [], jenc (a + (e5 * jlg 5)))]) (L0 := [(3, (0, 6)), (2, (4, 23)), (0, (4, 0)), (1, (4, 1))]) (st0 := []) (by show jgB [0, 1, 2, 3, 4, 5, 6, 7, 8, 9, 10, 11, 12, 13, 14, 15, 16, 17, 18, 19, 20, 21, 22, 26] 27 = true; decide +kernel) rfl ⟨rfl, rfl, rfl, rfl, rfl, rfl, rfl, rfl, rfl, rfl, rfl, rfl, rfl, rfl, rfl, rfl, rfl, rfl, rfl, rfl, rfl, rfl, rfl, rfl, trivial⟩ rfl rfl (by decide +kernel) ?_
      exact jT.mono (jQl_lg_150_6 hd h_e0 h_e1 h_e2 h_e3 h_e4 h_e5 (jb1c ha hp.2.2 (by decide)) (by omega) h) (Nat.le_refl _) (by omega) (by omega) (fun _ _ _ z => z)
