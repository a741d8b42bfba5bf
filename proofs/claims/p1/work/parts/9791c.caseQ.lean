/-! the law, case by case: 38 -/
theorem jQl_lg_150_4 {xs : List Int} {d b1 b2 : Nat} {Q : Nat → JV → List JC → Prop} (hd : 1 < d) {a w e0 e1 e2 e3 e4 e5 : Int} (h_e0 : -4611686018427387903 ≤ e0 ∧ e0 ≤ 4611686018427387903) (h_e1 : -4611686018427387903 ≤ e1 ∧ e1 ≤ 4611686018427387903) (h_e2 : -4611686018427387903 ≤ e2 ∧ e2 ≤ 4611686018427387903) (h_e3 : -4611686018427387903 ≤ e3 ∧ e3 ≤ 4611686018427387903) (h_e4 : -4611686018427387903 ≤ e4 ∧ e4 ≤ 4611686018427387903) (h_e5 : -4611686018427387903 ≤ e5 ∧ e5 ≤ 4611686018427387903) (ha : a.natAbs ≤ 4 * 10 ^ 220) (hw : a + (e4 * jlg 4 + (e5 * jlg 5)) = w) (h : jT xs d 214 23 47 [(2, (4, 23))] [] [jzQ_371, (101, [], [e0, e1, e2, e3, e4, e5]), jgh, jgh, jgh, jgh, jgh, (130, [], [17, 18, 19, 20, 21, 22]), jgh, jgh, jgh, jgh, jgh, jgh, jgh, jgh, jgh, (100, [], (jenc (jlg 0))), (100, [], (jenc (jlg 1))), (100, [], (jenc (jlg 2))), (100, [], (jenc (jlg 3))), (100, [], (jenc (jlg 4))), (100, [], (jenc (jlg 5))), (100, [], jenc w)] b1 b2 Q) : jT xs d 214 23 7 [(3, (0, 4)), (2, (4, 23)), (0, (4, 0)), (1, (4, 1))] [] [jzQ_371, (101, [], [e0, e1, e2, e3, e4, e5]), jgh, jgh, jgh, jgh, jgh, (130, [], [17, 18, 19, 20, 21, 22]), jgh, jgh, jgh, jgh, jgh, jgh, jgh, jgh, jgh, (100, [], (jenc (jlg 0))), (100, [], (jenc (jlg 1))), (100, [], (jenc (jlg 2))), (100, [], (jenc (jlg 3))), (100, [], (jenc (jlg 4))), (100, [], (jenc (jlg 5))), (100, [], jenc a)] (b1 + 6) (b2 + 336) Q := by
  rcases (show (e4 < 0) ∨ (e4 = 0) ∨ (0 < e4) by omega) with g_0 | g_0 | g_0
  · have hp := jlz_m (k := 4) (e := e4) (by decide) (by omega) (by omega)
    rcases (show (a = 0) ∨ (a ≠ 0) by omega) with ga | ga
    · subst ga
      refine jT_xiload_n (v := (0, 4)) (pcN := 8) jIQ_214_7 rfl rfl rfl ?_
      refine jT_xbipush (k := 6) (pcN := 10) jIQ_214_8 (by decide) rfl ?_
      refine jT_xicF (t := 47) (pcN := 13) jIQ_214_10 rfl (by decide +kernel) rfl rfl ?_
      refine jT_xaload_n (v := (4, 1)) (pcN := 14) jIQ_214_13 rfl rfl rfl ?_
      refine jT_xiload_n (v := (0, 4)) (pcN := 15) jIQ_214_14 rfl rfl rfl ?_
      refine jT_lald (x := e4) (a := 1) (j := 4) (fs := []) (X := [e0, e1, e2, e3, e4, e5]) jIQ_214_15 rfl rfl rfl rfl ?_
      refine jT_eq (LN := [(3, (0, 4)), (2, (4, 23)), (0, (4, 0)), (1, (4, 1))]) (stN := [(1, e4)]) (hsN := [jzQ_371, (101, [], [e0, e1, e2, e3, e4, e5]), jgh, jgh, jgh, jgh, jgh, (130, [], [17, 18, 19, 20, 21, 22]), jgh, jgh, jgh, jgh, jgh, jgh, jgh, jgh, jgh, (100, [], (jenc (jlg 0))), (100, [], (jenc (jlg 1))), (100, [], (jenc (jlg 2))), (100, [], (jenc (jlg 3))), (100, [], (jenc (jlg 4))), (100, [], (jenc (jlg 5))), (100, [], (jenc 0))]) rfl rfl rfl ?_
      refine jT_xlconst (z := 0) (pcN := 17) jIQ_214_16 rfl rfl ?_
      refine jT_lcmp (a := e4) (b := 0) (z := (-1)) (by rfl) (by rfl) (jwl_idd (by omega) (by omega)) (jwl_idd (by omega) (by omega)) (by rw [decide_eq_false (show ¬ ((0 : Int) < e4) by omega), decide_eq_false (show ¬ ((e4 : Int) = 0) by omega)]; rfl) ?_
      refine jT_xifF (t := 41) (pcN := 21) jIQ_214_18 rfl (by decide +kernel) rfl rfl ?_
      refine jT_xaload_n (v := (4, 23)) (pcN := 22) jIQ_214_21 rfl rfl rfl ?_
      refine jT_xaload_n (v := (4, 1)) (pcN := 23) jIQ_214_22 rfl rfl rfl ?_
      refine jT_xiload_n (v := (0, 4)) (pcN := 24) jIQ_214_23 rfl rfl rfl ?_
      refine jT_lald (x := e4) (a := 1) (j := 4) (fs := []) (X := [e0, e1, e2, e3, e4, e5]) jIQ_214_24 rfl rfl rfl rfl ?_
      refine jT_eq (LN := [(3, (0, 4)), (2, (4, 23)), (0, (4, 0)), (1, (4, 1))]) (stN := [(1, e4), (4, 23)]) (hsN := [jzQ_371, (101, [], [e0, e1, e2, e3, e4, e5]), jgh, jgh, jgh, jgh, jgh, (130, [], [17, 18, 19, 20, 21, 22]), jgh, jgh, jgh, jgh, jgh, jgh, jgh, jgh, jgh, (100, [], (jenc (jlg 0))), (100, [], (jenc (jlg 1))), (100, [], (jenc (jlg 2))), (100, [], (jenc (jlg 3))), (100, [], (jenc (jlg 4))), (100, [], (jenc (jlg 5))), (100, [], (jenc 0))]) rfl rfl rfl ?_
      refine jT_callA [] (y := 178) (pcN := 28) (dC := 1) (bc1 := 1) (bc2 := 56) (c1 := (b1 + 5)) (c2 := (b2 + 280)) (as := [(1, e4)]) (asC := [(1, e4)]) (LN := [(3, (0, 4)), (2, (4, 23)), (0, (4, 0)), (1, (4, 1))]) (stN := [(4, 23)]) (hsC := []) (ex := [(100, [], (jenc e4))]) (v := (4, 0)) (st2 := [(4, 24), (4, 23)]) (hs2 := [jzQ_371, (101, [], [e0, e1, e2, e3, e4, e5]), jgh, jgh, jgh, jgh, jgh, (130, [], [17, 18, 19, 20, 21, 22]), jgh, jgh, jgh, jgh, jgh, jgh, jgh, jgh, jgh, (100, [], (jenc (jlg 0))), (100, [], (jenc (jlg 1))), (100, [], (jenc (jlg 2))), (100, [], (jenc (jlg 3))), (100, [], (jenc (jlg 4))), (100, [], (jenc (jlg 5))), (100, [], (jenc 0)), (100, [], (jenc e4))]) (jT_big (d := 0) (v := e4) (by omega) (by omega)) (by rfl) (by rfl) (by rfl) (by rfl) trivial (by rfl) (by rfl) (by omega) (by show 23 ≤ 24; omega) (by omega) (by omega) rfl rfl ?_
      refine jT_xaload_n (v := (4, 0)) (pcN := 29) jIQ_214_28 rfl rfl rfl ?_
      refine jT_xgetf (a := 0) (t := 1) (ci := 14) (fi := 8) (c := jzQ_371) (v := (4, 7)) (pcN := 32) jIQ_214_29 rfl rfl rfl rfl rfl rfl rfl ?_
      refine jT_xiload_n (v := (0, 4)) (pcN := 33) jIQ_214_32 rfl rfl rfl ?_
      refine jT_aald (x := 21) (a := 7) (j := 4) (fs := []) (X := [17, 18, 19, 20, 21, 22]) (kd := 130) jIQ_214_33 rfl rfl rfl rfl rfl ?_
      refine jT_eq (LN := [(3, (0, 4)), (2, (4, 23)), (0, (4, 0)), (1, (4, 1))]) (stN := [(4, 21), (4, 24), (4, 23)]) (hsN := [jzQ_371, (101, [], [e0, e1, e2, e3, e4, e5]), jgh, jgh, jgh, jgh, jgh, (130, [], [17, 18, 19, 20, 21, 22]), jgh, jgh, jgh, jgh, jgh, jgh, jgh, jgh, jgh, (100, [], (jenc (jlg 0))), (100, [], (jenc (jlg 1))), (100, [], (jenc (jlg 2))), (100, [], (jenc (jlg 3))), (100, [], (jenc (jlg 4))), (100, [], (jenc (jlg 5))), (100, [], (jenc 0)), (100, [], (jenc e4))]) rfl rfl rfl ?_
      refine jT_callA [24, 21] (y := 179) (pcN := 37) (dC := 1) (bc1 := 1) (bc2 := 56) (c1 := (b1 + 4)) (c2 := (b2 + 224)) (as := [(4, 24), (4, 21)]) (asC := [(4, 0), (4, 1)]) (LN := [(3, (0, 4)), (2, (4, 23)), (0, (4, 0)), (1, (4, 1))]) (stN := [(4, 23)]) (hsC := [(100, [], (jenc e4)), (100, [], (jenc (jlg 4)))]) (ex := [(100, [], (jenc (e4 * jlg 4)))]) (v := (4, 2)) (st2 := [(4, 25), (4, 23)]) (hs2 := [jzQ_371, (101, [], [e0, e1, e2, e3, e4, e5]), jgh, jgh, jgh, jgh, jgh, (130, [], [17, 18, 19, 20, 21, 22]), jgh, jgh, jgh, jgh, jgh, jgh, jgh, jgh, jgh, (100, [], (jenc (jlg 0))), (100, [], (jenc (jlg 1))), (100, [], (jenc (jlg 2))), (100, [], (jenc (jlg 3))), (100, [], (jenc (jlg 4))), (100, [], (jenc (jlg 5))), (100, [], (jenc 0)), (100, [], (jenc e4)), (100, [], (jenc (e4 * jlg 4)))]) (jT_product (d := 0) (a := e4) (b := jlg 4) (jb54 (by omega) (by omega)) hp.1) (by rfl) (by rfl) (by rfl) (by rfl) ⟨rfl, rfl, trivial⟩ (by rfl) (by rfl) (by omega) (by show 23 ≤ 25; omega) (by omega) (by omega) rfl rfl ?_
      refine jT_callA [23, 25] (y := 181) (pcN := 40) (dC := 0) (bc1 := 0) (bc2 := 0) (c1 := (b1 + 4)) (c2 := (b2 + 224)) (as := [(4, 23), (4, 25)]) (asC := [(4, 0), (4, 1)]) (LN := [(3, (0, 4)), (2, (4, 23)), (0, (4, 0)), (1, (4, 1))]) (stN := []) (hsC := [(100, [], (jenc 0)), (100, [], (jenc (e4 * jlg 4)))]) (ex := []) (v := (4, 1)) (st2 := [(4, 25)]) (hs2 := [jzQ_371, (101, [], [e0, e1, e2, e3, e4, e5]), jgh, jgh, jgh, jgh, jgh, (130, [], [17, 18, 19, 20, 21, 22]), jgh, jgh, jgh, jgh, jgh, jgh, jgh, jgh, jgh, (100, [], (jenc (jlg 0))), (100, [], (jenc (jlg 1))), (100, [], (jenc (jlg 2))), (100, [], (jenc (jlg 3))), (100, [], (jenc (jlg 4))), (100, [], (jenc (jlg 5))), (100, [], (jenc 0)), (100, [], (jenc e4)), (100, [], (jenc (e4 * jlg 4)))]) (jT_added_0l (d := 0) (b := e4 * jlg 4)) (by rfl) (by rfl) (by rfl) (by rfl) ⟨rfl, rfl, trivial⟩ (by rfl) (by rfl) (by omega) (by show 23 ≤ 26; omega) (by omega) (by omega) rfl rfl ?_
      refine jT_xastore_n (v := (4, 25)) (LN := [(2, (4, 25)), (3, (0, 4)), (0, (4, 0)), (1, (4, 1))]) (pcN := 41) jIQ_214_40 rfl rfl rfl rfl ?_
      refine jT_xiinc (x := 4) (z := 5) (LN := [(3, (0, 5)), (2, (4, 25)), (0, (4, 0)), (1, (4, 1))]) (pcN := 44) jIQ_214_41 rfl rfl (by decide) rfl rfl ?_
      refine jT_xgoto (pcN := 7) jIQ_214_44 rfl ?_
      refine jT_loc (LN := [(3, (0, 5)), (2, (4, 25)), (0, (4, 0)), (1, (4, 1))]) (by show List.Nodup [3, 2, 0, 1]; decide) (by intro q hq; simp only [List.mem_cons, List.not_mem_nil, or_false] at hq; rcases hq with rfl | rfl | rfl | rfl <;> rfl) ?_
      refine jT_gc [0, 1, 2, 3, 4, 5, 6, 7, 8, 9, 10, 11, 12, 13, 14, 15, 16, 17, 18, 19, 20, 21, 22, 25] (hs0 := [jzQ_371, (101, [], [e0, e1, e2, e3, e4, e5]), jgh, jgh, jgh, jgh, jgh, (130, [], [17, 18, 19, 20, 21, 22]), jgh, jgh, jgh, jgh, jgh, jgh, jgh, jgh, jgh, (100, [], (jenc (jlg 0))), (100, [], (jenc (jlg 1))), (100, [], (jenc (jlg 2))), (100, [], (jenc (jlg 3))), (100, [], (jenc (jlg 4))), (100, [], (jenc (jlg 5))), (100, [], jenc (e4 * jlg 4))]) (L0 := [(3, (0, 5)), (2, (4, 23)), (0, (4, 0)), (1, (4, 1))]) (st0 := []) (by show jgB [0, 1, 2, 3, 4, 5, 6, 7, 8, 9, 10, 11, 12, 13, 14, 15, 16, 17, 18, 19, 20, 21, 22, 25] 26 = true; decide +kernel) rfl ⟨rfl, rfl, rfl, rfl, rfl, rfl, rfl, rfl, rfl, rfl, rfl, rfl, rfl, rfl, rfl, rfl, rfl, rfl, rfl, rfl, rfl, rfl, rfl, rfl, trivial⟩ rfl rfl (by decide +kernel) ?_
      exact jT.mono (jQl_lg_150_5 hd h_e0 h_e1 h_e2 h_e3 h_e4 h_e5 (Nat.le_trans hp.2.2 (by decide)) (by rw [Int.zero_add] at hw; exact hw) h) (Nat.le_refl _) (by omega) (by omega) (fun _ _ _ z => z)
    · refine jT_xiload_n (v := (0, 4)) (pcN := 8) jIQ_214_7 rfl rfl rfl ?_
      refine jT_xbipush (k := 6) (pcN := 10) jIQ_214_8 (by decide) rfl ?_
      refine jT_xicF (t := 47) (pcN := 13) jIQ_214_10 rfl (by decide +kernel) rfl rfl ?_
      refine jT_xaload_n (v := (4, 1)) (pcN := 14) jIQ_214_13 rfl rfl rfl ?_
      refine jT_xiload_n (v := (0, 4)) (pcN := 15) jIQ_214_14 rfl rfl rfl ?_
      refine jT_lald (x := e4) (a := 1) (j := 4) (fs := []) (X := [e0, e1, e2, e3, e4, e5]) jIQ_214_15 rfl rfl rfl rfl ?_
      refine jT_eq (LN := [(3, (0, 4)), (2, (4, 23)), (0, (4, 0)), (1, (4, 1))]) (stN := [(1, e4)]) (hsN := [jzQ_371, (101, [], [e0, e1, e2, e3, e4, e5]), jgh, jgh, jgh, jgh, jgh, (130, [], [17, 18, 19, 20, 21, 22]), jgh, jgh, jgh, jgh, jgh, jgh, jgh, jgh, jgh, (100, [], (jenc (jlg 0))), (100, [], (jenc (jlg 1))), (100, [], (jenc (jlg 2))), (100, [], (jenc (jlg 3))), (100, [], (jenc (jlg 4))), (100, [], (jenc (jlg 5))), (100, [], (jenc a))]) rfl rfl rfl ?_
      refine jT_xlconst (z := 0) (pcN := 17) jIQ_214_16 rfl rfl ?_
      refine jT_lcmp (a := e4) (b := 0) (z := (-1)) (by rfl) (by rfl) (jwl_idd (by omega) (by omega)) (jwl_idd (by omega) (by omega)) (by rw [decide_eq_false (show ¬ ((0 : Int) < e4) by omega), decide_eq_false (show ¬ ((e4 : Int) = 0) by omega)]; rfl) ?_
      refine jT_xifF (t := 41) (pcN := 21) jIQ_214_18 rfl (by decide +kernel) rfl rfl ?_
      refine jT_xaload_n (v := (4, 23)) (pcN := 22) jIQ_214_21 rfl rfl rfl ?_
      refine jT_xaload_n (v := (4, 1)) (pcN := 23) jIQ_214_22 rfl rfl rfl ?_
      refine jT_xiload_n (v := (0, 4)) (pcN := 24) jIQ_214_23 rfl rfl rfl ?_
      refine jT_lald (x := e4) (a := 1) (j := 4) (fs := []) (X := [e0, e1, e2, e3, e4, e5]) jIQ_214_24 rfl rfl rfl rfl ?_
      refine jT_eq (LN := [(3, (0, 4)), (2, (4, 23)), (0, (4, 0)), (1, (4, 1))]) (stN := [(1, e4), (4, 23)]) (hsN := [jzQ_371, (101, [], [e0, e1, e2, e3, e4, e5]), jgh, jgh, jgh, jgh, jgh, (130, [], [17, 18, 19, 20, 21, 22]), jgh, jgh, jgh, jgh, jgh, jgh, jgh, jgh, jgh, (100, [], (jenc (jlg 0))), (100, [], (jenc (jlg 1))), (100, [], (jenc (jlg 2))), (100, [], (jenc (jlg 3))), (100, [], (jenc (jlg 4))), (100, [], (jenc (jlg 5))), (100, [], (jenc a))]) rfl rfl rfl ?_
      refine jT_callA [] (y := 178) (pcN := 28) (dC := 1) (bc1 := 1) (bc2 := 56) (c1 := (b1 + 5)) (c2 := (b2 + 280)) (as := [(1, e4)]) (asC := [(1, e4)]) (LN := [(3, (0, 4)), (2, (4, 23)), (0, (4, 0)), (1, (4, 1))]) (stN := [(4, 23)]) (hsC := []) (ex := [(100, [], (jenc e4))]) (v := (4, 0)) (st2 := [(4, 24), (4, 23)]) (hs2 := [jzQ_371, (101, [], [e0, e1, e2, e3, e4, e5]), jgh, jgh, jgh, jgh, jgh, (130, [], [17, 18, 19, 20, 21, 22]), jgh, jgh, jgh, jgh, jgh, jgh, jgh, jgh, jgh, (100, [], (jenc (jlg 0))), (100, [], (jenc (jlg 1))), (100, [], (jenc (jlg 2))), (100, [], (jenc (jlg 3))), (100, [], (jenc (jlg 4))), (100, [], (jenc (jlg 5))), (100, [], (jenc a)), (100, [], (jenc e4))]) (jT_big (d := 0) (v := e4) (by omega) (by omega)) (by rfl) (by rfl) (by rfl) (by rfl) trivial (by rfl) (by rfl) (by omega) (by show 23 ≤ 24; omega) (by omega) (by omega) rfl rfl ?_
      refine jT_xaload_n (v := (4, 0)) (pcN := 29) jIQ_214_28 rfl rfl rfl ?_
      refine jT_xgetf (a := 0) (t := 1) (ci := 14) (fi := 8) (c := jzQ_371) (v := (4, 7)) (pcN := 32) jIQ_214_29 rfl rfl rfl rfl rfl rfl rfl ?_
      refine jT_xiload_n (v := (0, 4)) (pcN := 33) jIQ_214_32 rfl rfl rfl ?_
      refine jT_aald (x := 21) (a := 7) (j := 4) (fs := []) (X := [17, 18, 19, 20, 21, 22]) (kd := 130) jIQ_214_33 rfl rfl rfl rfl rfl ?_
      refine jT_eq (LN := [(3, (0, 4)), (2, (4, 23)), (0, (4, 0)), (1, (4, 1))]) (stN := [(4, 21), (4, 24), (4, 23)]) (hsN := [jzQ_371, (101, [], [e0, e1, e2, e3, e4, e5]), jgh, jgh, jgh, jgh, jgh, (130, [], [17, 18, 19, 20, 21, 22]), jgh, jgh, jgh, jgh, jgh, jgh, jgh, jgh, jgh, (100, [], (jenc (jlg 0))), (100, [], (jenc (jlg 1))), (100, [], (jenc (jlg 2))), (100, [], (jenc (jlg 3))), (100, [], (jenc (jlg 4))), (100, [], (jenc (jlg 5))), (100, [], (jenc a)), (100, [], (jenc e4))]) rfl rfl rfl ?_
      refine jT_callA [24, 21] (y := 179) (pcN := 37) (dC := 1) (bc1 := 1) (bc2 := 56) (c1 := (b1 + 4)) (c2 := (b2 + 224)) (as := [(4, 24), (4, 21)]) (asC := [(4, 0), (4, 1)]) (LN := [(3, (0, 4)), (2, (4, 23)), (0, (4, 0)), (1, (4, 1))]) (stN := [(4, 23)]) (hsC := [(100, [], (jenc e4)), (100, [], (jenc (jlg 4)))]) (ex := [(100, [], (jenc (e4 * jlg 4)))]) (v := (4, 2)) (st2 := [(4, 25), (4, 23)]) (hs2 := [jzQ_371, (101, [], [e0, e1, e2, e3, e4, e5]), jgh, jgh, jgh, jgh, jgh, (130, [], [17, 18, 19, 20, 21, 22]), jgh, jgh, jgh, jgh, jgh, jgh, jgh, jgh, jgh, (100, [], (jenc (jlg 0))), (100, [], (jenc (jlg 1))), (100, [], (jenc (jlg 2))), (100, [], (jenc (jlg 3))), (100, [], (jenc (jlg 4))), (100, [], (jenc (jlg 5))), (100, [], (jenc a)), (100, [], (jenc e4)), (100, [], (jenc (e4 * jlg 4)))]) (jT_product (d := 0) (a := e4) (b := jlg 4) (jb54 (by omega) (by omega)) hp.1) (by rfl) (by rfl) (by rfl) (by rfl) ⟨rfl, rfl, trivial⟩ (by rfl) (by rfl) (by omega) (by show 23 ≤ 25; omega) (by omega) (by omega) rfl rfl ?_
      refine jT_callA [23, 25] (y := 181) (pcN := 40) (dC := 1) (bc1 := 1) (bc2 := 56) (c1 := (b1 + 3)) (c2 := (b2 + 168)) (as := [(4, 23), (4, 25)]) (asC := [(4, 0), (4, 1)]) (LN := [(3, (0, 4)), (2, (4, 23)), (0, (4, 0)), (1, (4, 1))]) (stN := []) (hsC := [(100, [], (jenc a)), (100, [], (jenc (e4 * jlg 4)))]) (ex := [(100, [], (jenc (a + (e4 * jlg 4))))]) (v := (4, 2)) (st2 := [(4, 26)]) (hs2 := [jzQ_371, (101, [], [e0, e1, e2, e3, e4, e5]), jgh, jgh, jgh, jgh, jgh, (130, [], [17, 18, 19, 20, 21, 22]), jgh, jgh, jgh, jgh, jgh, jgh, jgh, jgh, jgh, (100, [], (jenc (jlg 0))), (100, [], (jenc (jlg 1))), (100, [], (jenc (jlg 2))), (100, [], (jenc (jlg 3))), (100, [], (jenc (jlg 4))), (100, [], (jenc (jlg 5))), (100, [], (jenc a)), (100, [], (jenc e4)), (100, [], (jenc (e4 * jlg 4))), (100, [], (jenc (a + (e4 * jlg 4))))]) (jT_added (d := 0) (a := a) (b := e4 * jlg 4) ga hp.2.1 (jb54k ha (by decide)) hp.1 (jb54a ha hp.2.2 (by decide))) (by rfl) (by rfl) (by rfl) (by rfl) ⟨rfl, rfl, trivial⟩ (by rfl) (by rfl) (by omega) (by show 23 ≤ 26; omega) (by omega) (by omega) rfl rfl ?_
      refine jT_xastore_n (v := (4, 26)) (LN := [(2, (4, 26)), (3, (0, 4)), (0, (4, 0)), (1, (4, 1))]) (pcN := 41) jIQ_214_40 rfl rfl rfl rfl ?_
      refine jT_xiinc (x := 4) (z := 5) (LN := [(3, (0, 5)), (2, (4, 26)), (0, (4, 0)), (1, (4, 1))]) (pcN := 44) jIQ_214_41 rfl rfl (by decide) rfl rfl ?_
      refine jT_xgoto (pcN := 7) jIQ_214_44 rfl ?_
      refine jT_loc (LN := [(3, (0, 5)), (2, (4, 26)), (0, (4, 0)), (1, (4, 1))]) (by show List.Nodup [3, 2, 0, 1]; decide) (by intro q hq; simp only [List.mem_cons, List.not_mem_nil, or_false] at hq; rcases hq with rfl | rfl | rfl | rfl <;> rfl) ?_
      refine jT_gc [0, 1, 2, 3, 4, 5, 6, 7, 8, 9, 10, 11, 12, 13, 14, 15, 16, 17, 18, 19, 20, 21, 22, 26] (hs0 := [jzQ_371, (101, [], [e0, e1, e2, e3, e4, e5]), jgh, jgh, jgh, jgh, jgh, (130, [], [17, 18, 19, 20, 21, 22]), jgh, jgh, jgh, jgh, jgh, jgh, jgh, jgh, jgh, (100, [], (jenc (jlg 0))), (100, [], (jenc (jlg 1))), (100, [], (jenc (jlg 2))), (100, [], (jenc (jlg 3))), (100, [], (jenc (jlg 4))), (100, [], (jenc (jlg 5))), (100, [], jenc (a + (e4 * jlg 4)))]) (L0 := [(3, (0, 5)), (2, (4, 23)), (0, (4, 0)), (1, (4, 1))]) (st0 := []) (by show jgB [0, 1, 2, 3, 4, 5, 6, 7, 8, 9, 10, 11, 12, 13, 14, 15, 16, 17, 18, 19, 20, 21, 22, 26] 27 = true; decide +kernel) rfl ⟨rfl, rfl, rfl, rfl, rfl, rfl, rfl, rfl, rfl, rfl, rfl, rfl, rfl, rfl, rfl, rfl, rfl, rfl, rfl, rfl, rfl, rfl, rfl, rfl, trivial⟩ rfl rfl (by decide +kernel) ?_
      exact jT.mono (jQl_lg_150_5 hd h_e0 h_e1 h_e2 h_e3 h_e4 h_e5 (jb1c ha hp.2.2 (by decide)) (by rw [← Int.add_assoc] at hw; exact hw) h) (Nat.le_refl _) (by omega) (by omega) (fun _ _ _ z => z)
  · refine jT_xiload_n (v := (0, 4)) (pcN := 8) jIQ_214_7 rfl rfl rfl ?_
    refine jT_xbipush (k := 6) (pcN := 10) jIQ_214_8 (by decide) rfl ?_
    refine jT_xicF (t := 47) (pcN := 13) jIQ_214_10 rfl (by decide +kernel) rfl rfl ?_
    refine jT_xaload_n (v := (4, 1)) (pcN := 14) jIQ_214_13 rfl rfl rfl ?_
    refine jT_xiload_n (v := (0, 4)) (pcN := 15) jIQ_214_14 rfl rfl rfl ?_
    refine jT_lald (x := e4) (a := 1) (j := 4) (fs := []) (X := [e0, e1, e2, e3, e4, e5]) jIQ_214_15 rfl rfl rfl rfl ?_
    refine jT_eq (LN := [(3, (0, 4)), (2, (4, 23)), (0, (4, 0)), (1, (4, 1))]) (stN := [(1, e4)]) (hsN := [jzQ_371, (101, [], [e0, e1, e2, e3, e4, e5]), jgh, jgh, jgh, jgh, jgh, (130, [], [17, 18, 19, 20, 21, 22]), jgh, jgh, jgh, jgh, jgh, jgh, jgh, jgh, jgh, (100, [], (jenc (jlg 0))), (100, [], (jenc (jlg 1))), (100, [], (jenc (jlg 2))), (100, [], (jenc (jlg 3))), (100, [], (jenc (jlg 4))), (100, [], (jenc (jlg 5))), (100, [], (jenc a))]) rfl rfl rfl ?_
    refine jT_xlconst (z := 0) (pcN := 17) jIQ_214_16 rfl rfl ?_
    refine jT_lcmp (a := e4) (b := 0) (z := 0) (by rfl) (by rfl) (jwl_idd (by omega) (by omega)) (jwl_idd (by omega) (by omega)) (by rw [decide_eq_false (show ¬ ((0 : Int) < e4) by omega), decide_eq_true (show (e4 : Int) = 0 by omega)]; rfl) ?_
    refine jT_xifT (pcN := 41) jIQ_214_18 rfl (by decide +kernel) rfl ?_
    refine jT_xiinc (x := 4) (z := 5) (LN := [(3, (0, 5)), (2, (4, 23)), (0, (4, 0)), (1, (4, 1))]) (pcN := 44) jIQ_214_41 rfl rfl (by decide) rfl rfl ?_
    refine jT_xgoto (pcN := 7) jIQ_214_44 rfl ?_
    refine jT_loc (LN := [(3, (0, 5)), (2, (4, 23)), (0, (4, 0)), (1, (4, 1))]) (by show List.Nodup [3, 2, 0, 1]; decide) (by intro q hq; simp only [List.mem_cons, List.not_mem_nil, or_false] at hq; rcases hq with rfl | rfl | rfl | rfl <;> rfl) ?_
    exact jT.mono (jQl_lg_150_5 hd h_e0 h_e1 h_e2 h_e3 h_e4 h_e5 (by omega) (by rw [g_0, Int.zero_mul] at hw; omega) h) (Nat.le_refl _) (by omega) (by omega) (fun _ _ _ z => z)
  · have hp := jlz_m (k := 4) (e := e4) (by decide) (by omega) (by omega)
    rcases (show (a = 0) ∨ (a ≠ 0) by omega) with ga | ga
    · subst ga
      refine jT_xiload_n (v := (0, 4)) (pcN := 8) jIQ_214_7 rfl rfl rfl ?_
      refine jT_xbipush (k := 6) (pcN := 10) jIQ_214_8 (by decide) rfl ?_
      refine jT_xicF (t := 47) (pcN := 13) jIQ_214_10 rfl (by decide +kernel) rfl rfl ?_
      refine jT_xaload_n (v := (4, 1)) (pcN := 14) jIQ_214_13 rfl rfl rfl ?_
      refine jT_xiload_n (v := (0, 4)) (pcN := 15) jIQ_214_14 rfl rfl rfl ?_
      refine jT_lald (x := e4) (a := 1) (j := 4) (fs := []) (X := [e0, e1, e2, e3, e4, e5]) jIQ_214_15 rfl rfl rfl rfl ?_
      refine jT_eq (LN := [(3, (0, 4)), (2, (4, 23)), (0, (4, 0)), (1, (4, 1))]) (stN := [(1, e4)]) (hsN := [jzQ_371, (101, [], [e0, e1, e2, e3, e4, e5]), jgh, jgh, jgh, jgh, jgh, (130, [], [17, 18, 19, 20, 21, 22]), jgh, jgh, jgh, jgh, jgh, jgh, jgh, jgh, jgh, (100, [], (jenc (jlg 0))), (100, [], (jenc (jlg 1))), (100, [], (jenc (jlg 2))), (100, [], (jenc (jlg 3))), (100, [], (jenc (jlg 4))), (100, [], (jenc (jlg 5))), (100, [], (jenc 0))]) rfl rfl rfl ?_
      refine jT_xlconst (z := 0) (pcN := 17) jIQ_214_16 rfl rfl ?_
      refine jT_lcmp (a := e4) (b := 0) (z := 1) (by rfl) (by rfl) (jwl_idd (by omega) (by omega)) (jwl_idd (by omega) (by omega)) (by rw [decide_eq_true (show (0 : Int) < e4 by omega)]; rfl) ?_
      refine jT_xifF (t := 41) (pcN := 21) jIQ_214_18 rfl (by decide +kernel) rfl rfl ?_
      refine jT_xaload_n (v := (4, 23)) (pcN := 22) jIQ_214_21 rfl rfl rfl ?_
      refine jT_xaload_n (v := (4, 1)) (pcN := 23) jIQ_214_22 rfl rfl rfl ?_
      refine jT_xiload_n (v := (0, 4)) (pcN := 24) jIQ_214_23 rfl rfl rfl ?_
      refine jT_lald (x := e4) (a := 1) (j := 4) (fs := []) (X := [e0, e1, e2, e3, e4, e5]) jIQ_214_24 rfl rfl rfl rfl ?_
      refine jT_eq (LN := [(3, (0, 4)), (2, (4, 23)), (0, (4, 0)), (1, (4, 1))]) (stN := [(1, e4), (4, 23)]) (hsN := [jzQ_371, (101, [], [e0, e1, e2, e3, e4, e5]), jgh, jgh, jgh, jgh, jgh, (130, [], [17, 18, 19, 20, 21, 22]), jgh, jgh, jgh, jgh, jgh, jgh, jgh, jgh, jgh, (100, [], (jenc (jlg 0))), (100, [], (jenc (jlg 1))), (100, [], (jenc (jlg 2))), (100, [], (jenc (jlg 3))), (100, [], (jenc (jlg 4))), (100, [], (jenc (jlg 5))), (100, [], (jenc 0))]) rfl rfl rfl ?_
      refine jT_callA [] (y := 178) (pcN := 28) (dC := 1) (bc1 := 1) (bc2 := 56) (c1 := (b1 + 5)) (c2 := (b2 + 280)) (as := [(1, e4)]) (asC := [(1, e4)]) (LN := [(3, (0, 4)), (2, (4, 23)), (0, (4, 0)), (1, (4, 1))]) (stN := [(4, 23)]) (hsC := []) (ex := [(100, [], (jenc e4))]) (v := (4, 0)) (st2 := [(4, 24), (4, 23)]) (hs2 := [jzQ_371, (101, [], [e0, e1, e2, e3, e4, e5]), jgh, jgh, jgh, jgh, jgh, (130, [], [17, 18, 19, 20, 21, 22]), jgh, jgh, jgh, jgh, jgh, jgh, jgh, jgh, jgh, (100, [], (jenc (jlg 0))), (100, [], (jenc (jlg 1))), (100, [], (jenc (jlg 2))), (100, [], (jenc (jlg 3))), (100, [], (jenc (jlg 4))), (100, [], (jenc (jlg 5))), (100, [], (jenc 0)), (100, [], (jenc e4))]) (jT_big (d := 0) (v := e4) (by omega) (by omega)) (by rfl) (by rfl) (by rfl) (by rfl) trivial (by rfl) (by rfl) (by omega) (by show 23 ≤ 24; omega) (by omega) (by omega) rfl rfl ?_
      refine jT_xaload_n (v := (4, 0)) (pcN := 29) jIQ_214_28 rfl rfl rfl ?_
      refine jT_xgetf (a := 0) (t := 1) (ci := 14) (fi := 8) (c := jzQ_371) (v := (4, 7)) (pcN := 32) jIQ_214_29 rfl rfl rfl rfl rfl rfl rfl ?_
      refine jT_xiload_n (v := (0, 4)) (pcN := 33) jIQ_214_32 rfl rfl rfl ?_
      refine jT_aald (x := 21) (a := 7) (j := 4) (fs := []) (X := [17, 18, 19, 20, 21, 22]) (kd := 130) jIQ_214_33 rfl rfl rfl rfl rfl ?_
      refine jT_eq (LN := [(3, (0, 4)), (2, (4, 23)), (0, (4, 0)), (1, (4, 1))]) (stN := [(4, 21), (4, 24), (4, 23)]) (hsN := [jzQ_371, (101, [], [e0, e1, e2, e3, e4, e5]), jgh, jgh, jgh, jgh, jgh, (130, [], [17, 18, 19, 20, 21, 22]), jgh, jgh, jgh, jgh, jgh, jgh, jgh, jgh, jgh, (100, [], (jenc (jlg 0))), (100, [], (jenc (jlg 1))), (100, [], (jenc (jlg 2))), (100, [], (jenc (jlg 3))), (100, [], (jenc (jlg 4))), (100, [], (jenc (jlg 5))), (100, [], (jenc 0)), (100, [], (jenc e4))]) rfl rfl rfl ?_
      refine jT_callA [24, 21] (y := 179) (pcN := 37) (dC := 1) (bc1 := 1) (bc2 := 56) (c1 := (b1 + 4)) (c2 := (b2 + 224)) (as := [(4, 24), (4, 21)]) (asC := [(4, 0), (4, 1)]) (LN := [(3, (0, 4)), (2, (4, 23)), (0, (4, 0)), (1, (4, 1))]) (stN := [(4, 23)]) (hsC := [(100, [], (jenc e4)), (100, [], (jenc (jlg 4)))]) (ex := [(100, [], (jenc (e4 * jlg 4)))]) (v := (4, 2)) (st2 := [(4, 25), (4, 23)]) (hs2 := [jzQ_371, (101, [], [e0, e1, e2, e3, e4, e5]), jgh, jgh, jgh, jgh, jgh, (130, [], [17, 18, 19, 20, 21, 22]), jgh, jgh, jgh, jgh, jgh, jgh, jgh, jgh, jgh, (100, [], (jenc (jlg 0))), (100, [], (jenc (jlg 1))), (100, [], (jenc (jlg 2))), (100, [], (jenc (jlg 3))), (100, [], (jenc (jlg 4))), (100, [], (jenc (jlg 5))), (100, [], (jenc 0)), (100, [], (jenc e4)), (100, [], (jenc (e4 * jlg 4)))]) (jT_product (d := 0) (a := e4) (b := jlg 4) (jb54 (by omega) (by omega)) hp.1) (by rfl) (by rfl) (by rfl) (by rfl) ⟨rfl, rfl, trivial⟩ (by rfl) (by rfl) (by omega) (by show 23 ≤ 25; omega) (by omega) (by omega) rfl rfl ?_
      refine jT_callA [23, 25] (y := 181) (pcN := 40) (dC := 0) (bc1 := 0) (bc2 := 0) (c1 := (b1 + 4)) (c2 := (b2 + 224)) (as := [(4, 23), (4, 25)]) (asC := [(4, 0), (4, 1)]) (LN := [(3, (0, 4)), (2, (4, 23)), (0, (4, 0)), (1, (4, 1))]) (stN := []) (hsC := [(100, [], (jenc 0)), (100, [], (jenc (e4 * jlg 4)))]) (ex := []) (v := (4, 1)) (st2 := [(4, 25)]) (hs2 := [jzQ_371, (101, [], [e0, e1, e2, e3, e4, e5]), jgh, jgh, jgh, jgh, jgh, (130, [], [17, 18, 19, 20, 21, 22]), jgh, jgh, jgh, jgh, jgh, jgh, jgh, jgh, jgh, (100, [], (jenc (jlg 0))), (100, [], (jenc (jlg 1))), (100, [], (jenc (jlg 2))), (100, [], (jenc (jlg 3))), (100, [], (jenc (jlg 4))), (100, [], (jenc (jlg 5))), (100, [], (jenc 0)), (100, [], (jenc e4)), (100, [], (jenc (e4 * jlg 4)))]) (jT_added_0l (d := 0) (b := e4 * jlg 4)) (by rfl) (by rfl) (by rfl) (by rfl) ⟨rfl, rfl, trivial⟩ (by rfl) (by rfl) (by omega) (by show 23 ≤ 26; omega) (by omega) (by omega) rfl rfl ?_
      refine jT_xastore_n (v := (4, 25)) (LN := [(2, (4, 25)), (3, (0, 4)), (0, (4, 0)), (1, (4, 1))]) (pcN := 41) jIQ_214_40 rfl rfl rfl rfl ?_
      refine jT_xiinc (x := 4) (z := 5) (LN := [(3, (0, 5)), (2, (4, 25)), (0, (4, 0)), (1, (4, 1))]) (pcN := 44) jIQ_214_41 rfl rfl (by decide) rfl rfl ?_
      refine jT_xgoto (pcN := 7) jIQ_214_44 rfl ?_
      refine jT_loc (LN := [(3, (0, 5)), (2, (4, 25)), (0, (4, 0)), (1, (4, 1))]) (by show List.Nodup [3, 2, 0, 1]; decide) (by intro q hq; simp only [List.mem_cons, List.not_mem_nil, or_false] at hq; rcases hq with rfl | rfl | rfl | rfl <;> rfl) ?_
      refine jT_gc [0, 1, 2, 3, 4, 5, 6, 7, 8, 9, 10, 11, 12, 13, 14, 15, 16, 17, 18, 19, 20, 21, 22, 25] (hs0 := [jzQ_371, (101, [], [e0, e1, e2, e3, e4, e5]), jgh, jgh, jgh, jgh, jgh, (130, [], [17, 18, 19, 20, 21, 22]), jgh, jgh, jgh, jgh, jgh, jgh, jgh, jgh, jgh, (100, [], (jenc (jlg 0))), (100, [], (jenc (jlg 1))), (100, [], (jenc (jlg 2))), (100, [], (jenc (jlg 3))), (100, [], (jenc (jlg 4))), (100, [], (jenc (jlg 5))), (100, [], jenc (e4 * jlg 4))]) (L0 := [(3, (0, 5)), (2, (4, 23)), (0, (4, 0)), (1, (4, 1))]) (st0 := []) (by show jgB [0, 1, 2, 3, 4, 5, 6, 7, 8, 9, 10, 11, 12, 13, 14, 15, 16, 17, 18, 19, 20, 21, 22, 25] 26 = true; decide +kernel) rfl ⟨rfl, rfl, rfl, rfl, rfl, rfl, rfl, rfl, rfl, rfl, rfl, rfl, rfl, rfl, rfl, rfl, rfl, rfl, rfl, rfl, rfl, rfl, rfl, rfl, trivial⟩ rfl rfl (by decide +kernel) ?_
      exact jT.mono (jQl_lg_150_5 hd h_e0 h_e1 h_e2 h_e3 h_e4 h_e5 (Nat.le_trans hp.2.2 (by decide)) (by rw [Int.zero_add] at hw; exact hw) h) (Nat.le_refl _) (by omega) (by omega) (fun _ _ _ z => z)
    · refine jT_xiload_n (v := (0, 4)) (pcN := 8) jIQ_214_7 rfl rfl rfl ?_
      refine jT_xbipush (k := 6) (pcN := 10) jIQ_214_8 (by decide) rfl ?_
      refine jT_xicF (t := 47) (pcN := 13) jIQ_214_10 rfl (by decide +kernel) rfl rfl ?_
      refine jT_xaload_n (v := (4, 1)) (pcN := 14) jIQ_214_13 rfl rfl rfl ?_
      refine jT_xiload_n (v := (0, 4)) (pcN := 15) jIQ_214_14 rfl rfl rfl ?_
      refine jT_lald (x := e4) (a := 1) (j := 4) (fs := []) (X := [e0, e1, e2, e3, e4, e5]) jIQ_214_15 rfl rfl rfl rfl ?_
      refine jT_eq (LN := [(3, (0, 4)), (2, (4, 23)), (0, (4, 0)), (1, (4, 1))]) (stN := [(1, e4)]) (hsN := [jzQ_371, (101, [], [e0, e1, e2, e3, e4, e5]), jgh, jgh, jgh, jgh, jgh, (130, [], [17, 18, 19, 20, 21, 22]), jgh, jgh, jgh, jgh, jgh, jgh, jgh, jgh, jgh, (100, [], (jenc (jlg 0))), (100, [], (jenc (jlg 1))), (100, [], (jenc (jlg 2))), (100, [], (jenc (jlg 3))), (100, [], (jenc (jlg 4))), (100, [], (jenc (jlg 5))), (100, [], (jenc a))]) rfl rfl rfl ?_
      refine jT_xlconst (z := 0) (pcN := 17) jIQ_214_16 rfl rfl ?_
      refine jT_lcmp (a := e4) (b := 0) (z := 1) (by rfl) (by rfl) (jwl_idd (by omega) (by omega)) (jwl_idd (by omega) (by omega)) (by rw [decide_eq_true (show (0 : Int) < e4 by omega)]; rfl) ?_
      refine jT_xifF (t := 41) (pcN := 21) jIQ_214_18 rfl (by decide +kernel) rfl rfl ?_
      refine jT_xaload_n (v := (4, 23)) (pcN := 22) jIQ_214_21 rfl rfl rfl ?_
      refine jT_xaload_n (v := (4, 1)) (pcN := 23) jIQ_214_22 rfl rfl rfl ?_
      refine jT_xiload_n (v := (0, 4)) (pcN := 24) jIQ_214_23 rfl rfl rfl ?_
      refine jT_lald (x := e4) (a := 1) (j := 4) (fs := []) (X := [e0, e1, e2, e3, e4, e5]) jIQ_214_24 rfl rfl rfl rfl ?_
      refine jT_eq (LN := [(3, (0, 4)), (2, (4, 23)), (0, (4, 0)), (1, (4, 1))]) (stN := [(1, e4), (4, 23)]) (hsN := [jzQ_371, (101, [], [e0, e1, e2, e3, e4, e5]), jgh, jgh, jgh, jgh, jgh, (130, [], [17, 18, 19, 20, 21, 22]), jgh, jgh, jgh, jgh, jgh, jgh, jgh, jgh, jgh, (100, [], (jenc (jlg 0))), (100, [], (jenc (jlg 1))), (100, [], (jenc (jlg 2))), (100, [], (jenc (jlg 3))), (100, [], (jenc (jlg 4))), (100, [], (jenc (jlg 5))), (100, [], (jenc a))]) rfl rfl rfl ?_
      refine jT_callA [] (y := 178) (pcN := 28) (dC := 1) (bc1 := 1) (bc2 := 56) (c1 := (b1 + 5)) (c2 := (b2 + 280)) (as := [(1, e4)]) (asC := [(1, e4)]) (LN := [(3, (0, 4)), (2, (4, 23)), (0, (4, 0)), (1, (4, 1))]) (stN := [(4, 23)]) (hsC := []) (ex := [(100, [], (jenc e4))]) (v := (4, 0)) (st2 := [(4, 24), (4, 23)]) (hs2 := [jzQ_371, (101, [], [e0, e1, e2, e3, e4, e5]), jgh, jgh, jgh, jgh, jgh, (130, [], [17, 18, 19, 20, 21, 22]), jgh, jgh, jgh, jgh, jgh, jgh, jgh, jgh, jgh, (100, [], (jenc (jlg 0))), (100, [], (jenc (jlg 1))), (100, [], (jenc (jlg 2))), (100, [], (jenc (jlg 3))), (100, [], (jenc (jlg 4))), (100, [], (jenc (jlg 5))), (100, [], (jenc a)), (100, [], (jenc e4))]) (jT_big (d := 0) (v := e4) (by omega) (by omega)) (by rfl) (by rfl) (by rfl) (by rfl) trivial (by rfl) (by rfl) (by omega) (by show 23 ≤ 24; omega) (by omega) (by omega) rfl rfl ?_
      refine jT_xaload_n (v := (4, 0)) (pcN := 29) jIQ_214_28 rfl rfl rfl ?_
      refine jT_xgetf (a := 0) (t := 1) (ci := 14) (fi := 8) (c := jzQ_371) (v := (4, 7)) (pcN := 32) jIQ_214_29 rfl rfl rfl rfl rfl rfl rfl ?_
      refine jT_xiload_n (v := (0, 4)) (pcN := 33) jIQ_214_32 rfl rfl rfl ?_
      refine jT_aald (x := 21) (a := 7) (j := 4) (fs := []) (X := [17, 18, 19, 20, 21, 22]) (kd := 130) jIQ_214_33 rfl rfl rfl rfl rfl ?_
      refine jT_eq (LN := [(3, (0, 4)), (2, (4, 23)), (0, (4, 0)), (1, (4, 1))]) (stN := [(4, 21), (4, 24), (4, 23)]) (hsN := [jzQ_371, (101, [], [e0, e1, e2, e3, e4, e5]), jgh, jgh, jgh, jgh, jgh, (130, [], [17, 18, 19, 20, 21, 22]), jgh, jgh, jgh, jgh, jgh, jgh, jgh, jgh, jgh, (100, [], (jenc (jlg 0))), (100, [], (jenc (jlg 1))), (100, [], (jenc (jlg 2))), (100, [], (jenc (jlg 3))), (100, [], (jenc (jlg 4))), (100, [], (jenc (jlg 5))), (100, [], (jenc a)), (100, [], (jenc e4))]) rfl rfl rfl ?_
      refine jT_callA [24, 21] (y := 179) (pcN := 37) (dC := 1) (bc1 := 1) (bc2 := 56) (c1 := (b1 + 4)) (c2 := (b2 + 224)) (as := [(4, 24), (4, 21)]) (asC := [(4, 0), (4, 1)]) (LN := [(3, (0, 4)), (2, (4, 23)), (0, (4, 0)), (1, (4, 1))]) (stN := [(4, 23)]) (hsC := [(100, [], (jenc e4)), (100, [], (jenc (jlg 4)))]) (ex := [(100, [], (jenc (e4 * jlg 4)))]) (v := (4, 2)) (st2 := [(4, 25), (4, 23)]) (hs2 := [jzQ_371, (101, [], [e0, e1, e2, e3, e4, e5]), jgh, jgh, jgh, jgh, jgh, (130, [], [17, 18, 19, 20, 21, 22]), jgh, jgh, jgh, jgh, jgh, jgh, jgh, jgh, jgh, (100, [], (jenc (jlg 0))), (100, [], (jenc (jlg 1))), (100, [], (jenc (jlg 2))), (100, [], (jenc (jlg 3))), (100, [], (jenc (jlg 4))), (100, [], (jenc (jlg 5))), (100, [], (jenc a)), (100, [], (jenc e4)), (100, [], (jenc (e4 * jlg 4)))]) (jT_product (d := 0) (a := e4) (b := jlg 4) (jb54 (by omega) (by omega)) hp.1) (by rfl) (by rfl) (by rfl) (by rfl) ⟨rfl, rfl, trivial⟩ (by rfl) (by rfl) (by omega) (by show 23 ≤ 25; omega) (by omega) (by omega) rfl rfl ?_
      refine jT_callA [23, 25] (y := 181) (pcN := 40) (dC := 1) (bc1 := 1) (bc2 := 56) (c1 := (b1 + 3)) (c2 := (b2 + 168)) (as := [(4, 23), (4, 25)]) (asC := [(4, 0), (4, 1)]) (LN := [(3, (0, 4)), (2, (4, 23)), (0, (4, 0)), (1, (4, 1))]) (stN := []) (hsC := [(100, [], (jenc a)), (100, [], (jenc (e4 * jlg 4)))]) (ex := [(100, [], (jenc (a + (e4 * jlg 4))))]) (v := (4, 2)) (st2 := [(4, 26)]) (hs2 := [jzQ_371, (101, [], [e0, e1, e2, e3, e4, e5]), jgh, jgh, jgh, jgh, jgh, (130, [], [17, 18, 19, 20, 21, 22]), jgh, jgh, jgh, jgh, jgh, jgh, jgh, jgh, jgh, (100, [], (jenc (jlg 0))), (100, [], (jenc (jlg 1))), (100, [], (jenc (jlg 2))), (100, [], (jenc (jlg 3))), (100, [], (jenc (jlg 4))), (100, [], (jenc (jlg 5))), (100, [], (jenc a)), (100, [], (jenc e4)), (100, [], (jenc (e4 * jlg 4))), (100, [], (jenc (a + (e4 * jlg 4))))]) (jT_added (d := 0) (a := a) (b := e4 * jlg 4) ga hp.2.1 (jb54k ha (by decide)) hp.1 (jb54a ha hp.2.2 (by decide))) (by rfl) (by rfl) (by rfl) (by rfl) ⟨rfl, rfl, trivial⟩ (by rfl) (by rfl) (by omega) (by show 23 ≤ 26; omega) (by omega) (by omega) rfl rfl ?_
      refine jT_xastore_n (v := (4, 26)) (LN := [(2, (4, 26)), (3, (0, 4)), (0, (4, 0)), (1, (4, 1))]) (pcN := 41) jIQ_214_40 rfl rfl rfl rfl ?_
      refine jT_xiinc (x := 4) (z := 5) (LN := [(3, (0, 5)), (2, (4, 26)), (0, (4, 0)), (1, (4, 1))]) (pcN := 44) jIQ_214_41 rfl rfl (by decide) rfl rfl ?_
      refine jT_xgoto (pcN := 7) jIQ_214_44 rfl ?_
      refine jT_loc (LN := [(3, (0, 5)), (2, (4, 26)), (0, (4, 0)), (1, (4, 1))]) (by show List.Nodup [3, 2, 0, 1]; decide) (by intro q hq; simp only [List.mem_cons, List.not_mem_nil, or_false] at hq; rcases hq with rfl | rfl | rfl | rfl <;> rfl) ?_
      refine jT_gc [0, 1, 2, 3, 4, 5, 6, 7, 8, 9, 10, 11, 12, 13, 14, 15, 16, 17, 18, 19, 20, 21, 22, 26] (hs0 := [jzQ_371, (101, [], [e0, e1, e2, e3, e4, e5]), jgh, jgh, jgh, jgh, jgh, (130, [], [17, 18, 19, 20, 21, 22]), jgh, jgh, jgh, jgh, jgh, jgh, jgh, jgh, jgh, (100, [], (jenc (jlg 0))), (100, [], (jenc (jlg 1))), (100, [], (jenc (jlg 2))), (100, [], (jenc (jlg 3))), (100, [], (jenc (jlg 4))), (100, [], (jenc (jlg 5))), (100, [], jenc (a + (e4 * jlg 4)))]) (L0 := [(3, (0, 5)), (2, (4, 23)), (0, (4, 0)), (1, (4, 1))]) (st0 := []) (by show jgB [0, 1, 2, 3, 4, 5, 6, 7, 8, 9, 10, 11, 12, 13, 14, 15, 16, 17, 18, 19, 20, 21, 22, 26] 27 = true; decide +kernel) rfl ⟨rfl, rfl, rfl, rfl, rfl, rfl, rfl, rfl, rfl, rfl, rfl, rfl, rfl, rfl, rfl, rfl, rfl, rfl, rfl, rfl, rfl, rfl, rfl, rfl, trivial⟩ rfl rfl (by decide +kernel) ?_
      exact jT.mono (jQl_lg_150_5 hd h_e0 h_e1 h_e2 h_e3 h_e4 h_e5 (jb1c ha hp.2.2 (by decide)) (by rw [← Int.add_assoc] at hw; exact hw) h) (Nat.le_refl _) (by omega) (by omega) (fun _ _ _ z => z)
theorem jQl_lg_150_3 {xs : List Int} {d b1 b2 : Nat} {Q : Nat → JV → List JC → Prop} (hd : 1 < d) {a w e0 e1 e2 e3 e4 e5 : Int} (h_e0 : -4611686018427387903 ≤ e0 ∧ e0 ≤ 4611686018427387903) (h_e1 : -4611686018427387903 ≤ e1 ∧ e1 ≤ 4611686018427387903) (h_e2 : -4611686018427387903 ≤ e2 ∧ e2 ≤ 4611686018427387903) (h_e3 : -4611686018427387903 ≤ e3 ∧ e3 ≤ 4611686018427387903) (h_e4 : -4611686018427387903 ≤ e4 ∧ e4 ≤ 4611686018427387903) (h_e5 : -4611686018427387903 ≤ e5 ∧ e5 ≤ 4611686018427387903) (ha : a.natAbs ≤ 3 * 10 ^ 220) (hw : a + (e3 * jlg 3 + (e4 * jlg 4 + (e5 * jlg 5))) = w) (h : jT xs d 214 23 47 [(2, (4, 23))] [] [jzQ_371, (101, [], [e0, e1, e2, e3, e4, e5]), jgh, jgh, jgh, jgh, jgh, (130, [], [17, 18, 19, 20, 21, 22]), jgh, jgh, jgh, jgh, jgh, jgh, jgh, jgh, jgh, (100, [], (jenc (jlg 0))), (100, [], (jenc (jlg 1))), (100, [], (jenc (jlg 2))), (100, [], (jenc (jlg 3))), (100, [], (jenc (jlg 4))), (100, [], (jenc (jlg 5))), (100, [], jenc w)] b1 b2 Q) : jT xs d 214 23 7 [(3, (0, 3)), (2, (4, 23)), (0, (4, 0)), (1, (4, 1))] [] [jzQ_371, (101, [], [e0, e1, e2, e3, e4, e5]), jgh, jgh, jgh, jgh, jgh, (130, [], [17, 18, 19, 20, 21, 22]), jgh, jgh, jgh, jgh, jgh, jgh, jgh, jgh, jgh, (100, [], (jenc (jlg 0))), (100, [], (jenc (jlg 1))), (100, [], (jenc (jlg 2))), (100, [], (jenc (jlg 3))), (100, [], (jenc (jlg 4))), (100, [], (jenc (jlg 5))), (100, [], jenc a)] (b1 + 9) (b2 + 504) Q := by
  rcases (show (e3 < 0) ∨ (e3 = 0) ∨ (0 < e3) by omega) with g_0 | g_0 | g_0
  · have hp := jlz_m (k := 3) (e := e3) (by decide) (by omega) (by omega)
    rcases (show (a = 0) ∨ (a ≠ 0) by omega) with ga | ga
    · subst ga
      refine jT_xiload_n (v := (0, 3)) (pcN := 8) jIQ_214_7 rfl rfl rfl ?_
      refine jT_xbipush (k := 6) (pcN := 10) jIQ_214_8 (by decide) rfl ?_
      refine jT_xicF (t := 47) (pcN := 13) jIQ_214_10 rfl (by decide +kernel) rfl rfl ?_
      refine jT_xaload_n (v := (4, 1)) (pcN := 14) jIQ_214_13 rfl rfl rfl ?_
      refine jT_xiload_n (v := (0, 3)) (pcN := 15) jIQ_214_14 rfl rfl rfl ?_
      refine jT_lald (x := e3) (a := 1) (j := 3) (fs := []) (X := [e0, e1, e2, e3, e4, e5]) jIQ_214_15 rfl rfl rfl rfl ?_
      refine jT_eq (LN := [(3, (0, 3)), (2, (4, 23)), (0, (4, 0)), (1, (4, 1))]) (stN := [(1, e3)]) (hsN := [jzQ_371, (101, [], [e0, e1, e2, e3, e4, e5]), jgh, jgh, jgh, jgh, jgh, (130, [], [17, 18, 19, 20, 21, 22]), jgh, jgh, jgh, jgh, jgh, jgh, jgh, jgh, jgh, (100, [], (jenc (jlg 0))), (100, [], (jenc (jlg 1))), (100, [], (jenc (jlg 2))), (100, [], (jenc (jlg 3))), (100, [], (jenc (jlg 4))), (100, [], (jenc (jlg 5))), (100, [], (jenc 0))]) rfl rfl rfl ?_
      refine jT_xlconst (z := 0) (pcN := 17) jIQ_214_16 rfl rfl ?_
      refine jT_lcmp (a := e3) (b := 0) (z := (-1)) (by rfl) (by rfl) (jwl_idd (by omega) (by omega)) (jwl_idd (by omega) (by omega)) (by rw [decide_eq_false (show ¬ ((0 : Int) < e3) by omega), decide_eq_false (show ¬ ((e3 : Int) = 0) by omega)]; rfl) ?_
      refine jT_xifF (t := 41) (pcN := 21) jIQ_214_18 rfl (by decide +kernel) rfl rfl ?_
      refine jT_xaload_n (v := (4, 23)) (pcN := 22) jIQ_214_21 rfl rfl rfl ?_
      refine jT_xaload_n (v := (4, 1)) (pcN := 23) jIQ_214_22 rfl rfl rfl ?_
      refine jT_xiload_n (v := (0, 3)) (pcN := 24) jIQ_214_23 rfl rfl rfl ?_
      refine jT_lald (x := e3) (a := 1) (j := 3) (fs := []) (X := [e0, e1, e2, e3, e4, e5]) jIQ_214_24 rfl rfl rfl rfl ?_
      refine jT_eq (LN := [(3, (0, 3)), (2, (4, 23)), (0, (4, 0)), (1, (4, 1))]) (stN := [(1, e3), (4, 23)]) (hsN := [jzQ_371, (101, [], [e0, e1, e2, e3, e4, e5]), jgh, jgh, jgh, jgh, jgh, (130, [], [17, 18, 19, 20, 21, 22]), jgh, jgh, jgh, jgh, jgh, jgh, jgh, jgh, jgh, (100, [], (jenc (jlg 0))), (100, [], (jenc (jlg 1))), (100, [], (jenc (jlg 2))), (100, [], (jenc (jlg 3))), (100, [], (jenc (jlg 4))), (100, [], (jenc (jlg 5))), (100, [], (jenc 0))]) rfl rfl rfl ?_
      refine jT_callA [] (y := 178) (pcN := 28) (dC := 1) (bc1 := 1) (bc2 := 56) (c1 := (b1 + 8)) (c2 := (b2 + 448)) (as := [(1, e3)]) (asC := [(1, e3)]) (LN := [(3, (0, 3)), (2, (4, 23)), (0, (4, 0)), (1, (4, 1))]) (stN := [(4, 23)]) (hsC := []) (ex := [(100, [], (jenc e3))]) (v := (4, 0)) (st2 := [(4, 24), (4, 23)]) (hs2 := [jzQ_371, (101, [], [e0, e1, e2, e3, e4, e5]), jgh, jgh, jgh, jgh, jgh, (130, [], [17, 18, 19, 20, 21, 22]), jgh, jgh, jgh, jgh, jgh, jgh, jgh, jgh, jgh, (100, [], (jenc (jlg 0))), (100, [], (jenc (jlg 1))), (100, [], (jenc (jlg 2))), (100, [], (jenc (jlg 3))), (100, [], (jenc (jlg 4))), (100, [], (jenc (jlg 5))), (100, [], (jenc 0)), (100, [], (jenc e3))]) (jT_big (d := 0) (v := e3) (by omega) (by omega)) (by rfl) (by rfl) (by rfl) (by rfl) trivial (by rfl) (by rfl) (by omega) (by show 23 ≤ 24; omega) (by omega) (by omega) rfl rfl ?_
      refine jT_xaload_n (v := (4, 0)) (pcN := 29) jIQ_214_28 rfl rfl rfl ?_
      refine jT_xgetf (a := 0) (t := 1) (ci := 14) (fi := 8) (c := jzQ_371) (v := (4, 7)) (pcN := 32) jIQ_214_29 rfl rfl rfl rfl rfl rfl rfl ?_
      refine jT_xiload_n (v := (0, 3)) (pcN := 33) jIQ_214_32 rfl rfl rfl ?_
      refine jT_aald (x := 20) (a := 7) (j := 3) (fs := []) (X := [17, 18, 19, 20, 21, 22]) (kd := 130) jIQ_214_33 rfl rfl rfl rfl rfl ?_
      refine jT_eq (LN := [(3, (0, 3)), (2, (4, 23)), (0, (4, 0)), (1, (4, 1))]) (stN := [(4, 20), (4, 24), (4, 23)]) (hsN := [jzQ_371, (101, [], [e0, e1, e2, e3, e4, e5]), jgh, jgh, jgh, jgh, jgh, (130, [], [17, 18, 19, 20, 21, 22]), jgh, jgh, jgh, jgh, jgh, jgh, jgh, jgh, jgh, (100, [], (jenc (jlg 0))), (100, [], (jenc (jlg 1))), (100, [], (jenc (jlg 2))), (100, [], (jenc (jlg 3))), (100, [], (jenc (jlg 4))), (100, [], (jenc (jlg 5))), (100, [], (jenc 0)), (100, [], (jenc e3))]) rfl rfl rfl ?_
      refine jT_callA [24, 20] (y := 179) (pcN := 37) (dC := 1) (bc1 := 1) (bc2 := 56) (c1 := (b1 + 7)) (c2 := (b2 + 392)) (as := [(4, 24), (4, 20)]) (asC := [(4, 0), (4, 1)]) (LN := [(3, (0, 3)), (2, (4, 23)), (0, (4, 0)), (1, (4, 1))]) (stN := [(4, 23)]) (hsC := [(100, [], (jenc e3)), (100, [], (jenc (jlg 3)))]) (ex := [(100, [], (jenc (e3 * jlg 3)))]) (v := (4, 2)) (st2 := [(4, 25), (4, 23)]) (hs2 := [jzQ_371, (101, [], [e0, e1, e2, e3, e4, e5]), jgh, jgh, jgh, jgh, jgh, (130, [], [17, 18, 19, 20, 21, 22]), jgh, jgh, jgh, jgh, jgh, jgh, jgh, jgh, jgh, (100, [], (jenc (jlg 0))), (100, [], (jenc (jlg 1))), (100, [], (jenc (jlg 2))), (100, [], (jenc (jlg 3))), (100, [], (jenc (jlg 4))), (100, [], (jenc (jlg 5))), (100, [], (jenc 0)), (100, [], (jenc e3)), (100, [], (jenc (e3 * jlg 3)))]) (jT_product (d := 0) (a := e3) (b := jlg 3) (jb54 (by omega) (by omega)) hp.1) (by rfl) (by rfl) (by rfl) (by rfl) ⟨rfl, rfl, trivial⟩ (by rfl) (by rfl) (by omega) (by show 23 ≤ 25; omega) (by omega) (by omega) rfl rfl ?_
      refine jT_callA [23, 25] (y := 181) (pcN := 40) (dC := 0) (bc1 := 0) (bc2 := 0) (c1 := (b1 + 7)) (c2 := (b2 + 392)) (as := [(4, 23), (4, 25)]) (asC := [(4, 0), (4, 1)]) (LN := [(3, (0, 3)), (2, (4, 23)), (0, (4, 0)), (1, (4, 1))]) (stN := []) (hsC := [(100, [], (jenc 0)), (100, [], (jenc (e3 * jlg 3)))]) (ex := []) (v := (4, 1)) (st2 := [(4, 25)]) (hs2 := [jzQ_371, (101, [], [e0, e1, e2, e3, e4, e5]), jgh, jgh, jgh, jgh, jgh, (130, [], [17, 18, 19, 20, 21, 22]), jgh, jgh, jgh, jgh, jgh, jgh, jgh, jgh, jgh, (100, [], (jenc (jlg 0))), (100, [], (jenc (jlg 1))), (100, [], (jenc (jlg 2))), (100, [], (jenc (jlg 3))), (100, [], (jenc (jlg 4))), (100, [], (jenc (jlg 5))), (100, [], (jenc 0)), (100, [], (jenc e3)), (100, [], (jenc (e3 * jlg 3)))]) (jT_added_0l (d := 0) (b := e3 * jlg 3)) (by rfl) (by rfl) (by rfl) (by rfl) ⟨rfl, rfl, trivial⟩ (by rfl) (by rfl) (by omega) (by show 23 ≤ 26; omega) (by omega) (by omega) rfl rfl ?_
      refine jT_xastore_n (v := (4, 25)) (LN := [(2, (4, 25)), (3, (0, 3)), (0, (4, 0)), (1, (4, 1))]) (pcN := 41) jIQ_214_40 rfl rfl rfl rfl ?_
      refine jT_xiinc (x := 3) (z := 4) (LN := [(3, (0, 4)), (2, (4, 25)), (0, (4, 0)), (1, (4, 1))]) (pcN := 44) jIQ_214_41 rfl rfl (by decide) rfl rfl ?_
      refine jT_xgoto (pcN := 7) jIQ_214_44 rfl ?_
      refine jT_loc (LN := [(3, (0, 4)), (2, (4, 25)), (0, (4, 0)), (1, (4, 1))]) (by show List.Nodup [3, 2, 0, 1]; decide) (by intro q hq; simp only [List.mem_cons, List.not_mem_nil, or_false] at hq; rcases hq with rfl | rfl | rfl | rfl <;> rfl) ?_
      refine jT_gc [0, 1, 2, 3, 4, 5, 6, 7, 8, 9, 10, 11, 12, 13, 14, 15, 16, 17, 18, 19, 20, 21, 22, 25] (hs0 := [jzQ_371, (101, [], [e0, e1, e2, e3, e4, e5]), jgh, jgh, jgh, jgh, jgh, (130, [], [17, 18, 19, 20, 21, 22]), jgh, jgh, jgh, jgh, jgh, jgh, jgh, jgh, jgh, (100, [], (jenc (jlg 0))), (100, [], (jenc (jlg 1))), (100, [], (jenc (jlg 2))), (100, [], (jenc (jlg 3))), (100, [], (jenc (jlg 4))), (100, [], (jenc (jlg 5))), (100, [], jenc (e3 * jlg 3))]) (L0 := [(3, (0, 4)), (2, (4, 23)), (0, (4, 0)), (1, (4, 1))]) (st0 := []) (by show jgB [0, 1, 2, 3, 4, 5, 6, 7, 8, 9, 10, 11, 12, 13, 14, 15, 16, 17, 18, 19, 20, 21, 22, 25] 26 = true; decide +kernel) rfl ⟨rfl, rfl, rfl, rfl, rfl, rfl, rfl, rfl, rfl, rfl, rfl, rfl, rfl, rfl, rfl, rfl, rfl, rfl, rfl, rfl, rfl, rfl, rfl, rfl, trivial⟩ rfl rfl (by decide +kernel) ?_
      exact jT.mono (jQl_lg_150_4 hd h_e0 h_e1 h_e2 h_e3 h_e4 h_e5 (Nat.le_trans hp.2.2 (by decide)) (by rw [Int.zero_add] at hw; exact hw) h) (Nat.le_refl _) (by omega) (by omega) (fun _ _ _ z => z)
    · refine jT_xiload_n (v := (0, 3)) (pcN := 8) jIQ_214_7 rfl rfl rfl ?_
      refine jT_xbipush (k := 6) (pcN := 10) jIQ_214_8 (by decide) rfl ?_
      refine jT_xicF (t := 47) (pcN := 13) jIQ_214_10 rfl (by decide +kernel) rfl rfl ?_
      refine jT_xaload_n (v := (4, 1)) (pcN := 14) jIQ_214_13 rfl rfl rfl ?_
      refine jT_xiload_n (v := (0, 3)) (pcN := 15) jIQ_214_14 rfl rfl rfl ?_
      refine jT_lald (x := e3) (a := 1) (j := 3) (fs := []) (X := [e0, e1, e2, e3, e4, e5]) jIQ_214_15 rfl rfl rfl rfl ?_
      refine jT_eq (LN := [(3, (0, 3)), (2, (4, 23)), (0, (4, 0)), (1, (4, 1))]) (stN := [(1, e3)]) (hsN := [jzQ_371, (101, [], [e0, e1, e2, e3, e4, e5]), jgh, jgh, jgh, jgh, jgh, (130, [], [17, 18, 19, 20, 21, 22]), jgh, jgh, jgh, jgh, jgh, jgh, jgh, jgh, jgh, (100, [], (jenc (jlg 0))), (100, [], (jenc (jlg 1))), (100, [], (jenc (jlg 2))), (100, [], (jenc (jlg 3))), (100, [], (jenc (jlg 4))), (100, [], (jenc (jlg 5))), (100, [], (jenc a))]) rfl rfl rfl ?_
      refine jT_xlconst (z := 0) (pcN := 17) jIQ_214_16 rfl rfl ?_
      refine jT_lcmp (a := e3) (b := 0) (z := (-1)) (by rfl) (by rfl) (jwl_idd (by omega) (by omega)) (jwl_idd (by omega) (by omega)) (by rw [decide_eq_false (show ¬ ((0 : Int) < e3) by omega), decide_eq_false (show ¬ ((e3 : Int) = 0) by omega)]; rfl) ?_
      refine jT_xifF (t := 41) (pcN := 21) jIQ_214_18 rfl (by decide +kernel) rfl rfl ?_
      refine jT_xaload_n (v := (4, 23)) (pcN := 22) jIQ_214_21 rfl rfl rfl ?_
      refine jT_xaload_n (v := (4, 1)) (pcN := 23) jIQ_214_22 rfl rfl rfl ?_
      refine jT_xiload_n (v := (0, 3)) (pcN := 24) jIQ_214_23 rfl rfl rfl ?_
      refine jT_lald (x := e3) (a := 1) (j := 3) (fs := []) (X := [e0, e1, e2, e3, e4, e5]) jIQ_214_24 rfl rfl rfl rfl ?_
      refine jT_eq (LN := [(3, (0, 3)), (2, (4, 23)), (0, (4, 0)), (1, (4, 1))]) (stN := [(1, e3), (4, 23)]) (hsN := [jzQ_371, (101, [], [e0, e1, e2, e3, e4, e5]), jgh, jgh, jgh, jgh, jgh, (130, [], [17, 18, 19, 20, 21, 22]), jgh, jgh, jgh, jgh, jgh, jgh, jgh, jgh, jgh, (100, [], (jenc (jlg 0))), (100, [], (jenc (jlg 1))), (100, [], (jenc (jlg 2))), (100, [], (jenc (jlg 3))), (100, [], (jenc (jlg 4))), (100, [], (jenc (jlg 5))), (100, [], (jenc a))]) rfl rfl rfl ?_
      refine jT_callA [] (y := 178) (pcN := 28) (dC := 1) (bc1 := 1) (bc2 := 56) (c1 := (b1 + 8)) (c2 := (b2 + 448)) (as := [(1, e3)]) (asC := [(1, e3)]) (LN := [(3, (0, 3)), (2, (4, 23)), (0, (4, 0)), (1, (4, 1))]) (stN := [(4, 23)]) (hsC := []) (ex := [(100, [], (jenc e3))]) (v := (4, 0)) (st2 := [(4, 24), (4, 23)]) (hs2 := [jzQ_371, (101, [], [e0, e1, e2, e3, e4, e5]), jgh, jgh, jgh, jgh, jgh, (130, [], [17, 18, 19, 20, 21, 22]), jgh, jgh, jgh, jgh, jgh, jgh, jgh, jgh, jgh, (100, [], (jenc (jlg 0))), (100, [], (jenc (jlg 1))), (100, [], (jenc (jlg 2))), (100, [], (jenc (jlg 3))), (100, [], (jenc (jlg 4))), (100, [], (jenc (jlg 5))), (100, [], (jenc a)), (100, [], (jenc e3))]) (jT_big (d := 0) (v := e3) (by omega) (by omega)) (by rfl) (by rfl) (by rfl) (by rfl) trivial (by rfl) (by rfl) (by omega) (by show 23 ≤ 24; omega) (by omega) (by omega) rfl rfl ?_
      refine jT_xaload_n (v := (4, 0)) (pcN := 29) jIQ_214_28 rfl rfl rfl ?_
      refine jT_xgetf (a := 0) (t := 1) (ci := 14) (fi := 8) (c := jzQ_371) (v := (4, 7)) (pcN := 32) jIQ_214_29 rfl rfl rfl rfl rfl rfl rfl ?_
      refine jT_xiload_n (v := (0, 3)) (pcN := 33) jIQ_214_32 rfl rfl rfl ?_
      refine jT_aald (x := 20) (a := 7) (j := 3) (fs := []) (X := [17, 18, 19, 20, 21, 22]) (kd := 130) jIQ_214_33 rfl rfl rfl rfl rfl ?_
      refine jT_eq (LN := [(3, (0, 3)), (2, (4, 23)), (0, (4, 0)), (1, (4, 1))]) (stN := [(4, 20), (4, 24), (4, 23)]) (hsN := [jzQ_371, (101, [], [e0, e1, e2, e3, e4, e5]), jgh, jgh, jgh, jgh, jgh, (130, [], [17, 18, 19, 20, 21, 22]), jgh, jgh, jgh, jgh, jgh, jgh, jgh, jgh, jgh, (100, [], (jenc (jlg 0))), (100, [], (jenc (jlg 1))), (100, [], (jenc (jlg 2))), (100, [], (jenc (jlg 3))), (100, [], (jenc (jlg 4))), (100, [], (jenc (jlg 5))), (100, [], (jenc a)), (100, [], (jenc e3))]) rfl rfl rfl ?_
      refine jT_callA [24, 20] (y := 179) (pcN := 37) (dC := 1) (bc1 := 1) (bc2 := 56) (c1 := (b1 + 7)) (c2 := (b2 + 392)) (as := [(4, 24), (4, 20)]) (asC := [(4, 0), (4, 1)]) (LN := [(3, (0, 3)), (2, (4, 23)), (0, (4, 0)), (1, (4, 1))]) (stN := [(4, 23)]) (hsC := [(100, [], (jenc e3)), (100, [], (jenc (jlg 3)))]) (ex := [(100, [], (jenc (e3 * jlg 3)))]) (v := (4, 2)) (st2 := [(4, 25), (4, 23)]) (hs2 := [jzQ_371, (101, [], [e0, e1, e2, e3, e4, e5]), jgh, jgh, jgh, jgh, jgh, (130, [], [17, 18, 19, 20, 21, 22]), jgh, jgh, jgh, jgh, jgh, jgh, jgh, jgh, jgh, (100, [], (jenc (jlg 0))), (100, [], (jenc (jlg 1))), (100, [], (jenc (jlg 2))), (100, [], (jenc (jlg 3))), (100, [], (jenc (jlg 4))), (100, [], (jenc (jlg 5))), (100, [], (jenc a)), (100, [], (jenc e3)), (100, [], (jenc (e3 * jlg 3)))]) (jT_product (d := 0) (a := e3) (b := jlg 3) (jb54 (by omega) (by omega)) hp.1) (by rfl) (by rfl) (by rfl) (by rfl) ⟨rfl, rfl, trivial⟩ (by rfl) (by rfl) (by omega) (by show 23 ≤ 25; omega) (by omega) (by omega) rfl rfl ?_
      refine jT_callA [23, 25] (y := 181) (pcN := 40) (dC := 1) (bc1 := 1) (bc2 := 56) (c1 := (b1 + 6)) (c2 := (b2 + 336)) (as := [(4, 23), (4, 25)]) (asC := [(4, 0), (4, 1)]) (LN := [(3, (0, 3)), (2, (4, 23)), (0, (4, 0)), (1, (4, 1))]) (stN := []) (hsC := [(100, [], (jenc a)), (100, [], (jenc (e3 * jlg 3)))]) (ex := [(100, [], (jenc (a + (e3 * jlg 3))))]) (v := (4, 2)) (st2 := [(4, 26)]) (hs2 := [jzQ_371, (101, [], [e0, e1, e2, e3, e4, e5]), jgh, jgh, jgh, jgh, jgh, (130, [], [17, 18, 19, 20, 21, 22]), jgh, jgh, jgh, jgh, jgh, jgh, jgh, jgh, jgh, (100, [], (jenc (jlg 0))), (100, [], (jenc (jlg 1))), (100, [], (jenc (jlg 2))), (100, [], (jenc (jlg 3))), (100, [], (jenc (jlg 4))), (100, [], (jenc (jlg 5))), (100, [], (jenc a)), (100, [], (jenc e3)), (100, [], (jenc (e3 * jlg 3))), (100, [], (jenc (a + (e3 * jlg 3))))]) (jT_added (d := 0) (a := a) (b := e3 * jlg 3) ga hp.2.1 (jb54k ha (by decide)) hp.1 (jb54a ha hp.2.2 (by decide))) (by rfl) (by rfl) (by rfl) (by rfl) ⟨rfl, rfl, trivial⟩ (by rfl) (by rfl) (by omega) (by show 23 ≤ 26; omega) (by omega) (by omega) rfl rfl ?_
      refine jT_xastore_n (v := (4, 26)) (LN := [(2, (4, 26)), (3, (0, 3)), (0, (4, 0)), (1, (4, 1))]) (pcN := 41) jIQ_214_40 rfl rfl rfl rfl ?_
      refine jT_xiinc (x := 3) (z := 4) (LN := [(3, (0, 4)), (2, (4, 26)), (0, (4, 0)), (1, (4, 1))]) (pcN := 44) jIQ_214_41 rfl rfl (by decide) rfl rfl ?_
      refine jT_xgoto (pcN := 7) jIQ_214_44 rfl ?_
      refine jT_loc (LN := [(3, (0, 4)), (2, (4, 26)), (0, (4, 0)), (1, (4, 1))]) (by show List.Nodup [3, 2, 0, 1]; decide) (by intro q hq; simp only [List.mem_cons, List.not_mem_nil, or_false] at hq; rcases hq with rfl | rfl | rfl | rfl <;> rfl) ?_
      refine jT_gc [0, 1, 2, 3, 4, 5, 6, 7, 8, 9, 10, 11, 12, 13, 14, 15, 16, 17, 18, 19, 20, 21, 22, 26] (hs0 := [jzQ_371, (101, [], [e0, e1, e2, e3, e4, e5]), jgh, jgh, jgh, jgh, jgh, (130, [], [17, 18, 19, 20, 21, 22]), jgh, jgh, jgh, jgh, jgh, jgh, jgh, jgh, jgh, (100, [], (jenc (jlg 0))), (100, [], (jenc (jlg 1))), (100, [], (jenc (jlg 2))), (100, [], (jenc (jlg 3))), (100, [], (jenc (jlg 4))), (100, [], (jenc (jlg 5))), (100, [], jenc (a + (e3 * jlg 3)))]) (L0 := [(3, (0, 4)), (2, (4, 23)), (0, (4, 0)), (1, (4, 1))]) (st0 := []) (by show jgB [0, 1, 2, 3, 4, 5, 6, 7, 8, 9, 10, 11, 12, 13, 14, 15, 16, 17, 18, 19, 20, 21, 22, 26] 27 = true; decide +kernel) rfl ⟨rfl, rfl, rfl, rfl, rfl, rfl, rfl, rfl, rfl, rfl, rfl, rfl, rfl, rfl, rfl, rfl, rfl, rfl, rfl, rfl, rfl, rfl, rfl, rfl, trivial⟩ rfl rfl (by decide +kernel) ?_
      exact jT.mono (jQl_lg_150_4 hd h_e0 h_e1 h_e2 h_e3 h_e4 h_e5 (jb1c ha hp.2.2 (by decide)) (by rw [← Int.add_assoc] at hw; exact hw) h) (Nat.le_refl _) (by omega) (by omega) (fun _ _ _ z => z)
  · refine jT_xiload_n (v := (0, 3)) (pcN := 8) jIQ_214_7 rfl rfl rfl ?_
    refine jT_xbipush (k := 6) (pcN := 10) jIQ_214_8 (by decide) rfl ?_
    refine jT_xicF (t := 47) (pcN := 13) jIQ_214_10 rfl (by decide +kernel) rfl rfl ?_
    refine jT_xaload_n (v := (4, 1)) (pcN := 14) jIQ_214_13 rfl rfl rfl ?_
    refine jT_xiload_n (v := (0, 3)) (pcN := 15) jIQ_214_14 rfl rfl rfl ?_
    refine jT_lald (x := e3) (a := 1) (j := 3) (fs := []) (X := [e0, e1, e2, e3, e4, e5]) jIQ_214_15 rfl rfl rfl rfl ?_
    refine jT_eq (LN := [(3, (0, 3)), (2, (4, 23)), (0, (4, 0)), (1, (4, 1))]) (stN := [(1, e3)]) (hsN := [jzQ_371, (101, [], [e0, e1, e2, e3, e4, e5]), jgh, jgh, jgh, jgh, jgh, (130, [], [17, 18, 19, 20, 21, 22]), jgh, jgh, jgh, jgh, jgh, jgh, jgh, jgh, jgh, (100, [], (jenc (jlg 0))), (100, [], (jenc (jlg 1))), (100, [], (jenc (jlg 2))), (100, [], (jenc (jlg 3))), (100, [], (jenc (jlg 4))), (100, [], (jenc (jlg 5))), (100, [], (jenc a))]) rfl rfl rfl ?_
    refine jT_xlconst (z := 0) (pcN := 17) jIQ_214_16 rfl rfl ?_
    refine jT_lcmp (a := e3) (b := 0) (z := 0) (by rfl) (by rfl) (jwl_idd (by omega) (by omega)) (jwl_idd (by omega) (by omega)) (by rw [decide_eq_false (show ¬ ((0 : Int) < e3) by omega), decide_eq_true (show (e3 : Int) = 0 by omega)]; rfl) ?_
    refine jT_xifT (pcN := 41) jIQ_214_18 rfl (by decide +kernel) rfl ?_
    refine jT_xiinc (x := 3) (z := 4) (LN := [(3, (0, 4)), (2, (4, 23)), (0, (4, 0)), (1, (4, 1))]) (pcN := 44) jIQ_214_41 rfl rfl (by decide) rfl rfl ?_
    refine jT_xgoto (pcN := 7) jIQ_214_44 rfl ?_
    refine jT_loc (LN := [(3, (0, 4)), (2, (4, 23)), (0, (4, 0)), (1, (4, 1))]) (by show List.Nodup [3, 2, 0, 1]; decide) (by intro q hq; simp only [List.mem_cons, List.not_mem_nil, or_false] at hq; rcases hq with rfl | rfl | rfl | rfl <;> rfl) ?_
    exact jT.mono (jQl_lg_150_4 hd h_e0 h_e1 h_e2 h_e3 h_e4 h_e5 (by omega) (by rw [g_0, Int.zero_mul] at hw; omega) h) (Nat.le_refl _) (by omega) (by omega) (fun _ _ _ z => z)
  · have hp := jlz_m (k := 3) (e := e3) (by decide) (by omega) (by omega)
    rcases (show (a = 0) ∨ (a ≠ 0) by omega) with ga | ga
    · subst ga
      refine jT_xiload_n (v := (0, 3)) (pcN := 8) jIQ_214_7 rfl rfl rfl ?_
      refine jT_xbipush (k := 6) (pcN := 10) jIQ_214_8 (by decide) rfl ?_
      refine jT_xicF (t := 47) (pcN := 13) jIQ_214_10 rfl (by decide +kernel) rfl rfl ?_
      refine jT_xaload_n (v := (4, 1)) (pcN := 14) jIQ_214_13 rfl rfl rfl ?_
      refine jT_xiload_n (v := (0, 3)) (pcN := 15) jIQ_214_14 rfl rfl rfl ?_
      refine jT_lald (x := e3) (a := 1) (j := 3) (fs := []) (X := [e0, e1, e2, e3, e4, e5]) jIQ_214_15 rfl rfl rfl rfl ?_
      refine jT_eq (LN := [(3, (0, 3)), (2, (4, 23)), (0, (4, 0)), (1, (4, 1))]) (stN := [(1, e3)]) (hsN := [jzQ_371, (101, [], [e0, e1, e2, e3, e4, e5]), jgh, jgh, jgh, jgh, jgh, (130, [], [17, 18, 19, 20, 21, 22]), jgh, jgh, jgh, jgh, jgh, jgh, jgh, jgh, jgh, (100, [], (jenc (jlg 0))), (100, [], (jenc (jlg 1))), (100, [], (jenc (jlg 2))), (100, [], (jenc (jlg 3))), (100, [], (jenc (jlg 4))), (100, [], (jenc (jlg 5))), (100, [], (jenc 0))]) rfl rfl rfl ?_
      refine jT_xlconst (z := 0) (pcN := 17) jIQ_214_16 rfl rfl ?_
      refine jT_lcmp (a := e3) (b := 0) (z := 1) (by rfl) (by rfl) (jwl_idd (by omega) (by omega)) (jwl_idd (by omega) (by omega)) (by rw [decide_eq_true (show (0 : Int) < e3 by omega)]; rfl) ?_
      refine jT_xifF (t := 41) (pcN := 21) jIQ_214_18 rfl (by decide +kernel) rfl rfl ?_
      refine jT_xaload_n (v := (4, 23)) (pcN := 22) jIQ_214_21 rfl rfl rfl ?_
      refine jT_xaload_n (v := (4, 1)) (pcN := 23) jIQ_214_22 rfl rfl rfl ?_
      refine jT_xiload_n (v := (0, 3)) (pcN := 24) jIQ_214_23 rfl rfl rfl ?_
      refine jT_lald (x := e3) (a := 1) (j := 3) (fs := []) (X := [e0, e1, e2, e3, e4, e5]) jIQ_214_24 rfl rfl rfl rfl ?_
      refine jT_eq (LN := [(3, (0, 3)), (2, (4, 23)), (0, (4, 0)), (1, (4, 1))]) (stN := [(1, e3), (4, 23)]) (hsN := [jzQ_371, (101, [], [e0, e1, e2, e3, e4, e5]), jgh, jgh, jgh, jgh, jgh, (130, [], [17, 18, 19, 20, 21, 22]), jgh, jgh, jgh, jgh, jgh, jgh, jgh, jgh, jgh, (100, [], (jenc (jlg 0))), (100, [], (jenc (jlg 1))), (100, [], (jenc (jlg 2))), (100, [], (jenc (jlg 3))), (100, [], (jenc (jlg 4))), (100, [], (jenc (jlg 5))), (100, [], (jenc 0))]) rfl rfl rfl ?_
      refine jT_callA [] (y := 178) (pcN := 28) (dC := 1) (bc1 := 1) (bc2 := 56) (c1 := (b1 + 8)) (c2 := (b2 + 448)) (as := [(1, e3)]) (asC := [(1, e3)]) (LN := [(3, (0, 3)), (2, (4, 23)), (0, (4, 0)), (1, (4, 1))]) (stN := [(4, 23)]) (hsC := []) (ex := [(100, [], (jenc e3))]) (v := (4, 0)) (st2 := [(4, 24), (4, 23)]) (hs2 := [jzQ_371, (101, [], [e0, e1, e2, e3, e4, e5]), jgh, jgh, jgh, jgh, jgh, (130, [], [17, 18, 19, 20, 21, 22]), jgh, jgh, jgh, jgh, jgh, jgh, jgh, jgh, jgh, (100, [], (jenc (jlg 0))), (100, [], (jenc (jlg 1))), (100, [], (jenc (jlg 2))), (100, [], (jenc (jlg 3))), (100, [], (jenc (jlg 4))), (100, [], (jenc (jlg 5))), (100, [], (jenc 0)), (100, [], (jenc e3))]) (jT_big (d := 0) (v := e3) (by omega) (by omega)) (by rfl) (by rfl) (by rfl) (by rfl) trivial (by rfl) (by rfl) (by omega) (by show 23 ≤ 24; omega) (by omega) (by omega) rfl rfl ?_
      refine jT_xaload_n (v := (4, 0)) (pcN := 29) jIQ_214_28 rfl rfl rfl ?_
      refine jT_xgetf (a := 0) (t := 1) (ci := 14) (fi := 8) (c := jzQ_371) (v := (4, 7)) (pcN := 32) jIQ_214_29 rfl rfl rfl rfl rfl rfl rfl ?_
      refine jT_xiload_n (v := (0, 3)) (pcN := 33) jIQ_214_32 rfl rfl rfl ?_
      refine jT_aald (x := 20) (a := 7) (j := 3) (fs := []) (X := [17, 18, 19, 20, 21, 22]) (kd := 130) jIQ_214_33 rfl rfl rfl rfl rfl ?_
      refine jT_eq (LN := [(3, (0, 3)), (2, (4, 23)), (0, (4, 0)), (1, (4, 1))]) (stN := [(4, 20), (4, 24), (4, 23)]) (hsN := [jzQ_371, (101, [], [e0, e1, e2, e3, e4, e5]), jgh, jgh, jgh, jgh, jgh, (130, [], [17, 18, 19, 20, 21, 22]), jgh, jgh, jgh, jgh, jgh, jgh, jgh, jgh, jgh, (100, [], (jenc (jlg 0))), (100, [], (jenc (jlg 1))), (100, [], (jenc (jlg 2))), (100, [], (jenc (jlg 3))), (100, [], (jenc (jlg 4))), (100, [], (jenc (jlg 5))), (100, [], (jenc 0)), (100, [], (jenc e3))]) rfl rfl rfl ?_
      refine jT_callA [24, 20] (y := 179) (pcN := 37) (dC := 1) (bc1 := 1) (bc2 := 56) (c1 := (b1 + 7)) (c2 := (b2 + 392)) (as := [(4, 24), (4, 20)]) (asC := [(4, 0), (4, 1)]) (LN := [(3, (0, 3)), (2, (4, 23)), (0, (4, 0)), (1, (4, 1))]) (stN := [(4, 23)]) (hsC := [(100, [], (jenc e3)), (100, [], (jenc (jlg 3)))]) (ex := [(100, [], (jenc (e3 * jlg 3)))]) (v := (4, 2)) (st2 := [(4, 25), (4, 23)]) (hs2 := [jzQ_371, (101, [], [e0, e1, e2, e3, e4, e5]), jgh, jgh, jgh, jgh, jgh, (130, [], [17, 18, 19, 20, 21, 22]), jgh, jgh, jgh, jgh, jgh, jgh, jgh, jgh, jgh, (100, [], (jenc (jlg 0))), (100, [], (jenc (jlg 1))), (100, [], (jenc (jlg 2))), (100, [], (jenc (jlg 3))), (100, [], (jenc (jlg 4))), (100, [], (jenc (jlg 5))), (100, [], (jenc 0)), (100, [], (jenc e3)), (100, [], (jenc (e3 * jlg 3)))]) (jT_product (d := 0) (a := e3) (b := jlg 3) (jb54 (by omega) (by omega)) hp.1) (by rfl) (by rfl) (by rfl) (by rfl) ⟨rfl, rfl, trivial⟩ (by rfl) (by rfl) (by omega) (by show 23 ≤ 25; omega) (by omega) (by omega) rfl rfl ?_
      refine jT_callA [23, 25] (y := 181) (pcN := 40) (dC := 0) (bc1 := 0) (bc2 := 0) (c1 := (b1 + 7)) (c2 := (b2 + 392)) (as := [(4, 23), (4, 25)]) (asC := [(4, 0), (4, 1)]) (LN := [(3, (0, 3)), (2, (4, 23)), (0, (4, 0)), (1, (4, 1))]) (stN := []) (hsC := [(100, [], (jenc 0)), (100, [], (jenc (e3 * jlg 3)))]) (ex := []) (v := (4, 1)) (st2 := [(4, 25)]) (hs2 := [jzQ_371, (101, [], [e0, e1, e2, e3, e4, e5]), jgh, jgh, jgh, jgh, jgh, (130, [], [17, 18, 19, 20, 21, 22]), jgh, jgh, jgh, jgh, jgh, jgh, jgh, jgh, jgh, (100, [], (jenc (jlg 0))), (100, [], (jenc (jlg 1))), (100, [], (jenc (jlg 2))), (100, [], (jenc (jlg 3))), (100, [], (jenc (jlg 4))), (100, [], (jenc (jlg 5))), (100, [], (jenc 0)), (100, [], (jenc e3)), (100, [], (jenc (e3 * jlg 3)))]) (jT_added_0l (d := 0) (b := e3 * jlg 3)) (by rfl) (by rfl) (by rfl) (by rfl) ⟨rfl, rfl, trivial⟩ (by rfl) (by rfl) (by omega) (by show 23 ≤ 26; omega) (by omega) (by omega) rfl rfl ?_
      refine jT_xastore_n (v := (4, 25)) (LN := [(2, (4, 25)), (3, (0, 3)), (0, (4, 0)), (1, (4, 1))]) (pcN := 41) jIQ_214_40 rfl rfl rfl rfl ?_
      refine jT_xiinc (x := 3) (z := 4) (LN := [(3, (0, 4)), (2, (4, 25)), (0, (4, 0)), (1, (4, 1))]) (pcN := 44) jIQ_214_41 rfl rfl (by decide) rfl rfl ?_
      refine jT_xgoto (pcN := 7) jIQ_214_44 rfl ?_
      refine jT_loc (LN := [(3, (0, 4)), (2, (4, 25)), (0, (4, 0)), (1, (4, 1))]) (by show List.Nodup [3, 2, 0, 1]; decide) (by intro q hq; simp only [List.mem_cons, List.not_mem_nil, or_false] at hq; rcases hq with rfl | rfl | rfl | rfl <;> rfl) ?_
      refine jT_gc [0, 1, 2, 3, 4, 5, 6, 7, 8, 9, 10, 11, 12, 13, 14, 15, 16, 17, 18, 19, 20, 21, 22, 25] (hs0 := [jzQ_371, (101, [], [e0, e1, e2, e3, e4, e5]), jgh, jgh, jgh, jgh, jgh, (130, [], [17, 18, 19, 20, 21, 22]), jgh, jgh, jgh, jgh, jgh, jgh, jgh, jgh, jgh, (100, [], (jenc (jlg 0))), (100, [], (jenc (jlg 1))), (100, [], (jenc (jlg 2))), (100, [], (jenc (jlg 3))), (100, [], (jenc (jlg 4))), (100, [], (jenc (jlg 5))), (100, [], jenc (e3 * jlg 3))]) (L0 := [(3, (0, 4)), (2, (4, 23)), (0, (4, 0)), (1, (4, 1))]) (st0 := []) (by show jgB [0, 1, 2, 3, 4, 5, 6, 7, 8, 9, 10, 11, 12, 13, 14, 15, 16, 17, 18, 19, 20, 21, 22, 25] 26 = true; decide +kernel) rfl ⟨rfl, rfl, rfl, rfl, rfl, rfl, rfl, rfl, rfl, rfl, rfl, rfl, rfl, rfl, rfl, rfl, rfl, rfl, rfl, rfl, rfl, rfl, rfl, rfl, trivial⟩ rfl rfl (by decide +kernel) ?_
      exact jT.mono (jQl_lg_150_4 hd h_e0 h_e1 h_e2 h_e3 h_e4 h_e5 (Nat.le_trans hp.2.2 (by decide)) (by rw [Int.zero_add] at hw; exact hw) h) (Nat.le_refl _) (by omega) (by omega) (fun _ _ _ z => z)
    · refine jT_xiload_n (v := (0, 3)) (pcN := 8) jIQ_214_7 rfl rfl rfl ?_
      refine jT_xbipush (k := 6) (pcN := 10) jIQ_214_8 (by decide) rfl ?_
      refine jT_xicF (t := 47) (pcN := 13) jIQ_214_10 rfl (by decide +kernel) rfl rfl ?_
      refine jT_xaload_n (v := (4, 1)) (pcN := 14) jIQ_214_13 rfl rfl rfl ?_
      refine jT_xiload_n (v := (0, 3)) (pcN := 15) jIQ_214_14 rfl rfl rfl ?_
      refine jT_lald (x := e3) (a := 1) (j := 3) (fs := []) (X := [e0, e1, e2, e3, e4, e5]) jIQ_214_15 rfl rfl rfl rfl ?_
      refine jT_eq (LN := [(3, (0, 3)), (2, (4, 23)), (0, (4, 0)), (1, (4, 1))]) (stN := [(1, e3)]) (hsN := [jzQ_371, (101, [], [e0, e1, e2, e3, e4, e5]), jgh, jgh, jgh, jgh, jgh, (130, [], [17, 18, 19, 20, 21, 22]), jgh, jgh, jgh, jgh, jgh, jgh, jgh, jgh, jgh, (100, [], (jenc (jlg 0))), (100, [], (jenc (jlg 1))), (100, [], (jenc (jlg 2))), (100, [], (jenc (jlg 3))), (100, [], (jenc (jlg 4))), (100, [], (jenc (jlg 5))), (100, [], (jenc a))]) rfl rfl rfl ?_
      refine jT_xlconst (z := 0) (pcN := 17) jIQ_214_16 rfl rfl ?_
      refine jT_lcmp (a := e3) (b := 0) (z := 1) (by rfl) (by rfl) (jwl_idd (by omega) (by omega)) (jwl_idd (by omega) (by omega)) (by rw [decide_eq_true (show (0 : Int) < e3 by omega)]; rfl) ?_
      refine jT_xifF (t := 41) (pcN := 21) jIQ_214_18 rfl (by decide +kernel) rfl rfl ?_
      refine jT_xaload_n (v := (4, 23)) (pcN := 22) jIQ_214_21 rfl rfl rfl ?_
      refine jT_xaload_n (v := (4, 1)) (pcN := 23) jIQ_214_22 rfl rfl rfl ?_
      refine jT_xiload_n (v := (0, 3)) (pcN := 24) jIQ_214_23 rfl rfl rfl ?_
      refine jT_lald (x := e3) (a := 1) (j := 3) (fs := []) (X := [e0, e1, e2, e3, e4, e5]) jIQ_214_24 rfl rfl rfl rfl ?_
      refine jT_eq (LN := [(3, (0, 3)), (2, (4, 23)), (0, (4, 0)), (1, (4, 1))]) (stN := [(1, e3), (4, 23)]) (hsN := [jzQ_371, (101, [], [e0, e1, e2, e3, e4, e5]), jgh, jgh, jgh, jgh, jgh, (130, [], [17, 18, 19, 20, 21, 22]), jgh, jgh, jgh, jgh, jgh, jgh, jgh, jgh, jgh, (100, [], (jenc (jlg 0))), (100, [], (jenc (jlg 1))), (100, [], (jenc (jlg 2))), (100, [], (jenc (jlg 3))), (100, [], (jenc (jlg 4))), (100, [], (jenc (jlg 5))), (100, [], (jenc a))]) rfl rfl rfl ?_
      refine jT_callA [] (y := 178) (pcN := 28) (dC := 1) (bc1 := 1) (bc2 := 56) (c1 := (b1 + 8)) (c2 := (b2 + 448)) (as := [(1, e3)]) (asC := [(1, e3)]) (LN := [(3, (0, 3)), (2, (4, 23)), (0, (4, 0)), (1, (4, 1))]) (stN := [(4, 23)]) (hsC := []) (ex := [(100, [], (jenc e3))]) (v := (4, 0)) (st2 := [(4, 24), (4, 23)]) (hs2 := [jzQ_371, (101, [], [e0, e1, e2, e3, e4, e5]), jgh, jgh, jgh, jgh, jgh, (130, [], [17, 18, 19, 20, 21, 22]), jgh, jgh, jgh, jgh, jgh, jgh, jgh, jgh, jgh, (100, [], (jenc (jlg 0))), (100, [], (jenc (jlg 1))), (100, [], (jenc (jlg 2))), (100, [], (jenc (jlg 3))), (100, [], (jenc (jlg 4))), (100, [], (jenc (jlg 5))), (100, [], (jenc a)), (100, [], (jenc e3))]) (jT_big (d := 0) (v := e3) (by omega) (by omega)) (by rfl) (by rfl) (by rfl) (by rfl) trivial (by rfl) (by rfl) (by omega) (by show 23 ≤ 24; omega) (by omega) (by omega) rfl rfl ?_
      refine jT_xaload_n (v := (4, 0)) (pcN := 29) jIQ_214_28 rfl rfl rfl ?_
      refine jT_xgetf (a := 0) (t := 1) (ci := 14) (fi := 8) (c := jzQ_371) (v := (4, 7)) (pcN := 32) jIQ_214_29 rfl rfl rfl rfl rfl rfl rfl ?_
      refine jT_xiload_n (v := (0, 3)) (pcN := 33) jIQ_214_32 rfl rfl rfl ?_
      refine jT_aald (x := 20) (a := 7) (j := 3) (fs := []) (X := [17, 18, 19, 20, 21, 22]) (kd := 130) jIQ_214_33 rfl rfl rfl rfl rfl ?_
      refine jT_eq (LN := [(3, (0, 3)), (2, (4, 23)), (0, (4, 0)), (1, (4, 1))]) (stN := [(4, 20), (4, 24), (4, 23)]) (hsN := [jzQ_371, (101, [], [e0, e1, e2, e3, e4, e5]), jgh, jgh, jgh, jgh, jgh, (130, [], [17, 18, 19, 20, 21, 22]), jgh, jgh, jgh, jgh, jgh, jgh, jgh, jgh, jgh, (100, [], (jenc (jlg 0))), (100, [], (jenc (jlg 1))), (100, [], (jenc (jlg 2))), (100, [], (jenc (jlg 3))), (100, [], (jenc (jlg 4))), (100, [], (jenc (jlg 5))), (100, [], (jenc a)), (100, [], (jenc e3))]) rfl rfl rfl ?_
      refine jT_callA [24, 20] (y := 179) (pcN := 37) (dC := 1) (bc1 := 1) (bc2 := 56) (c1 := (b1 + 7)) (c2 := (b2 + 392)) (as := [(4, 24), (4, 20)]) (asC := [(4, 0), (4, 1)]) (LN := [(3, (0, 3)), (2, (4, 23)), (0, (4, 0)), (1, (4, 1))]) (stN := [(4, 23)]) (hsC := [(100, [], (jenc e3)), (100, [], (jenc (jlg 3)))]) (ex := [(100, [], (jenc (e3 * jlg 3)))]) (v := (4, 2)) (st2 := [(4, 25), (4, 23)]) (hs2 := [jzQ_371, (101, [], [e0, e1, e2, e3, e4, e5]), jgh, jgh, jgh, jgh, jgh, (130, [], [17, 18, 19, 20, 21, 22]), jgh, jgh, jgh, jgh, jgh, jgh, jgh, jgh, jgh, (100, [], (jenc (jlg 0))), (100, [], (jenc (jlg 1))), (100, [], (jenc (jlg 2))), (100, [], (jenc (jlg 3))), (100, [], (jenc (jlg 4))), (100, [], (jenc (jlg 5))), (100, [], (jenc a)), (100, [], (jenc e3)), (100, [], (jenc (e3 * jlg 3)))]) (jT_product (d := 0) (a := e3) (b := jlg 3) (jb54 (by omega) (by omega)) hp.1) (by rfl) (by rfl) (by rfl) (by rfl) ⟨rfl, rfl, trivial⟩ (by rfl) (by rfl) (by omega) (by show 23 ≤ 25; omega) (by omega) (by omega) rfl rfl ?_
      refine jT_callA [23, 25] (y := 181) (pcN := 40) (dC := 1) (bc1 := 1) (bc2 := 56) (c1 := (b1 + 6)) (c2 := (b2 + 336)) (as := [(4, 23), (4, 25)]) (asC := [(4, 0), (4, 1)]) (LN := [(3, (0, 3)), (2, (4, 23)), (0, (4, 0)), (1, (4, 1))]) (stN := []) (hsC := [(100, [], (jenc a)), (100, [], (jenc (e3 * jlg 3)))]) (ex := [(100, [], (jenc (a + (e3 * jlg 3))))]) (v := (4, 2)) (st2 := [(4, 26)]) (hs2 := [jzQ_371, (101, [], [e0, e1, e2, e3, e4, e5]), jgh, jgh, jgh, jgh, jgh, (130, [], [17, 18, 19, 20, 21, 22]), jgh, jgh, jgh, jgh, jgh, jgh, jgh, jgh, jgh, (100, [], (jenc (jlg 0))), (100, [], (jenc (jlg 1))), (100, [], (jenc (jlg 2))), (100, [], (jenc (jlg 3))), (100, [], (jenc (jlg 4))), (100, [], (jenc (jlg 5))), (100, [], (jenc a)), (100, [], (jenc e3)), (100, [], (jenc (e3 * jlg 3))), (100, [], (jenc (a + (e3 * jlg 3))))]) (jT_added (d := 0) (a := a) (b := e3 * jlg 3) ga hp.2.1 (jb54k ha (by decide)) hp.1 (jb54a ha hp.2.2 (by decide))) (by rfl) (by rfl) (by rfl) (by rfl) ⟨rfl, rfl, trivial⟩ (by rfl) (by rfl) (by omega) (by show 23 ≤ 26; omega) (by omega) (by omega) rfl rfl ?_
      refine jT_xastore_n (v := (4, 26)) (LN := [(2, (4, 26)), (3, (0, 3)), (0, (4, 0)), (1, (4, 1))]) (pcN := 41) jIQ_214_40 rfl rfl rfl rfl ?_
      refine jT_xiinc (x := 3) (z := 4) (LN := [(3, (0, 4)), (2, (4, 26)), (0, (4, 0)), (1, (4, 1))]) (pcN := 44) jIQ_214_41 rfl rfl (by decide) rfl rfl ?_
      refine jT_xgoto (pcN := 7) jIQ_214_44 rfl ?_
      refine jT_loc (LN := [(3, (0, 4)), (2, (4, 26)), (0, (4, 0)), (1, (4, 1))]) (by show List.Nodup [3, 2, 0, 1]; decide) (by intro q hq; simp only [List.mem_cons, List.not_mem_nil, or_false] at hq; rcases hq with rfl | rfl | rfl | rfl <;> rfl) ?_
      refine jT_gc [0, 1, 2, 3, 4, 5, 6, 7, 8, 9, 10, 11, 12, 13, 14, 15, 16, 17, 18, 19, 20, 21, 22, 26] (hs0 := [jzQ_371, (101, [], [e0, e1, e2, e3, e4, e5]), jgh, jgh, jgh, jgh, jgh, (130, [], [17, 18, 19, 20, 21, 22]), jgh, jgh, jgh, jgh, jgh, jgh, jgh, jgh, jgh, (100, [], (jenc (jlg 0))), (100, [], (jenc (jlg 1))), (100, [], (jenc (jlg 2))), (100, [], (jenc (jlg 3))), (100, [], (jenc (jlg 4))), (100, [], (jenc (jlg 5))), (100, [], jenc (a + (e3 * jlg 3)))]) (L0 := [(3, (0, 4)), (2, (4, 23)), (0, (4, 0)), (1, (4, 1))]) (st0 := []) (by show jgB [0, 1, 2, 3, 4, 5, 6, 7, 8, 9, 10, 11, 12, 13, 14, 15, 16, 17, 18, 19, 20, 21, 22, 26] 27 = true; decide +kernel) rfl ⟨rfl, rfl, rfl, rfl, rfl, rfl, rfl, rfl, rfl, rfl, rfl, rfl, rfl, rfl, rfl, rfl, rfl, rfl, rfl, rfl, rfl, rfl, rfl, rfl, trivial⟩ rfl rfl (by decide +kernel) ?_
      exact jT.mono (jQl_lg_150_4 hd h_e0 h_e1 h_e2 h_e3 h_e4 h_e5 (jb1c ha hp.2.2 (by decide)) (by rw [← Int.add_assoc] at hw; exact hw) h) (Nat.le_refl _) (by omega) (by omega) (fun _ _ _ z => z)
theorem jQl_lg_150_2 {xs : List Int} {d b1 b2 : Nat} {Q : Nat → JV → List JC → Prop} (hd : 1 < d) {a w e0 e1 e2 e3 e4 e5 : Int} (h_e0 : -4611686018427387903 ≤ e0 ∧ e0 ≤ 4611686018427387903) (h_e1 : -4611686018427387903 ≤ e1 ∧ e1 ≤ 4611686018427387903) (h_e2 : -4611686018427387903 ≤ e2 ∧ e2 ≤ 4611686018427387903) (h_e3 : -4611686018427387903 ≤ e3 ∧ e3 ≤ 4611686018427387903) (h_e4 : -4611686018427387903 ≤ e4 ∧ e4 ≤ 4611686018427387903) (h_e5 : -4611686018427387903 ≤ e5 ∧ e5 ≤ 4611686018427387903) (ha : a.natAbs ≤ 2 * 10 ^ 220) (hw : a + (e2 * jlg 2 + (e3 * jlg 3 + (e4 * jlg 4 + (e5 * jlg 5)))) = w) (h : jT xs d 214 23 47 [(2, (4, 23))] [] [jzQ_371, (101, [], [e0, e1, e2, e3, e4, e5]), jgh, jgh, jgh, jgh, jgh, (130, [], [17, 18, 19, 20, 21, 22]), jgh, jgh, jgh, jgh, jgh, jgh, jgh, jgh, jgh, (100, [], (jenc (jlg 0))), (100, [], (jenc (jlg 1))), (100, [], (jenc (jlg 2))), (100, [], (jenc (jlg 3))), (100, [], (jenc (jlg 4))), (100, [], (jenc (jlg 5))), (100, [], jenc w)] b1 b2 Q) : jT xs d 214 23 7 [(3, (0, 2)), (2, (4, 23)), (0, (4, 0)), (1, (4, 1))] [] [jzQ_371, (101, [], [e0, e1, e2, e3, e4, e5]), jgh, jgh, jgh, jgh, jgh, (130, [], [17, 18, 19, 20, 21, 22]), jgh, jgh, jgh, jgh, jgh, jgh, jgh, jgh, jgh, (100, [], (jenc (jlg 0))), (100, [], (jenc (jlg 1))), (100, [], (jenc (jlg 2))), (100, [], (jenc (jlg 3))), (100, [], (jenc (jlg 4))), (100, [], (jenc (jlg 5))), (100, [], jenc a)] (b1 + 12) (b2 + 672) Q := by
  rcases (show (e2 < 0) ∨ (e2 = 0) ∨ (0 < e2) by omega) with g_0 | g_0 | g_0
  · have hp := jlz_m (k := 2) (e := e2) (by decide) (by omega) (by omega)
    rcases (show (a = 0) ∨ (a ≠ 0) by omega) with ga | ga
    · subst ga
      refine jT_xiload_n (v := (0, 2)) (pcN := 8) jIQ_214_7 rfl rfl rfl ?_
      refine jT_xbipush (k := 6) (pcN := 10) jIQ_214_8 (by decide) rfl ?_
      refine jT_xicF (t := 47) (pcN := 13) jIQ_214_10 rfl (by decide +kernel) rfl rfl ?_
      refine jT_xaload_n (v := (4, 1)) (pcN := 14) jIQ_214_13 rfl rfl rfl ?_
      refine jT_xiload_n (v := (0, 2)) (pcN := 15) jIQ_214_14 rfl rfl rfl ?_
      refine jT_lald (x := e2) (a := 1) (j := 2) (fs := []) (X := [e0, e1, e2, e3, e4, e5]) jIQ_214_15 rfl rfl rfl rfl ?_
      refine jT_eq (LN := [(3, (0, 2)), (2, (4, 23)), (0, (4, 0)), (1, (4, 1))]) (stN := [(1, e2)]) (hsN := [jzQ_371, (101, [], [e0, e1, e2, e3, e4, e5]), jgh, jgh, jgh, jgh, jgh, (130, [], [17, 18, 19, 20, 21, 22]), jgh, jgh, jgh, jgh, jgh, jgh, jgh, jgh, jgh, (100, [], (jenc (jlg 0))), (100, [], (jenc (jlg 1))), (100, [], (jenc (jlg 2))), (100, [], (jenc (jlg 3))), (100, [], (jenc (jlg 4))), (100, [], (jenc (jlg 5))), (100, [], (jenc 0))]) rfl rfl rfl ?_
      refine jT_xlconst (z := 0) (pcN := 17) jIQ_214_16 rfl rfl ?_
      refine jT_lcmp (a := e2) (b := 0) (z := (-1)) (by rfl) (by rfl) (jwl_idd (by omega) (by omega)) (jwl_idd (by omega) (by omega)) (by rw [decide_eq_false (show ¬ ((0 : Int) < e2) by omega), decide_eq_false (show ¬ ((e2 : Int) = 0) by omega)]; rfl) ?_
      refine jT_xifF (t := 41) (pcN := 21) jIQ_214_18 rfl (by decide +kernel) rfl rfl ?_
      refine jT_xaload_n (v := (4, 23)) (pcN := 22) jIQ_214_21 rfl rfl rfl ?_
      refine jT_xaload_n (v := (4, 1)) (pcN := 23) jIQ_214_22 rfl rfl rfl ?_
      refine jT_xiload_n (v := (0, 2)) (pcN := 24) jIQ_214_23 rfl rfl rfl ?_
      refine jT_lald (x := e2) (a := 1) (j := 2) (fs := []) (X := [e0, e1, e2, e3, e4, e5]) jIQ_214_24 rfl rfl rfl rfl ?_
      refine jT_eq (LN := [(3, (0, 2)), (2, (4, 23)), (0, (4, 0)), (1, (4, 1))]) (stN := [(1, e2), (4, 23)]) (hsN := [jzQ_371, (101, [], [e0, e1, e2, e3, e4, e5]), jgh, jgh, jgh, jgh, jgh, (130, [], [17, 18, 19, 20, 21, 22]), jgh, jgh, jgh, jgh, jgh, jgh, jgh, jgh, jgh, (100, [], (jenc (jlg 0))), (100, [], (jenc (jlg 1))), (100, [], (jenc (jlg 2))), (100, [], (jenc (jlg 3))), (100, [], (jenc (jlg 4))), (100, [], (jenc (jlg 5))), (100, [], (jenc 0))]) rfl rfl rfl ?_
      refine jT_callA [] (y := 178) (pcN := 28) (dC := 1) (bc1 := 1) (bc2 := 56) (c1 := (b1 + 11)) (c2 := (b2 + 616)) (as := [(1, e2)]) (asC := [(1, e2)]) (LN := [(3, (0, 2)), (2, (4, 23)), (0, (4, 0)), (1, (4, 1))]) (stN := [(4, 23)]) (hsC := []) (ex := [(100, [], (jenc e2))]) (v := (4, 0)) (st2 := [(4, 24), (4, 23)]) (hs2 := [jzQ_371, (101, [], [e0, e1, e2, e3, e4, e5]), jgh, jgh, jgh, jgh, jgh, (130, [], [17, 18, 19, 20, 21, 22]), jgh, jgh, jgh, jgh, jgh, jgh, jgh, jgh, jgh, (100, [], (jenc (jlg 0))), (100, [], (jenc (jlg 1))), (100, [], (jenc (jlg 2))), (100, [], (jenc (jlg 3))), (100, [], (jenc (jlg 4))), (100, [], (jenc (jlg 5))), (100, [], (jenc 0)), (100, [], (jenc e2))]) (jT_big (d := 0) (v := e2) (by omega) (by omega)) (by rfl) (by rfl) (by rfl) (by rfl) trivial (by rfl) (by rfl) (by omega) (by show 23 ≤ 24; omega) (by omega) (by omega) rfl rfl ?_
      refine jT_xaload_n (v := (4, 0)) (pcN := 29) jIQ_214_28 rfl rfl rfl ?_
      refine jT_xgetf (a := 0) (t := 1) (ci := 14) (fi := 8) (c := jzQ_371) (v := (4, 7)) (pcN := 32) jIQ_214_29 rfl rfl rfl rfl rfl rfl rfl ?_
      refine jT_xiload_n (v := (0, 2)) (pcN := 33) jIQ_214_32 rfl rfl rfl ?_
      refine jT_aald (x := 19) (a := 7) (j := 2) (fs := []) (X := [17, 18, 19, 20, 21, 22]) (kd := 130) jIQ_214_33 rfl rfl rfl rfl rfl ?_
      refine jT_eq (LN := [(3, (0, 2)), (2, (4, 23)), (0, (4, 0)), (1, (4, 1))]) (stN := [(4, 19), (4, 24), (4, 23)]) (hsN := [jzQ_371, (101, [], [e0, e1, e2, e3, e4, e5]), jgh, jgh, jgh, jgh, jgh, (130, [], [17, 18, 19, 20, 21, 22]), jgh, jgh, jgh, jgh, jgh, jgh, jgh, jgh, jgh, (100, [], (jenc (jlg 0))), (100, [], (jenc (jlg 1))), (100, [], (jenc (jlg 2))), (100, [], (jenc (jlg 3))), (100, [], (jenc (jlg 4))), (100, [], (jenc (jlg 5))), (100, [], (jenc 0)), (100, [], (jenc e2))]) rfl rfl rfl ?_
      refine jT_callA [24, 19] (y := 179) (pcN := 37) (dC := 1) (bc1 := 1) (bc2 := 56) (c1 := (b1 + 10)) (c2 := (b2 + 560)) (as := [(4, 24), (4, 19)]) (asC := [(4, 0), (4, 1)]) (LN := [(3, (0, 2)), (2, (4, 23)), (0, (4, 0)), (1, (4, 1))]) (stN := [(4, 23)]) (hsC := [(100, [], (jenc e2)), (100, [], (jenc (jlg 2)))]) (ex := [(100, [], (jenc (e2 * jlg 2)))]) (v := (4, 2)) (st2 := [(4, 25), (4, 23)]) (hs2 := [jzQ_371, (101, [], [e0, e1, e2, e3, e4, e5]), jgh, jgh, jgh, jgh, jgh, (130, [], [17, 18, 19, 20, 21, 22]), jgh, jgh, jgh, jgh, jgh, jgh, jgh, jgh, jgh, (100, [], (jenc (jlg 0))), (100, [], (jenc (jlg 1))), (100, [], (jenc (jlg 2))), (100, [], (jenc (jlg 3))), (100, [], (jenc (jlg 4))), (100, [], (jenc (jlg 5))), (100, [], (jenc 0)), (100, [], (jenc e2)), (100, [], (jenc (e2 * jlg 2)))]) (jT_product (d := 0) (a := e2) (b := jlg 2) (jb54 (by omega) (by omega)) hp.1) (by rfl) (by rfl) (by rfl) (by rfl) ⟨rfl, rfl, trivial⟩ (by rfl) (by rfl) (by omega) (by show 23 ≤ 25; omega) (by omega) (by omega) rfl rfl ?_
      refine jT_callA [23, 25] (y := 181) (pcN := 40) (dC := 0) (bc1 := 0) (bc2 := 0) (c1 := (b1 + 10)) (c2 := (b2 + 560)) (as := [(4, 23), (4, 25)]) (asC := [(4, 0), (4, 1)]) (LN := [(3, (0, 2)), (2, (4, 23)), (0, (4, 0)), (1, (4, 1))]) (stN := []) (hsC := [(100, [], (jenc 0)), (100, [], (jenc (e2 * jlg 2)))]) (ex := []) (v := (4, 1)) (st2 := [(4, 25)]) (hs2 := [jzQ_371, (101, [], [e0, e1, e2, e3, e4, e5]), jgh, jgh, jgh, jgh, jgh, (130, [], [17, 18, 19, 20, 21, 22]), jgh, jgh, jgh, jgh, jgh, jgh, jgh, jgh, jgh, (100, [], (jenc (jlg 0))), (100, [], (jenc (jlg 1))), (100, [], (jenc (jlg 2))), (100, [], (jenc (jlg 3))), (100, [], (jenc (jlg 4))), (100, [], (jenc (jlg 5))), (100, [], (jenc 0)), (100, [], (jenc e2)), (100, [], (jenc (e2 * jlg 2)))]) (jT_added_0l (d := 0) (b := e2 * jlg 2)) (by rfl) (by rfl) (by rfl) (by rfl) ⟨rfl, rfl, trivial⟩ (by rfl) (by rfl) (by omega) (by show 23 ≤ 26; omega) (by omega) (by omega) rfl rfl ?_
      refine jT_xastore_n (v := (4, 25)) (LN := [(2, (4, 25)), (3, (0, 2)), (0, (4, 0)), (1, (4, 1))]) (pcN := 41) jIQ_214_40 rfl rfl rfl rfl ?_
      refine jT_xiinc (x := 2) (z := 3) (LN := [(3, (0, 3)), (2, (4, 25)), (0, (4, 0)), (1, (4, 1))]) (pcN := 44) jIQ_214_41 rfl rfl (by decide) rfl rfl ?_
      refine jT_xgoto (pcN := 7) jIQ_214_44 rfl ?_
      refine jT_loc (LN := [(3, (0, 3)), (2, (4, 25)), (0, (4, 0)), (1, (4, 1))]) (by show List.Nodup [3, 2, 0, 1]; decide) (by intro q hq; simp only [List.mem_cons, List.not_mem_nil, or_false] at hq; rcases hq with rfl | rfl | rfl | rfl <;> rfl) ?_
      refine jT_gc [0, 1, 2, 3, 4, 5, 6, 7, 8, 9, 10, 11, 12, 13, 14, 15, 16, 17, 18, 19, 20, 21, 22, 25] (hs0 := [jzQ_371, (101, [], [e0, e1, e2, e3, e4, e5]), jgh, jgh, jgh, jgh, jgh, (130, [], [17, 18, 19, 20, 21, 22]), jgh, jgh, jgh, jgh, jgh, jgh, jgh, jgh, jgh, (100, [], (jenc (jlg 0))), (100, [], (jenc (jlg 1))), (100, [], (jenc (jlg 2))), (100, [], (jenc (jlg 3))), (100, [], (jenc (jlg 4))), (100, [], (jenc (jlg 5))), (100, [], jenc (e2 * jlg 2))]) (L0 := [(3, (0, 3)), (2, (4, 23)), (0, (4, 0)), (1, (4, 1))]) (st0 := []) (by show jgB [0, 1, 2, 3, 4, 5, 6, 7, 8, 9, 10, 11, 12, 13, 14, 15, 16, 17, 18, 19, 20, 21, 22, 25] 26 = true; decide +kernel) rfl ⟨rfl, rfl, rfl, rfl, rfl, rfl, rfl, rfl, rfl, rfl, rfl, rfl, rfl, rfl, rfl, rfl, rfl, rfl, rfl, rfl, rfl, rfl, rfl, rfl, trivial⟩ rfl rfl (by decide +kernel) ?_
      exact jT.mono (jQl_lg_150_3 hd h_e0 h_e1 h_e2 h_e3 h_e4 h_e5 (Nat.le_trans hp.2.2 (by decide)) (by rw [Int.zero_add] at hw; exact hw) h) (Nat.le_refl _) (by omega) (by omega) (fun _ _ _ z => z)
    · refine jT_xiload_n (v := (0, 2)) (pcN := 8) jIQ_214_7 rfl rfl rfl ?_
      refine jT_xbipush (k := 6) (pcN := 10) jIQ_214_8 (by decide) rfl ?_
      refine jT_xicF (t := 47) (pcN := 13) jIQ_214_10 rfl (by decide +kernel) rfl rfl ?_
      refine jT_xaload_n (v := (4, 1)) (pcN := 14) jIQ_214_13 rfl rfl rfl ?_
      refine jT_xiload_n (v := (0, 2)) (pcN := 15) jIQ_214_14 rfl rfl rfl ?_
      refine jT_lald (x := e2) (a := 1) (j := 2) (fs := []) (X := [e0, e1, e2, e3, e4, e5]) jIQ_214_15 rfl rfl rfl rfl ?_
      refine jT_eq (LN := [(3, (0, 2)), (2, (4, 23)), (0, (4, 0)), (1, (4, 1))]) (stN := [(1, e2)]) (hsN := [jzQ_371, (101, [], [e0, e1, e2, e3, e4, e5]), jgh, jgh, jgh, jgh, jgh, (130, [], [17, 18, 19, 20, 21, 22]), jgh, jgh, jgh, jgh, jgh, jgh, jgh, jgh, jgh, (100, [], (jenc (jlg 0))), (100, [], (jenc (jlg 1))), (100, [], (jenc (jlg 2))), (100, [], (jenc (jlg 3))), (100, [], (jenc (jlg 4))), (100, [], (jenc (jlg 5))), (100, [], (jenc a))]) rfl rfl rfl ?_
      refine jT_xlconst (z := 0) (pcN := 17) jIQ_214_16 rfl rfl ?_
      refine jT_lcmp (a := e2) (b := 0) (z := (-1)) (by rfl) (by rfl) (jwl_idd (by omega) (by omega)) (jwl_idd (by omega) (by omega)) (by rw [decide_eq_false (show ¬ ((0 : Int) < e2) by omega), decide_eq_false (show ¬ ((e2 : Int) = 0) by omega)]; rfl) ?_
      refine jT_xifF (t := 41) (pcN := 21) jIQ_214_18 rfl (by decide +kernel) rfl rfl ?_
      refine jT_xaload_n (v := (4, 23)) (pcN := 22) jIQ_214_21 rfl rfl rfl ?_
      refine jT_xaload_n (v := (4, 1)) (pcN := 23) jIQ_214_22 rfl rfl rfl ?_
      refine jT_xiload_n (v := (0, 2)) (pcN := 24) jIQ_214_23 rfl rfl rfl ?_
      refine jT_lald (x := e2) (a := 1) (j := 2) (fs := []) (X := [e0, e1, e2, e3, e4, e5]) jIQ_214_24 rfl rfl rfl rfl ?_
      refine jT_eq (LN := [(3, (0, 2)), (2, (4, 23)), (0, (4, 0)), (1, (4, 1))]) (stN := [(1, e2), (4, 23)]) (hsN := [jzQ_371, (101, [], [e0, e1, e2, e3, e4, e5]), jgh, jgh, jgh, jgh, jgh, (130, [], [17, 18, 19, 20, 21, 22]), jgh, jgh, jgh, jgh, jgh, jgh, jgh, jgh, jgh, (100, [], (jenc (jlg 0))), (100, [], (jenc (jlg 1))), (100, [], (jenc (jlg 2))), (100, [], (jenc (jlg 3))), (100, [], (jenc (jlg 4))), (100, [], (jenc (jlg 5))), (100, [], (jenc a))]) rfl rfl rfl ?_
      refine jT_callA [] (y := 178) (pcN := 28) (dC := 1) (bc1 := 1) (bc2 := 56) (c1 := (b1 + 11)) (c2 := (b2 + 616)) (as := [(1, e2)]) (asC := [(1, e2)]) (LN := [(3, (0, 2)), (2, (4, 23)), (0, (4, 0)), (1, (4, 1))]) (stN := [(4, 23)]) (hsC := []) (ex := [(100, [], (jenc e2))]) (v := (4, 0)) (st2 := [(4, 24), (4, 23)]) (hs2 := [jzQ_371, (101, [], [e0, e1, e2, e3, e4, e5]), jgh, jgh, jgh, jgh, jgh, (130, [], [17, 18, 19, 20, 21, 22]), jgh, jgh, jgh, jgh, jgh, jgh, jgh, jgh, jgh, (100, [], (jenc (jlg 0))), (100, [], (jenc (jlg 1))), (100, [], (jenc (jlg 2))), (100, [], (jenc (jlg 3))), (100, [], (jenc (jlg 4))), (100, [], (jenc (jlg 5))), (100, [], (jenc a)), (100, [], (jenc e2))]) (jT_big (d := 0) (v := e2) (by omega) (by omega)) (by rfl) (by rfl) (by rfl) (by rfl) trivial (by rfl) (by rfl) (by omega) (by show 23 ≤ 24; omega) (by omega) (by omega) rfl rfl ?_
      refine jT_xaload_n (v := (4, 0)) (pcN := 29) jIQ_214_28 rfl rfl rfl ?_
      refine jT_xgetf (a := 0) (t := 1) (ci := 14) (fi := 8) (c := jzQ_371) (v := (4, 7)) (pcN := 32) jIQ_214_29 rfl rfl rfl rfl rfl rfl rfl ?_
      refine jT_xiload_n (v := (0, 2)) (pcN := 33) jIQ_214_32 rfl rfl rfl ?_
      refine jT_aald (x := 19) (a := 7) (j := 2) (fs := []) (X := [17, 18, 19, 20, 21, 22]) (kd := 130) jIQ_214_33 rfl rfl rfl rfl rfl ?_
      refine jT_eq (LN := [(3, (0, 2)), (2, (4, 23)), (0, (4, 0)), (1, (4, 1))]) (stN := [(4, 19), (4, 24), (4, 23)]) (hsN := [jzQ_371, (101, [], [e0, e1, e2, e3, e4, e5]), jgh, jgh, jgh, jgh, jgh, (130, [], [17, 18, 19, 20, 21, 22]), jgh, jgh, jgh, jgh, jgh, jgh, jgh, jgh, jgh, (100, [], (jenc (jlg 0))), (100, [], (jenc (jlg 1))), (100, [], (jenc (jlg 2))), (100, [], (jenc (jlg 3))), (100, [], (jenc (jlg 4))), (100, [], (jenc (jlg 5))), (100, [], (jenc a)), (100, [], (jenc e2))]) rfl rfl rfl ?_
      refine jT_callA [24, 19] (y := 179) (pcN := 37) (dC := 1) (bc1 := 1) (bc2 := 56) (c1 := (b1 + 10)) (c2 := (b2 + 560)) (as := [(4, 24), (4, 19)]) (asC := [(4, 0), (4, 1)]) (LN := [(3, (0, 2)), (2, (4, 23)), (0, (4, 0)), (1, (4, 1))]) (stN := [(4, 23)]) (hsC := [(100, [], (jenc e2)), (100, [], (jenc (jlg 2)))]) (ex := [(100, [], (jenc (e2 * jlg 2)))]) (v := (4, 2)) (st2 := [(4, 25), (4, 23)]) (hs2 := [jzQ_371, (101, [], [e0, e1, e2, e3, e4, e5]), jgh, jgh, jgh, jgh, jgh, (130, [], [17, 18, 19, 20, 21, 22]), jgh, jgh, jgh, jgh, jgh, jgh, jgh, jgh, jgh, (100, [], (jenc (jlg 0))), (100, [], (jenc (jlg 1))), (100, [], (jenc (jlg 2))), (100, [], (jenc (jlg 3))), (100, [], (jenc (jlg 4))), (100, [], (jenc (jlg 5))), (100, [], (jenc a)), (100, [], (jenc e2)), (100, [], (jenc (e2 * jlg 2)))]) (jT_product (d := 0) (a := e2) (b := jlg 2) (jb54 (by omega) (by omega)) hp.1) (by rfl) (by rfl) (by rfl) (by rfl) ⟨rfl, rfl, trivial⟩ (by rfl) (by rfl) (by omega) (by show 23 ≤ 25; omega) (by omega) (by omega) rfl rfl ?_
      refine jT_callA [23, 25] (y := 181) (pcN := 40) (dC := 1) (bc1 := 1) (bc2 := 56) (c1 := (b1 + 9)) (c2 := (b2 + 504)) (as := [(4, 23), (4, 25)]) (asC := [(4, 0), (4, 1)]) (LN := [(3, (0, 2)), (2, (4, 23)), (0, (4, 0)), (1, (4, 1))]) (stN := []) (hsC := [(100, [], (jenc a)), (100, [], (jenc (e2 * jlg 2)))]) (ex := [(100, [], (jenc (a + (e2 * jlg 2))))]) (v := (4, 2)) (st2 := [(4, 26)]) (hs2 := [jzQ_371, (101, [], [e0, e1, e2, e3, e4, e5]), jgh, jgh, jgh, jgh, jgh, (130, [], [17, 18, 19, 20, 21, 22]), jgh, jgh, jgh, jgh, jgh, jgh, jgh, jgh, jgh, (100, [], (jenc (jlg 0))), (100, [], (jenc (jlg 1))), (100, [], (jenc (jlg 2))), (100, [], (jenc (jlg 3))), (100, [], (jenc (jlg 4))), (100, [], (jenc (jlg 5))), (100, [], (jenc a)), (100, [], (jenc e2)), (100, [], (jenc (e2 * jlg 2))), (100, [], (jenc (a + (e2 * jlg 2))))]) (jT_added (d := 0) (a := a) (b := e2 * jlg 2) ga hp.2.1 (jb54k ha (by decide)) hp.1 (jb54a ha hp.2.2 (by decide))) (by rfl) (by rfl) (by rfl) (by rfl) ⟨rfl, rfl, trivial⟩ (by rfl) (by rfl) (by omega) (by show 23 ≤ 26; omega) (by omega) (by omega) rfl rfl ?_
      refine jT_xastore_n (v := (4, 26)) (LN := [(2, (4, 26)), (3, (0, 2)), (0, (4, 0)), (1, (4, 1))]) (pcN := 41) jIQ_214_40 rfl rfl rfl rfl ?_
      refine jT_xiinc (x := 2) (z := 3) (LN := [(3, (0, 3)), (2, (4, 26)), (0, (4, 0)), (1, (4, 1))]) (pcN := 44) jIQ_214_41 rfl rfl (by decide) rfl rfl ?_
      refine jT_xgoto (pcN := 7) jIQ_214_44 rfl ?_
      refine jT_loc (LN := [(3, (0, 3)), (2, (4, 26)), (0, (4, 0)), (1, (4, 1))]) (by show List.Nodup [3, 2, 0, 1]; decide) (by intro q hq; simp only [List.mem_cons, List.not_mem_nil, or_false] at hq; rcases hq with rfl | rfl | rfl | rfl <;> rfl) ?_
      refine jT_gc [0, 1, 2, 3, 4, 5, 6, 7, 8, 9, 10, 11, 12, 13, 14, 15, 16, 17, 18, 19, 20, 21, 22, 26] (hs0 := [jzQ_371, (101, [], [e0, e1, e2, e3, e4, e5]), jgh, jgh, jgh, jgh, jgh, (130, [], [17, 18, 19, 20, 21, 22]), jgh, jgh, jgh, jgh, jgh, jgh, jgh, jgh, jgh, (100, [], (jenc (jlg 0))), (100, [], (jenc (jlg 1))), (100, [], (jenc (jlg 2))), (100, [], (jenc (jlg 3))), (100, [], (jenc (jlg 4))), (100, [], (jenc (jlg 5))), (100, [], jenc (a + (e2 * jlg 2)))]) (L0 := [(3, (0, 3)), (2, (4, 23)), (0, (4, 0)), (1, (4, 1))]) (st0 := []) (by show jgB [0, 1, 2, 3, 4, 5, 6, 7, 8, 9, 10, 11, 12, 13, 14, 15, 16, 17, 18, 19, 20, 21, 22, 26] 27 = true; decide +kernel) rfl ⟨rfl, rfl, rfl, rfl, rfl, rfl, rfl, rfl, rfl, rfl, rfl, rfl, rfl, rfl, rfl, rfl, rfl, rfl, rfl, rfl, rfl, rfl, rfl, rfl, trivial⟩ rfl rfl (by decide +kernel) ?_
      exact jT.mono (jQl_lg_150_3 hd h_e0 h_e1 h_e2 h_e3 h_e4 h_e5 (jb1c ha hp.2.2 (by decide)) (by rw [← Int.add_assoc] at hw; exact hw) h) (Nat.le_refl _) (by omega) (by omega) (fun _ _ _ z => z)
  · refine jT_xiload_n (v := (0, 2)) (pcN := 8) jIQ_214_7 rfl rfl rfl ?_
    refine jT_xbipush (k := 6) (pcN := 10) jIQ_214_8 (by decide) rfl ?_
    refine jT_xicF (t := 47) (pcN := 13) jIQ_214_10 rfl (by decide +kernel) rfl rfl ?_
    refine jT_xaload_n (v := (4, 1)) (pcN := 14) jIQ_214_13 rfl rfl rfl ?_
    refine jT_xiload_n (v := (0, 2)) (pcN := 15) jIQ_214_14 rfl rfl rfl ?_
    refine jT_lald (x := e2) (a := 1) (j := 2) (fs := []) (X := [e0, e1, e2, e3, e4, e5]) jIQ_214_15 rfl rfl rfl rfl ?_
    refine jT_eq (LN := [(3, (0, 2)), (2, (4, 23)), (0, (4, 0)), (1, (4, 1))]) (stN := [(1, e2)]) (hsN := [jzQ_371, (101, [], [e0, e1, e2, e3, e4, e5]), jgh, jgh, jgh, jgh, jgh, (130, [], [17, 18, 19, 20, 21, 22]), jgh, jgh, jgh, jgh, jgh, jgh, jgh, jgh, jgh, (100, [], (jenc (jlg 0))), (100, [], (jenc (jlg 1))), (100, [], (jenc (jlg 2))), (100, [], (jenc (jlg 3))), (100, [], (jenc (jlg 4))), (100, [], (jenc (jlg 5))), (100, [], (jenc a))]) rfl rfl rfl ?_
    refine jT_xlconst (z := 0) (pcN := 17) jIQ_214_16 rfl rfl ?_
    refine jT_lcmp (a := e2) (b := 0) (z := 0) (by rfl) (by rfl) (jwl_idd (by omega) (by omega)) (jwl_idd (by omega) (by omega)) (by rw [decide_eq_false (show ¬ ((0 : Int) < e2) by omega), decide_eq_true (show (e2 : Int) = 0 by omega)]; rfl) ?_
    refine jT_xifT (pcN := 41) jIQ_214_18 rfl (by decide +kernel) rfl ?_
    refine jT_xiinc (x := 2) (z := 3) (LN := [(3, (0, 3)), (2, (4, 23)), (0, (4, 0)), (1, (4, 1))]) (pcN := 44) jIQ_214_41 rfl rfl (by decide) rfl rfl ?_
    refine jT_xgoto (pcN := 7) jIQ_214_44 rfl ?_
    refine jT_loc (LN := [(3, (0, 3)), (2, (4, 23)), (0, (4, 0)), (1, (4, 1))]) (by show List.Nodup [3, 2, 0, 1]; decide) (by intro q hq; simp only [List.mem_cons, List.not_mem_nil, or_false] at hq; rcases hq with rfl | rfl | rfl | rfl <;> rfl) ?_
    exact jT.mono (jQl_lg_150_3 hd h_e0 h_e1 h_e2 h_e3 h_e4 h_e5 (by omega) (by rw [g_0, Int.zero_mul] at hw; omega) h) (Nat.le_refl _) (by omega) (by omega) (fun _ _ _ z => z)
  · have hp := jlz_m (k := 2) (e := e2) (by decide) (by omega) (by omega)
    rcases (show (a = 0) ∨ (a ≠ 0) by omega) with ga | ga
    · subst ga
      refine jT_xiload_n (v := (0, 2)) (pcN := 8) jIQ_214_7 rfl rfl rfl ?_
      refine jT_xbipush (k := 6) (pcN := 10) jIQ_214_8 (by decide) rfl ?_
      refine jT_xicF (t := 47) (pcN := 13) jIQ_214_10 rfl (by decide +kernel) rfl rfl ?_
      refine jT_xaload_n (v := (4, 1)) (pcN := 14) jIQ_214_13 rfl rfl rfl ?_
      refine jT_xiload_n (v := (0, 2)) (pcN := 15) jIQ_214_14 rfl rfl rfl ?_
      refine jT_lald (x := e2) (a := 1) (j := 2) (fs := []) (X := [e0, e1, e2, e3, e4, e5]) jIQ_214_15 rfl rfl rfl rfl ?_
      refine jT_eq (LN := [(3, (0, 2)), (2, (4, 23)), (0, (4, 0)), (1, (4, 1))]) (stN := [(1, e2)]) (hsN := [jzQ_371, (101, [], [e0, e1, e2, e3, e4, e5]), jgh, jgh, jgh, jgh, jgh, (130, [], [17, 18, 19, 20, 21, 22]), jgh, jgh, jgh, jgh, jgh, jgh, jgh, jgh, jgh, (100, [], (jenc (jlg 0))), (100, [], (jenc (jlg 1))), (100, [], (jenc (jlg 2))), (100, [], (jenc (jlg 3))), (100, [], (jenc (jlg 4))), (100, [], (jenc (jlg 5))), (100, [], (jenc 0))]) rfl rfl rfl ?_
      refine jT_xlconst (z := 0) (pcN := 17) jIQ_214_16 rfl rfl ?_
      refine jT_lcmp (a := e2) (b := 0) (z := 1) (by rfl) (by rfl) (jwl_idd (by omega) (by omega)) (jwl_idd (by omega) (by omega)) (by rw [decide_eq_true (show (0 : Int) < e2 by omega)]; rfl) ?_
      refine jT_xifF (t := 41) (pcN := 21) jIQ_214_18 rfl (by decide +kernel) rfl rfl ?_
      refine jT_xaload_n (v := (4, 23)) (pcN := 22) jIQ_214_21 rfl rfl rfl ?_
      refine jT_xaload_n (v := (4, 1)) (pcN := 23) jIQ_214_22 rfl rfl rfl ?_
      refine jT_xiload_n (v := (0, 2)) (pcN := 24) jIQ_214_23 rfl rfl rfl ?_
      refine jT_lald (x := e2) (a := 1) (j := 2) (fs := []) (X := [e0, e1, e2, e3, e4, e5]) jIQ_214_24 rfl rfl rfl rfl ?_
      refine jT_eq (LN := [(3, (0, 2)), (2, (4, 23)), (0, (4, 0)), (1, (4, 1))]) (stN := [(1, e2), (4, 23)]) (hsN := [jzQ_371, (101, [], [e0, e1, e2, e3, e4, e5]), jgh, jgh, jgh, jgh, jgh, (130, [], [17, 18, 19, 20, 21, 22]), jgh, jgh, jgh, jgh, jgh, jgh, jgh, jgh, jgh, (100, [], (jenc (jlg 0))), (100, [], (jenc (jlg 1))), (100, [], (jenc (jlg 2))), (100, [], (jenc (jlg 3))), (100, [], (jenc (jlg 4))), (100, [], (jenc (jlg 5))), (100, [], (jenc 0))]) rfl rfl rfl ?_
      refine jT_callA [] (y := 178) (pcN := 28) (dC := 1) (bc1 := 1) (bc2 := 56) (c1 := (b1 + 11)) (c2 := (b2 + 616)) (as := [(1, e2)]) (asC := [(1, e2)]) (LN := [(3, (0, 2)), (2, (4, 23)), (0, (4, 0)), (1, (4, 1))]) (stN := [(4, 23)]) (hsC := []) (ex := [(100, [], (jenc e2))]) (v := (4, 0)) (st2 := [(4, 24), (4, 23)]) (hs2 := [jzQ_371, (101, [], [e0, e1, e2, e3, e4, e5]), jgh, jgh, jgh, jgh, jgh, (130, [], [17, 18, 19, 20, 21, 22]), jgh, jgh, jgh, jgh, jgh, jgh, jgh, jgh, jgh, (100, [], (jenc (jlg 0))), (100, [], (jenc (jlg 1))), (100, [], (jenc (jlg 2))), (100, [], (jenc (jlg 3))), (100, [], (jenc (jlg 4))), (100, [], (jenc (jlg 5))), (100, [], (jenc 0)), (100, [], (jenc e2))]) (jT_big (d := 0) (v := e2) (by omega) (by omega)) (by rfl) (by rfl) (by rfl) (by rfl) trivial (by rfl) (by rfl) (by omega) (by show 23 ≤ 24; omega) (by omega) (by omega) rfl rfl ?_
      refine jT_xaload_n (v := (4, 0)) (pcN := 29) jIQ_214_28 rfl rfl rfl ?_
      refine jT_xgetf (a := 0) (t := 1) (ci := 14) (fi := 8) (c := jzQ_371) (v := (4, 7)) (pcN := 32) jIQ_214_29 rfl rfl rfl rfl rfl rfl rfl ?_
      refine jT_xiload_n (v := (0, 2)) (pcN := 33) jIQ_214_32 rfl rfl rfl ?_
      refine jT_aald (x := 19) (a := 7) (j := 2) (fs := []) (X := [17, 18, 19, 20, 21, 22]) (kd := 130) jIQ_214_33 rfl rfl rfl rfl rfl ?_
      refine jT_eq (LN := [(3, (0, 2)), (2, (4, 23)), (0, (4, 0)), (1, (4, 1))]) (stN := [(4, 19), (4, 24), (4, 23)]) (hsN := [jzQ_371, (101, [], [e0, e1, e2, e3, e4, e5]), jgh, jgh, jgh, jgh, jgh, (130, [], [17, 18, 19, 20, 21, 22]), jgh, jgh, jgh, jgh, jgh, jgh, jgh, jgh, jgh, (100, [], (jenc (jlg 0))), (100, [], (jenc (jlg 1))), (100, [], (jenc (jlg 2))), (100, [], (jenc (jlg 3))), (100, [], (jenc (jlg 4))), (100, [], (jenc (jlg 5))), (100, [], (jenc 0)), (100, [], (jenc e2))]) rfl rfl rfl ?_
      refine jT_callA [24, 19] (y := 179) (pcN := 37) (dC := 1) (bc1 := 1) (bc2 := 56) (c1 := (b1 + 10)) (c2 := (b2 + 560)) (as := [(4, 24), (4, 19)]) (asC := [(4, 0), (4, 1)]) (LN := [(3, (0, 2)), (2, (4, 23)), (0, (4, 0)), (1, (4, 1))]) (stN := [(4, 23)]) (hsC := [(100, [], (jenc e2)), (100, [], (jenc (jlg 2)))]) (ex := [(100, [], (jenc (e2 * jlg 2)))]) (v := (4, 2)) (st2 := [(4, 25), (4, 23)]) (hs2 := [jzQ_371, (101, [], [e0, e1, e2, e3, e4, e5]), jgh, jgh, jgh, jgh, jgh, (130, [], [17, 18, 19, 20, 21, 22]), jgh, jgh, jgh, jgh, jgh, jgh, jgh, jgh, jgh, (100, [], (jenc (jlg 0))), (100, [], (jenc (jlg 1))), (100, [], (jenc (jlg 2))), (100, [], (jenc (jlg 3))), (100, [], (jenc (jlg 4))), (100, [], (jenc (jlg 5))), (100, [], (jenc 0)), (100, [], (jenc e2)), (100, [], (jenc (e2 * jlg 2)))]) (jT_product (d := 0) (a := e2) (b := jlg 2) (jb54 (by omega) (by omega)) hp.1) (by rfl) (by rfl) (by rfl) (by rfl) ⟨rfl, rfl, trivial⟩ (by rfl) (by rfl) (by omega) (by show 23 ≤ 25; omega) (by omega) (by omega) rfl rfl ?_
      refine jT_callA [23, 25] (y := 181) (pcN := 40) (dC := 0) (bc1 := 0) (bc2 := 0) (c1 := (b1 + 10)) (c2 := (b2 + 560)) (as := [(4, 23), (4, 25)]) (asC := [(4, 0), (4, 1)]) (LN := [(3, (0, 2)), (2, (4, 23)), (0, (4, 0)), (1, (4, 1))]) (stN := []) (hsC := [(100, [], (jenc 0)), (100, [], (jenc (e2 * jlg 2)))]) (ex := []) (v := (4, 1)) (st2 := [(4, 25)]) (hs2 := [jzQ_371, (101, [], [e0, e1, e2, e3, e4, e5]), jgh, jgh, jgh, jgh, jgh, (130, [], [17, 18, 19, 20, 21, 22]), jgh, jgh, jgh, jgh, jgh, jgh, jgh, jgh, jgh, (100, [], (jenc (jlg 0))), (100, [], (jenc (jlg 1))), (100, [], (jenc (jlg 2))), (100, [], (jenc (jlg 3))), (100, [], (jenc (jlg 4))), (100, [], (jenc (jlg 5))), (100, [], (jenc 0)), (100, [], (jenc e2)), (100, [], (jenc (e2 * jlg 2)))]) (jT_added_0l (d := 0) (b := e2 * jlg 2)) (by rfl) (by rfl) (by rfl) (by rfl) ⟨rfl, rfl, trivial⟩ (by rfl) (by rfl) (by omega) (by show 23 ≤ 26; omega) (by omega) (by omega) rfl rfl ?_
      refine jT_xastore_n (v := (4, 25)) (LN := [(2, (4, 25)), (3, (0, 2)), (0, (4, 0)), (1, (4, 1))]) (pcN := 41) jIQ_214_40 rfl rfl rfl rfl ?_
      refine jT_xiinc (x := 2) (z := 3) (LN := [(3, (0, 3)), (2, (4, 25)), (0, (4, 0)), (1, (4, 1))]) (pcN := 44) jIQ_214_41 rfl rfl (by decide) rfl rfl ?_
      refine jT_xgoto (pcN := 7) jIQ_214_44 rfl ?_
      refine jT_loc (LN := [(3, (0, 3)), (2, (4, 25)), (0, (4, 0)), (1, (4, 1))]) (by show List.Nodup [3, 2, 0, 1]; decide) (by intro q hq; simp only [List.mem_cons, List.not_mem_nil, or_false] at hq; rcases hq with rfl | rfl | rfl | rfl <;> rfl) ?_
      refine jT_gc [0, 1, 2, 3, 4, 5, 6, 7, 8, 9, 10, 11, 12, 13, 14, 15, 16, 17, 18, 19, 20, 21, 22, 25] (hs0 := [jzQ_371, (101, [], [e0, e1, e2, e3, e4, e5]), jgh, jgh, jgh, jgh, jgh, (130, [], [17, 18, 19, 20, 21, 22]), jgh, jgh, jgh, jgh, jgh, jgh, jgh, jgh, jgh, (100, [], (jenc (jlg 0))), (100, [], (jenc (jlg 1))), (100, [], (jenc (jlg 2))), (100, [], (jenc (jlg 3))), (100, [], (jenc (jlg 4))), (100, [], (jenc (jlg 5))), (100, [], jenc (e2 * jlg 2))]) (L0 := [(3, (0, 3)), (2, (4, 23)), (0, (4, 0)), (1, (4, 1))]) (st0 := []) (by show jgB [0, 1, 2, 3, 4, 5, 6, 7, 8, 9, 10, 11, 12, 13, 14, 15, 16, 17, 18, 19, 20, 21, 22, 25] 26 = true; decide +kernel) rfl ⟨rfl, rfl, rfl, rfl, rfl, rfl, rfl, rfl, rfl, rfl, rfl, rfl, rfl, rfl, rfl, rfl, rfl, rfl, rfl, rfl, rfl, rfl, rfl, rfl, trivial⟩ rfl rfl (by decide +kernel) ?_
      exact jT.mono (jQl_lg_150_3 hd h_e0 h_e1 h_e2 h_e3 h_e4 h_e5 (Nat.le_trans hp.2.2 (by decide)) (by rw [Int.zero_add] at hw; exact hw) h) (Nat.le_refl _) (by omega) (by omega) (fun _ _ _ z => z)
    · refine jT_xiload_n (v := (0, 2)) (pcN := 8) jIQ_214_7 rfl rfl rfl ?_
      refine jT_xbipush (k := 6) (pcN := 10) jIQ_214_8 (by decide) rfl ?_
      refine jT_xicF (t := 47) (pcN := 13) jIQ_214_10 rfl (by decide +kernel) rfl rfl ?_
      refine jT_xaload_n (v := (4, 1)) (pcN := 14) jIQ_214_13 rfl rfl rfl ?_
      refine jT_xiload_n (v := (0, 2)) (pcN := 15) jIQ_214_14 rfl rfl rfl ?_
      refine jT_lald (x := e2) (a := 1) (j := 2) (fs := []) (X := [e0, e1, e2, e3, e4, e5]) jIQ_214_15 rfl rfl rfl rfl ?_
      refine jT_eq (LN := [(3, (0, 2)), (2, (4, 23)), (0, (4, 0)), (1, (4, 1))]) (stN := [(1, e2)]) (hsN := [jzQ_371, (101, [], [e0, e1, e2, e3, e4, e5]), jgh, jgh, jgh, jgh, jgh, (130, [], [17, 18, 19, 20, 21, 22]), jgh, jgh, jgh, jgh, jgh, jgh, jgh, jgh, jgh, (100, [], (jenc (jlg 0))), (100, [], (jenc (jlg 1))), (100, [], (jenc (jlg 2))), (100, [], (jenc (jlg 3))), (100, [], (jenc (jlg 4))), (100, [], (jenc (jlg 5))), (100, [], (jenc a))]) rfl rfl rfl ?_
      refine jT_xlconst (z := 0) (pcN := 17) jIQ_214_16 rfl rfl ?_
      refine jT_lcmp (a := e2) (b := 0) (z := 1) (by rfl) (by rfl) (jwl_idd (by omega) (by omega)) (jwl_idd (by omega) (by omega)) (by rw [decide_eq_true (show (0 : Int) < e2 by omega)]; rfl) ?_
      refine jT_xifF (t := 41) (pcN := 21) jIQ_214_18 rfl (by decide +kernel) rfl rfl ?_
      refine jT_xaload_n (v := (4, 23)) (pcN := 22) jIQ_214_21 rfl rfl rfl ?_
      refine jT_xaload_n (v := (4, 1)) (pcN := 23) jIQ_214_22 rfl rfl rfl ?_
      refine jT_xiload_n (v := (0, 2)) (pcN := 24) jIQ_214_23 rfl rfl rfl ?_
      refine jT_lald (x := e2) (a := 1) (j := 2) (fs := []) (X := [e0, e1, e2, e3, e4, e5]) jIQ_214_24 rfl rfl rfl rfl ?_
      refine jT_eq (LN := [(3, (0, 2)), (2, (4, 23)), (0, (4, 0)), (1, (4, 1))]) (stN := [(1, e2), (4, 23)]) (hsN := [jzQ_371, (101, [], [e0, e1, e2, e3, e4, e5]), jgh, jgh, jgh, jgh, jgh, (130, [], [17, 18, 19, 20, 21, 22]), jgh, jgh, jgh, jgh, jgh, jgh, jgh, jgh, jgh, (100, [], (jenc (jlg 0))), (100, [], (jenc (jlg 1))), (100, [], (jenc (jlg 2))), (100, [], (jenc (jlg 3))), (100, [], (jenc (jlg 4))), (100, [], (jenc (jlg 5))), (100, [], (jenc a))]) rfl rfl rfl ?_
      refine jT_callA [] (y := 178) (pcN := 28) (dC := 1) (bc1 := 1) (bc2 := 56) (c1 := (b1 + 11)) (c2 := (b2 + 616)) (as := [(1, e2)]) (asC := [(1, e2)]) (LN := [(3, (0, 2)), (2, (4, 23)), (0, (4, 0)), (1, (4, 1))]) (stN := [(4, 23)]) (hsC := []) (ex := [(100, [], (jenc e2))]) (v := (4, 0)) (st2 := [(4, 24), (4, 23)]) (hs2 := [jzQ_371, (101, [], [e0, e1, e2, e3, e4, e5]), jgh, jgh, jgh, jgh, jgh, (130, [], [17, 18, 19, 20, 21, 22]), jgh, jgh, jgh, jgh, jgh, jgh, jgh, jgh, jgh, (100, [], (jenc (jlg 0))), (100, [], (jenc (jlg 1))), (100, [], (jenc (jlg 2))), (100, [], (jenc (jlg 3))), (100, [], (jenc (jlg 4))), (100, [], (jenc (jlg 5))), (100, [], (jenc a)), (100, [], (jenc e2))]) (jT_big (d := 0) (v := e2) (by omega) (by omega)) (by rfl) (by rfl) (by rfl) (by rfl) trivial (by rfl) (by rfl) (by omega) (by show 23 ≤ 24; omega) (by omega) (by omega) rfl rfl ?_
      refine jT_xaload_n (v := (4, 0)) (pcN := 29) jIQ_214_28 rfl rfl rfl ?_
      refine jT_xgetf (a := 0) (t := 1) (ci := 14) (fi := 8) (c := jzQ_371) (v := (4, 7)) (pcN := 32) jIQ_214_29 rfl rfl rfl rfl rfl rfl rfl ?_
      refine jT_xiload_n (v := (0, 2)) (pcN := 33) jIQ_214_32 rfl rfl rfl ?_
      refine jT_aald (x := 19) (a := 7) (j := 2) (fs := []) (X := [17, 18, 19, 20, 21, 22]) (kd := 130) jIQ_214_33 rfl rfl rfl rfl rfl ?_
      refine jT_eq (LN := [(3, (0, 2)), (2, (4, 23)), (0, (4, 0)), (1, (4, 1))]) (stN := [(4, 19), (4, 24), (4, 23)]) (hsN := [jzQ_371, (101, [], [e0, e1, e2, e3, e4, e5]), jgh, jgh, jgh, jgh, jgh, (130, [], [17, 18, 19, 20, 21, 22]), jgh, jgh, jgh, jgh, jgh, jgh, jgh, jgh, jgh, (100, [], (jenc (jlg 0))), (100, [], (jenc (jlg 1))), (100, [], (jenc (jlg 2))), (100, [], (jenc (jlg 3))), (100, [], (jenc (jlg 4))), (100, [], (jenc (jlg 5))), (100, [], (jenc a)), (100, [], (jenc e2))]) rfl rfl rfl ?_
      refine jT_callA [24, 19] (y := 179) (pcN := 37) (dC := 1) (bc1 := 1) (bc2 := 56) (c1 := (b1 + 10)) (c2 := (b2 + 560)) (as := [(4, 24), (4, 19)]) (asC := [(4, 0), (4, 1)]) (LN := [(3, (0, 2)), (2, (4, 23)), (0, (4, 0)), (1, (4, 1))]) (stN := [(4, 23)]) (hsC := [(100, [], (jenc e2)), (100, [], (jenc (jlg 2)))]) (ex := [(100, [], (jenc (e2 * jlg 2)))]) (v := (4, 2)) (st2 := [(4, 25), (4, 23)]) (hs2 := [jzQ_371, (101, [], [e0, e1, e2, e3, e4, e5]), jgh, jgh, jgh, jgh, jgh, (130, [], [17, 18, 19, 20, 21, 22]), jgh, jgh, jgh, jgh, jgh, jgh, jgh, jgh, jgh, (100, [], (jenc (jlg 0))), (100, [], (jenc (jlg 1))), (100, [], (jenc (jlg 2))), (100, [], (jenc (jlg 3))), (100, [], (jenc (jlg 4))), (100, [], (jenc (jlg 5))), (100, [], (jenc a)), (100, [], (jenc e2)), (100, [], (jenc (e2 * jlg 2)))]) (jT_product (d := 0) (a := e2) (b := jlg 2) (jb54 (by omega) (by omega)) hp.1) (by rfl) (by rfl) (by rfl) (by rfl) ⟨rfl, rfl, trivial⟩ (by rfl) (by rfl) (by omega) (by show 23 ≤ 25; omega) (by omega) (by omega) rfl rfl ?_
      refine jT_callA [23, 25] (y := 181) (pcN := 40) (dC := 1) (bc1 := 1) (bc2 := 56) (c1 := (b1 + 9)) (c2 := (b2 + 504)) (as := [(4, 23), (4, 25)]) (asC := [(4, 0), (4, 1)]) (LN := [(3, (0, 2)), (2, (4, 23)), (0, (4, 0)), (1, (4, 1))]) (stN := []) (hsC := [(100, [], (jenc a)), (100, [], (jenc (e2 * jlg 2)))]) (ex := [(100, [], (jenc (a + (e2 * jlg 2))))]) (v := (4, 2)) (st2 := [(4, 26)]) (hs2 := [jzQ_371, (101, [], [e0, e1, e2, e3, e4, e5]), jgh, jgh, jgh, jgh, jgh, (130, [], [17, 18, 19, 20, 21, 22]), jgh, jgh, jgh, jgh, jgh, jgh, jgh, jgh, jgh, (100, [], (jenc (jlg 0))), (100, [], (jenc (jlg 1))), (100, [], (jenc (jlg 2))), (100, [], (jenc (jlg 3))), (100, [], (jenc (jlg 4))), (100, [], (jenc (jlg 5))), (100, [], (jenc a)), (100, [], (jenc e2)), (100, [], (jenc (e2 * jlg 2))), (100, [], (jenc (a + (e2 * jlg 2))))]) (jT_added (d := 0) (a := a) (b := e2 * jlg 2) ga hp.2.1 (jb54k ha (by decide)) hp.1 (jb54a ha hp.2.2 (by decide))) (by rfl) (by rfl) (by rfl) (by rfl) ⟨rfl, rfl, trivial⟩ (by rfl) (by rfl) (by omega) (by show 23 ≤ 26; omega) (by omega) (by omega) rfl rfl ?_
      refine jT_xastore_n (v := (4, 26)) (LN := [(2, (4, 26)), (3, (0, 2)), (0, (4, 0)), (1, (4, 1))]) (pcN := 41) jIQ_214_40 rfl rfl rfl rfl ?_
      refine jT_xiinc (x := 2) (z := 3) (LN := [(3, (0, 3)), (2, (4, 26)), (0, (4, 0)), (1, (4, 1))]) (pcN := 44) jIQ_214_41 rfl rfl (by decide) rfl rfl ?_
      refine jT_xgoto (pcN := 7) jIQ_214_44 rfl ?_
      refine jT_loc (LN := [(3, (0, 3)), (2, (4, 26)), (0, (4, 0)), (1, (4, 1))]) (by show List.Nodup [3, 2, 0, 1]; decide) (by intro q hq; simp only [List.mem_cons, List.not_mem_nil, or_false] at hq; rcases hq with rfl | rfl | rfl | rfl <;> rfl) ?_
      refine jT_gc [0, 1, 2, 3, 4, 5, 6, 7, 8, 9, 10, 11, 12, 13, 14, 15, 16, 17, 18, 19, 20, 21, 22, 26] (hs0 := [jzQ_371, (101, [], [e0, e1, e2, e3, e4, e5]), jgh, jgh, jgh, jgh, jgh, (130, [], [17, 18, 19, 20, 21, 22]), jgh, jgh, jgh, jgh, jgh, jgh, jgh, jgh, jgh, (100, [], (jenc (jlg 0))), (100, [], (jenc (jlg 1))), (100, [], (jenc (jlg 2))), (100, [], (jenc (jlg 3))), (100, [], (jenc (jlg 4))), (100, [], (jenc (jlg 5))), (100, [], jenc (a + (e2 * jlg 2)))]) (L0 := [(3, (0, 3)), (2, (4, 23)), (0, (4, 0)), (1, (4, 1))]) (st0 := []) (by show jgB [0, 1, 2, 3, 4, 5, 6, 7, 8, 9, 10, 11, 12, 13, 14, 15, 16, 17, 18, 19, 20, 21, 22, 26] 27 = true; decide +kernel) rfl ⟨rfl, rfl, rfl, rfl, rfl, rfl, rfl, rfl, rfl, rfl, rfl, rfl, rfl, rfl, rfl, rfl, rfl, rfl, rfl, rfl, rfl, rfl, rfl, rfl, trivial⟩ rfl rfl (by decide +kernel) ?_
      exact jT.mono (jQl_lg_150_3 hd h_e0 h_e1 h_e2 h_e3 h_e4 h_e5 (jb1c ha hp.2.2 (by decide)) (by rw [← Int.add_assoc] at hw; exact hw) h) (Nat.le_refl _) (by omega) (by omega) (fun _ _ _ z => z)
theorem jQl_lg_150_1 {xs : List Int} {d b1 b2 : Nat} {Q : Nat → JV → List JC → Prop} (hd : 1 < d) {a w e0 e1 e2 e3 e4 e5 : Int} (h_e0 : -4611686018427387903 ≤ e0 ∧ e0 ≤ 4611686018427387903) (h_e1 : -4611686018427387903 ≤ e1 ∧ e1 ≤ 4611686018427387903) (h_e2 : -4611686018427387903 ≤ e2 ∧ e2 ≤ 4611686018427387903) (h_e3 : -4611686018427387903 ≤ e3 ∧ e3 ≤ 4611686018427387903) (h_e4 : -4611686018427387903 ≤ e4 ∧ e4 ≤ 4611686018427387903) (h_e5 : -4611686018427387903 ≤ e5 ∧ e5 ≤ 4611686018427387903) (ha : a.natAbs ≤ 1 * 10 ^ 220) (hw : a + (e1 * jlg 1 + (e2 * jlg 2 + (e3 * jlg 3 + (e4 * jlg 4 + (e5 * jlg 5))))) = w) (h : jT xs d 214 23 47 [(2, (4, 23))] [] [jzQ_371, (101, [], [e0, e1, e2, e3, e4, e5]), jgh, jgh, jgh, jgh, jgh, (130, [], [17, 18, 19, 20, 21, 22]), jgh, jgh, jgh, jgh, jgh, jgh, jgh, jgh, jgh, (100, [], (jenc (jlg 0))), (100, [], (jenc (jlg 1))), (100, [], (jenc (jlg 2))), (100, [], (jenc (jlg 3))), (100, [], (jenc (jlg 4))), (100, [], (jenc (jlg 5))), (100, [], jenc w)] b1 b2 Q) : jT xs d 214 23 7 [(3, (0, 1)), (2, (4, 23)), (0, (4, 0)), (1, (4, 1))] [] [jzQ_371, (101, [], [e0, e1, e2, e3, e4, e5]), jgh, jgh, jgh, jgh, jgh, (130, [], [17, 18, 19, 20, 21, 22]), jgh, jgh, jgh, jgh, jgh, jgh, jgh, jgh, jgh, (100, [], (jenc (jlg 0))), (100, [], (jenc (jlg 1))), (100, [], (jenc (jlg 2))), (100, [], (jenc (jlg 3))), (100, [], (jenc (jlg 4))), (100, [], (jenc (jlg 5))), (100, [], jenc a)] (b1 + 15) (b2 + 840) Q := by
  rcases (show (e1 < 0) ∨ (e1 = 0) ∨ (0 < e1) by omega) with g_0 | g_0 | g_0
  · have hp := jlz_m (k := 1) (e := e1) (by decide) (by omega) (by omega)
    rcases (show (a = 0) ∨ (a ≠ 0) by omega) with ga | ga
    · subst ga
      refine jT_xiload_n (v := (0, 1)) (pcN := 8) jIQ_214_7 rfl rfl rfl ?_
      refine jT_xbipush (k := 6) (pcN := 10) jIQ_214_8 (by decide) rfl ?_
      refine jT_xicF (t := 47) (pcN := 13) jIQ_214_10 rfl (by decide +kernel) rfl rfl ?_
      refine jT_xaload_n (v := (4, 1)) (pcN := 14) jIQ_214_13 rfl rfl rfl ?_
      refine jT_xiload_n (v := (0, 1)) (pcN := 15) jIQ_214_14 rfl rfl rfl ?_
      refine jT_lald (x := e1) (a := 1) (j := 1) (fs := []) (X := [e0, e1, e2, e3, e4, e5]) jIQ_214_15 rfl rfl rfl rfl ?_
      refine jT_eq (LN := [(3, (0, 1)), (2, (4, 23)), (0, (4, 0)), (1, (4, 1))]) (stN := [(1, e1)]) (hsN := [jzQ_371, (101, [], [e0, e1, e2, e3, e4, e5]), jgh, jgh, jgh, jgh, jgh, (130, [], [17, 18, 19, 20, 21, 22]), jgh, jgh, jgh, jgh, jgh, jgh, jgh, jgh, jgh, (100, [], (jenc (jlg 0))), (100, [], (jenc (jlg 1))), (100, [], (jenc (jlg 2))), (100, [], (jenc (jlg 3))), (100, [], (jenc (jlg 4))), (100, [], (jenc (jlg 5))), (100, [], (jenc 0))]) rfl rfl rfl ?_
      refine jT_xlconst (z := 0) (pcN := 17) jIQ_214_16 rfl rfl ?_
      refine jT_lcmp (a := e1) (b := 0) (z := (-1)) (by rfl) (by rfl) (jwl_idd (by omega) (by omega)) (jwl_idd (by omega) (by omega)) (by rw [decide_eq_false (show ¬ ((0 : Int) < e1) by omega), decide_eq_false (show ¬ ((e1 : Int) = 0) by omega)]; rfl) ?_
      refine jT_xifF (t := 41) (pcN := 21) jIQ_214_18 rfl (by decide +kernel) rfl rfl ?_
      refine jT_xaload_n (v := (4, 23)) (pcN := 22) jIQ_214_21 rfl rfl rfl ?_
      refine jT_xaload_n (v := (4, 1)) (pcN := 23) jIQ_214_22 rfl rfl rfl ?_
      refine jT_xiload_n (v := (0, 1)) (pcN := 24) jIQ_214_23 rfl rfl rfl ?_
      refine jT_lald (x := e1) (a := 1) (j := 1) (fs := []) (X := [e0, e1, e2, e3, e4, e5]) jIQ_214_24 rfl rfl rfl rfl ?_
      refine jT_eq (LN := [(3, (0, 1)), (2, (4, 23)), (0, (4, 0)), (1, (4, 1))]) (stN := [(1, e1), (4, 23)]) (hsN := [jzQ_371, (101, [], [e0, e1, e2, e3, e4, e5]), jgh, jgh, jgh, jgh, jgh, (130, [], [17, 18, 19, 20, 21, 22]), jgh, jgh, jgh, jgh, jgh, jgh, jgh, jgh, jgh, (100, [], (jenc (jlg 0))), (100, [], (jenc (jlg 1))), (100, [], (jenc (jlg 2))), (100, [], (jenc (jlg 3))), (100, [], (jenc (jlg 4))), (100, [], (jenc (jlg 5))), (100, [], (jenc 0))]) rfl rfl rfl ?_
      refine jT_callA [] (y := 178) (pcN := 28) (dC := 1) (bc1 := 1) (bc2 := 56) (c1 := (b1 + 14)) (c2 := (b2 + 784)) (as := [(1, e1)]) (asC := [(1, e1)]) (LN := [(3, (0, 1)), (2, (4, 23)), (0, (4, 0)), (1, (4, 1))]) (stN := [(4, 23)]) (hsC := []) (ex := [(100, [], (jenc e1))]) (v := (4, 0)) (st2 := [(4, 24), (4, 23)]) (hs2 := [jzQ_371, (101, [], [e0, e1, e2, e3, e4, e5]), jgh, jgh, jgh, jgh, jgh, (130, [], [17, 18, 19, 20, 21, 22]), jgh, jgh, jgh, jgh, jgh, jgh, jgh, jgh, jgh, (100, [], (jenc (jlg 0))), (100, [], (jenc (jlg 1))), (100, [], (jenc (jlg 2))), (100, [], (jenc (jlg 3))), (100, [], (jenc (jlg 4))), (100, [], (jenc (jlg 5))), (100, [], (jenc 0)), (100, [], (jenc e1))]) (jT_big (d := 0) (v := e1) (by omega) (by omega)) (by rfl) (by rfl) (by rfl) (by rfl) trivial (by rfl) (by rfl) (by omega) (by show 23 ≤ 24; omega) (by omega) (by omega) rfl rfl ?_
      refine jT_xaload_n (v := (4, 0)) (pcN := 29) jIQ_214_28 rfl rfl rfl ?_
      refine jT_xgetf (a := 0) (t := 1) (ci := 14) (fi := 8) (c := jzQ_371) (v := (4, 7)) (pcN := 32) jIQ_214_29 rfl rfl rfl rfl rfl rfl rfl ?_
      refine jT_xiload_n (v := (0, 1)) (pcN := 33) jIQ_214_32 rfl rfl rfl ?_
      refine jT_aald (x := 18) (a := 7) (j := 1) (fs := []) (X := [17, 18, 19, 20, 21, 22]) (kd := 130) jIQ_214_33 rfl rfl rfl rfl rfl ?_
      refine jT_eq (LN := [(3, (0, 1)), (2, (4, 23)), (0, (4, 0)), (1, (4, 1))]) (stN := [(4, 18), (4, 24), (4, 23)]) (hsN := [jzQ_371, (101, [], [e0, e1, e2, e3, e4, e5]), jgh, jgh, jgh, jgh, jgh, (130, [], [17, 18, 19, 20, 21, 22]), jgh, jgh, jgh, jgh, jgh, jgh, jgh, jgh, jgh, (100, [], (jenc (jlg 0))), (100, [], (jenc (jlg 1))), (100, [], (jenc (jlg 2))), (100, [], (jenc (jlg 3))), (100, [], (jenc (jlg 4))), (100, [], (jenc (jlg 5))), (100, [], (jenc 0)), (100, [], (jenc e1))]) rfl rfl rfl ?_
      refine jT_callA [24, 18] (y := 179) (pcN := 37) (dC := 1) (bc1 := 1) (bc2 := 56) (c1 := (b1 + 13)) (c2 := (b2 + 728)) (as := [(4, 24), (4, 18)]) (asC := [(4, 0), (4, 1)]) (LN := [(3, (0, 1)), (2, (4, 23)), (0, (4, 0)), (1, (4, 1))]) (stN := [(4, 23)]) (hsC := [(100, [], (jenc e1)), (100, [], (jenc (jlg 1)))]) (ex := [(100, [], (jenc (e1 * jlg 1)))]) (v := (4, 2)) (st2 := [(4, 25), (4, 23)]) (hs2 := [jzQ_371, (101, [], [e0, e1, e2, e3, e4, e5]), jgh, jgh, jgh, jgh, jgh, (130, [], [17, 18, 19, 20, 21, 22]), jgh, jgh, jgh, jgh, jgh, jgh, jgh, jgh, jgh, (100, [], (jenc (jlg 0))), (100, [], (jenc (jlg 1))), (100, [], (jenc (jlg 2))), (100, [], (jenc (jlg 3))), (100, [], (jenc (jlg 4))), (100, [], (jenc (jlg 5))), (100, [], (jenc 0)), (100, [], (jenc e1)), (100, [], (jenc (e1 * jlg 1)))]) (jT_product (d := 0) (a := e1) (b := jlg 1) (jb54 (by omega) (by omega)) hp.1) (by rfl) (by rfl) (by rfl) (by rfl) ⟨rfl, rfl, trivial⟩ (by rfl) (by rfl) (by omega) (by show 23 ≤ 25; omega) (by omega) (by omega) rfl rfl ?_
      refine jT_callA [23, 25] (y := 181) (pcN := 40) (dC := 0) (bc1 := 0) (bc2 := 0) (c1 := (b1 + 13)) (c2 := (b2 + 728)) (as := [(4, 23), (4, 25)]) (asC := [(4, 0), (4, 1)]) (LN := [(3, (0, 1)), (2, (4, 23)), (0, (4, 0)), (1, (4, 1))]) (stN := []) (hsC := [(100, [], (jenc 0)), (100, [], (jenc (e1 * jlg 1)))]) (ex := []) (v := (4, 1)) (st2 := [(4, 25)]) (hs2 := [jzQ_371, (101, [], [e0, e1, e2, e3, e4, e5]), jgh, jgh, jgh, jgh, jgh, (130, [], [17, 18, 19, 20, 21, 22]), jgh, jgh, jgh, jgh, jgh, jgh, jgh, jgh, jgh, (100, [], (jenc (jlg 0))), (100, [], (jenc (jlg 1))), (100, [], (jenc (jlg 2))), (100, [], (jenc (jlg 3))), (100, [], (jenc (jlg 4))), (100, [], (jenc (jlg 5))), (100, [], (jenc 0)), (100, [], (jenc e1)), (100, [], (jenc (e1 * jlg 1)))]) (jT_added_0l (d := 0) (b := e1 * jlg 1)) (by rfl) (by rfl) (by rfl) (by rfl) ⟨rfl, rfl, trivial⟩ (by rfl) (by rfl) (by omega) (by show 23 ≤ 26; omega) (by omega) (by omega) rfl rfl ?_
      refine jT_xastore_n (v := (4, 25)) (LN := [(2, (4, 25)), (3, (0, 1)), (0, (4, 0)), (1, (4, 1))]) (pcN := 41) jIQ_214_40 rfl rfl rfl rfl ?_
      refine jT_xiinc (x := 1) (z := 2) (LN := [(3, (0, 2)), (2, (4, 25)), (0, (4, 0)), (1, (4, 1))]) (pcN := 44) jIQ_214_41 rfl rfl (by decide) rfl rfl ?_
      refine jT_xgoto (pcN := 7) jIQ_214_44 rfl ?_
      refine jT_loc (LN := [(3, (0, 2)), (2, (4, 25)), (0, (4, 0)), (1, (4, 1))]) (by show List.Nodup [3, 2, 0, 1]; decide) (by intro q hq; simp only [List.mem_cons, List.not_mem_nil, or_false] at hq; rcases hq with rfl | rfl | rfl | rfl <;> rfl) ?_
      refine jT_gc [0, 1, 2, 3, 4, 5, 6, 7, 8, 9, 10, 11, 12, 13, 14, 15, 16, 17, 18, 19, 20, 21, 22, 25] (hs0 := [jzQ_371, (101, [], [e0, e1, e2, e3, e4, e5]), jgh, jgh, jgh, jgh, jgh, (130, [], [17, 18, 19, 20, 21, 22]), jgh, jgh, jgh, jgh, jgh, jgh, jgh, jgh, jgh, (100, [], (jenc (jlg 0))), (100, [], (jenc (jlg 1))), (100, [], (jenc (jlg 2))), (100, [], (jenc (jlg 3))), (100, [], (jenc (jlg 4))), (100, [], (jenc (jlg 5))), (100, [], jenc (e1 * jlg 1))]) (L0 := [(3, (0, 2)), (2, (4, 23)), (0, (4, 0)), (1, (4, 1))]) (st0 := []) (by show jgB [0, 1, 2, 3, 4, 5, 6, 7, 8, 9, 10, 11, 12, 13, 14, 15, 16, 17, 18, 19, 20, 21, 22, 25] 26 = true; decide +kernel) rfl ⟨rfl, rfl, rfl, rfl, rfl, rfl, rfl, rfl, rfl, rfl, rfl, rfl, rfl, rfl, rfl, rfl, rfl, rfl, rfl, rfl, rfl, rfl, rfl, rfl, trivial⟩ rfl rfl (by decide +kernel) ?_
      exact jT.mono (jQl_lg_150_2 hd h_e0 h_e1 h_e2 h_e3 h_e4 h_e5 (Nat.le_trans hp.2.2 (by decide)) (by rw [Int.zero_add] at hw; exact hw) h) (Nat.le_refl _) (by omega) (by omega) (fun _ _ _ z => z)
    · refine jT_xiload_n (v := (0, 1)) (pcN := 8) jIQ_214_7 rfl rfl rfl ?_
      refine jT_xbipush (k := 6) (pcN := 10) jIQ_214_8 (by decide) rfl ?_
      refine jT_xicF (t := 47) (pcN := 13) jIQ_214_10 rfl (by decide +kernel) rfl rfl ?_
      refine jT_xaload_n (v := (4, 1)) (pcN := 14) jIQ_214_13 rfl rfl rfl ?_
      refine jT_xiload_n (v := (0, 1)) (pcN := 15) jIQ_214_14 rfl rfl rfl ?_
      refine jT_lald (x := e1) (a := 1) (j := 1) (fs := []) (X := [e0, e1, e2, e3, e4, e5]) jIQ_214_15 rfl rfl rfl rfl ?_
      refine jT_eq (LN := [(3, (0, 1)), (2, (4, 23)), (0, (4, 0)), (1, (4, 1))]) (stN := [(1, e1)]) (hsN := [jzQ_371, (101, [], [e0, e1, e2, e3, e4, e5]), jgh, jgh, jgh, jgh, jgh, (130, [], [17, 18, 19, 20, 21, 22]), jgh, jgh, jgh, jgh, jgh, jgh, jgh, jgh, jgh, (100, [], (jenc (jlg 0))), (100, [], (jenc (jlg 1))), (100, [], (jenc (jlg 2))), (100, [], (jenc (jlg 3))), (100, [], (jenc (jlg 4))), (100, [], (jenc (jlg 5))), (100, [], (jenc a))]) rfl rfl rfl ?_
      refine jT_xlconst (z := 0) (pcN := 17) jIQ_214_16 rfl rfl ?_
      refine jT_lcmp (a := e1) (b := 0) (z := (-1)) (by rfl) (by rfl) (jwl_idd (by omega) (by omega)) (jwl_idd (by omega) (by omega)) (by rw [decide_eq_false (show ¬ ((0 : Int) < e1) by omega), decide_eq_false (show ¬ ((e1 : Int) = 0) by omega)]; rfl) ?_
      refine jT_xifF (t := 41) (pcN := 21) jIQ_214_18 rfl (by decide +kernel) rfl rfl ?_
      refine jT_xaload_n (v := (4, 23)) (pcN := 22) jIQ_214_21 rfl rfl rfl ?_
      refine jT_xaload_n (v := (4, 1)) (pcN := 23) jIQ_214_22 rfl rfl rfl ?_
      refine jT_xiload_n (v := (0, 1)) (pcN := 24) jIQ_214_23 rfl rfl rfl ?_
      refine jT_lald (x := e1) (a := 1) (j := 1) (fs := []) (X := [e0, e1, e2, e3, e4, e5]) jIQ_214_24 rfl rfl rfl rfl ?_
      refine jT_eq (LN := [(3, (0, 1)), (2, (4, 23)), (0, (4, 0)), (1, (4, 1))]) (stN := [(1, e1), (4, 23)]) (hsN := [jzQ_371, (101, [], [e0, e1, e2, e3, e4, e5]), jgh, jgh, jgh, jgh, jgh, (130, [], [17, 18, 19, 20, 21, 22]), jgh, jgh, jgh, jgh, jgh, jgh, jgh, jgh, jgh, (100, [], (jenc (jlg 0))), (100, [], (jenc (jlg 1))), (100, [], (jenc (jlg 2))), (100, [], (jenc (jlg 3))), (100, [], (jenc (jlg 4))), (100, [], (jenc (jlg 5))), (100, [], (jenc a))]) rfl rfl rfl ?_
      refine jT_callA [] (y := 178) (pcN := 28) (dC := 1) (bc1 := 1) (bc2 := 56) (c1 := (b1 + 14)) (c2 := (b2 + 784)) (as := [(1, e1)]) (asC := [(1, e1)]) (LN := [(3, (0, 1)), (2, (4, 23)), (0, (4, 0)), (1, (4, 1))]) (stN := [(4, 23)]) (hsC := []) (ex := [(100, [], (jenc e1))]) (v := (4, 0)) (st2 := [(4, 24), (4, 23)]) (hs2 := [jzQ_371, (101, [], [e0, e1, e2, e3, e4, e5]), jgh, jgh, jgh, jgh, jgh, (130, [], [17, 18, 19, 20, 21, 22]), jgh, jgh, jgh, jgh, jgh, jgh, jgh, jgh, jgh, (100, [], (jenc (jlg 0))), (100, [], (jenc (jlg 1))), (100, [], (jenc (jlg 2))), (100, [], (jenc (jlg 3))), (100, [], (jenc (jlg 4))), (100, [], (jenc (jlg 5))), (100, [], (jenc a)), (100, [], (jenc e1))]) (jT_big (d := 0) (v := e1) (by omega) (by omega)) (by rfl) (by rfl) (by rfl) (by rfl) trivial (by rfl) (by rfl) (by omega) (by show 23 ≤ 24; omega) (by omega) (by omega) rfl rfl ?_
      refine jT_xaload_n (v := (4, 0)) (pcN := 29) jIQ_214_28 rfl rfl rfl ?_
      refine jT_xgetf (a := 0) (t := 1) (ci := 14) (fi := 8) (c := jzQ_371) (v := (4, 7)) (pcN := 32) jIQ_214_29 rfl rfl rfl rfl rfl rfl rfl ?_
      refine jT_xiload_n (v := (0, 1)) (pcN := 33) jIQ_214_32 rfl rfl rfl ?_
      refine jT_aald (x := 18) (a := 7) (j := 1) (fs := []) (X := [17, 18, 19, 20, 21, 22]) (kd := 130) jIQ_214_33 rfl rfl rfl rfl rfl ?_
      refine jT_eq (LN := [(3, (0, 1)), (2, (4, 23)), (0, (4, 0)), (1, (4, 1))]) (stN := [(4, 18), (4, 24), (4, 23)]) (hsN := [jzQ_371, (101, [], [e0, e1, e2, e3, e4, e5]), jgh, jgh, jgh, jgh, jgh, (130, [], [17, 18, 19, 20, 21, 22]), jgh, jgh, jgh, jgh, jgh, jgh, jgh, jgh, jgh, (100, [], (jenc (jlg 0))), (100, [], (jenc (jlg 1))), (100, [], (jenc (jlg 2))), (100, [], (jenc (jlg 3))), (100, [], (jenc (jlg 4))), (100, [], (jenc (jlg 5))), (100, [], (jenc a)), (100, [], (jenc e1))]) rfl rfl rfl ?_
      refine jT_callA [24, 18] (y := 179) (pcN := 37) (dC := 1) (bc1 := 1) (bc2 := 56) (c1 := (b1 + 13)) (c2 := (b2 + 728)) (as := [(4, 24), (4, 18)]) (asC := [(4, 0), (4, 1)]) (LN := [(3, (0, 1)), (2, (4, 23)), (0, (4, 0)), (1, (4, 1))]) (stN := [(4, 23)]) (hsC := [(100, [], (jenc e1)), (100, [], (jenc (jlg 1)))]) (ex := [(100, [], (jenc (e1 * jlg 1)))]) (v := (4, 2)) (st2 := [(4, 25), (4, 23)]) (hs2 := [jzQ_371, (101, [], [e0, e1, e2, e3, e4, e5]), jgh, jgh, jgh, jgh, jgh, (130, [], [17, 18, 19, 20, 21, 22]), jgh, jgh, jgh, jgh, jgh, jgh, jgh, jgh, jgh, (100, [], (jenc (jlg 0))), (100, [], (jenc (jlg 1))), (100, [], (jenc (jlg 2))), (100, [], (jenc (jlg 3))), (100, [], (jenc (jlg 4))), (100, [], (jenc (jlg 5))), (100, [], (jenc a)), (100, [], (jenc e1)), (100, [], (jenc (e1 * jlg 1)))]) (jT_product (d := 0) (a := e1) (b := jlg 1) (jb54 (by omega) (by omega)) hp.1) (by rfl) (by rfl) (by rfl) (by rfl) ⟨rfl, rfl, trivial⟩ (by rfl) (by rfl) (by omega) (by show 23 ≤ 25; omega) (by omega) (by omega) rfl rfl ?_
      refine jT_callA [23, 25] (y := 181) (pcN := 40) (dC := 1) (bc1 := 1) (bc2 := 56) (c1 := (b1 + 12)) (c2 := (b2 + 672)) (as := [(4, 23), (4, 25)]) (asC := [(4, 0), (4, 1)]) (LN := [(3, (0, 1)), (2, (4, 23)), (0, (4, 0)), (1, (4, 1))]) (stN := []) (hsC := [(100, [], (jenc a)), (100, [], (jenc (e1 * jlg 1)))]) (ex := [(100, [], (jenc (a + (e1 * jlg 1))))]) (v := (4, 2)) (st2 := [(4, 26)]) (hs2 := [jzQ_371, (101, [], [e0, e1, e2, e3, e4, e5]), jgh, jgh, jgh, jgh, jgh, (130, [], [17, 18, 19, 20, 21, 22]), jgh, jgh, jgh, jgh, jgh, jgh, jgh, jgh, jgh, (100, [], (jenc (jlg 0))), (100, [], (jenc (jlg 1))), (100, [], (jenc (jlg 2))), (100, [], (jenc (jlg 3))), (100, [], (jenc (jlg 4))), (100, [], (jenc (jlg 5))), (100, [], (jenc a)), (100, [], (jenc e1)), (100, [], (jenc (e1 * jlg 1))), (100, [], (jenc (a + (e1 * jlg 1))))]) (jT_added (d := 0) (a := a) (b := e1 * jlg 1) ga hp.2.1 (jb54k ha (by decide)) hp.1 (jb54a ha hp.2.2 (by decide))) (by rfl) (by rfl) (by rfl) (by rfl) ⟨rfl, rfl, trivial⟩ (by rfl) (by rfl) (by omega) (by show 23 ≤ 26; omega) (by omega) (by omega) rfl rfl ?_
      refine jT_xastore_n (v := (4, 26)) (LN := [(2, (4, 26)), (3, (0, 1)), (0, (4, 0)), (1, (4, 1))]) (pcN := 41) jIQ_214_40 rfl rfl rfl rfl ?_
      refine jT_xiinc (x := 1) (z := 2) (LN := [(3, (0, 2)), (2, (4, 26)), (0, (4, 0)), (1, (4, 1))]) (pcN := 44) jIQ_214_41 rfl rfl (by decide) rfl rfl ?_
      refine jT_xgoto (pcN := 7) jIQ_214_44 rfl ?_
      refine jT_loc (LN := [(3, (0, 2)), (2, (4, 26)), (0, (4, 0)), (1, (4, 1))]) (by show List.Nodup [3, 2, 0, 1]; decide) (by intro q hq; simp only [List.mem_cons, List.not_mem_nil, or_false] at hq; rcases hq with rfl | rfl | rfl | rfl <;> rfl) ?_
      refine jT_gc [0, 1, 2, 3, 4, 5, 6, 7, 8, 9, 10, 11, 12, 13, 14, 15, 16, 17, 18, 19, 20, 21, 22, 26] (hs0 := [jzQ_371, (101, [], [e0, e1, e2, e3, e4, e5]), jgh, jgh, jgh, jgh, jgh, (130, [], [17, 18, 19, 20, 21, 22]), jgh, jgh, jgh, jgh, jgh, jgh, jgh, jgh, jgh, (100, [], (jenc (jlg 0))), (100, [], (jenc (jlg 1))), (100, [], (jenc (jlg 2))), (100, [], (jenc (jlg 3))), (100, [], (jenc (jlg 4))), (100, [], (jenc (jlg 5))), (100, [], jenc (a + (e1 * jlg 1)))]) (L0 := [(3, (0, 2)), (2, (4, 23)), (0, (4, 0)), (1, (4, 1))]) (st0 := []) (by show jgB [0, 1, 2, 3, 4, 5, 6, 7, 8, 9, 10, 11, 12, 13, 14, 15, 16, 17, 18, 19, 20, 21, 22, 26] 27 = true; decide +kernel) rfl ⟨rfl, rfl, rfl, rfl, rfl, rfl, rfl, rfl, rfl, rfl, rfl, rfl, rfl, rfl, rfl, rfl, rfl, rfl, rfl, rfl, rfl, rfl, rfl, rfl, trivial⟩ rfl rfl (by decide +kernel) ?_
      exact jT.mono (jQl_lg_150_2 hd h_e0 h_e1 h_e2 h_e3 h_e4 h_e5 (jb1c ha hp.2.2 (by decide)) (by rw [← Int.add_assoc] at hw; exact hw) h) (Nat.le_refl _) (by omega) (by omega) (fun _ _ _ z => z)
  · refine jT_xiload_n (v := (0, 1)) (pcN := 8) jIQ_214_7 rfl rfl rfl ?_
    refine jT_xbipush (k := 6) (pcN := 10) jIQ_214_8 (by decide) rfl ?_
    refine jT_xicF (t := 47) (pcN := 13) jIQ_214_10 rfl (by decide +kernel) rfl rfl ?_
    refine jT_xaload_n (v := (4, 1)) (pcN := 14) jIQ_214_13 rfl rfl rfl ?_
    refine jT_xiload_n (v := (0, 1)) (pcN := 15) jIQ_214_14 rfl rfl rfl ?_
    refine jT_lald (x := e1) (a := 1) (j := 1) (fs := []) (X := [e0, e1, e2, e3, e4, e5]) jIQ_214_15 rfl rfl rfl rfl ?_
    refine jT_eq (LN := [(3, (0, 1)), (2, (4, 23)), (0, (4, 0)), (1, (4, 1))]) (stN := [(1, e1)]) (hsN := [jzQ_371, (101, [], [e0, e1, e2, e3, e4, e5]), jgh, jgh, jgh, jgh, jgh, (130, [], [17, 18, 19, 20, 21, 22]), jgh, jgh, jgh, jgh, jgh, jgh, jgh, jgh, jgh, (100, [], (jenc (jlg 0))), (100, [], (jenc (jlg 1))), (100, [], (jenc (jlg 2))), (100, [], (jenc (jlg 3))), (100, [], (jenc (jlg 4))), (100, [], (jenc (jlg 5))), (100, [], (jenc a))]) rfl rfl rfl ?_
    refine jT_xlconst (z := 0) (pcN := 17) jIQ_214_16 rfl rfl ?_
    refine jT_lcmp (a := e1) (b := 0) (z := 0) (by rfl) (by rfl) (jwl_idd (by omega) (by omega)) (jwl_idd (by omega) (by omega)) (by rw [decide_eq_false (show ¬ ((0 : Int) < e1) by omega), decide_eq_true (show (e1 : Int) = 0 by omega)]; rfl) ?_
    refine jT_xifT (pcN := 41) jIQ_214_18 rfl (by decide +kernel) rfl ?_
    refine jT_xiinc (x := 1) (z := 2) (LN := [(3, (0, 2)), (2, (4, 23)), (0, (4, 0)), (1, (4, 1))]) (pcN := 44) jIQ_214_41 rfl rfl (by decide) rfl rfl ?_
    refine jT_xgoto (pcN := 7) jIQ_214_44 rfl ?_
    refine jT_loc (LN := [(3, (0, 2)), (2, (4, 23)), (0, (4, 0)), (1, (4, 1))]) (by show List.Nodup [3, 2, 0, 1]; decide) (by intro q hq; simp only [List.mem_cons, List.not_mem_nil, or_false] at hq; rcases hq with rfl | rfl | rfl | rfl <;> rfl) ?_
    exact jT.mono (jQl_lg_150_2 hd h_e0 h_e1 h_e2 h_e3 h_e4 h_e5 (by omega) (by rw [g_0, Int.zero_mul] at hw; omega) h) (Nat.le_refl _) (by omega) (by omega) (fun _ _ _ z => z)
  · have hp := jlz_m (k := 1) (e := e1) (by decide) (by omega) (by omega)
    rcases (show (a = 0) ∨ (a ≠ 0) by omega) with ga | ga
    · subst ga
      refine jT_xiload_n (v := (0, 1)) (pcN := 8) jIQ_214_7 rfl rfl rfl ?_
      refine jT_xbipush (k := 6) (pcN := 10) jIQ_214_8 (by decide) rfl ?_
      refine jT_xicF (t := 47) (pcN := 13) jIQ_214_10 rfl (by decide +kernel) rfl rfl ?_
      refine jT_xaload_n (v := (4, 1)) (pcN := 14) jIQ_214_13 rfl rfl rfl ?_
      refine jT_xiload_n (v := (0, 1)) (pcN := 15) jIQ_214_14 rfl rfl rfl ?_
      refine jT_lald (x := e1) (a := 1) (j := 1) (fs := []) (X := [e0, e1, e2, e3, e4, e5]) jIQ_214_15 rfl rfl rfl rfl ?_
      refine jT_eq (LN := [(3, (0, 1)), (2, (4, 23)), (0, (4, 0)), (1, (4, 1))]) (stN := [(1, e1)]) (hsN := [jzQ_371, (101, [], [e0, e1, e2, e3, e4, e5]), jgh, jgh, jgh, jgh, jgh, (130, [], [17, 18, 19, 20, 21, 22]), jgh, jgh, jgh, jgh, jgh, jgh, jgh, jgh, jgh, (100, [], (jenc (jlg 0))), (100, [], (jenc (jlg 1))), (100, [], (jenc (jlg 2))), (100, [], (jenc (jlg 3))), (100, [], (jenc (jlg 4))), (100, [], (jenc (jlg 5))), (100, [], (jenc 0))]) rfl rfl rfl ?_
      refine jT_xlconst (z := 0) (pcN := 17) jIQ_214_16 rfl rfl ?_
      refine jT_lcmp (a := e1) (b := 0) (z := 1) (by rfl) (by rfl) (jwl_idd (by omega) (by omega)) (jwl_idd (by omega) (by omega)) (by rw [decide_eq_true (show (0 : Int) < e1 by omega)]; rfl) ?_
      refine jT_xifF (t := 41) (pcN := 21) jIQ_214_18 rfl (by decide +kernel) rfl rfl ?_
      refine jT_xaload_n (v := (4, 23)) (pcN := 22) jIQ_214_21 rfl rfl rfl ?_
      refine jT_xaload_n (v := (4, 1)) (pcN := 23) jIQ_214_22 rfl rfl rfl ?_
      refine jT_xiload_n (v := (0, 1)) (pcN := 24) jIQ_214_23 rfl rfl rfl ?_
      refine jT_lald (x := e1) (a := 1) (j := 1) (fs := []) (X := [e0, e1, e2, e3, e4, e5]) jIQ_214_24 rfl rfl rfl rfl ?_
      refine jT_eq (LN := [(3, (0, 1)), (2, (4, 23)), (0, (4, 0)), (1, (4, 1))]) (stN := [(1, e1), (4, 23)]) (hsN := [jzQ_371, (101, [], [e0, e1, e2, e3, e4, e5]), jgh, jgh, jgh, jgh, jgh, (130, [], [17, 18, 19, 20, 21, 22]), jgh, jgh, jgh, jgh, jgh, jgh, jgh, jgh, jgh, (100, [], (jenc (jlg 0))), (100, [], (jenc (jlg 1))), (100, [], (jenc (jlg 2))), (100, [], (jenc (jlg 3))), (100, [], (jenc (jlg 4))), (100, [], (jenc (jlg 5))), (100, [], (jenc 0))]) rfl rfl rfl ?_
      refine jT_callA [] (y := 178) (pcN := 28) (dC := 1) (bc1 := 1) (bc2 := 56) (c1 := (b1 + 14)) (c2 := (b2 + 784)) (as := [(1, e1)]) (asC := [(1, e1)]) (LN := [(3, (0, 1)), (2, (4, 23)), (0, (4, 0)), (1, (4, 1))]) (stN := [(4, 23)]) (hsC := []) (ex := [(100, [], (jenc e1))]) (v := (4, 0)) (st2 := [(4, 24), (4, 23)]) (hs2 := [jzQ_371, (101, [], [e0, e1, e2, e3, e4, e5]), jgh, jgh, jgh, jgh, jgh, (130, [], [17, 18, 19, 20, 21, 22]), jgh, jgh, jgh, jgh, jgh, jgh, jgh, jgh, jgh, (100, [], (jenc (jlg 0))), (100, [], (jenc (jlg 1))), (100, [], (jenc (jlg 2))), (100, [], (jenc (jlg 3))), (100, [], (jenc (jlg 4))), (100, [], (jenc (jlg 5))), (100, [], (jenc 0)), (100, [], (jenc e1))]) (jT_big (d := 0) (v := e1) (by omega) (by omega)) (by rfl) (by rfl) (by rfl) (by rfl) trivial (by rfl) (by rfl) (by omega) (by show 23 ≤ 24; omega) (by omega) (by omega) rfl rfl ?_
      refine jT_xaload_n (v := (4, 0)) (pcN := 29) jIQ_214_28 rfl rfl rfl ?_
      refine jT_xgetf (a := 0) (t := 1) (ci := 14) (fi := 8) (c := jzQ_371) (v := (4, 7)) (pcN := 32) jIQ_214_29 rfl rfl rfl rfl rfl rfl rfl ?_
      refine jT_xiload_n (v := (0, 1)) (pcN := 33) jIQ_214_32 rfl rfl rfl ?_
      refine jT_aald (x := 18) (a := 7) (j := 1) (fs := []) (X := [17, 18, 19, 20, 21, 22]) (kd := 130) jIQ_214_33 rfl rfl rfl rfl rfl ?_
      refine jT_eq (LN := [(3, (0, 1)), (2, (4, 23)), (0, (4, 0)), (1, (4, 1))]) (stN := [(4, 18), (4, 24), (4, 23)]) (hsN := [jzQ_371, (101, [], [e0, e1, e2, e3, e4, e5]), jgh, jgh, jgh, jgh, jgh, (130, [], [17, 18, 19, 20, 21, 22]), jgh, jgh, jgh, jgh, jgh, jgh, jgh, jgh, jgh, (100, [], (jenc (jlg 0))), (100, [], (jenc (jlg 1))), (100, [], (jenc (jlg 2))), (100, [], (jenc (jlg 3))), (100, [], (jenc (jlg 4))), (100, [], (jenc (jlg 5))), (100, [], (jenc 0)), (100, [], (jenc e1))]) rfl rfl rfl ?_
      refine jT_callA [24, 18] (y := 179) (pcN := 37) (dC := 1) (bc1 := 1) (bc2 := 56) (c1 := (b1 + 13)) (c2 := (b2 + 728)) (as := [(4, 24), (4, 18)]) (asC := [(4, 0), (4, 1)]) (LN := [(3, (0, 1)), (2, (4, 23)), (0, (4, 0)), (1, (4, 1))]) (stN := [(4, 23)]) (hsC := [(100, [], (jenc e1)), (100, [], (jenc (jlg 1)))]) (ex := [(100, [], (jenc (e1 * jlg 1)))]) (v := (4, 2)) (st2 := [(4, 25), (4, 23)]) (hs2 := [jzQ_371, (101, [], [e0, e1, e2, e3, e4, e5]), jgh, jgh, jgh, jgh, jgh, (130, [], [17, 18, 19, 20, 21, 22]), jgh, jgh, jgh, jgh, jgh, jgh, jgh, jgh, jgh, (100, [], (jenc (jlg 0))), (100, [], (jenc (jlg 1))), (100, [], (jenc (jlg 2))), (100, [], (jenc (jlg 3))), (100, [], (jenc (jlg 4))), (100, [], (jenc (jlg 5))), (100, [], (jenc 0)), (100, [], (jenc e1)), (100, [], (jenc (e1 * jlg 1)))]) (jT_product (d := 0) (a := e1) (b := jlg 1) (jb54 (by omega) (by omega)) hp.1) (by rfl) (by rfl) (by rfl) (by rfl) ⟨rfl, rfl, trivial⟩ (by rfl) (by rfl) (by omega) (by show 23 ≤ 25; omega) (by omega) (by omega) rfl rfl ?_
      refine jT_callA [23, 25] (y := 181) (pcN := 40) (dC := 0) (bc1 := 0) (bc2 := 0) (c1 := (b1 + 13)) (c2 := (b2 + 728)) (as := [(4, 23), (4, 25)]) (asC := [(4, 0), (4, 1)]) (LN := [(3, (0, 1)), (2, (4, 23)), (0, (4, 0)), (1, (4, 1))]) (stN := []) (hsC := [(100, [], (jenc 0)), (100, [], (jenc (e1 * jlg 1)))]) (ex := []) (v := (4, 1)) (st2 := [(4, 25)]) (hs2 := [jzQ_371, (101, [], [e0, e1, e2, e3, e4, e5]), jgh, jgh, jgh, jgh, jgh, (130, [], [17, 18, 19, 20, 21, 22]), jgh, jgh, jgh, jgh, jgh, jgh, jgh, jgh, jgh, (100, [], (jenc (jlg 0))), (100, [], (jenc (jlg 1))), (100, [], (jenc (jlg 2))), (100, [], (jenc (jlg 3))), (100, [], (jenc (jlg 4))), (100, [], (jenc (jlg 5))), (100, [], (jenc 0)), (100, [], (jenc e1)), (100, [], (jenc (e1 * jlg 1)))]) (jT_added_0l (d := 0) (b := e1 * jlg 1)) (by rfl) (by rfl) (by rfl) (by rfl) ⟨rfl, rfl, trivial⟩ (by rfl) (by rfl) (by omega) (by show 23 ≤ 26; omega) (by omega) (by omega) rfl rfl ?_
      refine jT_xastore_n (v := (4, 25)) (LN := [(2, (4, 25)), (3, (0, 1)), (0, (4, 0)), (1, (4, 1))]) (pcN := 41) jIQ_214_40 rfl rfl rfl rfl ?_
      refine jT_xiinc (x := 1) (z := 2) (LN := [(3, (0, 2)), (2, (4, 25)), (0, (4, 0)), (1, (4, 1))]) (pcN := 44) jIQ_214_41 rfl rfl (by decide) rfl rfl ?_
      refine jT_xgoto (pcN := 7) jIQ_214_44 rfl ?_
      refine jT_loc (LN := [(3, (0, 2)), (2, (4, 25)), (0, (4, 0)), (1, (4, 1))]) (by show List.Nodup [3, 2, 0, 1]; decide) (by intro q hq; simp only [List.mem_cons, List.not_mem_nil, or_false] at hq; rcases hq with rfl | rfl | rfl | rfl <;> rfl) ?_
      refine jT_gc [0, 1, 2, 3, 4, 5, 6, 7, 8, 9, 10, 11, 12, 13, 14, 15, 16, 17, 18, 19, 20, 21, 22, 25] (hs0 := [jzQ_371, (101, [], [e0, e1, e2, e3, e4, e5]), jgh, jgh, jgh, jgh, jgh, (130, [], [17, 18, 19, 20, 21, 22]), jgh, jgh, jgh, jgh, jgh, jgh, jgh, jgh, jgh, (100, [], (jenc (jlg 0))), (100, [], (jenc (jlg 1))), (100, [], (jenc (jlg 2))), (100, [], (jenc (jlg 3))), (100, [], (jenc (jlg 4))), (100, [], (jenc (jlg 5))), (100, [], jenc (e1 * jlg 1))]) (L0 := [(3, (0, 2)), (2, (4, 23)), (0, (4, 0)), (1, (4, 1))]) (st0 := []) (by show jgB [0, 1, 2, 3, 4, 5, 6, 7, 8, 9, 10, 11, 12, 13, 14, 15, 16, 17, 18, 19, 20, 21, 22, 25] 26 = true; decide +kernel) rfl ⟨rfl, rfl, rfl, rfl, rfl, rfl, rfl, rfl, rfl, rfl, rfl, rfl, rfl, rfl, rfl, rfl, rfl, rfl, rfl, rfl, rfl, rfl, rfl, rfl, trivial⟩ rfl rfl (by decide +kernel) ?_
      exact jT.mono (jQl_lg_150_2 hd h_e0 h_e1 h_e2 h_e3 h_e4 h_e5 (Nat.le_trans hp.2.2 (by decide)) (by rw [Int.zero_add] at hw; exact hw) h) (Nat.le_refl _) (by omega) (by omega) (fun _ _ _ z => z)
    · refine jT_xiload_n (v := (0, 1)) (pcN := 8) jIQ_214_7 rfl rfl rfl ?_
      refine jT_xbipush (k := 6) (pcN := 10) jIQ_214_8 (by decide) rfl ?_
      refine jT_xicF (t := 47) (pcN := 13) jIQ_214_10 rfl (by decide +kernel) rfl rfl ?_
      refine jT_xaload_n (v := (4, 1)) (pcN := 14) jIQ_214_13 rfl rfl rfl ?_
      refine jT_xiload_n (v := (0, 1)) (pcN := 15) jIQ_214_14 rfl rfl rfl ?_
      refine jT_lald (x := e1) (a := 1) (j := 1) (fs := []) (X := [e0, e1, e2, e3, e4, e5]) jIQ_214_15 rfl rfl rfl rfl ?_
      refine jT_eq (LN := [(3, (0, 1)), (2, (4, 23)), (0, (4, 0)), (1, (4, 1))]) (stN := [(1, e1)]) (hsN := [jzQ_371, (101, [], [e0, e1, e2, e3, e4, e5]), jgh, jgh, jgh, jgh, jgh, (130, [], [17, 18, 19, 20, 21, 22]), jgh, jgh, jgh, jgh, jgh, jgh, jgh, jgh, jgh, (100, [], (jenc (jlg 0))), (100, [], (jenc (jlg 1))), (100, [], (jenc (jlg 2))), (100, [], (jenc (jlg 3))), (100, [], (jenc (jlg 4))), (100, [], (jenc (jlg 5))), (100, [], (jenc a))]) rfl rfl rfl ?_
      refine jT_xlconst (z := 0) (pcN := 17) jIQ_214_16 rfl rfl ?_
      refine jT_lcmp (a := e1) (b := 0) (z := 1) (by rfl) (by rfl) (jwl_idd (by omega) (by omega)) (jwl_idd (by omega) (by omega)) (by rw [decide_eq_true (show (0 : Int) < e1 by omega)]; rfl) ?_
      refine jT_xifF (t := 41) (pcN := 21) jIQ_214_18 rfl (by decide +kernel) rfl rfl ?_
      refine jT_xaload_n (v := (4, 23)) (pcN := 22) jIQ_214_21 rfl rfl rfl ?_
      refine jT_xaload_n (v := (4, 1)) (pcN := 23) jIQ_214_22 rfl rfl rfl ?_
      refine jT_xiload_n (v := (0, 1)) (pcN := 24) jIQ_214_23 rfl rfl rfl ?_
      refine jT_lald (x := e1) (a := 1) (j := 1) (fs := []) (X := [e0, e1, e2, e3, e4, e5]) jIQ_214_24 rfl rfl rfl rfl ?_
      refine jT_eq (LN := [(3, (0, 1)), (2, (4, 23)), (0, (4, 0)), (1, (4, 1))]) (stN := [(1, e1), (4, 23)]) (hsN := [jzQ_371, (101, [], [e0, e1, e2, e3, e4, e5]), jgh, jgh, jgh, jgh, jgh, (130, [], [17, 18, 19, 20, 21, 22]), jgh, jgh, jgh, jgh, jgh, jgh, jgh, jgh, jgh, (100, [], (jenc (jlg 0))), (100, [], (jenc (jlg 1))), (100, [], (jenc (jlg 2))), (100, [], (jenc (jlg 3))), (100, [], (jenc (jlg 4))), (100, [], (jenc (jlg 5))), (100, [], (jenc a))]) rfl rfl rfl ?_
      refine jT_callA [] (y := 178) (pcN := 28) (dC := 1) (bc1 := 1) (bc2 := 56) (c1 := (b1 + 14)) (c2 := (b2 + 784)) (as := [(1, e1)]) (asC := [(1, e1)]) (LN := [(3, (0, 1)), (2, (4, 23)), (0, (4, 0)), (1, (4, 1))]) (stN := [(4, 23)]) (hsC := []) (ex := [(100, [], (jenc e1))]) (v := (4, 0)) (st2 := [(4, 24), (4, 23)]) (hs2 := [jzQ_371, (101, [], [e0, e1, e2, e3, e4, e5]), jgh, jgh, jgh, jgh, jgh, (130, [], [17, 18, 19, 20, 21, 22]), jgh, jgh, jgh, jgh, jgh, jgh, jgh, jgh, jgh, (100, [], (jenc (jlg 0))), (100, [], (jenc (jlg 1))), (100, [], (jenc (jlg 2))), (100, [], (jenc (jlg 3))), (100, [], (jenc (jlg 4))), (100, [], (jenc (jlg 5))), (100, [], (jenc a)), (100, [], (jenc e1))]) (jT_big (d := 0) (v := e1) (by omega) (by omega)) (by rfl) (by rfl) (by rfl) (by rfl) trivial (by rfl) (by rfl) (by omega) (by show 23 ≤ 24; omega) (by omega) (by omega) rfl rfl ?_
      refine jT_xaload_n (v := (4, 0)) (pcN := 29) jIQ_214_28 rfl rfl rfl ?_
      refine jT_xgetf (a := 0) (t := 1) (ci := 14) (fi := 8) (c := jzQ_371) (v := (4, 7)) (pcN := 32) jIQ_214_29 rfl rfl rfl rfl rfl rfl rfl ?_
      refine jT_xiload_n (v := (0, 1)) (pcN := 33) jIQ_214_32 rfl rfl rfl ?_
      refine jT_aald (x := 18) (a := 7) (j := 1) (fs := []) (X := [17, 18, 19, 20, 21, 22]) (kd := 130) jIQ_214_33 rfl rfl rfl rfl rfl ?_
      refine jT_eq (LN := [(3, (0, 1)), (2, (4, 23)), (0, (4, 0)), (1, (4, 1))]) (stN := [(4, 18), (4, 24), (4, 23)]) (hsN := [jzQ_371, (101, [], [e0, e1, e2, e3, e4, e5]), jgh, jgh, jgh, jgh, jgh, (130, [], [17, 18, 19, 20, 21, 22]), jgh, jgh, jgh, jgh, jgh, jgh, jgh, jgh, jgh, (100, [], (jenc (jlg 0))), (100, [], (jenc (jlg 1))), (100, [], (jenc (jlg 2))), (100, [], (jenc (jlg 3))), (100, [], (jenc (jlg 4))), (100, [], (jenc (jlg 5))), (100, [], (jenc a)), (100, [], (jenc e1))]) rfl rfl rfl ?_
      refine jT_callA [24, 18] (y := 179) (pcN := 37) (dC := 1) (bc1 := 1) (bc2 := 56) (c1 := (b1 + 13)) (c2 := (b2 + 728)) (as := [(4, 24), (4, 18)]) (asC := [(4, 0), (4, 1)]) (LN := [(3, (0, 1)), (2, (4, 23)), (0, (4, 0)), (1, (4, 1))]) (stN := [(4, 23)]) (hsC := [(100, [], (jenc e1)), (100, [], (jenc (jlg 1)))]) (ex := [(100, [], (jenc (e1 * jlg 1)))]) (v := (4, 2)) (st2 := [(4, 25), (4, 23)]) (hs2 := [jzQ_371, (101, [], [e0, e1, e2, e3, e4, e5]), jgh, jgh, jgh, jgh, jgh, (130, [], [17, 18, 19, 20, 21, 22]), jgh, jgh, jgh, jgh, jgh, jgh, jgh, jgh, jgh, (100, [], (jenc (jlg 0))), (100, [], (jenc (jlg 1))), (100, [], (jenc (jlg 2))), (100, [], (jenc (jlg 3))), (100, [], (jenc (jlg 4))), (100, [], (jenc (jlg 5))), (100, [], (jenc a)), (100, [], (jenc e1)), (100, [], (jenc (e1 * jlg 1)))]) (jT_product (d := 0) (a := e1) (b := jlg 1) (jb54 (by omega) (by omega)) hp.1) (by rfl) (by rfl) (by rfl) (by rfl) ⟨rfl, rfl, trivial⟩ (by rfl) (by rfl) (by omega) (by show 23 ≤ 25; omega) (by omega) (by omega) rfl rfl ?_
      refine jT_callA [23, 25] (y := 181) (pcN := 40) (dC := 1) (bc1 := 1) (bc2 := 56) (c1 := (b1 + 12)) (c2 := (b2 + 672)) (as := [(4, 23), (4, 25)]) (asC := [(4, 0), (4, 1)]) (LN := [(3, (0, 1)), (2, (4, 23)), (0, (4, 0)), (1, (4, 1))]) (stN := []) (hsC := [(100, [], (jenc a)), (100, [], (jenc (e1 * jlg 1)))]) (ex := [(100, [], (jenc (a + (e1 * jlg 1))))]) (v := (4, 2)) (st2 := [(4, 26)]) (hs2 := [jzQ_371, (101, [], [e0, e1, e2, e3, e4, e5]), jgh, jgh, jgh, jgh, jgh, (130, [], [17, 18, 19, 20, 21, 22]), jgh, jgh, jgh, jgh, jgh, jgh, jgh, jgh, jgh, (100, [], (jenc (jlg 0))), (100, [], (jenc (jlg 1))), (100, [], (jenc (jlg 2))), (100, [], (jenc (jlg 3))), (100, [], (jenc (jlg 4))), (100, [], (jenc (jlg 5))), (100, [], (jenc a)), (100, [], (jenc e1)), (100, [], (jenc (e1 * jlg 1))), (100, [], (jenc (a + (e1 * jlg 1))))]) (jT_added (d := 0) (a := a) (b := e1 * jlg 1) ga hp.2.1 (jb54k ha (by decide)) hp.1 (jb54a ha hp.2.2 (by decide))) (by rfl) (by rfl) (by rfl) (by rfl) ⟨rfl, rfl, trivial⟩ (by rfl) (by rfl) (by omega) (by show 23 ≤ 26; omega) (by omega) (by omega) rfl rfl ?_
      refine jT_xastore_n (v := (4, 26)) (LN := [(2, (4, 26)), (3, (0, 1)), (0, (4, 0)), (1, (4, 1))]) (pcN := 41) jIQ_214_40 rfl rfl rfl rfl ?_
      refine jT_xiinc (x := 1) (z := 2) (LN := [(3, (0, 2)), (2, (4, 26)), (0, (4, 0)), (1, (4, 1))]) (pcN := 44) jIQ_214_41 rfl rfl (by decide) rfl rfl ?_
      refine jT_xgoto (pcN := 7) jIQ_214_44 rfl ?_
      refine jT_loc (LN := [(3, (0, 2)), (2, (4, 26)), (0, (4, 0)), (1, (4, 1))]) (by show List.Nodup [3, 2, 0, 1]; decide) (by intro q hq; simp only [List.mem_cons, List.not_mem_nil, or_false] at hq; rcases hq with rfl | rfl | rfl | rfl <;> rfl) ?_
      refine jT_gc [0, 1, 2, 3, 4, 5, 6, 7, 8, 9, 10, 11, 12, 13, 14, 15, 16, 17, 18, 19, 20, 21, 22, 26] (hs0 := [jzQ_371, (101, [], [e0, e1, e2, e3, e4, e5]), jgh, jgh, jgh, jgh, jgh, (130, [], [17, 18, 19, 20, 21, 22]), jgh, jgh, jgh, jgh, jgh, jgh, jgh, jgh, jgh, (100, [], (jenc (jlg 0))), (100, [], (jenc (jlg 1))), (100, [], (jenc (jlg 2))), (100, [], (jenc (jlg 3))), (100, [], (jenc (jlg 4))), (100, [], (jenc (jlg 5))), (100, [], jenc (a + (e1 * jlg 1)))]) (L0 := [(3, (0, 2)), (2, (4, 23)), (0, (4, 0)), (1, (4, 1))]) (st0 := []) (by show jgB [0, 1, 2, 3, 4, 5, 6, 7, 8, 9, 10, 11, 12, 13, 14, 15, 16, 17, 18, 19, 20, 21, 22, 26] 27 = true; decide +kernel) rfl ⟨rfl, rfl, rfl, rfl, rfl, rfl, rfl, rfl, rfl, rfl, rfl, rfl, rfl, rfl, rfl, rfl, rfl, rfl, rfl, rfl, rfl, rfl, rfl, rfl, trivial⟩ rfl rfl (by decide +kernel) ?_
      exact jT.mono (jQl_lg_150_2 hd h_e0 h_e1 h_e2 h_e3 h_e4 h_e5 (jb1c ha hp.2.2 (by decide)) (by rw [← Int.add_assoc] at hw; exact hw) h) (Nat.le_refl _) (by omega) (by omega) (fun _ _ _ z => z)
theorem jQl_lg_150_0 {xs : List Int} {d b1 b2 : Nat} {Q : Nat → JV → List JC → Prop} (hd : 1 < d) {a w e0 e1 e2 e3 e4 e5 : Int} (h_e0 : -4611686018427387903 ≤ e0 ∧ e0 ≤ 4611686018427387903) (h_e1 : -4611686018427387903 ≤ e1 ∧ e1 ≤ 4611686018427387903) (h_e2 : -4611686018427387903 ≤ e2 ∧ e2 ≤ 4611686018427387903) (h_e3 : -4611686018427387903 ≤ e3 ∧ e3 ≤ 4611686018427387903) (h_e4 : -4611686018427387903 ≤ e4 ∧ e4 ≤ 4611686018427387903) (h_e5 : -4611686018427387903 ≤ e5 ∧ e5 ≤ 4611686018427387903) (ha : a.natAbs ≤ 0 * 10 ^ 220) (hw : a + (e0 * jlg 0 + (e1 * jlg 1 + (e2 * jlg 2 + (e3 * jlg 3 + (e4 * jlg 4 + (e5 * jlg 5)))))) = w) (h : jT xs d 214 23 47 [(2, (4, 23))] [] [jzQ_371, (101, [], [e0, e1, e2, e3, e4, e5]), jgh, jgh, jgh, jgh, jgh, (130, [], [17, 18, 19, 20, 21, 22]), jgh, jgh, jgh, jgh, jgh, jgh, jgh, jgh, jgh, (100, [], (jenc (jlg 0))), (100, [], (jenc (jlg 1))), (100, [], (jenc (jlg 2))), (100, [], (jenc (jlg 3))), (100, [], (jenc (jlg 4))), (100, [], (jenc (jlg 5))), (100, [], jenc w)] b1 b2 Q) : jT xs d 214 23 7 [(3, (0, 0)), (2, (4, 23)), (0, (4, 0)), (1, (4, 1))] [] [jzQ_371, (101, [], [e0, e1, e2, e3, e4, e5]), jgh, jgh, jgh, jgh, jgh, (130, [], [17, 18, 19, 20, 21, 22]), jgh, jgh, jgh, jgh, jgh, jgh, jgh, jgh, jgh, (100, [], (jenc (jlg 0))), (100, [], (jenc (jlg 1))), (100, [], (jenc (jlg 2))), (100, [], (jenc (jlg 3))), (100, [], (jenc (jlg 4))), (100, [], (jenc (jlg 5))), (100, [], jenc a)] (b1 + 18) (b2 + 1008) Q := by
  rcases (show (e0 < 0) ∨ (e0 = 0) ∨ (0 < e0) by omega) with g_0 | g_0 | g_0
  · have hp := jlz_m (k := 0) (e := e0) (by decide) (by omega) (by omega)
    rcases (show (a = 0) ∨ (a ≠ 0) by omega) with ga | ga
    · subst ga
      refine jT_xiload_n (v := (0, 0)) (pcN := 8) jIQ_214_7 rfl rfl rfl ?_
      refine jT_xbipush (k := 6) (pcN := 10) jIQ_214_8 (by decide) rfl ?_
      refine jT_xicF (t := 47) (pcN := 13) jIQ_214_10 rfl (by decide +kernel) rfl rfl ?_
      refine jT_xaload_n (v := (4, 1)) (pcN := 14) jIQ_214_13 rfl rfl rfl ?_
      refine jT_xiload_n (v := (0, 0)) (pcN := 15) jIQ_214_14 rfl rfl rfl ?_
      refine jT_lald (x := e0) (a := 1) (j := 0) (fs := []) (X := [e0, e1, e2, e3, e4, e5]) jIQ_214_15 rfl rfl rfl rfl ?_
      refine jT_eq (LN := [(3, (0, 0)), (2, (4, 23)), (0, (4, 0)), (1, (4, 1))]) (stN := [(1, e0)]) (hsN := [jzQ_371, (101, [], [e0, e1, e2, e3, e4, e5]), jgh, jgh, jgh, jgh, jgh, (130, [], [17, 18, 19, 20, 21, 22]), jgh, jgh, jgh, jgh, jgh, jgh, jgh, jgh, jgh, (100, [], (jenc (jlg 0))), (100, [], (jenc (jlg 1))), (100, [], (jenc (jlg 2))), (100, [], (jenc (jlg 3))), (100, [], (jenc (jlg 4))), (100, [], (jenc (jlg 5))), (100, [], (jenc 0))]) rfl rfl rfl ?_
      refine jT_xlconst (z := 0) (pcN := 17) jIQ_214_16 rfl rfl ?_
      refine jT_lcmp (a := e0) (b := 0) (z := (-1)) (by rfl) (by rfl) (jwl_idd (by omega) (by omega)) (jwl_idd (by omega) (by omega)) (by rw [decide_eq_false (show ¬ ((0 : Int) < e0) by omega), decide_eq_false (show ¬ ((e0 : Int) = 0) by omega)]; rfl) ?_
      refine jT_xifF (t := 41) (pcN := 21) jIQ_214_18 rfl (by decide +kernel) rfl rfl ?_
      refine jT_xaload_n (v := (4, 23)) (pcN := 22) jIQ_214_21 rfl rfl rfl ?_
      refine jT_xaload_n (v := (4, 1)) (pcN := 23) jIQ_214_22 rfl rfl rfl ?_
      refine jT_xiload_n (v := (0, 0)) (pcN := 24) jIQ_214_23 rfl rfl rfl ?_
      refine jT_lald (x := e0) (a := 1) (j := 0) (fs := []) (X := [e0, e1, e2, e3, e4, e5]) jIQ_214_24 rfl rfl rfl rfl ?_
      refine jT_eq (LN := [(3, (0, 0)), (2, (4, 23)), (0, (4, 0)), (1, (4, 1))]) (stN := [(1, e0), (4, 23)]) (hsN := [jzQ_371, (101, [], [e0, e1, e2, e3, e4, e5]), jgh, jgh, jgh, jgh, jgh, (130, [], [17, 18, 19, 20, 21, 22]), jgh, jgh, jgh, jgh, jgh, jgh, jgh, jgh, jgh, (100, [], (jenc (jlg 0))), (100, [], (jenc (jlg 1))), (100, [], (jenc (jlg 2))), (100, [], (jenc (jlg 3))), (100, [], (jenc (jlg 4))), (100, [], (jenc (jlg 5))), (100, [], (jenc 0))]) rfl rfl rfl ?_
      refine jT_callA [] (y := 178) (pcN := 28) (dC := 1) (bc1 := 1) (bc2 := 56) (c1 := (b1 + 17)) (c2 := (b2 + 952)) (as := [(1, e0)]) (asC := [(1, e0)]) (LN := [(3, (0, 0)), (2, (4, 23)), (0, (4, 0)), (1, (4, 1))]) (stN := [(4, 23)]) (hsC := []) (ex := [(100, [], (jenc e0))]) (v := (4, 0)) (st2 := [(4, 24), (4, 23)]) (hs2 := [jzQ_371, (101, [], [e0, e1, e2, e3, e4, e5]), jgh, jgh, jgh, jgh, jgh, (130, [], [17, 18, 19, 20, 21, 22]), jgh, jgh, jgh, jgh, jgh, jgh, jgh, jgh, jgh, (100, [], (jenc (jlg 0))), (100, [], (jenc (jlg 1))), (100, [], (jenc (jlg 2))), (100, [], (jenc (jlg 3))), (100, [], (jenc (jlg 4))), (100, [], (jenc (jlg 5))), (100, [], (jenc 0)), (100, [], (jenc e0))]) (jT_big (d := 0) (v := e0) (by omega) (by omega)) (by rfl) (by rfl) (by rfl) (by rfl) trivial (by rfl) (by rfl) (by omega) (by show 23 ≤ 24; omega) (by omega) (by omega) rfl rfl ?_
      refine jT_xaload_n (v := (4, 0)) (pcN := 29) jIQ_214_28 rfl rfl rfl ?_
      refine jT_xgetf (a := 0) (t := 1) (ci := 14) (fi := 8) (c := jzQ_371) (v := (4, 7)) (pcN := 32) jIQ_214_29 rfl rfl rfl rfl rfl rfl rfl ?_
      refine jT_xiload_n (v := (0, 0)) (pcN := 33) jIQ_214_32 rfl rfl rfl ?_
      refine jT_aald (x := 17) (a := 7) (j := 0) (fs := []) (X := [17, 18, 19, 20, 21, 22]) (kd := 130) jIQ_214_33 rfl rfl rfl rfl rfl ?_
      refine jT_eq (LN := [(3, (0, 0)), (2, (4, 23)), (0, (4, 0)), (1, (4, 1))]) (stN := [(4, 17), (4, 24), (4, 23)]) (hsN := [jzQ_371, (101, [], [e0, e1, e2, e3, e4, e5]), jgh, jgh, jgh, jgh, jgh, (130, [], [17, 18, 19, 20, 21, 22]), jgh, jgh, jgh, jgh, jgh, jgh, jgh, jgh, jgh, (100, [], (jenc (jlg 0))), (100, [], (jenc (jlg 1))), (100, [], (jenc (jlg 2))), (100, [], (jenc (jlg 3))), (100, [], (jenc (jlg 4))), (100, [], (jenc (jlg 5))), (100, [], (jenc 0)), (100, [], (jenc e0))]) rfl rfl rfl ?_
      refine jT_callA [24, 17] (y := 179) (pcN := 37) (dC := 1) (bc1 := 1) (bc2 := 56) (c1 := (b1 + 16)) (c2 := (b2 + 896)) (as := [(4, 24), (4, 17)]) (asC := [(4, 0), (4, 1)]) (LN := [(3, (0, 0)), (2, (4, 23)), (0, (4, 0)), (1, (4, 1))]) (stN := [(4, 23)]) (hsC := [(100, [], (jenc e0)), (100, [], (jenc (jlg 0)))]) (ex := [(100, [], (jenc (e0 * jlg 0)))]) (v := (4, 2)) (st2 := [(4, 25), (4, 23)]) (hs2 := [jzQ_371, (101, [], [e0, e1, e2, e3, e4, e5]), jgh, jgh, jgh, jgh, jgh, (130, [], [17, 18, 19, 20, 21, 22]), jgh, jgh, jgh, jgh, jgh, jgh, jgh, jgh, jgh, (100, [], (jenc (jlg 0))), (100, [], (jenc (jlg 1))), (100, [], (jenc (jlg 2))), (100, [], (jenc (jlg 3))), (100, [], (jenc (jlg 4))), (100, [], (jenc (jlg 5))), (100, [], (jenc 0)), (100, [], (jenc e0)), (100, [], (jenc (e0 * jlg 0)))]) (jT_product (d := 0) (a := e0) (b := jlg 0) (jb54 (by omega) (by omega)) hp.1) (by rfl) (by rfl) (by rfl) (by rfl) ⟨rfl, rfl, trivial⟩ (by rfl) (by rfl) (by omega) (by show 23 ≤ 25; omega) (by omega) (by omega) rfl rfl ?_
      refine jT_callA [23, 25] (y := 181) (pcN := 40) (dC := 0) (bc1 := 0) (bc2 := 0) (c1 := (b1 + 16)) (c2 := (b2 + 896)) (as := [(4, 23), (4, 25)]) (asC := [(4, 0), (4, 1)]) (LN := [(3, (0, 0)), (2, (4, 23)), (0, (4, 0)), (1, (4, 1))]) (stN := []) (hsC := [(100, [], (jenc 0)), (100, [], (jenc (e0 * jlg 0)))]) (ex := []) (v := (4, 1)) (st2 := [(4, 25)]) (hs2 := [jzQ_371, (101, [], [e0, e1, e2, e3, e4, e5]), jgh, jgh, jgh, jgh, jgh, (130, [], [17, 18, 19, 20, 21, 22]), jgh, jgh, jgh, jgh, jgh, jgh, jgh, jgh, jgh, (100, [], (jenc (jlg 0))), (100, [], (jenc (jlg 1))), (100, [], (jenc (jlg 2))), (100, [], (jenc (jlg 3))), (100, [], (jenc (jlg 4))), (100, [], (jenc (jlg 5))), (100, [], (jenc 0)), (100, [], (jenc e0)), (100, [], (jenc (e0 * jlg 0)))]) (jT_added_0l (d := 0) (b := e0 * jlg 0)) (by rfl) (by rfl) (by rfl) (by rfl) ⟨rfl, rfl, trivial⟩ (by rfl) (by rfl) (by omega) (by show 23 ≤ 26; omega) (by omega) (by omega) rfl rfl ?_
      refine jT_xastore_n (v := (4, 25)) (LN := [(2, (4, 25)), (3, (0, 0)), (0, (4, 0)), (1, (4, 1))]) (pcN := 41) jIQ_214_40 rfl rfl rfl rfl ?_
      refine jT_xiinc (x := 0) (z := 1) (LN := [(3, (0, 1)), (2, (4, 25)), (0, (4, 0)), (1, (4, 1))]) (pcN := 44) jIQ_214_41 rfl rfl (by decide) rfl rfl ?_
      refine jT_xgoto (pcN := 7) jIQ_214_44 rfl ?_
      refine jT_loc (LN := [(3, (0, 1)), (2, (4, 25)), (0, (4, 0)), (1, (4, 1))]) (by show List.Nodup [3, 2, 0, 1]; decide) (by intro q hq; simp only [List.mem_cons, List.not_mem_nil, or_false] at hq; rcases hq with rfl | rfl | rfl | rfl <;> rfl) ?_
      refine jT_gc [0, 1, 2, 3, 4, 5, 6, 7, 8, 9, 10, 11, 12, 13, 14, 15, 16, 17, 18, 19, 20, 21, 22, 25] (hs0 := [jzQ_371, (101, [], [e0, e1, e2, e3, e4, e5]), jgh, jgh, jgh, jgh, jgh, (130, [], [17, 18, 19, 20, 21, 22]), jgh, jgh, jgh, jgh, jgh, jgh, jgh, jgh, jgh, (100, [], (jenc (jlg 0))), (100, [], (jenc (jlg 1))), (100, [], (jenc (jlg 2))), (100, [], (jenc (jlg 3))), (100, [], (jenc (jlg 4))), (100, [], (jenc (jlg 5))), (100, [], jenc (e0 * jlg 0))]) (L0 := [(3, (0, 1)), (2, (4, 23)), (0, (4, 0)), (1, (4, 1))]) (st0 := []) (by show jgB [0, 1, 2, 3, 4, 5, 6, 7, 8, 9, 10, 11, 12, 13, 14, 15, 16, 17, 18, 19, 20, 21, 22, 25] 26 = true; decide +kernel) rfl ⟨rfl, rfl, rfl, rfl, rfl, rfl, rfl, rfl, rfl, rfl, rfl, rfl, rfl, rfl, rfl, rfl, rfl, rfl, rfl, rfl, rfl, rfl, rfl, rfl, trivial⟩ rfl rfl (by decide +kernel) ?_
      exact jT.mono (jQl_lg_150_1 hd h_e0 h_e1 h_e2 h_e3 h_e4 h_e5 (jb1z hp.2.2) (by rw [Int.zero_add] at hw; exact hw) h) (Nat.le_refl _) (by omega) (by omega) (fun _ _ _ z => z)
    · refine jT_xiload_n (v := (0, 0)) (pcN := 8) jIQ_214_7 rfl rfl rfl ?_
      refine jT_xbipush (k := 6) (pcN := 10) jIQ_214_8 (by decide) rfl ?_
      refine jT_xicF (t := 47) (pcN := 13) jIQ_214_10 rfl (by decide +kernel) rfl rfl ?_
      refine jT_xaload_n (v := (4, 1)) (pcN := 14) jIQ_214_13 rfl rfl rfl ?_
      refine jT_xiload_n (v := (0, 0)) (pcN := 15) jIQ_214_14 rfl rfl rfl ?_
      refine jT_lald (x := e0) (a := 1) (j := 0) (fs := []) (X := [e0, e1, e2, e3, e4, e5]) jIQ_214_15 rfl rfl rfl rfl ?_
      refine jT_eq (LN := [(3, (0, 0)), (2, (4, 23)), (0, (4, 0)), (1, (4, 1))]) (stN := [(1, e0)]) (hsN := [jzQ_371, (101, [], [e0, e1, e2, e3, e4, e5]), jgh, jgh, jgh, jgh, jgh, (130, [], [17, 18, 19, 20, 21, 22]), jgh, jgh, jgh, jgh, jgh, jgh, jgh, jgh, jgh, (100, [], (jenc (jlg 0))), (100, [], (jenc (jlg 1))), (100, [], (jenc (jlg 2))), (100, [], (jenc (jlg 3))), (100, [], (jenc (jlg 4))), (100, [], (jenc (jlg 5))), (100, [], (jenc a))]) rfl rfl rfl ?_
      refine jT_xlconst (z := 0) (pcN := 17) jIQ_214_16 rfl rfl ?_
      refine jT_lcmp (a := e0) (b := 0) (z := (-1)) (by rfl) (by rfl) (jwl_idd (by omega) (by omega)) (jwl_idd (by omega) (by omega)) (by rw [decide_eq_false (show ¬ ((0 : Int) < e0) by omega), decide_eq_false (show ¬ ((e0 : Int) = 0) by omega)]; rfl) ?_
      refine jT_xifF (t := 41) (pcN := 21) jIQ_214_18 rfl (by decide +kernel) rfl rfl ?_
      refine jT_xaload_n (v := (4, 23)) (pcN := 22) jIQ_214_21 rfl rfl rfl ?_
      refine jT_xaload_n (v := (4, 1)) (pcN := 23) jIQ_214_22 rfl rfl rfl ?_
      refine jT_xiload_n (v := (0, 0)) (pcN := 24) jIQ_214_23 rfl rfl rfl ?_
      refine jT_lald (x := e0) (a := 1) (j := 0) (fs := []) (X := [e0, e1, e2, e3, e4, e5]) jIQ_214_24 rfl rfl rfl rfl ?_
      refine jT_eq (LN := [(3, (0, 0)), (2, (4, 23)), (0, (4, 0)), (1, (4, 1))]) (stN := [(1, e0), (4, 23)]) (hsN := [jzQ_371, (101, [], [e0, e1, e2, e3, e4, e5]), jgh, jgh, jgh, jgh, jgh, (130, [], [17, 18, 19, 20, 21, 22]), jgh, jgh, jgh, jgh, jgh, jgh, jgh, jgh, jgh, (100, [], (jenc (jlg 0))), (100, [], (jenc (jlg 1))), (100, [], (jenc (jlg 2))), (100, [], (jenc (jlg 3))), (100, [], (jenc (jlg 4))), (100, [], (jenc (jlg 5))), (100, [], (jenc a))]) rfl rfl rfl ?_
      refine jT_callA [] (y := 178) (pcN := 28) (dC := 1) (bc1 := 1) (bc2 := 56) (c1 := (b1 + 17)) (c2 := (b2 + 952)) (as := [(1, e0)]) (asC := [(1, e0)]) (LN := [(3, (0, 0)), (2, (4, 23)), (0, (4, 0)), (1, (4, 1))]) (stN := [(4, 23)]) (hsC := []) (ex := [(100, [], (jenc e0))]) (v := (4, 0)) (st2 := [(4, 24), (4, 23)]) (hs2 := [jzQ_371, (101, [], [e0, e1, e2, e3, e4, e5]), jgh, jgh, jgh, jgh, jgh, (130, [], [17, 18, 19, 20, 21, 22]), jgh, jgh, jgh, jgh, jgh, jgh, jgh, jgh, jgh, (100, [], (jenc (jlg 0))), (100, [], (jenc (jlg 1))), (100, [], (jenc (jlg 2))), (100, [], (jenc (jlg 3))), (100, [], (jenc (jlg 4))), (100, [], (jenc (jlg 5))), (100, [], (jenc a)), (100, [], (jenc e0))]) (jT_big (d := 0) (v := e0) (by omega) (by omega)) (by rfl) (by rfl) (by rfl) (by rfl) trivial (by rfl) (by rfl) (by omega) (by show 23 ≤ 24; omega) (by omega) (by omega) rfl rfl ?_
      refine jT_xaload_n (v := (4, 0)) (pcN := 29) jIQ_214_28 rfl rfl rfl ?_
      refine jT_xgetf (a := 0) (t := 1) (ci := 14) (fi := 8) (c := jzQ_371) (v := (4, 7)) (pcN := 32) jIQ_214_29 rfl rfl rfl rfl rfl rfl rfl ?_
      refine jT_xiload_n (v := (0, 0)) (pcN := 33) jIQ_214_32 rfl rfl rfl ?_
      refine jT_aald (x := 17) (a := 7) (j := 0) (fs := []) (X := [17, 18, 19, 20, 21, 22]) (kd := 130) jIQ_214_33 rfl rfl rfl rfl rfl ?_
      refine jT_eq (LN := [(3, (0, 0)), (2, (4, 23)), (0, (4, 0)), (1, (4, 1))]) (stN := [(4, 17), (4, 24), (4, 23)]) (hsN := [jzQ_371, (101, [], [e0, e1, e2, e3, e4, e5]), jgh, jgh, jgh, jgh, jgh, (130, [], [17, 18, 19, 20, 21, 22]), jgh, jgh, jgh, jgh, jgh, jgh, jgh, jgh, jgh, (100, [], (jenc (jlg 0))), (100, [], (jenc (jlg 1))), (100, [], (jenc (jlg 2))), (100, [], (jenc (jlg 3))), (100, [], (jenc (jlg 4))), (100, [], (jenc (jlg 5))), (100, [], (jenc a)), (100, [], (jenc e0))]) rfl rfl rfl ?_
      refine jT_callA [24, 17] (y := 179) (pcN := 37) (dC := 1) (bc1 := 1) (bc2 := 56) (c1 := (b1 + 16)) (c2 := (b2 + 896)) (as := [(4, 24), (4, 17)]) (asC := [(4, 0), (4, 1)]) (LN := [(3, (0, 0)), (2, (4, 23)), (0, (4, 0)), (1, (4, 1))]) (stN := [(4, 23)]) (hsC := [(100, [], (jenc e0)), (100, [], (jenc (jlg 0)))]) (ex := [(100, [], (jenc (e0 * jlg 0)))]) (v := (4, 2)) (st2 := [(4, 25), (4, 23)]) (hs2 := [jzQ_371, (101, [], [e0, e1, e2, e3, e4, e5]), jgh, jgh, jgh, jgh, jgh, (130, [], [17, 18, 19, 20, 21, 22]), jgh, jgh, jgh, jgh, jgh, jgh, jgh, jgh, jgh, (100, [], (jenc (jlg 0))), (100, [], (jenc (jlg 1))), (100, [], (jenc (jlg 2))), (100, [], (jenc (jlg 3))), (100, [], (jenc (jlg 4))), (100, [], (jenc (jlg 5))), (100, [], (jenc a)), (100, [], (jenc e0)), (100, [], (jenc (e0 * jlg 0)))]) (jT_product (d := 0) (a := e0) (b := jlg 0) (jb54 (by omega) (by omega)) hp.1) (by rfl) (by rfl) (by rfl) (by rfl) ⟨rfl, rfl, trivial⟩ (by rfl) (by rfl) (by omega) (by show 23 ≤ 25; omega) (by omega) (by omega) rfl rfl ?_
      refine jT_callA [23, 25] (y := 181) (pcN := 40) (dC := 1) (bc1 := 1) (bc2 := 56) (c1 := (b1 + 15)) (c2 := (b2 + 840)) (as := [(4, 23), (4, 25)]) (asC := [(4, 0), (4, 1)]) (LN := [(3, (0, 0)), (2, (4, 23)), (0, (4, 0)), (1, (4, 1))]) (stN := []) (hsC := [(100, [], (jenc a)), (100, [], (jenc (e0 * jlg 0)))]) (ex := [(100, [], (jenc (a + (e0 * jlg 0))))]) (v := (4, 2)) (st2 := [(4, 26)]) (hs2 := [jzQ_371, (101, [], [e0, e1, e2, e3, e4, e5]), jgh, jgh, jgh, jgh, jgh, (130, [], [17, 18, 19, 20, 21, 22]), jgh, jgh, jgh, jgh, jgh, jgh, jgh, jgh, jgh, (100, [], (jenc (jlg 0))), (100, [], (jenc (jlg 1))), (100, [], (jenc (jlg 2))), (100, [], (jenc (jlg 3))), (100, [], (jenc (jlg 4))), (100, [], (jenc (jlg 5))), (100, [], (jenc a)), (100, [], (jenc e0)), (100, [], (jenc (e0 * jlg 0))), (100, [], (jenc (a + (e0 * jlg 0))))]) (jT_added (d := 0) (a := a) (b := e0 * jlg 0) ga hp.2.1 (jb54k ha (by decide)) hp.1 (jb54a ha hp.2.2 (by decide))) (by rfl) (by rfl) (by rfl) (by rfl) ⟨rfl, rfl, trivial⟩ (by rfl) (by rfl) (by omega) (by show 23 ≤ 26; omega) (by omega) (by omega) rfl rfl ?_
      refine jT_xastore_n (v := (4, 26)) (LN := [(2, (4, 26)), (3, (0, 0)), (0, (4, 0)), (1, (4, 1))]) (pcN := 41) jIQ_214_40 rfl rfl rfl rfl ?_
      refine jT_xiinc (x := 0) (z := 1) (LN := [(3, (0, 1)), (2, (4, 26)), (0, (4, 0)), (1, (4, 1))]) (pcN := 44) jIQ_214_41 rfl rfl (by decide) rfl rfl ?_
      refine jT_xgoto (pcN := 7) jIQ_214_44 rfl ?_
      refine jT_loc (LN := [(3, (0, 1)), (2, (4, 26)), (0, (4, 0)), (1, (4, 1))]) (by show List.Nodup [3, 2, 0, 1]; decide) (by intro q hq; simp only [List.mem_cons, List.not_mem_nil, or_false] at hq; rcases hq with rfl | rfl | rfl | rfl <;> rfl) ?_
      refine jT_gc [0, 1, 2, 3, 4, 5, 6, 7, 8, 9, 10, 11, 12, 13, 14, 15, 16, 17, 18, 19, 20, 21, 22, 26] (hs0 := [jzQ_371, (101, [], [e0, e1, e2, e3, e4, e5]), jgh, jgh, jgh, jgh, jgh, (130, [], [17, 18, 19, 20, 21, 22]), jgh, jgh, jgh, jgh, jgh, jgh, jgh, jgh, jgh, (100, [], (jenc (jlg 0))), (100, [], (jenc (jlg 1))), (100, [], (jenc (jlg 2))), (100, [], (jenc (jlg 3))), (100, [], (jenc (jlg 4))), (100, [], (jenc (jlg 5))), (100, [], jenc (a + (e0 * jlg 0)))]) (L0 := [(3, (0, 1)), (2, (4, 23)), (0, (4, 0)), (1, (4, 1))]) (st0 := []) (by show jgB [0, 1, 2, 3, 4, 5, 6, 7, 8, 9, 10, 11, 12, 13, 14, 15, 16, 17, 18, 19, 20, 21, 22, 26] 27 = true; decide +kernel) rfl ⟨rfl, rfl, rfl, rfl, rfl, rfl, rfl, rfl, rfl, rfl, rfl, rfl, rfl, rfl, rfl, rfl, rfl, rfl, rfl, rfl, rfl, rfl, rfl, rfl, trivial⟩ rfl rfl (by decide +kernel) ?_
      exact jT.mono (jQl_lg_150_1 hd h_e0 h_e1 h_e2 h_e3 h_e4 h_e5 (jb1c ha hp.2.2 (by decide)) (by rw [← Int.add_assoc] at hw; exact hw) h) (Nat.le_refl _) (by omega) (by omega) (fun _ _ _ z => z)
  · refine jT_xiload_n (v := (0, 0)) (pcN := 8) jIQ_214_7 rfl rfl rfl ?_
    refine jT_xbipush (k := 6) (pcN := 10) jIQ_214_8 (by decide) rfl ?_
    refine jT_xicF (t := 47) (pcN := 13) jIQ_214_10 rfl (by decide +kernel) rfl rfl ?_
    refine jT_xaload_n (v := (4, 1)) (pcN := 14) jIQ_214_13 rfl rfl rfl ?_
    refine jT_xiload_n (v := (0, 0)) (pcN := 15) jIQ_214_14 rfl rfl rfl ?_
    refine jT_lald (x := e0) (a := 1) (j := 0) (fs := []) (X := [e0, e1, e2, e3, e4, e5]) jIQ_214_15 rfl rfl rfl rfl ?_
    refine jT_eq (LN := [(3, (0, 0)), (2, (4, 23)), (0, (4, 0)), (1, (4, 1))]) (stN := [(1, e0)]) (hsN := [jzQ_371, (101, [], [e0, e1, e2, e3, e4, e5]), jgh, jgh, jgh, jgh, jgh, (130, [], [17, 18, 19, 20, 21, 22]), jgh, jgh, jgh, jgh, jgh, jgh, jgh, jgh, jgh, (100, [], (jenc (jlg 0))), (100, [], (jenc (jlg 1))), (100, [], (jenc (jlg 2))), (100, [], (jenc (jlg 3))), (100, [], (jenc (jlg 4))), (100, [], (jenc (jlg 5))), (100, [], (jenc a))]) rfl rfl rfl ?_
    refine jT_xlconst (z := 0) (pcN := 17) jIQ_214_16 rfl rfl ?_
    refine jT_lcmp (a := e0) (b := 0) (z := 0) (by rfl) (by rfl) (jwl_idd (by omega) (by omega)) (jwl_idd (by omega) (by omega)) (by rw [decide_eq_false (show ¬ ((0 : Int) < e0) by omega), decide_eq_true (show (e0 : Int) = 0 by omega)]; rfl) ?_
    refine jT_xifT (pcN := 41) jIQ_214_18 rfl (by decide +kernel) rfl ?_
    refine jT_xiinc (x := 0) (z := 1) (LN := [(3, (0, 1)), (2, (4, 23)), (0, (4, 0)), (1, (4, 1))]) (pcN := 44) jIQ_214_41 rfl rfl (by decide) rfl rfl ?_
    refine jT_xgoto (pcN := 7) jIQ_214_44 rfl ?_
    refine jT_loc (LN := [(3, (0, 1)), (2, (4, 23)), (0, (4, 0)), (1, (4, 1))]) (by show List.Nodup [3, 2, 0, 1]; decide) (by intro q hq; simp only [List.mem_cons, List.not_mem_nil, or_false] at hq; rcases hq with rfl | rfl | rfl | rfl <;> rfl) ?_
    exact jT.mono (jQl_lg_150_1 hd h_e0 h_e1 h_e2 h_e3 h_e4 h_e5 (by omega) (by rw [g_0, Int.zero_mul] at hw; omega) h) (Nat.le_refl _) (by omega) (by omega) (fun _ _ _ z => z)
  · have hp := jlz_m (k := 0) (e := e0) (by decide) (by omega) (by omega)
    rcases (show (a = 0) ∨ (a ≠ 0) by omega) with ga | ga
    · subst ga
      refine jT_xiload_n (v := (0, 0)) (pcN := 8) jIQ_214_7 rfl rfl rfl ?_
      refine jT_xbipush (k := 6) (pcN := 10) jIQ_214_8 (by decide) rfl ?_
      refine jT_xicF (t := 47) (pcN := 13) jIQ_214_10 rfl (by decide +kernel) rfl rfl ?_
      refine jT_xaload_n (v := (4, 1)) (pcN := 14) jIQ_214_13 rfl rfl rfl ?_
      refine jT_xiload_n (v := (0, 0)) (pcN := 15) jIQ_214_14 rfl rfl rfl ?_
      refine jT_lald (x := e0) (a := 1) (j := 0) (fs := []) (X := [e0, e1, e2, e3, e4, e5]) jIQ_214_15 rfl rfl rfl rfl ?_
      refine jT_eq (LN := [(3, (0, 0)), (2, (4, 23)), (0, (4, 0)), (1, (4, 1))]) (stN := [(1, e0)]) (hsN := [jzQ_371, (101, [], [e0, e1, e2, e3, e4, e5]), jgh, jgh, jgh, jgh, jgh, (130, [], [17, 18, 19, 20, 21, 22]), jgh, jgh, jgh, jgh, jgh, jgh, jgh, jgh, jgh, (100, [], (jenc (jlg 0))), (100, [], (jenc (jlg 1))), (100, [], (jenc (jlg 2))), (100, [], (jenc (jlg 3))), (100, [], (jenc (jlg 4))), (100, [], (jenc (jlg 5))), (100, [], (jenc 0))]) rfl rfl rfl ?_
      refine jT_xlconst (z := 0) (pcN := 17) jIQ_214_16 rfl rfl ?_
      refine jT_lcmp (a := e0) (b := 0) (z := 1) (by rfl) (by rfl) (jwl_idd (by omega) (by omega)) (jwl_idd (by omega) (by omega)) (by rw [decide_eq_true (show (0 : Int) < e0 by omega)]; rfl) ?_
      refine jT_xifF (t := 41) (pcN := 21) jIQ_214_18 rfl (by decide +kernel) rfl rfl ?_
      refine jT_xaload_n (v := (4, 23)) (pcN := 22) jIQ_214_21 rfl rfl rfl ?_
      refine jT_xaload_n (v := (4, 1)) (pcN := 23) jIQ_214_22 rfl rfl rfl ?_
      refine jT_xiload_n (v := (0, 0)) (pcN := 24) jIQ_214_23 rfl rfl rfl ?_
      refine jT_lald (x := e0) (a := 1) (j := 0) (fs := []) (X := [e0, e1, e2, e3, e4, e5]) jIQ_214_24 rfl rfl rfl rfl ?_
      refine jT_eq (LN := [(3, (0, 0)), (2, (4, 23)), (0, (4, 0)), (1, (4, 1))]) (stN := [(1, e0), (4, 23)]) (hsN := [jzQ_371, (101, [], [e0, e1, e2, e3, e4, e5]), jgh, jgh, jgh, jgh, jgh, (130, [], [17, 18, 19, 20, 21, 22]), jgh, jgh, jgh, jgh, jgh, jgh, jgh, jgh, jgh, (100, [], (jenc (jlg 0))), (100, [], (jenc (jlg 1))), (100, [], (jenc (jlg 2))), (100, [], (jenc (jlg 3))), (100, [], (jenc (jlg 4))), (100, [], (jenc (jlg 5))), (100, [], (jenc 0))]) rfl rfl rfl ?_
      refine jT_callA [] (y := 178) (pcN := 28) (dC := 1) (bc1 := 1) (bc2 := 56) (c1 := (b1 + 17)) (c2 := (b2 + 952)) (as := [(1, e0)]) (asC := [(1, e0)]) (LN := [(3, (0, 0)), (2, (4, 23)), (0, (4, 0)), (1, (4, 1))]) (stN := [(4, 23)]) (hsC := []) (ex := [(100, [], (jenc e0))]) (v := (4, 0)) (st2 := [(4, 24), (4, 23)]) (hs2 := [jzQ_371, (101, [], [e0, e1, e2, e3, e4, e5]), jgh, jgh, jgh, jgh, jgh, (130, [], [17, 18, 19, 20, 21, 22]), jgh, jgh, jgh, jgh, jgh, jgh, jgh, jgh, jgh, (100, [], (jenc (jlg 0))), (100, [], (jenc (jlg 1))), (100, [], (jenc (jlg 2))), (100, [], (jenc (jlg 3))), (100, [], (jenc (jlg 4))), (100, [], (jenc (jlg 5))), (100, [], (jenc 0)), (100, [], (jenc e0))]) (jT_big (d := 0) (v := e0) (by omega) (by omega)) (by rfl) (by rfl) (by rfl) (by rfl) trivial (by rfl) (by rfl) (by omega) (by show 23 ≤ 24; omega) (by omega) (by omega) rfl rfl ?_
      refine jT_xaload_n (v := (4, 0)) (pcN := 29) jIQ_214_28 rfl rfl rfl ?_
      refine jT_xgetf (a := 0) (t := 1) (ci := 14) (fi := 8) (c := jzQ_371) (v := (4, 7)) (pcN := 32) jIQ_214_29 rfl rfl rfl rfl rfl rfl rfl ?_
      refine jT_xiload_n (v := (0, 0)) (pcN := 33) jIQ_214_32 rfl rfl rfl ?_
      refine jT_aald (x := 17) (a := 7) (j := 0) (fs := []) (X := [17, 18, 19, 20, 21, 22]) (kd := 130) jIQ_214_33 rfl rfl rfl rfl rfl ?_
      refine jT_eq (LN := [(3, (0, 0)), (2, (4, 23)), (0, (4, 0)), (1, (4, 1))]) (stN := [(4, 17), (4, 24), (4, 23)]) (hsN := [jzQ_371, (101, [], [e0, e1, e2, e3, e4, e5]), jgh, jgh, jgh, jgh, jgh, (130, [], [17, 18, 19, 20, 21, 22]), jgh, jgh, jgh, jgh, jgh, jgh, jgh, jgh, jgh, (100, [], (jenc (jlg 0))), (100, [], (jenc (jlg 1))), (100, [], (jenc (jlg 2))), (100, [], (jenc (jlg 3))), (100, [], (jenc (jlg 4))), (100, [], (jenc (jlg 5))), (100, [], (jenc 0)), (100, [], (jenc e0))]) rfl rfl rfl ?_
      refine jT_callA [24, 17] (y := 179) (pcN := 37) (dC := 1) (bc1 := 1) (bc2 := 56) (c1 := (b1 + 16)) (c2 := (b2 + 896)) (as := [(4, 24), (4, 17)]) (asC := [(4, 0), (4, 1)]) (LN := [(3, (0, 0)), (2, (4, 23)), (0, (4, 0)), (1, (4, 1))]) (stN := [(4, 23)]) (hsC := [(100, [], (jenc e0)), (100, [], (jenc (jlg 0)))]) (ex := [(100, [], (jenc (e0 * jlg 0)))]) (v := (4, 2)) (st2 := [(4, 25), (4, 23)]) (hs2 := [jzQ_371, (101, [], [e0, e1, e2, e3, e4, e5]), jgh, jgh, jgh, jgh, jgh, (130, [], [17, 18, 19, 20, 21, 22]), jgh, jgh, jgh, jgh, jgh, jgh, jgh, jgh, jgh, (100, [], (jenc (jlg 0))), (100, [], (jenc (jlg 1))), (100, [], (jenc (jlg 2))), (100, [], (jenc (jlg 3))), (100, [], (jenc (jlg 4))), (100, [], (jenc (jlg 5))), (100, [], (jenc 0)), (100, [], (jenc e0)), (100, [], (jenc (e0 * jlg 0)))]) (jT_product (d := 0) (a := e0) (b := jlg 0) (jb54 (by omega) (by omega)) hp.1) (by rfl) (by rfl) (by rfl) (by rfl) ⟨rfl, rfl, trivial⟩ (by rfl) (by rfl) (by omega) (by show 23 ≤ 25; omega) (by omega) (by omega) rfl rfl ?_
      refine jT_callA [23, 25] (y := 181) (pcN := 40) (dC := 0) (bc1 := 0) (bc2 := 0) (c1 := (b1 + 16)) (c2 := (b2 + 896)) (as := [(4, 23), (4, 25)]) (asC := [(4, 0), (4, 1)]) (LN := [(3, (0, 0)), (2, (4, 23)), (0, (4, 0)), (1, (4, 1))]) (stN := []) (hsC := [(100, [], (jenc 0)), (100, [], (jenc (e0 * jlg 0)))]) (ex := []) (v := (4, 1)) (st2 := [(4, 25)]) (hs2 := [jzQ_371, (101, [], [e0, e1, e2, e3, e4, e5]), jgh, jgh, jgh, jgh, jgh, (130, [], [17, 18, 19, 20, 21, 22]), jgh, jgh, jgh, jgh, jgh, jgh, jgh, jgh, jgh, (100, [], (jenc (jlg 0))), (100, [], (jenc (jlg 1))), (100, [], (jenc (jlg 2))), (100, [], (jenc (jlg 3))), (100, [], (jenc (jlg 4))), (100, [], (jenc (jlg 5))), (100, [], (jenc 0)), (100, [], (jenc e0)), (100, [], (jenc (e0 * jlg 0)))]) (jT_added_0l (d := 0) (b := e0 * jlg 0)) (by rfl) (by rfl) (by rfl) (by rfl) ⟨rfl, rfl, trivial⟩ (by rfl) (by rfl) (by omega) (by show 23 ≤ 26; omega) (by omega) (by omega) rfl rfl ?_
      refine jT_xastore_n (v := (4, 25)) (LN := [(2, (4, 25)), (3, (0, 0)), (0, (4, 0)), (1, (4, 1))]) (pcN := 41) jIQ_214_40 rfl rfl rfl rfl ?_
      refine jT_xiinc (x := 0) (z := 1) (LN := [(3, (0, 1)), (2, (4, 25)), (0, (4, 0)), (1, (4, 1))]) (pcN := 44) jIQ_214_41 rfl rfl (by decide) rfl rfl ?_
      refine jT_xgoto (pcN := 7) jIQ_214_44 rfl ?_
      refine jT_loc (LN := [(3, (0, 1)), (2, (4, 25)), (0, (4, 0)), (1, (4, 1))]) (by show List.Nodup [3, 2, 0, 1]; decide) (by intro q hq; simp only [List.mem_cons, List.not_mem_nil, or_false] at hq; rcases hq with rfl | rfl | rfl | rfl <;> rfl) ?_
      refine jT_gc [0, 1, 2, 3, 4, 5, 6, 7, 8, 9, 10, 11, 12, 13, 14, 15, 16, 17, 18, 19, 20, 21, 22, 25] (hs0 := [jzQ_371, (101, [], [e0, e1, e2, e3, e4, e5]), jgh, jgh, jgh, jgh, jgh, (130, [], [17, 18, 19, 20, 21, 22]), jgh, jgh, jgh, jgh, jgh, jgh, jgh, jgh, jgh, (100, [], (jenc (jlg 0))), (100, [], (jenc (jlg 1))), (100, [], (jenc (jlg 2))), (100, [], (jenc (jlg 3))), (100, [], (jenc (jlg 4))), (100, [], (jenc (jlg 5))), (100, [], jenc (e0 * jlg 0))]) (L0 := [(3, (0, 1)), (2, (4, 23)), (0, (4, 0)), (1, (4, 1))]) (st0 := []) (by show jgB [0, 1, 2, 3, 4, 5, 6, 7, 8, 9, 10, 11, 12, 13, 14, 15, 16, 17, 18, 19, 20, 21, 22, 25] 26 = true; decide +kernel) rfl ⟨rfl, rfl, rfl, rfl, rfl, rfl, rfl, rfl, rfl, rfl, rfl, rfl, rfl, rfl, rfl, rfl, rfl, rfl, rfl, rfl, rfl, rfl, rfl, rfl, trivial⟩ rfl rfl (by decide +kernel) ?_
      exact jT.mono (jQl_lg_150_1 hd h_e0 h_e1 h_e2 h_e3 h_e4 h_e5 (jb1z hp.2.2) (by rw [Int.zero_add] at hw; exact hw) h) (Nat.le_refl _) (by omega) (by omega) (fun _ _ _ z => z)
    · refine jT_xiload_n (v := (0, 0)) (pcN := 8) jIQ_214_7 rfl rfl rfl ?_
      refine jT_xbipush (k := 6) (pcN := 10) jIQ_214_8 (by decide) rfl ?_
      refine jT_xicF (t := 47) (pcN := 13) jIQ_214_10 rfl (by decide +kernel) rfl rfl ?_
      refine jT_xaload_n (v := (4, 1)) (pcN := 14) jIQ_214_13 rfl rfl rfl ?_
      refine jT_xiload_n (v := (0, 0)) (pcN := 15) jIQ_214_14 rfl rfl rfl ?_
      refine jT_lald (x := e0) (a := 1) (j := 0) (fs := []) (X := [e0, e1, e2, e3, e4, e5]) jIQ_214_15 rfl rfl rfl rfl ?_
      refine jT_eq (LN := [(3, (0, 0)), (2, (4, 23)), (0, (4, 0)), (1, (4, 1))]) (stN := [(1, e0)]) (hsN := [jzQ_371, (101, [], [e0, e1, e2, e3, e4, e5]), jgh, jgh, jgh, jgh, jgh, (130, [], [17, 18, 19, 20, 21, 22]), jgh, jgh, jgh, jgh, jgh, jgh, jgh, jgh, jgh, (100, [], (jenc (jlg 0))), (100, [], (jenc (jlg 1))), (100, [], (jenc (jlg 2))), (100, [], (jenc (jlg 3))), (100, [], (jenc (jlg 4))), (100, [], (jenc (jlg 5))), (100, [], (jenc a))]) rfl rfl rfl ?_
      refine jT_xlconst (z := 0) (pcN := 17) jIQ_214_16 rfl rfl ?_
      refine jT_lcmp (a := e0) (b := 0) (z := 1) (by rfl) (by rfl) (jwl_idd (by omega) (by omega)) (jwl_idd (by omega) (by omega)) (by rw [decide_eq_true (show (0 : Int) < e0 by omega)]; rfl) ?_
      refine jT_xifF (t := 41) (pcN := 21) jIQ_214_18 rfl (by decide +kernel) rfl rfl ?_
      refine jT_xaload_n (v := (4, 23)) (pcN := 22) jIQ_214_21 rfl rfl rfl ?_
      refine jT_xaload_n (v := (4, 1)) (pcN := 23) jIQ_214_22 rfl rfl rfl ?_
      refine jT_xiload_n (v := (0, 0)) (pcN := 24) jIQ_214_23 rfl rfl rfl ?_
      refine jT_lald (x := e0) (a := 1) (j := 0) (fs := []) (X := [e0, e1, e2, e3, e4, e5]) jIQ_214_24 rfl rfl rfl rfl ?_
      refine jT_eq (LN := [(3, (0, 0)), (2, (4, 23)), (0, (4, 0)), (1, (4, 1))]) (stN := [(1, e0), (4, 23)]) (hsN := [jzQ_371, (101, [], [e0, e1, e2, e3, e4, e5]), jgh, jgh, jgh, jgh, jgh, (130, [], [17, 18, 19, 20, 21, 22]), jgh, jgh, jgh, jgh, jgh, jgh, jgh, jgh, jgh, (100, [], (jenc (jlg 0))), (100, [], (jenc (jlg 1))), (100, [], (jenc (jlg 2))), (100, [], (jenc (jlg 3))), (100, [], (jenc (jlg 4))), (100, [], (jenc (jlg 5))), (100, [], (jenc a))]) rfl rfl rfl ?_
      refine jT_callA [] (y := 178) (pcN := 28) (dC := 1) (bc1 := 1) (bc2 := 56) (c1 := (b1 + 17)) (c2 := (b2 + 952)) (as := [(1, e0)]) (asC := [(1, e0)]) (LN := [(3, (0, 0)), (2, (4, 23)), (0, (4, 0)), (1, (4, 1))]) (stN := [(4, 23)]) (hsC := []) (ex := [(100, [], (jenc e0))]) (v := (4, 0)) (st2 := [(4, 24), (4, 23)]) (hs2 := [jzQ_371, (101, [], [e0, e1, e2, e3, e4, e5]), jgh, jgh, jgh, jgh, jgh, (130, [], [17, 18, 19, 20, 21, 22]), jgh, jgh, jgh, jgh, jgh, jgh, jgh, jgh, jgh, (100, [], (jenc (jlg 0))), (100, [], (jenc (jlg 1))), (100, [], (jenc (jlg 2))), (100, [], (jenc (jlg 3))), (100, [], (jenc (jlg 4))), (100, [], (jenc (jlg 5))), (100, [], (jenc a)), (100, [], (jenc e0))]) (jT_big (d := 0) (v := e0) (by omega) (by omega)) (by rfl) (by rfl) (by rfl) (by rfl) trivial (by rfl) (by rfl) (by omega) (by show 23 ≤ 24; omega) (by omega) (by omega) rfl rfl ?_
      refine jT_xaload_n (v := (4, 0)) (pcN := 29) jIQ_214_28 rfl rfl rfl ?_
      refine jT_xgetf (a := 0) (t := 1) (ci := 14) (fi := 8) (c := jzQ_371) (v := (4, 7)) (pcN := 32) jIQ_214_29 rfl rfl rfl rfl rfl rfl rfl ?_
      refine jT_xiload_n (v := (0, 0)) (pcN := 33) jIQ_214_32 rfl rfl rfl ?_
      refine jT_aald (x := 17) (a := 7) (j := 0) (fs := []) (X := [17, 18, 19, 20, 21, 22]) (kd := 130) jIQ_214_33 rfl rfl rfl rfl rfl ?_
      refine jT_eq (LN := [(3, (0, 0)), (2, (4, 23)), (0, (4, 0)), (1, (4, 1))]) (stN := [(4, 17), (4, 24), (4, 23)]) (hsN := [jzQ_371, (101, [], [e0, e1, e2, e3, e4, e5]), jgh, jgh, jgh, jgh, jgh, (130, [], [17, 18, 19, 20, 21, 22]), jgh, jgh, jgh, jgh, jgh, jgh, jgh, jgh, jgh, (100, [], (jenc (jlg 0))), (100, [], (jenc (jlg 1))), (100, [], (jenc (jlg 2))), (100, [], (jenc (jlg 3))), (100, [], (jenc (jlg 4))), (100, [], (jenc (jlg 5))), (100, [], (jenc a)), (100, [], (jenc e0))]) rfl rfl rfl ?_
      refine jT_callA [24, 17] (y := 179) (pcN := 37) (dC := 1) (bc1 := 1) (bc2 := 56) (c1 := (b1 + 16)) (c2 := (b2 + 896)) (as := [(4, 24), (4, 17)]) (asC := [(4, 0), (4, 1)]) (LN := [(3, (0, 0)), (2, (4, 23)), (0, (4, 0)), (1, (4, 1))]) (stN := [(4, 23)]) (hsC := [(100, [], (jenc e0)), (100, [], (jenc (jlg 0)))]) (ex := [(100, [], (jenc (e0 * jlg 0)))]) (v := (4, 2)) (st2 := [(4, 25), (4, 23)]) (hs2 := [jzQ_371, (101, [], [e0, e1, e2, e3, e4, e5]), jgh, jgh, jgh, jgh, jgh, (130, [], [17, 18, 19, 20, 21, 22]), jgh, jgh, jgh, jgh, jgh, jgh, jgh, jgh, jgh, (100, [], (jenc (jlg 0))), (100, [], (jenc (jlg 1))), (100, [], (jenc (jlg 2))), (100, [], (jenc (jlg 3))), (100, [], (jenc (jlg 4))), (100, [], (jenc (jlg 5))), (100, [], (jenc a)), (100, [], (jenc e0)), (100, [], (jenc (e0 * jlg 0)))]) (jT_product (d := 0) (a := e0) (b := jlg 0) (jb54 (by omega) (by omega)) hp.1) (by rfl) (by rfl) (by rfl) (by rfl) ⟨rfl, rfl, trivial⟩ (by rfl) (by rfl) (by omega) (by show 23 ≤ 25; omega) (by omega) (by omega) rfl rfl ?_
      refine jT_callA [23, 25] (y := 181) (pcN := 40) (dC := 1) (bc1 := 1) (bc2 := 56) (c1 := (b1 + 15)) (c2 := (b2 + 840)) (as := [(4, 23), (4, 25)]) (asC := [(4, 0), (4, 1)]) (LN := [(3, (0, 0)), (2, (4, 23)), (0, (4, 0)), (1, (4, 1))]) (stN := []) (hsC := [(100, [], (jenc a)), (100, [], (jenc (e0 * jlg 0)))]) (ex := [(100, [], (jenc (a + (e0 * jlg 0))))]) (v := (4, 2)) (st2 := [(4, 26)]) (hs2 := [jzQ_371, (101, [], [e0, e1, e2, e3, e4, e5]), jgh, jgh, jgh, jgh, jgh, (130, [], [17, 18, 19, 20, 21, 22]), jgh, jgh, jgh, jgh, jgh, jgh, jgh, jgh, jgh, (100, [], (jenc (jlg 0))), (100, [], (jenc (jlg 1))), (100, [], (jenc (jlg 2))), (100, [], (jenc (jlg 3))), (100, [], (jenc (jlg 4))), (100, [], (jenc (jlg 5))), (100, [], (jenc a)), (100, [], (jenc e0)), (100, [], (jenc (e0 * jlg 0))), (100, [], (jenc (a + (e0 * jlg 0))))]) (jT_added (d := 0) (a := a) (b := e0 * jlg 0) ga hp.2.1 (jb54k ha (by decide)) hp.1 (jb54a ha hp.2.2 (by decide))) (by rfl) (by rfl) (by rfl) (by rfl) ⟨rfl, rfl, trivial⟩ (by rfl) (by rfl) (by omega) (by show 23 ≤ 26; omega) (by omega) (by omega) rfl rfl ?_
      refine jT_xastore_n (v := (4, 26)) (LN := [(2, (4, 26)), (3, (0, 0)), (0, (4, 0)), (1, (4, 1))]) (pcN := 41) jIQ_214_40 rfl rfl rfl rfl ?_
      refine jT_xiinc (x := 0) (z := 1) (LN := [(3, (0, 1)), (2, (4, 26)), (0, (4, 0)), (1, (4, 1))]) (pcN := 44) jIQ_214_41 rfl rfl (by decide) rfl rfl ?_
      refine jT_xgoto (pcN := 7) jIQ_214_44 rfl ?_
      refine jT_loc (LN := [(3, (0, 1)), (2, (4, 26)), (0, (4, 0)), (1, (4, 1))]) (by show List.Nodup [3, 2, 0, 1]; decide) (by intro q hq; simp only [List.mem_cons, List.not_mem_nil, or_false] at hq; rcases hq with rfl | rfl | rfl | rfl <;> rfl) ?_
      refine jT_gc [0, 1, 2, 3, 4, 5, 6, 7, 8, 9, 10, 11, 12, 13, 14, 15, 16, 17, 18, 19, 20, 21, 22, 26] (hs0 := [jzQ_371, (101, [], [e0, e1, e2, e3, e4, e5]), jgh, jgh, jgh, jgh, jgh, (130, [], [17, 18, 19, 20, 21, 22]), jgh, jgh, jgh, jgh, jgh, jgh, jgh, jgh, jgh, (100, [], (jenc (jlg 0))), (100, [], (jenc (jlg 1))), (100, [], (jenc (jlg 2))), (100, [], (jenc (jlg 3))), (100, [], (jenc (jlg 4))), (100, [], (jenc (jlg 5))), (100, [], jenc (a + (e0 * jlg 0)))]) (L0 := [(3, (0, 1)), (2, (4, 23)), (0, (4, 0)), (1, (4, 1))]) (st0 := []) (by show jgB [0, 1, 2, 3, 4, 5, 6, 7, 8, 9, 10, 11, 12, 13, 14, 15, 16, 17, 18, 19, 20, 21, 22, 26] 27 = true; decide +kernel) rfl ⟨rfl, rfl, rfl, rfl, rfl, rfl, rfl, rfl, rfl, rfl, rfl, rfl, rfl, rfl, rfl, rfl, rfl, rfl, rfl, rfl, rfl, rfl, rfl, rfl, trivial⟩ rfl rfl (by decide +kernel) ?_
      exact jT.mono (jQl_lg_150_1 hd h_e0 h_e1 h_e2 h_e3 h_e4 h_e5 (jb1c ha hp.2.2 (by decide)) (by rw [← Int.add_assoc] at hw; exact hw) h) (Nat.le_refl _) (by omega) (by omega) (fun _ _ _ z => z)
theorem jIQ_214_0 : jmI (jm 214) 0 = (.bipush 56, 2) := by rfl
theorem jIQ_214_4 : jmI (jm 214) 4 = (.astore_n 2, 1) := by rfl
theorem jIQ_214_5 : jmI (jm 214) 5 = (.iconst 0, 1) := by rfl
theorem jIQ_214_6 : jmI (jm 214) 6 = (.istore_n 3, 1) := by rfl
theorem jIQ_214_47 : jmI (jm 214) 47 = (.aload_n 2, 1) := by rfl
theorem jQl_lg_150 {xs : List Int} {d : Nat} {e0 e1 e2 e3 e4 e5 : Int} (h_e0 : -4611686018427387903 ≤ e0 ∧ e0 ≤ 4611686018427387903) (h_e1 : -4611686018427387903 ≤ e1 ∧ e1 ≤ 4611686018427387903) (h_e2 : -4611686018427387903 ≤ e2 ∧ e2 ≤ 4611686018427387903) (h_e3 : -4611686018427387903 ≤ e3 ∧ e3 ≤ 4611686018427387903) (h_e4 : -4611686018427387903 ≤ e4 ∧ e4 ≤ 4611686018427387903) (h_e5 : -4611686018427387903 ≤ e5 ∧ e5 ≤ 4611686018427387903) : jT xs (d + 2) 214 23 0 [(0, (4, 0)), (1, (4, 1))] [] [jzQ_371, (101, [], [e0, e1, e2, e3, e4, e5]), jgh, jgh, jgh, jgh, jgh, (130, [], [17, 18, 19, 20, 21, 22]), jgh, jgh, jgh, jgh, jgh, jgh, jgh, jgh, jgh, (100, [], (jenc (jlg 0))), (100, [], (jenc (jlg 1))), (100, [], (jenc (jlg 2))), (100, [], (jenc (jlg 3))), (100, [], (jenc (jlg 4))), (100, [], (jenc (jlg 5)))] 19 1064 (fun k v hsN => k = 0 ∧ v = (4, 23) ∧ hsN = [jzQ_371, (101, [], [e0, e1, e2, e3, e4, e5]), jgh, jgh, jgh, jgh, jgh, (130, [], [17, 18, 19, 20, 21, 22]), jgh, jgh, jgh, jgh, jgh, jgh, jgh, jgh, jgh, (100, [], (jenc (jlg 0))), (100, [], (jenc (jlg 1))), (100, [], (jenc (jlg 2))), (100, [], (jenc (jlg 3))), (100, [], (jenc (jlg 4))), (100, [], (jenc (jlg 5))), (100, [], jenc (jlz e0 e1 e2 e3 e4 e5))]) := by
  refine jT_xbipush (k := 56) (pcN := 2) jIQ_214_0 (by decide) rfl ?_
  refine jT_adv 1 (pcN := 4) (LN := [(0, (4, 0)), (1, (4, 1))]) (stN := [(4, 23)]) (hsN := [jzQ_371, (101, [], [e0, e1, e2, e3, e4, e5]), jgh, jgh, jgh, jgh, jgh, (130, [], [17, 18, 19, 20, 21, 22]), jgh, jgh, jgh, jgh, jgh, jgh, jgh, jgh, jgh, (100, [], (jenc (jlg 0))), (100, [], (jenc (jlg 1))), (100, [], (jenc (jlg 2))), (100, [], (jenc (jlg 3))), (100, [], (jenc (jlg 4))), (100, [], (jenc (jlg 5))), (100, [], List.replicate 56 0)]) (c1 := 1) (s1 := 56) (c2 := 18) (s2 := 1008) (by exact rfl) ?_ (by omega) (by omega)
  refine jT_xastore_n (v := (4, 23)) (LN := [(2, (4, 23)), (0, (4, 0)), (1, (4, 1))]) (pcN := 5) jIQ_214_4 rfl rfl rfl rfl ?_
  refine jT_xiconst (k := 0) (pcN := 6) jIQ_214_5 rfl ?_
  refine jT_xistore_n (v := (0, 0)) (LN := [(3, (0, 0)), (2, (4, 23)), (0, (4, 0)), (1, (4, 1))]) (pcN := 7) jIQ_214_6 rfl rfl rfl rfl ?_
  refine jT_loc (LN := [(3, (0, 0)), (2, (4, 23)), (0, (4, 0)), (1, (4, 1))]) (by show List.Nodup [3, 2, 0, 1]; decide) (by intro q hq; simp only [List.mem_cons, List.not_mem_nil, or_false] at hq; rcases hq with rfl | rfl | rfl | rfl <;> rfl) ?_
  refine jT_eq (LN := [(3, (0, 0)), (2, (4, 23)), (0, (4, 0)), (1, (4, 1))]) (stN := []) (hsN := [jzQ_371, (101, [], [e0, e1, e2, e3, e4, e5]), jgh, jgh, jgh, jgh, jgh, (130, [], [17, 18, 19, 20, 21, 22]), jgh, jgh, jgh, jgh, jgh, jgh, jgh, jgh, jgh, (100, [], (jenc (jlg 0))), (100, [], (jenc (jlg 1))), (100, [], (jenc (jlg 2))), (100, [], (jenc (jlg 3))), (100, [], (jenc (jlg 4))), (100, [], (jenc (jlg 5))), (100, [], jenc 0)]) rfl rfl (by rw [← jrep56e]) ?_
  refine jQl_lg_150_0 (b1 := 0) (b2 := 0) (by omega) h_e0 h_e1 h_e2 h_e3 h_e4 h_e5 (by decide) (show 0 + (e0 * jlg 0 + (e1 * jlg 1 + (e2 * jlg 2 + (e3 * jlg 3 + (e4 * jlg 4 + (e5 * jlg 5)))))) = jlz e0 e1 e2 e3 e4 e5 from by unfold jlz; omega) ?_
  refine jT_xaload_n (v := (4, 23)) (pcN := 48) jIQ_214_47 rfl rfl rfl ?_
  exact jT_ret rfl (by decide) (by show 23 ≤ 24; decide) (by omega) (by omega) ⟨rfl, rfl, rfl⟩
theorem jIQ_213_16 : jmI (jm 213) 16 = (.iconst 0, 1) := by rfl
theorem jIQ_200_18 : jmI (jm 200) 18 = (.iinc 1 1, 3) := by rfl
theorem jIQ_200_21 : jmI (jm 200) 21 = (.goto (-19), 3) := by rfl
theorem jQ_200_151 {xs : List Int} {d : Nat} {e0 e1 e2 e3 e4 e5 : Int} (h_e0 : (-4611686018427387903) ≤ e0 ∧ e0 ≤ 4611686018427387903) (h_e1 : (-4611686018427387903) ≤ e1 ∧ e1 ≤ 4611686018427387903) (h_e2 : (-4611686018427387903) ≤ e2 ∧ e2 ≤ 4611686018427387903) (h_e3 : (-4611686018427387903) ≤ e3 ∧ e3 ≤ 4611686018427387903) (h_e4 : (-4611686018427387903) ≤ e4 ∧ e4 ≤ 4611686018427387903) (h_e5 : (-4611686018427387903) ≤ e5 ∧ e5 ≤ 4611686018427387903) (g_0 : e0 - 1 < 0) (g_1 : 0 ≤ e0) (g_2 : 0 ≤ e1 - 1) : jT xs d 200 1 0 [(0, (4, 0))] [] [(101, [], [e0, e1, e2, e3, e4, e5])] 0 0 (fun k v hsN => k = 0 ∧ v = (0, 0) ∧ hsN = [(101, [], [e0, e1, e2, e3, e4, e5])] ++ []) := by
  refine jT_xiconst (k := 0) (pcN := 1) jIQ_200_0 rfl ?_
  refine jT_xistore_n (v := (0, 0)) (LN := [(1, (0, 0)), (0, (4, 0))]) (pcN := 2) jIQ_200_1 rfl rfl rfl rfl ?_
  refine jT_xiload_n (v := (0, 0)) (pcN := 3) jIQ_200_2 rfl rfl rfl ?_
  refine jT_xbipush (k := 6) (pcN := 5) jIQ_200_3 (by decide) rfl ?_
  refine jT_xicF (t := 24) (pcN := 8) jIQ_200_5 rfl (by decide +kernel) rfl rfl ?_
  refine jT_xaload_n (v := (4, 0)) (pcN := 9) jIQ_200_8 rfl rfl rfl ?_
  refine jT_xiload_n (v := (0, 0)) (pcN := 10) jIQ_200_9 rfl rfl rfl ?_
  refine jT_lald (x := e0) (a := 0) (j := 0) (fs := []) (X := [e0, e1, e2, e3, e4, e5]) jIQ_200_10 rfl rfl rfl rfl ?_
  refine jT_eq (LN := [(1, (0, 0)), (0, (4, 0))]) (stN := [(1, e0)]) (hsN := [(101, [], [e0, e1, e2, e3, e4, e5])]) rfl rfl rfl ?_
  refine jT_xlconst (z := 0) (pcN := 12) jIQ_200_11 rfl rfl ?_
  refine jT_lcmp (a := e0) (b := 0) (z := 0) (by rfl) (by rfl) (jwl_idd (by omega) (by omega)) (jwl_idd (by omega) (by omega)) (by rw [decide_eq_false (show ¬ ((0 : Int) < e0) by omega), decide_eq_true (show (e0 : Int) = 0 by omega)]; rfl) ?_
  refine jT_xifT (pcN := 18) jIQ_200_13 rfl (by decide +kernel) rfl ?_
  refine jT_xiinc (x := 0) (z := 1) (LN := [(1, (0, 1)), (0, (4, 0))]) (pcN := 21) jIQ_200_18 rfl rfl (by decide) rfl rfl ?_
  refine jT_xgoto (pcN := 2) jIQ_200_21 rfl ?_
  refine jT_xiload_n (v := (0, 1)) (pcN := 3) jIQ_200_2 rfl rfl rfl ?_
  refine jT_xbipush (k := 6) (pcN := 5) jIQ_200_3 (by decide) rfl ?_
  refine jT_xicF (t := 24) (pcN := 8) jIQ_200_5 rfl (by decide +kernel) rfl rfl ?_
  refine jT_xaload_n (v := (4, 0)) (pcN := 9) jIQ_200_8 rfl rfl rfl ?_
  refine jT_xiload_n (v := (0, 1)) (pcN := 10) jIQ_200_9 rfl rfl rfl ?_
  refine jT_lald (x := e1) (a := 0) (j := 1) (fs := []) (X := [e0, e1, e2, e3, e4, e5]) jIQ_200_10 rfl rfl rfl rfl ?_
  refine jT_eq (LN := [(1, (0, 1)), (0, (4, 0))]) (stN := [(1, e1)]) (hsN := [(101, [], [e0, e1, e2, e3, e4, e5])]) rfl rfl rfl ?_
  refine jT_xlconst (z := 0) (pcN := 12) jIQ_200_11 rfl rfl ?_
  refine jT_lcmp (a := e1) (b := 0) (z := 1) (by rfl) (by rfl) (jwl_idd (by omega) (by omega)) (jwl_idd (by omega) (by omega)) (by rw [decide_eq_true (show (0 : Int) < e1 by omega)]; rfl) ?_
  refine jT_xifF (t := 18) (pcN := 16) jIQ_200_13 rfl (by decide +kernel) rfl rfl ?_
  refine jT_xiconst (k := 0) (pcN := 17) jIQ_200_16 rfl ?_
  exact jT_ret rfl (by decide) (by show 1 ≤ 1; omega) (by omega) (by omega) ⟨rfl, rfl, rfl⟩
theorem jQ_200_152 {xs : List Int} {d : Nat} {e0 e1 e2 e3 e4 e5 : Int} (h_e0 : (-4611686018427387903) ≤ e0 ∧ e0 ≤ 4611686018427387903) (h_e1 : (-4611686018427387903) ≤ e1 ∧ e1 ≤ 4611686018427387903) (h_e2 : (-4611686018427387903) ≤ e2 ∧ e2 ≤ 4611686018427387903) (h_e3 : (-4611686018427387903) ≤ e3 ∧ e3 ≤ 4611686018427387903) (h_e4 : (-4611686018427387903) ≤ e4 ∧ e4 ≤ 4611686018427387903) (h_e5 : (-4611686018427387903) ≤ e5 ∧ e5 ≤ 4611686018427387903) (g_0 : e0 - 1 < 0) (g_1 : 0 ≤ e0) (g_2 : e1 - 1 < 0) (g_3 : 0 ≤ e1) (g_4 : 0 ≤ e2 - 1) : jT xs d 200 1 0 [(0, (4, 0))] [] [(101, [], [e0, e1, e2, e3, e4, e5])] 0 0 (fun k v hsN => k = 0 ∧ v = (0, 0) ∧ hsN = [(101, [], [e0, e1, e2, e3, e4, e5])] ++ []) := by
  refine jT_xiconst (k := 0) (pcN := 1) jIQ_200_0 rfl ?_
  refine jT_xistore_n (v := (0, 0)) (LN := [(1, (0, 0)), (0, (4, 0))]) (pcN := 2) jIQ_200_1 rfl rfl rfl rfl ?_
  refine jT_xiload_n (v := (0, 0)) (pcN := 3) jIQ_200_2 rfl rfl rfl ?_
  refine jT_xbipush (k := 6) (pcN := 5) jIQ_200_3 (by decide) rfl ?_
  refine jT_xicF (t := 24) (pcN := 8) jIQ_200_5 rfl (by decide +kernel) rfl rfl ?_
  refine jT_xaload_n (v := (4, 0)) (pcN := 9) jIQ_200_8 rfl rfl rfl ?_
  refine jT_xiload_n (v := (0, 0)) (pcN := 10) jIQ_200_9 rfl rfl rfl ?_
  refine jT_lald (x := e0) (a := 0) (j := 0) (fs := []) (X := [e0, e1, e2, e3, e4, e5]) jIQ_200_10 rfl rfl rfl rfl ?_
  refine jT_eq (LN := [(1, (0, 0)), (0, (4, 0))]) (stN := [(1, e0)]) (hsN := [(101, [], [e0, e1, e2, e3, e4, e5])]) rfl rfl rfl ?_
  refine jT_xlconst (z := 0) (pcN := 12) jIQ_200_11 rfl rfl ?_
  refine jT_lcmp (a := e0) (b := 0) (z := 0) (by rfl) (by rfl) (jwl_idd (by omega) (by omega)) (jwl_idd (by omega) (by omega)) (by rw [decide_eq_false (show ¬ ((0 : Int) < e0) by omega), decide_eq_true (show (e0 : Int) = 0 by omega)]; rfl) ?_
  refine jT_xifT (pcN := 18) jIQ_200_13 rfl (by decide +kernel) rfl ?_
  refine jT_xiinc (x := 0) (z := 1) (LN := [(1, (0, 1)), (0, (4, 0))]) (pcN := 21) jIQ_200_18 rfl rfl (by decide) rfl rfl ?_
  refine jT_xgoto (pcN := 2) jIQ_200_21 rfl ?_
  refine jT_xiload_n (v := (0, 1)) (pcN := 3) jIQ_200_2 rfl rfl rfl ?_
  refine jT_xbipush (k := 6) (pcN := 5) jIQ_200_3 (by decide) rfl ?_
  refine jT_xicF (t := 24) (pcN := 8) jIQ_200_5 rfl (by decide +kernel) rfl rfl ?_
  refine jT_xaload_n (v := (4, 0)) (pcN := 9) jIQ_200_8 rfl rfl rfl ?_
  refine jT_xiload_n (v := (0, 1)) (pcN := 10) jIQ_200_9 rfl rfl rfl ?_
  refine jT_lald (x := e1) (a := 0) (j := 1) (fs := []) (X := [e0, e1, e2, e3, e4, e5]) jIQ_200_10 rfl rfl rfl rfl ?_
  refine jT_eq (LN := [(1, (0, 1)), (0, (4, 0))]) (stN := [(1, e1)]) (hsN := [(101, [], [e0, e1, e2, e3, e4, e5])]) rfl rfl rfl ?_
  refine jT_xlconst (z := 0) (pcN := 12) jIQ_200_11 rfl rfl ?_
  refine jT_lcmp (a := e1) (b := 0) (z := 0) (by rfl) (by rfl) (jwl_idd (by omega) (by omega)) (jwl_idd (by omega) (by omega)) (by rw [decide_eq_false (show ¬ ((0 : Int) < e1) by omega), decide_eq_true (show (e1 : Int) = 0 by omega)]; rfl) ?_
  refine jT_xifT (pcN := 18) jIQ_200_13 rfl (by decide +kernel) rfl ?_
  refine jT_xiinc (x := 1) (z := 2) (LN := [(1, (0, 2)), (0, (4, 0))]) (pcN := 21) jIQ_200_18 rfl rfl (by decide) rfl rfl ?_
  refine jT_xgoto (pcN := 2) jIQ_200_21 rfl ?_
  refine jT_xiload_n (v := (0, 2)) (pcN := 3) jIQ_200_2 rfl rfl rfl ?_
  refine jT_xbipush (k := 6) (pcN := 5) jIQ_200_3 (by decide) rfl ?_
  refine jT_xicF (t := 24) (pcN := 8) jIQ_200_5 rfl (by decide +kernel) rfl rfl ?_
  refine jT_xaload_n (v := (4, 0)) (pcN := 9) jIQ_200_8 rfl rfl rfl ?_
  refine jT_xiload_n (v := (0, 2)) (pcN := 10) jIQ_200_9 rfl rfl rfl ?_
  refine jT_lald (x := e2) (a := 0) (j := 2) (fs := []) (X := [e0, e1, e2, e3, e4, e5]) jIQ_200_10 rfl rfl rfl rfl ?_
  refine jT_eq (LN := [(1, (0, 2)), (0, (4, 0))]) (stN := [(1, e2)]) (hsN := [(101, [], [e0, e1, e2, e3, e4, e5])]) rfl rfl rfl ?_
  refine jT_xlconst (z := 0) (pcN := 12) jIQ_200_11 rfl rfl ?_
  refine jT_lcmp (a := e2) (b := 0) (z := 1) (by rfl) (by rfl) (jwl_idd (by omega) (by omega)) (jwl_idd (by omega) (by omega)) (by rw [decide_eq_true (show (0 : Int) < e2 by omega)]; rfl) ?_
  refine jT_xifF (t := 18) (pcN := 16) jIQ_200_13 rfl (by decide +kernel) rfl rfl ?_
  refine jT_xiconst (k := 0) (pcN := 17) jIQ_200_16 rfl ?_
  exact jT_ret rfl (by decide) (by show 1 ≤ 1; omega) (by omega) (by omega) ⟨rfl, rfl, rfl⟩
theorem jQ_200_153 {xs : List Int} {d : Nat} {e0 e1 e2 e3 e4 e5 : Int} (h_e0 : (-4611686018427387903) ≤ e0 ∧ e0 ≤ 4611686018427387903) (h_e1 : (-4611686018427387903) ≤ e1 ∧ e1 ≤ 4611686018427387903) (h_e2 : (-4611686018427387903) ≤ e2 ∧ e2 ≤ 4611686018427387903) (h_e3 : (-4611686018427387903) ≤ e3 ∧ e3 ≤ 4611686018427387903) (h_e4 : (-4611686018427387903) ≤ e4 ∧ e4 ≤ 4611686018427387903) (h_e5 : (-4611686018427387903) ≤ e5 ∧ e5 ≤ 4611686018427387903) (g_0 : e0 - 1 < 0) (g_1 : 0 ≤ e0) (g_2 : e1 - 1 < 0) (g_3 : 0 ≤ e1) (g_4 : e2 - 1 < 0) (g_5 : 0 ≤ e2) (g_6 : 0 ≤ e3 - 1) : jT xs d 200 1 0 [(0, (4, 0))] [] [(101, [], [e0, e1, e2, e3, e4, e5])] 0 0 (fun k v hsN => k = 0 ∧ v = (0, 0) ∧ hsN = [(101, [], [e0, e1, e2, e3, e4, e5])] ++ []) := by
  refine jT_xiconst (k := 0) (pcN := 1) jIQ_200_0 rfl ?_
  refine jT_xistore_n (v := (0, 0)) (LN := [(1, (0, 0)), (0, (4, 0))]) (pcN := 2) jIQ_200_1 rfl rfl rfl rfl ?_
  refine jT_xiload_n (v := (0, 0)) (pcN := 3) jIQ_200_2 rfl rfl rfl ?_
  refine jT_xbipush (k := 6) (pcN := 5) jIQ_200_3 (by decide) rfl ?_
  refine jT_xicF (t := 24) (pcN := 8) jIQ_200_5 rfl (by decide +kernel) rfl rfl ?_
  refine jT_xaload_n (v := (4, 0)) (pcN := 9) jIQ_200_8 rfl rfl rfl ?_
  refine jT_xiload_n (v := (0, 0)) (pcN := 10) jIQ_200_9 rfl rfl rfl ?_
  refine jT_lald (x := e0) (a := 0) (j := 0) (fs := []) (X := [e0, e1, e2, e3, e4, e5]) jIQ_200_10 rfl rfl rfl rfl ?_
  refine jT_eq (LN := [(1, (0, 0)), (0, (4, 0))]) (stN := [(1, e0)]) (hsN := [(101, [], [e0, e1, e2, e3, e4, e5])]) rfl rfl rfl ?_
  refine jT_xlconst (z := 0) (pcN := 12) jIQ_200_11 rfl rfl ?_
  refine jT_lcmp (a := e0) (b := 0) (z := 0) (by rfl) (by rfl) (jwl_idd (by omega) (by omega)) (jwl_idd (by omega) (by omega)) (by rw [decide_eq_false (show ¬ ((0 : Int) < e0) by omega), decide_eq_true (show (e0 : Int) = 0 by omega)]; rfl) ?_
  refine jT_xifT (pcN := 18) jIQ_200_13 rfl (by decide +kernel) rfl ?_
  refine jT_xiinc (x := 0) (z := 1) (LN := [(1, (0, 1)), (0, (4, 0))]) (pcN := 21) jIQ_200_18 rfl rfl (by decide) rfl rfl ?_
  refine jT_xgoto (pcN := 2) jIQ_200_21 rfl ?_
  refine jT_xiload_n (v := (0, 1)) (pcN := 3) jIQ_200_2 rfl rfl rfl ?_
  refine jT_xbipush (k := 6) (pcN := 5) jIQ_200_3 (by decide) rfl ?_
  refine jT_xicF (t := 24) (pcN := 8) jIQ_200_5 rfl (by decide +kernel) rfl rfl ?_
  refine jT_xaload_n (v := (4, 0)) (pcN := 9) jIQ_200_8 rfl rfl rfl ?_
  refine jT_xiload_n (v := (0, 1)) (pcN := 10) jIQ_200_9 rfl rfl rfl ?_
  refine jT_lald (x := e1) (a := 0) (j := 1) (fs := []) (X := [e0, e1, e2, e3, e4, e5]) jIQ_200_10 rfl rfl rfl rfl ?_
  refine jT_eq (LN := [(1, (0, 1)), (0, (4, 0))]) (stN := [(1, e1)]) (hsN := [(101, [], [e0, e1, e2, e3, e4, e5])]) rfl rfl rfl ?_
  refine jT_xlconst (z := 0) (pcN := 12) jIQ_200_11 rfl rfl ?_
  refine jT_lcmp (a := e1) (b := 0) (z := 0) (by rfl) (by rfl) (jwl_idd (by omega) (by omega)) (jwl_idd (by omega) (by omega)) (by rw [decide_eq_false (show ¬ ((0 : Int) < e1) by omega), decide_eq_true (show (e1 : Int) = 0 by omega)]; rfl) ?_
  refine jT_xifT (pcN := 18) jIQ_200_13 rfl (by decide +kernel) rfl ?_
  refine jT_xiinc (x := 1) (z := 2) (LN := [(1, (0, 2)), (0, (4, 0))]) (pcN := 21) jIQ_200_18 rfl rfl (by decide) rfl rfl ?_
  refine jT_xgoto (pcN := 2) jIQ_200_21 rfl ?_
  refine jT_xiload_n (v := (0, 2)) (pcN := 3) jIQ_200_2 rfl rfl rfl ?_
  refine jT_xbipush (k := 6) (pcN := 5) jIQ_200_3 (by decide) rfl ?_
  refine jT_xicF (t := 24) (pcN := 8) jIQ_200_5 rfl (by decide +kernel) rfl rfl ?_
  refine jT_xaload_n (v := (4, 0)) (pcN := 9) jIQ_200_8 rfl rfl rfl ?_
  refine jT_xiload_n (v := (0, 2)) (pcN := 10) jIQ_200_9 rfl rfl rfl ?_
  refine jT_lald (x := e2) (a := 0) (j := 2) (fs := []) (X := [e0, e1, e2, e3, e4, e5]) jIQ_200_10 rfl rfl rfl rfl ?_
  refine jT_eq (LN := [(1, (0, 2)), (0, (4, 0))]) (stN := [(1, e2)]) (hsN := [(101, [], [e0, e1, e2, e3, e4, e5])]) rfl rfl rfl ?_
  refine jT_xlconst (z := 0) (pcN := 12) jIQ_200_11 rfl rfl ?_
  refine jT_lcmp (a := e2) (b := 0) (z := 0) (by rfl) (by rfl) (jwl_idd (by omega) (by omega)) (jwl_idd (by omega) (by omega)) (by rw [decide_eq_false (show ¬ ((0 : Int) < e2) by omega), decide_eq_true (show (e2 : Int) = 0 by omega)]; rfl) ?_
  refine jT_xifT (pcN := 18) jIQ_200_13 rfl (by decide +kernel) rfl ?_
  refine jT_xiinc (x := 2) (z := 3) (LN := [(1, (0, 3)), (0, (4, 0))]) (pcN := 21) jIQ_200_18 rfl rfl (by decide) rfl rfl ?_
  refine jT_xgoto (pcN := 2) jIQ_200_21 rfl ?_
  refine jT_xiload_n (v := (0, 3)) (pcN := 3) jIQ_200_2 rfl rfl rfl ?_
  refine jT_xbipush (k := 6) (pcN := 5) jIQ_200_3 (by decide) rfl ?_
  refine jT_xicF (t := 24) (pcN := 8) jIQ_200_5 rfl (by decide +kernel) rfl rfl ?_
  refine jT_xaload_n (v := (4, 0)) (pcN := 9) jIQ_200_8 rfl rfl rfl ?_
  refine jT_xiload_n (v := (0, 3)) (pcN := 10) jIQ_200_9 rfl rfl rfl ?_
  refine jT_lald (x := e3) (a := 0) (j := 3) (fs := []) (X := [e0, e1, e2, e3, e4, e5]) jIQ_200_10 rfl rfl rfl rfl ?_
  refine jT_eq (LN := [(1, (0, 3)), (0, (4, 0))]) (stN := [(1, e3)]) (hsN := [(101, [], [e0, e1, e2, e3, e4, e5])]) rfl rfl rfl ?_
  refine jT_xlconst (z := 0) (pcN := 12) jIQ_200_11 rfl rfl ?_
  refine jT_lcmp (a := e3) (b := 0) (z := 1) (by rfl) (by rfl) (jwl_idd (by omega) (by omega)) (jwl_idd (by omega) (by omega)) (by rw [decide_eq_true (show (0 : Int) < e3 by omega)]; rfl) ?_
  refine jT_xifF (t := 18) (pcN := 16) jIQ_200_13 rfl (by decide +kernel) rfl rfl ?_
  refine jT_xiconst (k := 0) (pcN := 17) jIQ_200_16 rfl ?_
  exact jT_ret rfl (by decide) (by show 1 ≤ 1; omega) (by omega) (by omega) ⟨rfl, rfl, rfl⟩
theorem jQ_200_154 {xs : List Int} {d : Nat} {e0 e1 e2 e3 e4 e5 : Int} (h_e0 : (-4611686018427387903) ≤ e0 ∧ e0 ≤ 4611686018427387903) (h_e1 : (-4611686018427387903) ≤ e1 ∧ e1 ≤ 4611686018427387903) (h_e2 : (-4611686018427387903) ≤ e2 ∧ e2 ≤ 4611686018427387903) (h_e3 : (-4611686018427387903) ≤ e3 ∧ e3 ≤ 4611686018427387903) (h_e4 : (-4611686018427387903) ≤ e4 ∧ e4 ≤ 4611686018427387903) (h_e5 : (-4611686018427387903) ≤ e5 ∧ e5 ≤ 4611686018427387903) (g_0 : e0 - 1 < 0) (g_1 : 0 ≤ e0) (g_2 : e1 - 1 < 0) (g_3 : 0 ≤ e1) (g_4 : e2 - 1 < 0) (g_5 : 0 ≤ e2) (g_6 : e3 - 1 < 0) (g_7 : 0 ≤ e3) (g_8 : 0 ≤ e4 - 1) : jT xs d 200 1 0 [(0, (4, 0))] [] [(101, [], [e0, e1, e2, e3, e4, e5])] 0 0 (fun k v hsN => k = 0 ∧ v = (0, 0) ∧ hsN = [(101, [], [e0, e1, e2, e3, e4, e5])] ++ []) := by
  refine jT_xiconst (k := 0) (pcN := 1) jIQ_200_0 rfl ?_
  refine jT_xistore_n (v := (0, 0)) (LN := [(1, (0, 0)), (0, (4, 0))]) (pcN := 2) jIQ_200_1 rfl rfl rfl rfl ?_
  refine jT_xiload_n (v := (0, 0)) (pcN := 3) jIQ_200_2 rfl rfl rfl ?_
  refine jT_xbipush (k := 6) (pcN := 5) jIQ_200_3 (by decide) rfl ?_
  refine jT_xicF (t := 24) (pcN := 8) jIQ_200_5 rfl (by decide +kernel) rfl rfl ?_
  refine jT_xaload_n (v := (4, 0)) (pcN := 9) jIQ_200_8 rfl rfl rfl ?_
  refine jT_xiload_n (v := (0, 0)) (pcN := 10) jIQ_200_9 rfl rfl rfl ?_
  refine jT_lald (x := e0) (a := 0) (j := 0) (fs := []) (X := [e0, e1, e2, e3, e4, e5]) jIQ_200_10 rfl rfl rfl rfl ?_
  refine jT_eq (LN := [(1, (0, 0)), (0, (4, 0))]) (stN := [(1, e0)]) (hsN := [(101, [], [e0, e1, e2, e3, e4, e5])]) rfl rfl rfl ?_
  refine jT_xlconst (z := 0) (pcN := 12) jIQ_200_11 rfl rfl ?_
  refine jT_lcmp (a := e0) (b := 0) (z := 0) (by rfl) (by rfl) (jwl_idd (by omega) (by omega)) (jwl_idd (by omega) (by omega)) (by rw [decide_eq_false (show ¬ ((0 : Int) < e0) by omega), decide_eq_true (show (e0 : Int) = 0 by omega)]; rfl) ?_
  refine jT_xifT (pcN := 18) jIQ_200_13 rfl (by decide +kernel) rfl ?_
  refine jT_xiinc (x := 0) (z := 1) (LN := [(1, (0, 1)), (0, (4, 0))]) (pcN := 21) jIQ_200_18 rfl rfl (by decide) rfl rfl ?_
  refine jT_xgoto (pcN := 2) jIQ_200_21 rfl ?_
  refine jT_xiload_n (v := (0, 1)) (pcN := 3) jIQ_200_2 rfl rfl rfl ?_
  refine jT_xbipush (k := 6) (pcN := 5) jIQ_200_3 (by decide) rfl ?_
  refine jT_xicF (t := 24) (pcN := 8) jIQ_200_5 rfl (by decide +kernel) rfl rfl ?_
  refine jT_xaload_n (v := (4, 0)) (pcN := 9) jIQ_200_8 rfl rfl rfl ?_
  refine jT_xiload_n (v := (0, 1)) (pcN := 10) jIQ_200_9 rfl rfl rfl ?_
  refine jT_lald (x := e1) (a := 0) (j := 1) (fs := []) (X := [e0, e1, e2, e3, e4, e5]) jIQ_200_10 rfl rfl rfl rfl ?_
  refine jT_eq (LN := [(1, (0, 1)), (0, (4, 0))]) (stN := [(1, e1)]) (hsN := [(101, [], [e0, e1, e2, e3, e4, e5])]) rfl rfl rfl ?_
  refine jT_xlconst (z := 0) (pcN := 12) jIQ_200_11 rfl rfl ?_
  refine jT_lcmp (a := e1) (b := 0) (z := 0) (by rfl) (by rfl) (jwl_idd (by omega) (by omega)) (jwl_idd (by omega) (by omega)) (by rw [decide_eq_false (show ¬ ((0 : Int) < e1) by omega), decide_eq_true (show (e1 : Int) = 0 by omega)]; rfl) ?_
  refine jT_xifT (pcN := 18) jIQ_200_13 rfl (by decide +kernel) rfl ?_
  refine jT_xiinc (x := 1) (z := 2) (LN := [(1, (0, 2)), (0, (4, 0))]) (pcN := 21) jIQ_200_18 rfl rfl (by decide) rfl rfl ?_
  refine jT_xgoto (pcN := 2) jIQ_200_21 rfl ?_
  refine jT_xiload_n (v := (0, 2)) (pcN := 3) jIQ_200_2 rfl rfl rfl ?_
  refine jT_xbipush (k := 6) (pcN := 5) jIQ_200_3 (by decide) rfl ?_
  refine jT_xicF (t := 24) (pcN := 8) jIQ_200_5 rfl (by decide +kernel) rfl rfl ?_
  refine jT_xaload_n (v := (4, 0)) (pcN := 9) jIQ_200_8 rfl rfl rfl ?_
  refine jT_xiload_n (v := (0, 2)) (pcN := 10) jIQ_200_9 rfl rfl rfl ?_
  refine jT_lald (x := e2) (a := 0) (j := 2) (fs := []) (X := [e0, e1, e2, e3, e4, e5]) jIQ_200_10 rfl rfl rfl rfl ?_
  refine jT_eq (LN := [(1, (0, 2)), (0, (4, 0))]) (stN := [(1, e2)]) (hsN := [(101, [], [e0, e1, e2, e3, e4, e5])]) rfl rfl rfl ?_
  refine jT_xlconst (z := 0) (pcN := 12) jIQ_200_11 rfl rfl ?_
  refine jT_lcmp (a := e2) (b := 0) (z := 0) (by rfl) (by rfl) (jwl_idd (by omega) (by omega)) (jwl_idd (by omega) (by omega)) (by rw [decide_eq_false (show ¬ ((0 : Int) < e2) by omega), decide_eq_true (show (e2 : Int) = 0 by omega)]; rfl) ?_
  refine jT_xifT (pcN := 18) jIQ_200_13 rfl (by decide +kernel) rfl ?_
  refine jT_xiinc (x := 2) (z := 3) (LN := [(1, (0, 3)), (0, (4, 0))]) (pcN := 21) jIQ_200_18 rfl rfl (by decide) rfl rfl ?_
  refine jT_xgoto (pcN := 2) jIQ_200_21 rfl ?_
  refine jT_xiload_n (v := (0, 3)) (pcN := 3) jIQ_200_2 rfl rfl rfl ?_
  refine jT_xbipush (k := 6) (pcN := 5) jIQ_200_3 (by decide) rfl ?_
  refine jT_xicF (t := 24) (pcN := 8) jIQ_200_5 rfl (by decide +kernel) rfl rfl ?_
  refine jT_xaload_n (v := (4, 0)) (pcN := 9) jIQ_200_8 rfl rfl rfl ?_
  refine jT_xiload_n (v := (0, 3)) (pcN := 10) jIQ_200_9 rfl rfl rfl ?_
  refine jT_lald (x := e3) (a := 0) (j := 3) (fs := []) (X := [e0, e1, e2, e3, e4, e5]) jIQ_200_10 rfl rfl rfl rfl ?_
  refine jT_eq (LN := [(1, (0, 3)), (0, (4, 0))]) (stN := [(1, e3)]) (hsN := [(101, [], [e0, e1, e2, e3, e4, e5])]) rfl rfl rfl ?_
  refine jT_xlconst (z := 0) (pcN := 12) jIQ_200_11 rfl rfl ?_
  refine jT_lcmp (a := e3) (b := 0) (z := 0) (by rfl) (by rfl) (jwl_idd (by omega) (by omega)) (jwl_idd (by omega) (by omega)) (by rw [decide_eq_false (show ¬ ((0 : Int) < e3) by omega), decide_eq_true (show (e3 : Int) = 0 by omega)]; rfl) ?_
  refine jT_xifT (pcN := 18) jIQ_200_13 rfl (by decide +kernel) rfl ?_
  refine jT_xiinc (x := 3) (z := 4) (LN := [(1, (0, 4)), (0, (4, 0))]) (pcN := 21) jIQ_200_18 rfl rfl (by decide) rfl rfl ?_
  refine jT_xgoto (pcN := 2) jIQ_200_21 rfl ?_
  refine jT_xiload_n (v := (0, 4)) (pcN := 3) jIQ_200_2 rfl rfl rfl ?_
  refine jT_xbipush (k := 6) (pcN := 5) jIQ_200_3 (by decide) rfl ?_
  refine jT_xicF (t := 24) (pcN := 8) jIQ_200_5 rfl (by decide +kernel) rfl rfl ?_
  refine jT_xaload_n (v := (4, 0)) (pcN := 9) jIQ_200_8 rfl rfl rfl ?_
  refine jT_xiload_n (v := (0, 4)) (pcN := 10) jIQ_200_9 rfl rfl rfl ?_
  refine jT_lald (x := e4) (a := 0) (j := 4) (fs := []) (X := [e0, e1, e2, e3, e4, e5]) jIQ_200_10 rfl rfl rfl rfl ?_
  refine jT_eq (LN := [(1, (0, 4)), (0, (4, 0))]) (stN := [(1, e4)]) (hsN := [(101, [], [e0, e1, e2, e3, e4, e5])]) rfl rfl rfl ?_
  refine jT_xlconst (z := 0) (pcN := 12) jIQ_200_11 rfl rfl ?_
  refine jT_lcmp (a := e4) (b := 0) (z := 1) (by rfl) (by rfl) (jwl_idd (by omega) (by omega)) (jwl_idd (by omega) (by omega)) (by rw [decide_eq_true (show (0 : Int) < e4 by omega)]; rfl) ?_
  refine jT_xifF (t := 18) (pcN := 16) jIQ_200_13 rfl (by decide +kernel) rfl rfl ?_
  refine jT_xiconst (k := 0) (pcN := 17) jIQ_200_16 rfl ?_
  exact jT_ret rfl (by decide) (by show 1 ≤ 1; omega) (by omega) (by omega) ⟨rfl, rfl, rfl⟩
theorem jQ_200_155 {xs : List Int} {d : Nat} {e0 e1 e2 e3 e4 e5 : Int} (h_e0 : (-4611686018427387903) ≤ e0 ∧ e0 ≤ 4611686018427387903) (h_e1 : (-4611686018427387903) ≤ e1 ∧ e1 ≤ 4611686018427387903) (h_e2 : (-4611686018427387903) ≤ e2 ∧ e2 ≤ 4611686018427387903) (h_e3 : (-4611686018427387903) ≤ e3 ∧ e3 ≤ 4611686018427387903) (h_e4 : (-4611686018427387903) ≤ e4 ∧ e4 ≤ 4611686018427387903) (h_e5 : (-4611686018427387903) ≤ e5 ∧ e5 ≤ 4611686018427387903) (g_0 : e0 - 1 < 0) (g_1 : 0 ≤ e0) (g_2 : e1 - 1 < 0) (g_3 : 0 ≤ e1) (g_4 : e2 - 1 < 0) (g_5 : 0 ≤ e2) (g_6 : e3 - 1 < 0) (g_7 : 0 ≤ e3) (g_8 : e4 - 1 < 0) (g_9 : 0 ≤ e4) (g_10 : 0 ≤ e5 - 1) : jT xs d 200 1 0 [(0, (4, 0))] [] [(101, [], [e0, e1, e2, e3, e4, e5])] 0 0 (fun k v hsN => k = 0 ∧ v = (0, 0) ∧ hsN = [(101, [], [e0, e1, e2, e3, e4, e5])] ++ []) := by
  refine jT_xiconst (k := 0) (pcN := 1) jIQ_200_0 rfl ?_
  refine jT_xistore_n (v := (0, 0)) (LN := [(1, (0, 0)), (0, (4, 0))]) (pcN := 2) jIQ_200_1 rfl rfl rfl rfl ?_
  refine jT_xiload_n (v := (0, 0)) (pcN := 3) jIQ_200_2 rfl rfl rfl ?_
  refine jT_xbipush (k := 6) (pcN := 5) jIQ_200_3 (by decide) rfl ?_
  refine jT_xicF (t := 24) (pcN := 8) jIQ_200_5 rfl (by decide +kernel) rfl rfl ?_
  refine jT_xaload_n (v := (4, 0)) (pcN := 9) jIQ_200_8 rfl rfl rfl ?_
  refine jT_xiload_n (v := (0, 0)) (pcN := 10) jIQ_200_9 rfl rfl rfl ?_
  refine jT_lald (x := e0) (a := 0) (j := 0) (fs := []) (X := [e0, e1, e2, e3, e4, e5]) jIQ_200_10 rfl rfl rfl rfl ?_
  refine jT_eq (LN := [(1, (0, 0)), (0, (4, 0))]) (stN := [(1, e0)]) (hsN := [(101, [], [e0, e1, e2, e3, e4, e5])]) rfl rfl rfl ?_
  refine jT_xlconst (z := 0) (pcN := 12) jIQ_200_11 rfl rfl ?_
  refine jT_lcmp (a := e0) (b := 0) (z := 0) (by rfl) (by rfl) (jwl_idd (by omega) (by omega)) (jwl_idd (by omega) (by omega)) (by rw [decide_eq_false (show ¬ ((0 : Int) < e0) by omega), decide_eq_true (show (e0 : Int) = 0 by omega)]; rfl) ?_
  refine jT_xifT (pcN := 18) jIQ_200_13 rfl (by decide +kernel) rfl ?_
  refine jT_xiinc (x := 0) (z := 1) (LN := [(1, (0, 1)), (0, (4, 0))]) (pcN := 21) jIQ_200_18 rfl rfl (by decide) rfl rfl ?_
  refine jT_xgoto (pcN := 2) jIQ_200_21 rfl ?_
  refine jT_xiload_n (v := (0, 1)) (pcN := 3) jIQ_200_2 rfl rfl rfl ?_
  refine jT_xbipush (k := 6) (pcN := 5) jIQ_200_3 (by decide) rfl ?_
  refine jT_xicF (t := 24) (pcN := 8) jIQ_200_5 rfl (by decide +kernel) rfl rfl ?_
  refine jT_xaload_n (v := (4, 0)) (pcN := 9) jIQ_200_8 rfl rfl rfl ?_
  refine jT_xiload_n (v := (0, 1)) (pcN := 10) jIQ_200_9 rfl rfl rfl ?_
  refine jT_lald (x := e1) (a := 0) (j := 1) (fs := []) (X := [e0, e1, e2, e3, e4, e5]) jIQ_200_10 rfl rfl rfl rfl ?_
  refine jT_eq (LN := [(1, (0, 1)), (0, (4, 0))]) (stN := [(1, e1)]) (hsN := [(101, [], [e0, e1, e2, e3, e4, e5])]) rfl rfl rfl ?_
  refine jT_xlconst (z := 0) (pcN := 12) jIQ_200_11 rfl rfl ?_
  refine jT_lcmp (a := e1) (b := 0) (z := 0) (by rfl) (by rfl) (jwl_idd (by omega) (by omega)) (jwl_idd (by omega) (by omega)) (by rw [decide_eq_false (show ¬ ((0 : Int) < e1) by omega), decide_eq_true (show (e1 : Int) = 0 by omega)]; rfl) ?_
  refine jT_xifT (pcN := 18) jIQ_200_13 rfl (by decide +kernel) rfl ?_
  refine jT_xiinc (x := 1) (z := 2) (LN := [(1, (0, 2)), (0, (4, 0))]) (pcN := 21) jIQ_200_18 rfl rfl (by decide) rfl rfl ?_
  refine jT_xgoto (pcN := 2) jIQ_200_21 rfl ?_
  refine jT_xiload_n (v := (0, 2)) (pcN := 3) jIQ_200_2 rfl rfl rfl ?_
  refine jT_xbipush (k := 6) (pcN := 5) jIQ_200_3 (by decide) rfl ?_
  refine jT_xicF (t := 24) (pcN := 8) jIQ_200_5 rfl (by decide +kernel) rfl rfl ?_
  refine jT_xaload_n (v := (4, 0)) (pcN := 9) jIQ_200_8 rfl rfl rfl ?_
  refine jT_xiload_n (v := (0, 2)) (pcN := 10) jIQ_200_9 rfl rfl rfl ?_
  refine jT_lald (x := e2) (a := 0) (j := 2) (fs := []) (X := [e0, e1, e2, e3, e4, e5]) jIQ_200_10 rfl rfl rfl rfl ?_
  refine jT_eq (LN := [(1, (0, 2)), (0, (4, 0))]) (stN := [(1, e2)]) (hsN := [(101, [], [e0, e1, e2, e3, e4, e5])]) rfl rfl rfl ?_
  refine jT_xlconst (z := 0) (pcN := 12) jIQ_200_11 rfl rfl ?_
  refine jT_lcmp (a := e2) (b := 0) (z := 0) (by rfl) (by rfl) (jwl_idd (by omega) (by omega)) (jwl_idd (by omega) (by omega)) (by rw [decide_eq_false (show ¬ ((0 : Int) < e2) by omega), decide_eq_true (show (e2 : Int) = 0 by omega)]; rfl) ?_
  refine jT_xifT (pcN := 18) jIQ_200_13 rfl (by decide +kernel) rfl ?_
  refine jT_xiinc (x := 2) (z := 3) (LN := [(1, (0, 3)), (0, (4, 0))]) (pcN := 21) jIQ_200_18 rfl rfl (by decide) rfl rfl ?_
  refine jT_xgoto (pcN := 2) jIQ_200_21 rfl ?_
  refine jT_xiload_n (v := (0, 3)) (pcN := 3) jIQ_200_2 rfl rfl rfl ?_
  refine jT_xbipush (k := 6) (pcN := 5) jIQ_200_3 (by decide) rfl ?_
  refine jT_xicF (t := 24) (pcN := 8) jIQ_200_5 rfl (by decide +kernel) rfl rfl ?_
  refine jT_xaload_n (v := (4, 0)) (pcN := 9) jIQ_200_8 rfl rfl rfl ?_
  refine jT_xiload_n (v := (0, 3)) (pcN := 10) jIQ_200_9 rfl rfl rfl ?_
  refine jT_lald (x := e3) (a := 0) (j := 3) (fs := []) (X := [e0, e1, e2, e3, e4, e5]) jIQ_200_10 rfl rfl rfl rfl ?_
  refine jT_eq (LN := [(1, (0, 3)), (0, (4, 0))]) (stN := [(1, e3)]) (hsN := [(101, [], [e0, e1, e2, e3, e4, e5])]) rfl rfl rfl ?_
  refine jT_xlconst (z := 0) (pcN := 12) jIQ_200_11 rfl rfl ?_
  refine jT_lcmp (a := e3) (b := 0) (z := 0) (by rfl) (by rfl) (jwl_idd (by omega) (by omega)) (jwl_idd (by omega) (by omega)) (by rw [decide_eq_false (show ¬ ((0 : Int) < e3) by omega), decide_eq_true (show (e3 : Int) = 0 by omega)]; rfl) ?_
  refine jT_xifT (pcN := 18) jIQ_200_13 rfl (by decide +kernel) rfl ?_
  refine jT_xiinc (x := 3) (z := 4) (LN := [(1, (0, 4)), (0, (4, 0))]) (pcN := 21) jIQ_200_18 rfl rfl (by decide) rfl rfl ?_
  refine jT_xgoto (pcN := 2) jIQ_200_21 rfl ?_
  refine jT_xiload_n (v := (0, 4)) (pcN := 3) jIQ_200_2 rfl rfl rfl ?_
  refine jT_xbipush (k := 6) (pcN := 5) jIQ_200_3 (by decide) rfl ?_
  refine jT_xicF (t := 24) (pcN := 8) jIQ_200_5 rfl (by decide +kernel) rfl rfl ?_
  refine jT_xaload_n (v := (4, 0)) (pcN := 9) jIQ_200_8 rfl rfl rfl ?_
  refine jT_xiload_n (v := (0, 4)) (pcN := 10) jIQ_200_9 rfl rfl rfl ?_
  refine jT_lald (x := e4) (a := 0) (j := 4) (fs := []) (X := [e0, e1, e2, e3, e4, e5]) jIQ_200_10 rfl rfl rfl rfl ?_
  refine jT_eq (LN := [(1, (0, 4)), (0, (4, 0))]) (stN := [(1, e4)]) (hsN := [(101, [], [e0, e1, e2, e3, e4, e5])]) rfl rfl rfl ?_
  refine jT_xlconst (z := 0) (pcN := 12) jIQ_200_11 rfl rfl ?_
  refine jT_lcmp (a := e4) (b := 0) (z := 0) (by rfl) (by rfl) (jwl_idd (by omega) (by omega)) (jwl_idd (by omega) (by omega)) (by rw [decide_eq_false (show ¬ ((0 : Int) < e4) by omega), decide_eq_true (show (e4 : Int) = 0 by omega)]; rfl) ?_
  refine jT_xifT (pcN := 18) jIQ_200_13 rfl (by decide +kernel) rfl ?_
  refine jT_xiinc (x := 4) (z := 5) (LN := [(1, (0, 5)), (0, (4, 0))]) (pcN := 21) jIQ_200_18 rfl rfl (by decide) rfl rfl ?_
  refine jT_xgoto (pcN := 2) jIQ_200_21 rfl ?_
  refine jT_xiload_n (v := (0, 5)) (pcN := 3) jIQ_200_2 rfl rfl rfl ?_
  refine jT_xbipush (k := 6) (pcN := 5) jIQ_200_3 (by decide) rfl ?_
  refine jT_xicF (t := 24) (pcN := 8) jIQ_200_5 rfl (by decide +kernel) rfl rfl ?_
  refine jT_xaload_n (v := (4, 0)) (pcN := 9) jIQ_200_8 rfl rfl rfl ?_
  refine jT_xiload_n (v := (0, 5)) (pcN := 10) jIQ_200_9 rfl rfl rfl ?_
  refine jT_lald (x := e5) (a := 0) (j := 5) (fs := []) (X := [e0, e1, e2, e3, e4, e5]) jIQ_200_10 rfl rfl rfl rfl ?_
  refine jT_eq (LN := [(1, (0, 5)), (0, (4, 0))]) (stN := [(1, e5)]) (hsN := [(101, [], [e0, e1, e2, e3, e4, e5])]) rfl rfl rfl ?_
  refine jT_xlconst (z := 0) (pcN := 12) jIQ_200_11 rfl rfl ?_
  refine jT_lcmp (a := e5) (b := 0) (z := 1) (by rfl) (by rfl) (jwl_idd (by omega) (by omega)) (jwl_idd (by omega) (by omega)) (by rw [decide_eq_true (show (0 : Int) < e5 by omega)]; rfl) ?_
  refine jT_xifF (t := 18) (pcN := 16) jIQ_200_13 rfl (by decide +kernel) rfl rfl ?_
  refine jT_xiconst (k := 0) (pcN := 17) jIQ_200_16 rfl ?_
  exact jT_ret rfl (by decide) (by show 1 ≤ 1; omega) (by omega) (by omega) ⟨rfl, rfl, rfl⟩
theorem jIQ_200_24 : jmI (jm 200) 24 = (.iconst 1, 1) := by rfl
theorem jQ_200_156 {xs : List Int} {d : Nat} {e0 e1 e2 e3 e4 e5 : Int} (h_e0 : (-4611686018427387903) ≤ e0 ∧ e0 ≤ 4611686018427387903) (h_e1 : (-4611686018427387903) ≤ e1 ∧ e1 ≤ 4611686018427387903) (h_e2 : (-4611686018427387903) ≤ e2 ∧ e2 ≤ 4611686018427387903) (h_e3 : (-4611686018427387903) ≤ e3 ∧ e3 ≤ 4611686018427387903) (h_e4 : (-4611686018427387903) ≤ e4 ∧ e4 ≤ 4611686018427387903) (h_e5 : (-4611686018427387903) ≤ e5 ∧ e5 ≤ 4611686018427387903) (g_0 : e0 - 1 < 0) (g_1 : 0 ≤ e0) (g_2 : e1 - 1 < 0) (g_3 : 0 ≤ e1) (g_4 : e2 - 1 < 0) (g_5 : 0 ≤ e2) (g_6 : e3 - 1 < 0) (g_7 : 0 ≤ e3) (g_8 : e4 - 1 < 0) (g_9 : 0 ≤ e4) (g_10 : e5 - 1 < 0) (g_11 : 0 ≤ e5) : jT xs d 200 1 0 [(0, (4, 0))] [] [(101, [], [e0, e1, e2, e3, e4, e5])] 0 0 (fun k v hsN => k = 0 ∧ v = (0, 1) ∧ hsN = [(101, [], [e0, e1, e2, e3, e4, e5])] ++ []) := by
  refine jT_xiconst (k := 0) (pcN := 1) jIQ_200_0 rfl ?_
  refine jT_xistore_n (v := (0, 0)) (LN := [(1, (0, 0)), (0, (4, 0))]) (pcN := 2) jIQ_200_1 rfl rfl rfl rfl ?_
  refine jT_xiload_n (v := (0, 0)) (pcN := 3) jIQ_200_2 rfl rfl rfl ?_
  refine jT_xbipush (k := 6) (pcN := 5) jIQ_200_3 (by decide) rfl ?_
  refine jT_xicF (t := 24) (pcN := 8) jIQ_200_5 rfl (by decide +kernel) rfl rfl ?_
  refine jT_xaload_n (v := (4, 0)) (pcN := 9) jIQ_200_8 rfl rfl rfl ?_
  refine jT_xiload_n (v := (0, 0)) (pcN := 10) jIQ_200_9 rfl rfl rfl ?_
  refine jT_lald (x := e0) (a := 0) (j := 0) (fs := []) (X := [e0, e1, e2, e3, e4, e5]) jIQ_200_10 rfl rfl rfl rfl ?_
  refine jT_eq (LN := [(1, (0, 0)), (0, (4, 0))]) (stN := [(1, e0)]) (hsN := [(101, [], [e0, e1, e2, e3, e4, e5])]) rfl rfl rfl ?_
  refine jT_xlconst (z := 0) (pcN := 12) jIQ_200_11 rfl rfl ?_
  refine jT_lcmp (a := e0) (b := 0) (z := 0) (by rfl) (by rfl) (jwl_idd (by omega) (by omega)) (jwl_idd (by omega) (by omega)) (by rw [decide_eq_false (show ¬ ((0 : Int) < e0) by omega), decide_eq_true (show (e0 : Int) = 0 by omega)]; rfl) ?_
  refine jT_xifT (pcN := 18) jIQ_200_13 rfl (by decide +kernel) rfl ?_
  refine jT_xiinc (x := 0) (z := 1) (LN := [(1, (0, 1)), (0, (4, 0))]) (pcN := 21) jIQ_200_18 rfl rfl (by decide) rfl rfl ?_
  refine jT_xgoto (pcN := 2) jIQ_200_21 rfl ?_
  refine jT_xiload_n (v := (0, 1)) (pcN := 3) jIQ_200_2 rfl rfl rfl ?_
  refine jT_xbipush (k := 6) (pcN := 5) jIQ_200_3 (by decide) rfl ?_
  refine jT_xicF (t := 24) (pcN := 8) jIQ_200_5 rfl (by decide +kernel) rfl rfl ?_
  refine jT_xaload_n (v := (4, 0)) (pcN := 9) jIQ_200_8 rfl rfl rfl ?_
  refine jT_xiload_n (v := (0, 1)) (pcN := 10) jIQ_200_9 rfl rfl rfl ?_
  refine jT_lald (x := e1) (a := 0) (j := 1) (fs := []) (X := [e0, e1, e2, e3, e4, e5]) jIQ_200_10 rfl rfl rfl rfl ?_
  refine jT_eq (LN := [(1, (0, 1)), (0, (4, 0))]) (stN := [(1, e1)]) (hsN := [(101, [], [e0, e1, e2, e3, e4, e5])]) rfl rfl rfl ?_
  refine jT_xlconst (z := 0) (pcN := 12) jIQ_200_11 rfl rfl ?_
  refine jT_lcmp (a := e1) (b := 0) (z := 0) (by rfl) (by rfl) (jwl_idd (by omega) (by omega)) (jwl_idd (by omega) (by omega)) (by rw [decide_eq_false (show ¬ ((0 : Int) < e1) by omega), decide_eq_true (show (e1 : Int) = 0 by omega)]; rfl) ?_
  refine jT_xifT (pcN := 18) jIQ_200_13 rfl (by decide +kernel) rfl ?_
  refine jT_xiinc (x := 1) (z := 2) (LN := [(1, (0, 2)), (0, (4, 0))]) (pcN := 21) jIQ_200_18 rfl rfl (by decide) rfl rfl ?_
  refine jT_xgoto (pcN := 2) jIQ_200_21 rfl ?_
  refine jT_xiload_n (v := (0, 2)) (pcN := 3) jIQ_200_2 rfl rfl rfl ?_
  refine jT_xbipush (k := 6) (pcN := 5) jIQ_200_3 (by decide) rfl ?_
  refine jT_xicF (t := 24) (pcN := 8) jIQ_200_5 rfl (by decide +kernel) rfl rfl ?_
  refine jT_xaload_n (v := (4, 0)) (pcN := 9) jIQ_200_8 rfl rfl rfl ?_
  refine jT_xiload_n (v := (0, 2)) (pcN := 10) jIQ_200_9 rfl rfl rfl ?_
  refine jT_lald (x := e2) (a := 0) (j := 2) (fs := []) (X := [e0, e1, e2, e3, e4, e5]) jIQ_200_10 rfl rfl rfl rfl ?_
  refine jT_eq (LN := [(1, (0, 2)), (0, (4, 0))]) (stN := [(1, e2)]) (hsN := [(101, [], [e0, e1, e2, e3, e4, e5])]) rfl rfl rfl ?_
  refine jT_xlconst (z := 0) (pcN := 12) jIQ_200_11 rfl rfl ?_
  refine jT_lcmp (a := e2) (b := 0) (z := 0) (by rfl) (by rfl) (jwl_idd (by omega) (by omega)) (jwl_idd (by omega) (by omega)) (by rw [decide_eq_false (show ¬ ((0 : Int) < e2) by omega), decide_eq_true (show (e2 : Int) = 0 by omega)]; rfl) ?_
  refine jT_xifT (pcN := 18) jIQ_200_13 rfl (by decide +kernel) rfl ?_
  refine jT_xiinc (x := 2) (z := 3) (LN := [(1, (0, 3)), (0, (4, 0))]) (pcN := 21) jIQ_200_18 rfl rfl (by decide) rfl rfl ?_
  refine jT_xgoto (pcN := 2) jIQ_200_21 rfl ?_
  refine jT_xiload_n (v := (0, 3)) (pcN := 3) jIQ_200_2 rfl rfl rfl ?_
  refine jT_xbipush (k := 6) (pcN := 5) jIQ_200_3 (by decide) rfl ?_
  refine jT_xicF (t := 24) (pcN := 8) jIQ_200_5 rfl (by decide +kernel) rfl rfl ?_
  refine jT_xaload_n (v := (4, 0)) (pcN := 9) jIQ_200_8 rfl rfl rfl ?_
  refine jT_xiload_n (v := (0, 3)) (pcN := 10) jIQ_200_9 rfl rfl rfl ?_
  refine jT_lald (x := e3) (a := 0) (j := 3) (fs := []) (X := [e0, e1, e2, e3, e4, e5]) jIQ_200_10 rfl rfl rfl rfl ?_
  refine jT_eq (LN := [(1, (0, 3)), (0, (4, 0))]) (stN := [(1, e3)]) (hsN := [(101, [], [e0, e1, e2, e3, e4, e5])]) rfl rfl rfl ?_
  refine jT_xlconst (z := 0) (pcN := 12) jIQ_200_11 rfl rfl ?_
  refine jT_lcmp (a := e3) (b := 0) (z := 0) (by rfl) (by rfl) (jwl_idd (by omega) (by omega)) (jwl_idd (by omega) (by omega)) (by rw [decide_eq_false (show ¬ ((0 : Int) < e3) by omega), decide_eq_true (show (e3 : Int) = 0 by omega)]; rfl) ?_
  refine jT_xifT (pcN := 18) jIQ_200_13 rfl (by decide +kernel) rfl ?_
  refine jT_xiinc (x := 3) (z := 4) (LN := [(1, (0, 4)), (0, (4, 0))]) (pcN := 21) jIQ_200_18 rfl rfl (by decide) rfl rfl ?_
  refine jT_xgoto (pcN := 2) jIQ_200_21 rfl ?_
  refine jT_xiload_n (v := (0, 4)) (pcN := 3) jIQ_200_2 rfl rfl rfl ?_
  refine jT_xbipush (k := 6) (pcN := 5) jIQ_200_3 (by decide) rfl ?_
  refine jT_xicF (t := 24) (pcN := 8) jIQ_200_5 rfl (by decide +kernel) rfl rfl ?_
  refine jT_xaload_n (v := (4, 0)) (pcN := 9) jIQ_200_8 rfl rfl rfl ?_
  refine jT_xiload_n (v := (0, 4)) (pcN := 10) jIQ_200_9 rfl rfl rfl ?_
  refine jT_lald (x := e4) (a := 0) (j := 4) (fs := []) (X := [e0, e1, e2, e3, e4, e5]) jIQ_200_10 rfl rfl rfl rfl ?_
  refine jT_eq (LN := [(1, (0, 4)), (0, (4, 0))]) (stN := [(1, e4)]) (hsN := [(101, [], [e0, e1, e2, e3, e4, e5])]) rfl rfl rfl ?_
  refine jT_xlconst (z := 0) (pcN := 12) jIQ_200_11 rfl rfl ?_
  refine jT_lcmp (a := e4) (b := 0) (z := 0) (by rfl) (by rfl) (jwl_idd (by omega) (by omega)) (jwl_idd (by omega) (by omega)) (by rw [decide_eq_false (show ¬ ((0 : Int) < e4) by omega), decide_eq_true (show (e4 : Int) = 0 by omega)]; rfl) ?_
  refine jT_xifT (pcN := 18) jIQ_200_13 rfl (by decide +kernel) rfl ?_
  refine jT_xiinc (x := 4) (z := 5) (LN := [(1, (0, 5)), (0, (4, 0))]) (pcN := 21) jIQ_200_18 rfl rfl (by decide) rfl rfl ?_
  refine jT_xgoto (pcN := 2) jIQ_200_21 rfl ?_
  refine jT_xiload_n (v := (0, 5)) (pcN := 3) jIQ_200_2 rfl rfl rfl ?_
  refine jT_xbipush (k := 6) (pcN := 5) jIQ_200_3 (by decide) rfl ?_
  refine jT_xicF (t := 24) (pcN := 8) jIQ_200_5 rfl (by decide +kernel) rfl rfl ?_
  refine jT_xaload_n (v := (4, 0)) (pcN := 9) jIQ_200_8 rfl rfl rfl ?_
  refine jT_xiload_n (v := (0, 5)) (pcN := 10) jIQ_200_9 rfl rfl rfl ?_
  refine jT_lald (x := e5) (a := 0) (j := 5) (fs := []) (X := [e0, e1, e2, e3, e4, e5]) jIQ_200_10 rfl rfl rfl rfl ?_
  refine jT_eq (LN := [(1, (0, 5)), (0, (4, 0))]) (stN := [(1, e5)]) (hsN := [(101, [], [e0, e1, e2, e3, e4, e5])]) rfl rfl rfl ?_
  refine jT_xlconst (z := 0) (pcN := 12) jIQ_200_11 rfl rfl ?_
  refine jT_lcmp (a := e5) (b := 0) (z := 0) (by rfl) (by rfl) (jwl_idd (by omega) (by omega)) (jwl_idd (by omega) (by omega)) (by rw [decide_eq_false (show ¬ ((0 : Int) < e5) by omega), decide_eq_true (show (e5 : Int) = 0 by omega)]; rfl) ?_
  refine jT_xifT (pcN := 18) jIQ_200_13 rfl (by decide +kernel) rfl ?_
  refine jT_xiinc (x := 5) (z := 6) (LN := [(1, (0, 6)), (0, (4, 0))]) (pcN := 21) jIQ_200_18 rfl rfl (by decide) rfl rfl ?_
  refine jT_xgoto (pcN := 2) jIQ_200_21 rfl ?_
  refine jT_xiload_n (v := (0, 6)) (pcN := 3) jIQ_200_2 rfl rfl rfl ?_
  refine jT_xbipush (k := 6) (pcN := 5) jIQ_200_3 (by decide) rfl ?_
  refine jT_xicT (pcN := 24) jIQ_200_5 rfl (by decide +kernel) rfl ?_
  refine jT_xiconst (k := 1) (pcN := 25) jIQ_200_24 rfl ?_
  exact jT_ret rfl (by decide) (by show 1 ≤ 1; omega) (by omega) (by omega) ⟨rfl, rfl, rfl⟩
theorem jIQ_213_7 : jmI (jm 213) 7 = (.iconst 0, 1) := by rfl
theorem jIQ_213_8 : jmI (jm 213) 8 = (.goto 10, 3) := by rfl
theorem jQ_200_157 {xs : List Int} {d : Nat} {e0 e1 e2 e3 e4 e5 : Int} (h_e0 : (-4611686018427387903) ≤ e0 ∧ e0 ≤ 4611686018427387903) (h_e1 : (-4611686018427387903) ≤ e1 ∧ e1 ≤ 4611686018427387903) (h_e2 : (-4611686018427387903) ≤ e2 ∧ e2 ≤ 4611686018427387903) (h_e3 : (-4611686018427387903) ≤ e3 ∧ e3 ≤ 4611686018427387903) (h_e4 : (-4611686018427387903) ≤ e4 ∧ e4 ≤ 4611686018427387903) (h_e5 : (-4611686018427387903) ≤ e5 ∧ e5 ≤ 4611686018427387903) (g_0 : e0 - 1 < 0) (g_1 : 0 ≤ e0) (g_2 : e1 - 1 < 0) (g_3 : 0 ≤ e1) (g_4 : e2 - 1 < 0) (g_5 : 0 ≤ e2) (g_6 : e3 - 1 < 0) (g_7 : 0 ≤ e3) (g_8 : e4 - 1 < 0) (g_9 : 0 ≤ e4) (g_10 : e5 - 1 < 0) (g_11 : e5 < 0) : jT xs d 200 1 0 [(0, (4, 0))] [] [(101, [], [e0, e1, e2, e3, e4, e5])] 0 0 (fun k v hsN => k = 0 ∧ v = (0, 0) ∧ hsN = [(101, [], [e0, e1, e2, e3, e4, e5])] ++ []) := by
  refine jT_xiconst (k := 0) (pcN := 1) jIQ_200_0 rfl ?_
  refine jT_xistore_n (v := (0, 0)) (LN := [(1, (0, 0)), (0, (4, 0))]) (pcN := 2) jIQ_200_1 rfl rfl rfl rfl ?_
  refine jT_xiload_n (v := (0, 0)) (pcN := 3) jIQ_200_2 rfl rfl rfl ?_
  refine jT_xbipush (k := 6) (pcN := 5) jIQ_200_3 (by decide) rfl ?_
  refine jT_xicF (t := 24) (pcN := 8) jIQ_200_5 rfl (by decide +kernel) rfl rfl ?_
  refine jT_xaload_n (v := (4, 0)) (pcN := 9) jIQ_200_8 rfl rfl rfl ?_
  refine jT_xiload_n (v := (0, 0)) (pcN := 10) jIQ_200_9 rfl rfl rfl ?_
  refine jT_lald (x := e0) (a := 0) (j := 0) (fs := []) (X := [e0, e1, e2, e3, e4, e5]) jIQ_200_10 rfl rfl rfl rfl ?_
  refine jT_eq (LN := [(1, (0, 0)), (0, (4, 0))]) (stN := [(1, e0)]) (hsN := [(101, [], [e0, e1, e2, e3, e4, e5])]) rfl rfl rfl ?_
  refine jT_xlconst (z := 0) (pcN := 12) jIQ_200_11 rfl rfl ?_
  refine jT_lcmp (a := e0) (b := 0) (z := 0) (by rfl) (by rfl) (jwl_idd (by omega) (by omega)) (jwl_idd (by omega) (by omega)) (by rw [decide_eq_false (show ¬ ((0 : Int) < e0) by omega), decide_eq_true (show (e0 : Int) = 0 by omega)]; rfl) ?_
  refine jT_xifT (pcN := 18) jIQ_200_13 rfl (by decide +kernel) rfl ?_
  refine jT_xiinc (x := 0) (z := 1) (LN := [(1, (0, 1)), (0, (4, 0))]) (pcN := 21) jIQ_200_18 rfl rfl (by decide) rfl rfl ?_
  refine jT_xgoto (pcN := 2) jIQ_200_21 rfl ?_
  refine jT_xiload_n (v := (0, 1)) (pcN := 3) jIQ_200_2 rfl rfl rfl ?_
  refine jT_xbipush (k := 6) (pcN := 5) jIQ_200_3 (by decide) rfl ?_
  refine jT_xicF (t := 24) (pcN := 8) jIQ_200_5 rfl (by decide +kernel) rfl rfl ?_
  refine jT_xaload_n (v := (4, 0)) (pcN := 9) jIQ_200_8 rfl rfl rfl ?_
  refine jT_xiload_n (v := (0, 1)) (pcN := 10) jIQ_200_9 rfl rfl rfl ?_
  refine jT_lald (x := e1) (a := 0) (j := 1) (fs := []) (X := [e0, e1, e2, e3, e4, e5]) jIQ_200_10 rfl rfl rfl rfl ?_
  refine jT_eq (LN := [(1, (0, 1)), (0, (4, 0))]) (stN := [(1, e1)]) (hsN := [(101, [], [e0, e1, e2, e3, e4, e5])]) rfl rfl rfl ?_
  refine jT_xlconst (z := 0) (pcN := 12) jIQ_200_11 rfl rfl ?_
  refine jT_lcmp (a := e1) (b := 0) (z := 0) (by rfl) (by rfl) (jwl_idd (by omega) (by omega)) (jwl_idd (by omega) (by omega)) (by rw [decide_eq_false (show ¬ ((0 : Int) < e1) by omega), decide_eq_true (show (e1 : Int) = 0 by omega)]; rfl) ?_
  refine jT_xifT (pcN := 18) jIQ_200_13 rfl (by decide +kernel) rfl ?_
  refine jT_xiinc (x := 1) (z := 2) (LN := [(1, (0, 2)), (0, (4, 0))]) (pcN := 21) jIQ_200_18 rfl rfl (by decide) rfl rfl ?_
  refine jT_xgoto (pcN := 2) jIQ_200_21 rfl ?_
  refine jT_xiload_n (v := (0, 2)) (pcN := 3) jIQ_200_2 rfl rfl rfl ?_
  refine jT_xbipush (k := 6) (pcN := 5) jIQ_200_3 (by decide) rfl ?_
  refine jT_xicF (t := 24) (pcN := 8) jIQ_200_5 rfl (by decide +kernel) rfl rfl ?_
  refine jT_xaload_n (v := (4, 0)) (pcN := 9) jIQ_200_8 rfl rfl rfl ?_
  refine jT_xiload_n (v := (0, 2)) (pcN := 10) jIQ_200_9 rfl rfl rfl ?_
  refine jT_lald (x := e2) (a := 0) (j := 2) (fs := []) (X := [e0, e1, e2, e3, e4, e5]) jIQ_200_10 rfl rfl rfl rfl ?_
  refine jT_eq (LN := [(1, (0, 2)), (0, (4, 0))]) (stN := [(1, e2)]) (hsN := [(101, [], [e0, e1, e2, e3, e4, e5])]) rfl rfl rfl ?_
  refine jT_xlconst (z := 0) (pcN := 12) jIQ_200_11 rfl rfl ?_
  refine jT_lcmp (a := e2) (b := 0) (z := 0) (by rfl) (by rfl) (jwl_idd (by omega) (by omega)) (jwl_idd (by omega) (by omega)) (by rw [decide_eq_false (show ¬ ((0 : Int) < e2) by omega), decide_eq_true (show (e2 : Int) = 0 by omega)]; rfl) ?_
  refine jT_xifT (pcN := 18) jIQ_200_13 rfl (by decide +kernel) rfl ?_
  refine jT_xiinc (x := 2) (z := 3) (LN := [(1, (0, 3)), (0, (4, 0))]) (pcN := 21) jIQ_200_18 rfl rfl (by decide) rfl rfl ?_
  refine jT_xgoto (pcN := 2) jIQ_200_21 rfl ?_
  refine jT_xiload_n (v := (0, 3)) (pcN := 3) jIQ_200_2 rfl rfl rfl ?_
  refine jT_xbipush (k := 6) (pcN := 5) jIQ_200_3 (by decide) rfl ?_
  refine jT_xicF (t := 24) (pcN := 8) jIQ_200_5 rfl (by decide +kernel) rfl rfl ?_
  refine jT_xaload_n (v := (4, 0)) (pcN := 9) jIQ_200_8 rfl rfl rfl ?_
  refine jT_xiload_n (v := (0, 3)) (pcN := 10) jIQ_200_9 rfl rfl rfl ?_
  refine jT_lald (x := e3) (a := 0) (j := 3) (fs := []) (X := [e0, e1, e2, e3, e4, e5]) jIQ_200_10 rfl rfl rfl rfl ?_
  refine jT_eq (LN := [(1, (0, 3)), (0, (4, 0))]) (stN := [(1, e3)]) (hsN := [(101, [], [e0, e1, e2, e3, e4, e5])]) rfl rfl rfl ?_
  refine jT_xlconst (z := 0) (pcN := 12) jIQ_200_11 rfl rfl ?_
  refine jT_lcmp (a := e3) (b := 0) (z := 0) (by rfl) (by rfl) (jwl_idd (by omega) (by omega)) (jwl_idd (by omega) (by omega)) (by rw [decide_eq_false (show ¬ ((0 : Int) < e3) by omega), decide_eq_true (show (e3 : Int) = 0 by omega)]; rfl) ?_
  refine jT_xifT (pcN := 18) jIQ_200_13 rfl (by decide +kernel) rfl ?_
  refine jT_xiinc (x := 3) (z := 4) (LN := [(1, (0, 4)), (0, (4, 0))]) (pcN := 21) jIQ_200_18 rfl rfl (by decide) rfl rfl ?_
  refine jT_xgoto (pcN := 2) jIQ_200_21 rfl ?_
  refine jT_xiload_n (v := (0, 4)) (pcN := 3) jIQ_200_2 rfl rfl rfl ?_
  refine jT_xbipush (k := 6) (pcN := 5) jIQ_200_3 (by decide) rfl ?_
  refine jT_xicF (t := 24) (pcN := 8) jIQ_200_5 rfl (by decide +kernel) rfl rfl ?_
  refine jT_xaload_n (v := (4, 0)) (pcN := 9) jIQ_200_8 rfl rfl rfl ?_
  refine jT_xiload_n (v := (0, 4)) (pcN := 10) jIQ_200_9 rfl rfl rfl ?_
  refine jT_lald (x := e4) (a := 0) (j := 4) (fs := []) (X := [e0, e1, e2, e3, e4, e5]) jIQ_200_10 rfl rfl rfl rfl ?_
  refine jT_eq (LN := [(1, (0, 4)), (0, (4, 0))]) (stN := [(1, e4)]) (hsN := [(101, [], [e0, e1, e2, e3, e4, e5])]) rfl rfl rfl ?_
  refine jT_xlconst (z := 0) (pcN := 12) jIQ_200_11 rfl rfl ?_
  refine jT_lcmp (a := e4) (b := 0) (z := 0) (by rfl) (by rfl) (jwl_idd (by omega) (by omega)) (jwl_idd (by omega) (by omega)) (by rw [decide_eq_false (show ¬ ((0 : Int) < e4) by omega), decide_eq_true (show (e4 : Int) = 0 by omega)]; rfl) ?_
  refine jT_xifT (pcN := 18) jIQ_200_13 rfl (by decide +kernel) rfl ?_
  refine jT_xiinc (x := 4) (z := 5) (LN := [(1, (0, 5)), (0, (4, 0))]) (pcN := 21) jIQ_200_18 rfl rfl (by decide) rfl rfl ?_
  refine jT_xgoto (pcN := 2) jIQ_200_21 rfl ?_
  refine jT_xiload_n (v := (0, 5)) (pcN := 3) jIQ_200_2 rfl rfl rfl ?_
  refine jT_xbipush (k := 6) (pcN := 5) jIQ_200_3 (by decide) rfl ?_
  refine jT_xicF (t := 24) (pcN := 8) jIQ_200_5 rfl (by decide +kernel) rfl rfl ?_
  refine jT_xaload_n (v := (4, 0)) (pcN := 9) jIQ_200_8 rfl rfl rfl ?_
  refine jT_xiload_n (v := (0, 5)) (pcN := 10) jIQ_200_9 rfl rfl rfl ?_
  refine jT_lald (x := e5) (a := 0) (j := 5) (fs := []) (X := [e0, e1, e2, e3, e4, e5]) jIQ_200_10 rfl rfl rfl rfl ?_
  refine jT_eq (LN := [(1, (0, 5)), (0, (4, 0))]) (stN := [(1, e5)]) (hsN := [(101, [], [e0, e1, e2, e3, e4, e5])]) rfl rfl rfl ?_
  refine jT_xlconst (z := 0) (pcN := 12) jIQ_200_11 rfl rfl ?_
  refine jT_lcmp (a := e5) (b := 0) (z := (-1)) (by rfl) (by rfl) (jwl_idd (by omega) (by omega)) (jwl_idd (by omega) (by omega)) (by rw [decide_eq_false (show ¬ ((0 : Int) < e5) by omega), decide_eq_false (show ¬ ((e5 : Int) = 0) by omega)]; rfl) ?_
  refine jT_xifF (t := 18) (pcN := 16) jIQ_200_13 rfl (by decide +kernel) rfl rfl ?_
  refine jT_xiconst (k := 0) (pcN := 17) jIQ_200_16 rfl ?_
  exact jT_ret rfl (by decide) (by show 1 ≤ 1; omega) (by omega) (by omega) ⟨rfl, rfl, rfl⟩
theorem jQ_200_158 {xs : List Int} {d : Nat} {e0 e1 e2 e3 e4 e5 : Int} (h_e0 : (-4611686018427387903) ≤ e0 ∧ e0 ≤ 4611686018427387903) (h_e1 : (-4611686018427387903) ≤ e1 ∧ e1 ≤ 4611686018427387903) (h_e2 : (-4611686018427387903) ≤ e2 ∧ e2 ≤ 4611686018427387903) (h_e3 : (-4611686018427387903) ≤ e3 ∧ e3 ≤ 4611686018427387903) (h_e4 : (-4611686018427387903) ≤ e4 ∧ e4 ≤ 4611686018427387903) (h_e5 : (-4611686018427387903) ≤ e5 ∧ e5 ≤ 4611686018427387903) (g_0 : e0 - 1 < 0) (g_1 : 0 ≤ e0) (g_2 : e1 - 1 < 0) (g_3 : 0 ≤ e1) (g_4 : e2 - 1 < 0) (g_5 : 0 ≤ e2) (g_6 : e3 - 1 < 0) (g_7 : 0 ≤ e3) (g_8 : e4 - 1 < 0) (g_9 : e4 < 0) : jT xs d 200 1 0 [(0, (4, 0))] [] [(101, [], [e0, e1, e2, e3, e4, e5])] 0 0 (fun k v hsN => k = 0 ∧ v = (0, 0) ∧ hsN = [(101, [], [e0, e1, e2, e3, e4, e5])] ++ []) := by
  refine jT_xiconst (k := 0) (pcN := 1) jIQ_200_0 rfl ?_
  refine jT_xistore_n (v := (0, 0)) (LN := [(1, (0, 0)), (0, (4, 0))]) (pcN := 2) jIQ_200_1 rfl rfl rfl rfl ?_
  refine jT_xiload_n (v := (0, 0)) (pcN := 3) jIQ_200_2 rfl rfl rfl ?_
  refine jT_xbipush (k := 6) (pcN := 5) jIQ_200_3 (by decide) rfl ?_
  refine jT_xicF (t := 24) (pcN := 8) jIQ_200_5 rfl (by decide +kernel) rfl rfl ?_
  refine jT_xaload_n (v := (4, 0)) (pcN := 9) jIQ_200_8 rfl rfl rfl ?_
  refine jT_xiload_n (v := (0, 0)) (pcN := 10) jIQ_200_9 rfl rfl rfl ?_
  refine jT_lald (x := e0) (a := 0) (j := 0) (fs := []) (X := [e0, e1, e2, e3, e4, e5]) jIQ_200_10 rfl rfl rfl rfl ?_
  refine jT_eq (LN := [(1, (0, 0)), (0, (4, 0))]) (stN := [(1, e0)]) (hsN := [(101, [], [e0, e1, e2, e3, e4, e5])]) rfl rfl rfl ?_
  refine jT_xlconst (z := 0) (pcN := 12) jIQ_200_11 rfl rfl ?_
  refine jT_lcmp (a := e0) (b := 0) (z := 0) (by rfl) (by rfl) (jwl_idd (by omega) (by omega)) (jwl_idd (by omega) (by omega)) (by rw [decide_eq_false (show ¬ ((0 : Int) < e0) by omega), decide_eq_true (show (e0 : Int) = 0 by omega)]; rfl) ?_
  refine jT_xifT (pcN := 18) jIQ_200_13 rfl (by decide +kernel) rfl ?_
  refine jT_xiinc (x := 0) (z := 1) (LN := [(1, (0, 1)), (0, (4, 0))]) (pcN := 21) jIQ_200_18 rfl rfl (by decide) rfl rfl ?_
  refine jT_xgoto (pcN := 2) jIQ_200_21 rfl ?_
  refine jT_xiload_n (v := (0, 1)) (pcN := 3) jIQ_200_2 rfl rfl rfl ?_
  refine jT_xbipush (k := 6) (pcN := 5) jIQ_200_3 (by decide) rfl ?_
  refine jT_xicF (t := 24) (pcN := 8) jIQ_200_5 rfl (by decide +kernel) rfl rfl ?_
  refine jT_xaload_n (v := (4, 0)) (pcN := 9) jIQ_200_8 rfl rfl rfl ?_
  refine jT_xiload_n (v := (0, 1)) (pcN := 10) jIQ_200_9 rfl rfl rfl ?_
  refine jT_lald (x := e1) (a := 0) (j := 1) (fs := []) (X := [e0, e1, e2, e3, e4, e5]) jIQ_200_10 rfl rfl rfl rfl ?_
  refine jT_eq (LN := [(1, (0, 1)), (0, (4, 0))]) (stN := [(1, e1)]) (hsN := [(101, [], [e0, e1, e2, e3, e4, e5])]) rfl rfl rfl ?_
  refine jT_xlconst (z := 0) (pcN := 12) jIQ_200_11 rfl rfl ?_
  refine jT_lcmp (a := e1) (b := 0) (z := 0) (by rfl) (by rfl) (jwl_idd (by omega) (by omega)) (jwl_idd (by omega) (by omega)) (by rw [decide_eq_false (show ¬ ((0 : Int) < e1) by omega), decide_eq_true (show (e1 : Int) = 0 by omega)]; rfl) ?_
  refine jT_xifT (pcN := 18) jIQ_200_13 rfl (by decide +kernel) rfl ?_
  refine jT_xiinc (x := 1) (z := 2) (LN := [(1, (0, 2)), (0, (4, 0))]) (pcN := 21) jIQ_200_18 rfl rfl (by decide) rfl rfl ?_
  refine jT_xgoto (pcN := 2) jIQ_200_21 rfl ?_
  refine jT_xiload_n (v := (0, 2)) (pcN := 3) jIQ_200_2 rfl rfl rfl ?_
  refine jT_xbipush (k := 6) (pcN := 5) jIQ_200_3 (by decide) rfl ?_
  refine jT_xicF (t := 24) (pcN := 8) jIQ_200_5 rfl (by decide +kernel) rfl rfl ?_
  refine jT_xaload_n (v := (4, 0)) (pcN := 9) jIQ_200_8 rfl rfl rfl ?_
  refine jT_xiload_n (v := (0, 2)) (pcN := 10) jIQ_200_9 rfl rfl rfl ?_
  refine jT_lald (x := e2) (a := 0) (j := 2) (fs := []) (X := [e0, e1, e2, e3, e4, e5]) jIQ_200_10 rfl rfl rfl rfl ?_
  refine jT_eq (LN := [(1, (0, 2)), (0, (4, 0))]) (stN := [(1, e2)]) (hsN := [(101, [], [e0, e1, e2, e3, e4, e5])]) rfl rfl rfl ?_
  refine jT_xlconst (z := 0) (pcN := 12) jIQ_200_11 rfl rfl ?_
  refine jT_lcmp (a := e2) (b := 0) (z := 0) (by rfl) (by rfl) (jwl_idd (by omega) (by omega)) (jwl_idd (by omega) (by omega)) (by rw [decide_eq_false (show ¬ ((0 : Int) < e2) by omega), decide_eq_true (show (e2 : Int) = 0 by omega)]; rfl) ?_
  refine jT_xifT (pcN := 18) jIQ_200_13 rfl (by decide +kernel) rfl ?_
  refine jT_xiinc (x := 2) (z := 3) (LN := [(1, (0, 3)), (0, (4, 0))]) (pcN := 21) jIQ_200_18 rfl rfl (by decide) rfl rfl ?_
  refine jT_xgoto (pcN := 2) jIQ_200_21 rfl ?_
  refine jT_xiload_n (v := (0, 3)) (pcN := 3) jIQ_200_2 rfl rfl rfl ?_
  refine jT_xbipush (k := 6) (pcN := 5) jIQ_200_3 (by decide) rfl ?_
  refine jT_xicF (t := 24) (pcN := 8) jIQ_200_5 rfl (by decide +kernel) rfl rfl ?_
  refine jT_xaload_n (v := (4, 0)) (pcN := 9) jIQ_200_8 rfl rfl rfl ?_
  refine jT_xiload_n (v := (0, 3)) (pcN := 10) jIQ_200_9 rfl rfl rfl ?_
  refine jT_lald (x := e3) (a := 0) (j := 3) (fs := []) (X := [e0, e1, e2, e3, e4, e5]) jIQ_200_10 rfl rfl rfl rfl ?_
  refine jT_eq (LN := [(1, (0, 3)), (0, (4, 0))]) (stN := [(1, e3)]) (hsN := [(101, [], [e0, e1, e2, e3, e4, e5])]) rfl rfl rfl ?_
  refine jT_xlconst (z := 0) (pcN := 12) jIQ_200_11 rfl rfl ?_
  refine jT_lcmp (a := e3) (b := 0) (z := 0) (by rfl) (by rfl) (jwl_idd (by omega) (by omega)) (jwl_idd (by omega) (by omega)) (by rw [decide_eq_false (show ¬ ((0 : Int) < e3) by omega), decide_eq_true (show (e3 : Int) = 0 by omega)]; rfl) ?_
  refine jT_xifT (pcN := 18) jIQ_200_13 rfl (by decide +kernel) rfl ?_
  refine jT_xiinc (x := 3) (z := 4) (LN := [(1, (0, 4)), (0, (4, 0))]) (pcN := 21) jIQ_200_18 rfl rfl (by decide) rfl rfl ?_
  refine jT_xgoto (pcN := 2) jIQ_200_21 rfl ?_
  refine jT_xiload_n (v := (0, 4)) (pcN := 3) jIQ_200_2 rfl rfl rfl ?_
  refine jT_xbipush (k := 6) (pcN := 5) jIQ_200_3 (by decide) rfl ?_
  refine jT_xicF (t := 24) (pcN := 8) jIQ_200_5 rfl (by decide +kernel) rfl rfl ?_
  refine jT_xaload_n (v := (4, 0)) (pcN := 9) jIQ_200_8 rfl rfl rfl ?_
  refine jT_xiload_n (v := (0, 4)) (pcN := 10) jIQ_200_9 rfl rfl rfl ?_
  refine jT_lald (x := e4) (a := 0) (j := 4) (fs := []) (X := [e0, e1, e2, e3, e4, e5]) jIQ_200_10 rfl rfl rfl rfl ?_
  refine jT_eq (LN := [(1, (0, 4)), (0, (4, 0))]) (stN := [(1, e4)]) (hsN := [(101, [], [e0, e1, e2, e3, e4, e5])]) rfl rfl rfl ?_
  refine jT_xlconst (z := 0) (pcN := 12) jIQ_200_11 rfl rfl ?_
  refine jT_lcmp (a := e4) (b := 0) (z := (-1)) (by rfl) (by rfl) (jwl_idd (by omega) (by omega)) (jwl_idd (by omega) (by omega)) (by rw [decide_eq_false (show ¬ ((0 : Int) < e4) by omega), decide_eq_false (show ¬ ((e4 : Int) = 0) by omega)]; rfl) ?_
  refine jT_xifF (t := 18) (pcN := 16) jIQ_200_13 rfl (by decide +kernel) rfl rfl ?_
  refine jT_xiconst (k := 0) (pcN := 17) jIQ_200_16 rfl ?_
  exact jT_ret rfl (by decide) (by show 1 ≤ 1; omega) (by omega) (by omega) ⟨rfl, rfl, rfl⟩
theorem jQ_200_159 {xs : List Int} {d : Nat} {e0 e1 e2 e3 e4 e5 : Int} (h_e0 : (-4611686018427387903) ≤ e0 ∧ e0 ≤ 4611686018427387903) (h_e1 : (-4611686018427387903) ≤ e1 ∧ e1 ≤ 4611686018427387903) (h_e2 : (-4611686018427387903) ≤ e2 ∧ e2 ≤ 4611686018427387903) (h_e3 : (-4611686018427387903) ≤ e3 ∧ e3 ≤ 4611686018427387903) (h_e4 : (-4611686018427387903) ≤ e4 ∧ e4 ≤ 4611686018427387903) (h_e5 : (-4611686018427387903) ≤ e5 ∧ e5 ≤ 4611686018427387903) (g_0 : e0 - 1 < 0) (g_1 : 0 ≤ e0) (g_2 : e1 - 1 < 0) (g_3 : 0 ≤ e1) (g_4 : e2 - 1 < 0) (g_5 : 0 ≤ e2) (g_6 : e3 - 1 < 0) (g_7 : e3 < 0) : jT xs d 200 1 0 [(0, (4, 0))] [] [(101, [], [e0, e1, e2, e3, e4, e5])] 0 0 (fun k v hsN => k = 0 ∧ v = (0, 0) ∧ hsN = [(101, [], [e0, e1, e2, e3, e4, e5])] ++ []) := by
  refine jT_xiconst (k := 0) (pcN := 1) jIQ_200_0 rfl ?_
  refine jT_xistore_n (v := (0, 0)) (LN := [(1, (0, 0)), (0, (4, 0))]) (pcN := 2) jIQ_200_1 rfl rfl rfl rfl ?_
  refine jT_xiload_n (v := (0, 0)) (pcN := 3) jIQ_200_2 rfl rfl rfl ?_
  refine jT_xbipush (k := 6) (pcN := 5) jIQ_200_3 (by decide) rfl ?_
  refine jT_xicF (t := 24) (pcN := 8) jIQ_200_5 rfl (by decide +kernel) rfl rfl ?_
  refine jT_xaload_n (v := (4, 0)) (pcN := 9) jIQ_200_8 rfl rfl rfl ?_
  refine jT_xiload_n (v := (0, 0)) (pcN := 10) jIQ_200_9 rfl rfl rfl ?_
  refine jT_lald (x := e0) (a := 0) (j := 0) (fs := []) (X := [e0, e1, e2, e3, e4, e5]) jIQ_200_10 rfl rfl rfl rfl ?_
  refine jT_eq (LN := [(1, (0, 0)), (0, (4, 0))]) (stN := [(1, e0)]) (hsN := [(101, [], [e0, e1, e2, e3, e4, e5])]) rfl rfl rfl ?_
  refine jT_xlconst (z := 0) (pcN := 12) jIQ_200_11 rfl rfl ?_
  refine jT_lcmp (a := e0) (b := 0) (z := 0) (by rfl) (by rfl) (jwl_idd (by omega) (by omega)) (jwl_idd (by omega) (by omega)) (by rw [decide_eq_false (show ¬ ((0 : Int) < e0) by omega), decide_eq_true (show (e0 : Int) = 0 by omega)]; rfl) ?_
  refine jT_xifT (pcN := 18) jIQ_200_13 rfl (by decide +kernel) rfl ?_
  refine jT_xiinc (x := 0) (z := 1) (LN := [(1, (0, 1)), (0, (4, 0))]) (pcN := 21) jIQ_200_18 rfl rfl (by decide) rfl rfl ?_
  refine jT_xgoto (pcN := 2) jIQ_200_21 rfl ?_
  refine jT_xiload_n (v := (0, 1)) (pcN := 3) jIQ_200_2 rfl rfl rfl ?_
  refine jT_xbipush (k := 6) (pcN := 5) jIQ_200_3 (by decide) rfl ?_
  refine jT_xicF (t := 24) (pcN := 8) jIQ_200_5 rfl (by decide +kernel) rfl rfl ?_
  refine jT_xaload_n (v := (4, 0)) (pcN := 9) jIQ_200_8 rfl rfl rfl ?_
  refine jT_xiload_n (v := (0, 1)) (pcN := 10) jIQ_200_9 rfl rfl rfl ?_
  refine jT_lald (x := e1) (a := 0) (j := 1) (fs := []) (X := [e0, e1, e2, e3, e4, e5]) jIQ_200_10 rfl rfl rfl rfl ?_
  refine jT_eq (LN := [(1, (0, 1)), (0, (4, 0))]) (stN := [(1, e1)]) (hsN := [(101, [], [e0, e1, e2, e3, e4, e5])]) rfl rfl rfl ?_
  refine jT_xlconst (z := 0) (pcN := 12) jIQ_200_11 rfl rfl ?_
  refine jT_lcmp (a := e1) (b := 0) (z := 0) (by rfl) (by rfl) (jwl_idd (by omega) (by omega)) (jwl_idd (by omega) (by omega)) (by rw [decide_eq_false (show ¬ ((0 : Int) < e1) by omega), decide_eq_true (show (e1 : Int) = 0 by omega)]; rfl) ?_
  refine jT_xifT (pcN := 18) jIQ_200_13 rfl (by decide +kernel) rfl ?_
  refine jT_xiinc (x := 1) (z := 2) (LN := [(1, (0, 2)), (0, (4, 0))]) (pcN := 21) jIQ_200_18 rfl rfl (by decide) rfl rfl ?_
  refine jT_xgoto (pcN := 2) jIQ_200_21 rfl ?_
  refine jT_xiload_n (v := (0, 2)) (pcN := 3) jIQ_200_2 rfl rfl rfl ?_
  refine jT_xbipush (k := 6) (pcN := 5) jIQ_200_3 (by decide) rfl ?_
  refine jT_xicF (t := 24) (pcN := 8) jIQ_200_5 rfl (by decide +kernel) rfl rfl ?_
  refine jT_xaload_n (v := (4, 0)) (pcN := 9) jIQ_200_8 rfl rfl rfl ?_
  refine jT_xiload_n (v := (0, 2)) (pcN := 10) jIQ_200_9 rfl rfl rfl ?_
  refine jT_lald (x := e2) (a := 0) (j := 2) (fs := []) (X := [e0, e1, e2, e3, e4, e5]) jIQ_200_10 rfl rfl rfl rfl ?_
  refine jT_eq (LN := [(1, (0, 2)), (0, (4, 0))]) (stN := [(1, e2)]) (hsN := [(101, [], [e0, e1, e2, e3, e4, e5])]) rfl rfl rfl ?_
  refine jT_xlconst (z := 0) (pcN := 12) jIQ_200_11 rfl rfl ?_
  refine jT_lcmp (a := e2) (b := 0) (z := 0) (by rfl) (by rfl) (jwl_idd (by omega) (by omega)) (jwl_idd (by omega) (by omega)) (by rw [decide_eq_false (show ¬ ((0 : Int) < e2) by omega), decide_eq_true (show (e2 : Int) = 0 by omega)]; rfl) ?_
  refine jT_xifT (pcN := 18) jIQ_200_13 rfl (by decide +kernel) rfl ?_
  refine jT_xiinc (x := 2) (z := 3) (LN := [(1, (0, 3)), (0, (4, 0))]) (pcN := 21) jIQ_200_18 rfl rfl (by decide) rfl rfl ?_
  refine jT_xgoto (pcN := 2) jIQ_200_21 rfl ?_
  refine jT_xiload_n (v := (0, 3)) (pcN := 3) jIQ_200_2 rfl rfl rfl ?_
  refine jT_xbipush (k := 6) (pcN := 5) jIQ_200_3 (by decide) rfl ?_
  refine jT_xicF (t := 24) (pcN := 8) jIQ_200_5 rfl (by decide +kernel) rfl rfl ?_
  refine jT_xaload_n (v := (4, 0)) (pcN := 9) jIQ_200_8 rfl rfl rfl ?_
  refine jT_xiload_n (v := (0, 3)) (pcN := 10) jIQ_200_9 rfl rfl rfl ?_
  refine jT_lald (x := e3) (a := 0) (j := 3) (fs := []) (X := [e0, e1, e2, e3, e4, e5]) jIQ_200_10 rfl rfl rfl rfl ?_
  refine jT_eq (LN := [(1, (0, 3)), (0, (4, 0))]) (stN := [(1, e3)]) (hsN := [(101, [], [e0, e1, e2, e3, e4, e5])]) rfl rfl rfl ?_
  refine jT_xlconst (z := 0) (pcN := 12) jIQ_200_11 rfl rfl ?_
  refine jT_lcmp (a := e3) (b := 0) (z := (-1)) (by rfl) (by rfl) (jwl_idd (by omega) (by omega)) (jwl_idd (by omega) (by omega)) (by rw [decide_eq_false (show ¬ ((0 : Int) < e3) by omega), decide_eq_false (show ¬ ((e3 : Int) = 0) by omega)]; rfl) ?_
  refine jT_xifF (t := 18) (pcN := 16) jIQ_200_13 rfl (by decide +kernel) rfl rfl ?_
  refine jT_xiconst (k := 0) (pcN := 17) jIQ_200_16 rfl ?_
  exact jT_ret rfl (by decide) (by show 1 ≤ 1; omega) (by omega) (by omega) ⟨rfl, rfl, rfl⟩
theorem jQ_200_160 {xs : List Int} {d : Nat} {e0 e1 e2 e3 e4 e5 : Int} (h_e0 : (-4611686018427387903) ≤ e0 ∧ e0 ≤ 4611686018427387903) (h_e1 : (-4611686018427387903) ≤ e1 ∧ e1 ≤ 4611686018427387903) (h_e2 : (-4611686018427387903) ≤ e2 ∧ e2 ≤ 4611686018427387903) (h_e3 : (-4611686018427387903) ≤ e3 ∧ e3 ≤ 4611686018427387903) (h_e4 : (-4611686018427387903) ≤ e4 ∧ e4 ≤ 4611686018427387903) (h_e5 : (-4611686018427387903) ≤ e5 ∧ e5 ≤ 4611686018427387903) (g_0 : e0 - 1 < 0) (g_1 : 0 ≤ e0) (g_2 : e1 - 1 < 0) (g_3 : 0 ≤ e1) (g_4 : e2 - 1 < 0) (g_5 : e2 < 0) : jT xs d 200 1 0 [(0, (4, 0))] [] [(101, [], [e0, e1, e2, e3, e4, e5])] 0 0 (fun k v hsN => k = 0 ∧ v = (0, 0) ∧ hsN = [(101, [], [e0, e1, e2, e3, e4, e5])] ++ []) := by
  refine jT_xiconst (k := 0) (pcN := 1) jIQ_200_0 rfl ?_
  refine jT_xistore_n (v := (0, 0)) (LN := [(1, (0, 0)), (0, (4, 0))]) (pcN := 2) jIQ_200_1 rfl rfl rfl rfl ?_
  refine jT_xiload_n (v := (0, 0)) (pcN := 3) jIQ_200_2 rfl rfl rfl ?_
  refine jT_xbipush (k := 6) (pcN := 5) jIQ_200_3 (by decide) rfl ?_
  refine jT_xicF (t := 24) (pcN := 8) jIQ_200_5 rfl (by decide +kernel) rfl rfl ?_
  refine jT_xaload_n (v := (4, 0)) (pcN := 9) jIQ_200_8 rfl rfl rfl ?_
  refine jT_xiload_n (v := (0, 0)) (pcN := 10) jIQ_200_9 rfl rfl rfl ?_
  refine jT_lald (x := e0) (a := 0) (j := 0) (fs := []) (X := [e0, e1, e2, e3, e4, e5]) jIQ_200_10 rfl rfl rfl rfl ?_
  refine jT_eq (LN := [(1, (0, 0)), (0, (4, 0))]) (stN := [(1, e0)]) (hsN := [(101, [], [e0, e1, e2, e3, e4, e5])]) rfl rfl rfl ?_
  refine jT_xlconst (z := 0) (pcN := 12) jIQ_200_11 rfl rfl ?_
  refine jT_lcmp (a := e0) (b := 0) (z := 0) (by rfl) (by rfl) (jwl_idd (by omega) (by omega)) (jwl_idd (by omega) (by omega)) (by rw [decide_eq_false (show ¬ ((0 : Int) < e0) by omega), decide_eq_true (show (e0 : Int) = 0 by omega)]; rfl) ?_
  refine jT_xifT (pcN := 18) jIQ_200_13 rfl (by decide +kernel) rfl ?_
  refine jT_xiinc (x := 0) (z := 1) (LN := [(1, (0, 1)), (0, (4, 0))]) (pcN := 21) jIQ_200_18 rfl rfl (by decide) rfl rfl ?_
  refine jT_xgoto (pcN := 2) jIQ_200_21 rfl ?_
  refine jT_xiload_n (v := (0, 1)) (pcN := 3) jIQ_200_2 rfl rfl rfl ?_
  refine jT_xbipush (k := 6) (pcN := 5) jIQ_200_3 (by decide) rfl ?_
  refine jT_xicF (t := 24) (pcN := 8) jIQ_200_5 rfl (by decide +kernel) rfl rfl ?_
  refine jT_xaload_n (v := (4, 0)) (pcN := 9) jIQ_200_8 rfl rfl rfl ?_
  refine jT_xiload_n (v := (0, 1)) (pcN := 10) jIQ_200_9 rfl rfl rfl ?_
  refine jT_lald (x := e1) (a := 0) (j := 1) (fs := []) (X := [e0, e1, e2, e3, e4, e5]) jIQ_200_10 rfl rfl rfl rfl ?_
  refine jT_eq (LN := [(1, (0, 1)), (0, (4, 0))]) (stN := [(1, e1)]) (hsN := [(101, [], [e0, e1, e2, e3, e4, e5])]) rfl rfl rfl ?_
  refine jT_xlconst (z := 0) (pcN := 12) jIQ_200_11 rfl rfl ?_
  refine jT_lcmp (a := e1) (b := 0) (z := 0) (by rfl) (by rfl) (jwl_idd (by omega) (by omega)) (jwl_idd (by omega) (by omega)) (by rw [decide_eq_false (show ¬ ((0 : Int) < e1) by omega), decide_eq_true (show (e1 : Int) = 0 by omega)]; rfl) ?_
  refine jT_xifT (pcN := 18) jIQ_200_13 rfl (by decide +kernel) rfl ?_
  refine jT_xiinc (x := 1) (z := 2) (LN := [(1, (0, 2)), (0, (4, 0))]) (pcN := 21) jIQ_200_18 rfl rfl (by decide) rfl rfl ?_
  refine jT_xgoto (pcN := 2) jIQ_200_21 rfl ?_
  refine jT_xiload_n (v := (0, 2)) (pcN := 3) jIQ_200_2 rfl rfl rfl ?_
  refine jT_xbipush (k := 6) (pcN := 5) jIQ_200_3 (by decide) rfl ?_
  refine jT_xicF (t := 24) (pcN := 8) jIQ_200_5 rfl (by decide +kernel) rfl rfl ?_
  refine jT_xaload_n (v := (4, 0)) (pcN := 9) jIQ_200_8 rfl rfl rfl ?_
  refine jT_xiload_n (v := (0, 2)) (pcN := 10) jIQ_200_9 rfl rfl rfl ?_
  refine jT_lald (x := e2) (a := 0) (j := 2) (fs := []) (X := [e0, e1, e2, e3, e4, e5]) jIQ_200_10 rfl rfl rfl rfl ?_
  refine jT_eq (LN := [(1, (0, 2)), (0, (4, 0))]) (stN := [(1, e2)]) (hsN := [(101, [], [e0, e1, e2, e3, e4, e5])]) rfl rfl rfl ?_
  refine jT_xlconst (z := 0) (pcN := 12) jIQ_200_11 rfl rfl ?_
  refine jT_lcmp (a := e2) (b := 0) (z := (-1)) (by rfl) (by rfl) (jwl_idd (by omega) (by omega)) (jwl_idd (by omega) (by omega)) (by rw [decide_eq_false (show ¬ ((0 : Int) < e2) by omega), decide_eq_false (show ¬ ((e2 : Int) = 0) by omega)]; rfl) ?_
  refine jT_xifF (t := 18) (pcN := 16) jIQ_200_13 rfl (by decide +kernel) rfl rfl ?_
  refine jT_xiconst (k := 0) (pcN := 17) jIQ_200_16 rfl ?_
  exact jT_ret rfl (by decide) (by show 1 ≤ 1; omega) (by omega) (by omega) ⟨rfl, rfl, rfl⟩
theorem jQ_200_161 {xs : List Int} {d : Nat} {e0 e1 e2 e3 e4 e5 : Int} (h_e0 : (-4611686018427387903) ≤ e0 ∧ e0 ≤ 4611686018427387903) (h_e1 : (-4611686018427387903) ≤ e1 ∧ e1 ≤ 4611686018427387903) (h_e2 : (-4611686018427387903) ≤ e2 ∧ e2 ≤ 4611686018427387903) (h_e3 : (-4611686018427387903) ≤ e3 ∧ e3 ≤ 4611686018427387903) (h_e4 : (-4611686018427387903) ≤ e4 ∧ e4 ≤ 4611686018427387903) (h_e5 : (-4611686018427387903) ≤ e5 ∧ e5 ≤ 4611686018427387903) (g_0 : e0 - 1 < 0) (g_1 : 0 ≤ e0) (g_2 : e1 - 1 < 0) (g_3 : e1 < 0) : jT xs d 200 1 0 [(0, (4, 0))] [] [(101, [], [e0, e1, e2, e3, e4, e5])] 0 0 (fun k v hsN => k = 0 ∧ v = (0, 0) ∧ hsN = [(101, [], [e0, e1, e2, e3, e4, e5])] ++ []) := by
  refine jT_xiconst (k := 0) (pcN := 1) jIQ_200_0 rfl ?_
  refine jT_xistore_n (v := (0, 0)) (LN := [(1, (0, 0)), (0, (4, 0))]) (pcN := 2) jIQ_200_1 rfl rfl rfl rfl ?_
  refine jT_xiload_n (v := (0, 0)) (pcN := 3) jIQ_200_2 rfl rfl rfl ?_
  refine jT_xbipush (k := 6) (pcN := 5) jIQ_200_3 (by decide) rfl ?_
  refine jT_xicF (t := 24) (pcN := 8) jIQ_200_5 rfl (by decide +kernel) rfl rfl ?_
  refine jT_xaload_n (v := (4, 0)) (pcN := 9) jIQ_200_8 rfl rfl rfl ?_
  refine jT_xiload_n (v := (0, 0)) (pcN := 10) jIQ_200_9 rfl rfl rfl ?_
  refine jT_lald (x := e0) (a := 0) (j := 0) (fs := []) (X := [e0, e1, e2, e3, e4, e5]) jIQ_200_10 rfl rfl rfl rfl ?_
  refine jT_eq (LN := [(1, (0, 0)), (0, (4, 0))]) (stN := [(1, e0)]) (hsN := [(101, [], [e0, e1, e2, e3, e4, e5])]) rfl rfl rfl ?_
  refine jT_xlconst (z := 0) (pcN := 12) jIQ_200_11 rfl rfl ?_
  refine jT_lcmp (a := e0) (b := 0) (z := 0) (by rfl) (by rfl) (jwl_idd (by omega) (by omega)) (jwl_idd (by omega) (by omega)) (by rw [decide_eq_false (show ¬ ((0 : Int) < e0) by omega), decide_eq_true (show (e0 : Int) = 0 by omega)]; rfl) ?_
  refine jT_xifT (pcN := 18) jIQ_200_13 rfl (by decide +kernel) rfl ?_
  refine jT_xiinc (x := 0) (z := 1) (LN := [(1, (0, 1)), (0, (4, 0))]) (pcN := 21) jIQ_200_18 rfl rfl (by decide) rfl rfl ?_
  refine jT_xgoto (pcN := 2) jIQ_200_21 rfl ?_
  refine jT_xiload_n (v := (0, 1)) (pcN := 3) jIQ_200_2 rfl rfl rfl ?_
  refine jT_xbipush (k := 6) (pcN := 5) jIQ_200_3 (by decide) rfl ?_
  refine jT_xicF (t := 24) (pcN := 8) jIQ_200_5 rfl (by decide +kernel) rfl rfl ?_
  refine jT_xaload_n (v := (4, 0)) (pcN := 9) jIQ_200_8 rfl rfl rfl ?_
  refine jT_xiload_n (v := (0, 1)) (pcN := 10) jIQ_200_9 rfl rfl rfl ?_
  refine jT_lald (x := e1) (a := 0) (j := 1) (fs := []) (X := [e0, e1, e2, e3, e4, e5]) jIQ_200_10 rfl rfl rfl rfl ?_
  refine jT_eq (LN := [(1, (0, 1)), (0, (4, 0))]) (stN := [(1, e1)]) (hsN := [(101, [], [e0, e1, e2, e3, e4, e5])]) rfl rfl rfl ?_
  refine jT_xlconst (z := 0) (pcN := 12) jIQ_200_11 rfl rfl ?_
  refine jT_lcmp (a := e1) (b := 0) (z := (-1)) (by rfl) (by rfl) (jwl_idd (by omega) (by omega)) (jwl_idd (by omega) (by omega)) (by rw [decide_eq_false (show ¬ ((0 : Int) < e1) by omega), decide_eq_false (show ¬ ((e1 : Int) = 0) by omega)]; rfl) ?_
  refine jT_xifF (t := 18) (pcN := 16) jIQ_200_13 rfl (by decide +kernel) rfl rfl ?_
  refine jT_xiconst (k := 0) (pcN := 17) jIQ_200_16 rfl ?_
  exact jT_ret rfl (by decide) (by show 1 ≤ 1; omega) (by omega) (by omega) ⟨rfl, rfl, rfl⟩
theorem jQ_200_162 {xs : List Int} {d : Nat} {e0 e1 e2 e3 e4 e5 : Int} (h_e0 : (-4611686018427387903) ≤ e0 ∧ e0 ≤ 4611686018427387903) (h_e1 : (-4611686018427387903) ≤ e1 ∧ e1 ≤ 4611686018427387903) (h_e2 : (-4611686018427387903) ≤ e2 ∧ e2 ≤ 4611686018427387903) (h_e3 : (-4611686018427387903) ≤ e3 ∧ e3 ≤ 4611686018427387903) (h_e4 : (-4611686018427387903) ≤ e4 ∧ e4 ≤ 4611686018427387903) (h_e5 : (-4611686018427387903) ≤ e5 ∧ e5 ≤ 4611686018427387903) (g_0 : e0 - 1 < 0) (g_1 : e0 < 0) : jT xs d 200 1 0 [(0, (4, 0))] [] [(101, [], [e0, e1, e2, e3, e4, e5])] 0 0 (fun k v hsN => k = 0 ∧ v = (0, 0) ∧ hsN = [(101, [], [e0, e1, e2, e3, e4, e5])] ++ []) := by
  refine jT_xiconst (k := 0) (pcN := 1) jIQ_200_0 rfl ?_
  refine jT_xistore_n (v := (0, 0)) (LN := [(1, (0, 0)), (0, (4, 0))]) (pcN := 2) jIQ_200_1 rfl rfl rfl rfl ?_
  refine jT_xiload_n (v := (0, 0)) (pcN := 3) jIQ_200_2 rfl rfl rfl ?_
  refine jT_xbipush (k := 6) (pcN := 5) jIQ_200_3 (by decide) rfl ?_
  refine jT_xicF (t := 24) (pcN := 8) jIQ_200_5 rfl (by decide +kernel) rfl rfl ?_
  refine jT_xaload_n (v := (4, 0)) (pcN := 9) jIQ_200_8 rfl rfl rfl ?_
  refine jT_xiload_n (v := (0, 0)) (pcN := 10) jIQ_200_9 rfl rfl rfl ?_
  refine jT_lald (x := e0) (a := 0) (j := 0) (fs := []) (X := [e0, e1, e2, e3, e4, e5]) jIQ_200_10 rfl rfl rfl rfl ?_
  refine jT_eq (LN := [(1, (0, 0)), (0, (4, 0))]) (stN := [(1, e0)]) (hsN := [(101, [], [e0, e1, e2, e3, e4, e5])]) rfl rfl rfl ?_
  refine jT_xlconst (z := 0) (pcN := 12) jIQ_200_11 rfl rfl ?_
  refine jT_lcmp (a := e0) (b := 0) (z := (-1)) (by rfl) (by rfl) (jwl_idd (by omega) (by omega)) (jwl_idd (by omega) (by omega)) (by rw [decide_eq_false (show ¬ ((0 : Int) < e0) by omega), decide_eq_false (show ¬ ((e0 : Int) = 0) by omega)]; rfl) ?_
  refine jT_xifF (t := 18) (pcN := 16) jIQ_200_13 rfl (by decide +kernel) rfl rfl ?_
  refine jT_xiconst (k := 0) (pcN := 17) jIQ_200_16 rfl ?_
  exact jT_ret rfl (by decide) (by show 1 ≤ 1; omega) (by omega) (by omega) ⟨rfl, rfl, rfl⟩
theorem jQl_sg_148 {xs : List Int} {d : Nat} {e0 e1 e2 e3 e4 e5 : Int} (h_e0 : -4611686018427387903 ≤ e0 ∧ e0 ≤ 4611686018427387903) (h_e1 : -4611686018427387903 ≤ e1 ∧ e1 ≤ 4611686018427387903) (h_e2 : -4611686018427387903 ≤ e2 ∧ e2 ≤ 4611686018427387903) (h_e3 : -4611686018427387903 ≤ e3 ∧ e3 ≤ 4611686018427387903) (h_e4 : -4611686018427387903 ≤ e4 ∧ e4 ≤ 4611686018427387903) (h_e5 : -4611686018427387903 ≤ e5 ∧ e5 ≤ 4611686018427387903) : jT xs (d + 3) 213 23 0 [(0, (4, 0)), (1, (4, 1))] [] [jzQ_371, (101, [], [e0, e1, e2, e3, e4, e5]), jgh, jgh, jgh, jgh, jgh, (130, [], [17, 18, 19, 20, 21, 22]), jgh, jgh, jgh, jgh, jgh, jgh, jgh, jgh, jgh, (100, [], (jenc (jlg 0))), (100, [], (jenc (jlg 1))), (100, [], (jenc (jlg 2))), (100, [], (jenc (jlg 3))), (100, [], (jenc (jlg 4))), (100, [], (jenc (jlg 5)))] 19 1064 (fun k v hsN => k = 0 ∧ v = (0, (jlz e0 e1 e2 e3 e4 e5).sign) ∧ hsN = [jzQ_371, (101, [], [e0, e1, e2, e3, e4, e5]), jgh, jgh, jgh, jgh, jgh, (130, [], [17, 18, 19, 20, 21, 22]), jgh, jgh, jgh, jgh, jgh, jgh, jgh, jgh, jgh, (100, [], (jenc (jlg 0))), (100, [], (jenc (jlg 1))), (100, [], (jenc (jlg 2))), (100, [], (jenc (jlg 3))), (100, [], (jenc (jlg 4))), (100, [], (jenc (jlg 5)))]) := by
  rcases (show (0 ≤ e0 - 1) ∨ (e0 - 1 < 0) by omega) with g_0 | g_0
  · refine jT_xaload_n (v := (4, 1)) (pcN := 1) jIQ_213_0 rfl rfl rfl ?_
    refine jT_callA [1] (y := 200) (pcN := 4) (dC := 0) (bc1 := 0) (bc2 := 0) (c1 := 19) (c2 := 1064) (as := [(4, 1)]) (asC := [(4, 0)]) (LN := [(0, (4, 0)), (1, (4, 1))]) (stN := []) (hsC := [(101, [], [e0, e1, e2, e3, e4, e5])]) (ex := []) (v := (0, 0)) (st2 := [(0, 0)]) (hs2 := [jzQ_371, (101, [], [e0, e1, e2, e3, e4, e5]), jgh, jgh, jgh, jgh, jgh, (130, [], [17, 18, 19, 20, 21, 22]), jgh, jgh, jgh, jgh, jgh, jgh, jgh, jgh, jgh, (100, [], (jenc (jlg 0))), (100, [], (jenc (jlg 1))), (100, [], (jenc (jlg 2))), (100, [], (jenc (jlg 3))), (100, [], (jenc (jlg 4))), (100, [], (jenc (jlg 5)))]) (jQ_200_149 (d := 0) (by omega) (by omega) (by omega) (by omega) (by omega) (by omega) (by omega)) (by rfl) (by rfl) (by rfl) (by rfl) ⟨rfl, trivial⟩ (by rfl) (by rfl) (by omega) (by show 23 ≤ 23; omega) (by omega) (by omega) rfl rfl ?_
    refine jT_xifT (pcN := 11) jIQ_213_4 rfl (by decide +kernel) rfl ?_
    refine jT_xaload_n (v := (4, 0)) (pcN := 12) jIQ_213_11 rfl rfl rfl ?_
    refine jT_xaload_n (v := (4, 1)) (pcN := 13) jIQ_213_12 rfl rfl rfl ?_
    refine jT_callA [0, 1, 2, 3, 4, 5, 6, 7, 8, 9, 10, 11, 12, 13, 14, 15, 16, 17, 18, 19, 20, 21, 22] (y := 214) (pcN := 16) (dC := 2) (bc1 := 19) (bc2 := 1064) (c1 := 0) (c2 := 0) (as := [(4, 0), (4, 1)]) (asC := [(4, 0), (4, 1)]) (LN := [(0, (4, 0)), (1, (4, 1))]) (stN := []) (hsC := [jzQ_371, (101, [], [e0, e1, e2, e3, e4, e5]), jgh, jgh, jgh, jgh, jgh, (130, [], [17, 18, 19, 20, 21, 22]), jgh, jgh, jgh, jgh, jgh, jgh, jgh, jgh, jgh, (100, [], (jenc (jlg 0))), (100, [], (jenc (jlg 1))), (100, [], (jenc (jlg 2))), (100, [], (jenc (jlg 3))), (100, [], (jenc (jlg 4))), (100, [], (jenc (jlg 5)))]) (ex := [(100, [], (jenc (jlz e0 e1 e2 e3 e4 e5)))]) (v := (4, 23)) (st2 := [(4, 23)]) (hs2 := [jzQ_371, (101, [], [e0, e1, e2, e3, e4, e5]), jgh, jgh, jgh, jgh, jgh, (130, [], [17, 18, 19, 20, 21, 22]), jgh, jgh, jgh, jgh, jgh, jgh, jgh, jgh, jgh, (100, [], (jenc (jlg 0))), (100, [], (jenc (jlg 1))), (100, [], (jenc (jlg 2))), (100, [], (jenc (jlg 3))), (100, [], (jenc (jlg 4))), (100, [], (jenc (jlg 5))), (100, [], (jenc (jlz e0 e1 e2 e3 e4 e5)))]) (jQl_lg_150 (d := 0) (e0 := e0) (e1 := e1) (e2 := e2) (e3 := e3) (e4 := e4) (e5 := e5) (by omega) (by omega) (by omega) (by omega) (by omega) (by omega)) (by rfl) (by rfl) (by rfl) (by rfl) ⟨rfl, rfl, rfl, rfl, rfl, rfl, rfl, rfl, rfl, rfl, rfl, rfl, rfl, rfl, rfl, rfl, rfl, rfl, rfl, rfl, rfl, rfl, rfl, trivial⟩ (by rfl) (by rfl) (by omega) (by show 23 ≤ 23; omega) (by omega) (by omega) rfl rfl ?_
    refine jT_xiconst (k := 0) (pcN := 17) jIQ_213_16 rfl ?_
    refine jT_iald (x := (jlz e0 e1 e2 e3 e4 e5).sign) (a := 23) (j := 0) (fs := []) (X := (jenc (jlz e0 e1 e2 e3 e4 e5))) (by rfl) (by rfl) (by rfl) (by rfl) (jenc_sg rfl) ?_
    refine jT_eq (LN := [(0, (4, 0)), (1, (4, 1))]) (stN := [(0, (jlz e0 e1 e2 e3 e4 e5).sign)]) (hsN := [jzQ_371, (101, [], [e0, e1, e2, e3, e4, e5]), jgh, jgh, jgh, jgh, jgh, (130, [], [17, 18, 19, 20, 21, 22]), jgh, jgh, jgh, jgh, jgh, jgh, jgh, jgh, jgh, (100, [], (jenc (jlg 0))), (100, [], (jenc (jlg 1))), (100, [], (jenc (jlg 2))), (100, [], (jenc (jlg 3))), (100, [], (jenc (jlg 4))), (100, [], (jenc (jlg 5))), (100, [], (jenc (jlz e0 e1 e2 e3 e4 e5)))]) rfl rfl rfl ?_
    refine jT_loc (LN := [(0, (4, 0))]) (by show List.Nodup [0]; decide) (by intro q hq; simp only [List.mem_cons, List.not_mem_nil, or_false] at hq; rcases hq with rfl <;> rfl) ?_
    refine jT_drop 23 (hs0 := [jzQ_371, (101, [], [e0, e1, e2, e3, e4, e5]), jgh, jgh, jgh, jgh, jgh, (130, [], [17, 18, 19, 20, 21, 22]), jgh, jgh, jgh, jgh, jgh, jgh, jgh, jgh, jgh, (100, [], (jenc (jlg 0))), (100, [], (jenc (jlg 1))), (100, [], (jenc (jlg 2))), (100, [], (jenc (jlg 3))), (100, [], (jenc (jlg 4))), (100, [], (jenc (jlg 5)))]) (ex := [(100, [], (jenc (jlz e0 e1 e2 e3 e4 e5)))]) rfl rfl rfl (by decide) ?_
    exact jT_ret rfl (by decide) (by show 23 ≤ 23; decide) (by omega) (by omega) ⟨rfl, rfl, rfl⟩
  · rcases (show (0 ≤ e0) ∨ (e0 < 0) by omega) with g_1 | g_1
    · rcases (show (0 ≤ e1 - 1) ∨ (e1 - 1 < 0) by omega) with g_2 | g_2
      · refine jT_xaload_n (v := (4, 1)) (pcN := 1) jIQ_213_0 rfl rfl rfl ?_
        refine jT_callA [1] (y := 200) (pcN := 4) (dC := 0) (bc1 := 0) (bc2 := 0) (c1 := 19) (c2 := 1064) (as := [(4, 1)]) (asC := [(4, 0)]) (LN := [(0, (4, 0)), (1, (4, 1))]) (stN := []) (hsC := [(101, [], [e0, e1, e2, e3, e4, e5])]) (ex := []) (v := (0, 0)) (st2 := [(0, 0)]) (hs2 := [jzQ_371, (101, [], [e0, e1, e2, e3, e4, e5]), jgh, jgh, jgh, jgh, jgh, (130, [], [17, 18, 19, 20, 21, 22]), jgh, jgh, jgh, jgh, jgh, jgh, jgh, jgh, jgh, (100, [], (jenc (jlg 0))), (100, [], (jenc (jlg 1))), (100, [], (jenc (jlg 2))), (100, [], (jenc (jlg 3))), (100, [], (jenc (jlg 4))), (100, [], (jenc (jlg 5)))]) (jQ_200_151 (d := 0) (by omega) (by omega) (by omega) (by omega) (by omega) (by omega) (by omega) (by omega) (by omega)) (by rfl) (by rfl) (by rfl) (by rfl) ⟨rfl, trivial⟩ (by rfl) (by rfl) (by omega) (by show 23 ≤ 23; omega) (by omega) (by omega) rfl rfl ?_
        refine jT_xifT (pcN := 11) jIQ_213_4 rfl (by decide +kernel) rfl ?_
        refine jT_xaload_n (v := (4, 0)) (pcN := 12) jIQ_213_11 rfl rfl rfl ?_
        refine jT_xaload_n (v := (4, 1)) (pcN := 13) jIQ_213_12 rfl rfl rfl ?_
        refine jT_callA [0, 1, 2, 3, 4, 5, 6, 7, 8, 9, 10, 11, 12, 13, 14, 15, 16, 17, 18, 19, 20, 21, 22] (y := 214) (pcN := 16) (dC := 2) (bc1 := 19) (bc2 := 1064) (c1 := 0) (c2 := 0) (as := [(4, 0), (4, 1)]) (asC := [(4, 0), (4, 1)]) (LN := [(0, (4, 0)), (1, (4, 1))]) (stN := []) (hsC := [jzQ_371, (101, [], [e0, e1, e2, e3, e4, e5]), jgh, jgh, jgh, jgh, jgh, (130, [], [17, 18, 19, 20, 21, 22]), jgh, jgh, jgh, jgh, jgh, jgh, jgh, jgh, jgh, (100, [], (jenc (jlg 0))), (100, [], (jenc (jlg 1))), (100, [], (jenc (jlg 2))), (100, [], (jenc (jlg 3))), (100, [], (jenc (jlg 4))), (100, [], (jenc (jlg 5)))]) (ex := [(100, [], (jenc (jlz e0 e1 e2 e3 e4 e5)))]) (v := (4, 23)) (st2 := [(4, 23)]) (hs2 := [jzQ_371, (101, [], [e0, e1, e2, e3, e4, e5]), jgh, jgh, jgh, jgh, jgh, (130, [], [17, 18, 19, 20, 21, 22]), jgh, jgh, jgh, jgh, jgh, jgh, jgh, jgh, jgh, (100, [], (jenc (jlg 0))), (100, [], (jenc (jlg 1))), (100, [], (jenc (jlg 2))), (100, [], (jenc (jlg 3))), (100, [], (jenc (jlg 4))), (100, [], (jenc (jlg 5))), (100, [], (jenc (jlz e0 e1 e2 e3 e4 e5)))]) (jQl_lg_150 (d := 0) (e0 := e0) (e1 := e1) (e2 := e2) (e3 := e3) (e4 := e4) (e5 := e5) (by omega) (by omega) (by omega) (by omega) (by omega) (by omega)) (by rfl) (by rfl) (by rfl) (by rfl) ⟨rfl, rfl, rfl, rfl, rfl, rfl, rfl, rfl, rfl, rfl, rfl, rfl, rfl, rfl, rfl, rfl, rfl, rfl, rfl, rfl, rfl, rfl, rfl, trivial⟩ (by rfl) (by rfl) (by omega) (by show 23 ≤ 23; omega) (by omega) (by omega) rfl rfl ?_
        refine jT_xiconst (k := 0) (pcN := 17) jIQ_213_16 rfl ?_
        refine jT_iald (x := (jlz e0 e1 e2 e3 e4 e5).sign) (a := 23) (j := 0) (fs := []) (X := (jenc (jlz e0 e1 e2 e3 e4 e5))) (by rfl) (by rfl) (by rfl) (by rfl) (jenc_sg rfl) ?_
        refine jT_eq (LN := [(0, (4, 0)), (1, (4, 1))]) (stN := [(0, (jlz e0 e1 e2 e3 e4 e5).sign)]) (hsN := [jzQ_371, (101, [], [e0, e1, e2, e3, e4, e5]), jgh, jgh, jgh, jgh, jgh, (130, [], [17, 18, 19, 20, 21, 22]), jgh, jgh, jgh, jgh, jgh, jgh, jgh, jgh, jgh, (100, [], (jenc (jlg 0))), (100, [], (jenc (jlg 1))), (100, [], (jenc (jlg 2))), (100, [], (jenc (jlg 3))), (100, [], (jenc (jlg 4))), (100, [], (jenc (jlg 5))), (100, [], (jenc (jlz e0 e1 e2 e3 e4 e5)))]) rfl rfl rfl ?_
        refine jT_loc (LN := [(0, (4, 0))]) (by show List.Nodup [0]; decide) (by intro q hq; simp only [List.mem_cons, List.not_mem_nil, or_false] at hq; rcases hq with rfl <;> rfl) ?_
        refine jT_drop 23 (hs0 := [jzQ_371, (101, [], [e0, e1, e2, e3, e4, e5]), jgh, jgh, jgh, jgh, jgh, (130, [], [17, 18, 19, 20, 21, 22]), jgh, jgh, jgh, jgh, jgh, jgh, jgh, jgh, jgh, (100, [], (jenc (jlg 0))), (100, [], (jenc (jlg 1))), (100, [], (jenc (jlg 2))), (100, [], (jenc (jlg 3))), (100, [], (jenc (jlg 4))), (100, [], (jenc (jlg 5)))]) (ex := [(100, [], (jenc (jlz e0 e1 e2 e3 e4 e5)))]) rfl rfl rfl (by decide) ?_
        exact jT_ret rfl (by decide) (by show 23 ≤ 23; decide) (by omega) (by omega) ⟨rfl, rfl, rfl⟩
      · rcases (show (0 ≤ e1) ∨ (e1 < 0) by omega) with g_3 | g_3
        · rcases (show (0 ≤ e2 - 1) ∨ (e2 - 1 < 0) by omega) with g_4 | g_4
          · refine jT_xaload_n (v := (4, 1)) (pcN := 1) jIQ_213_0 rfl rfl rfl ?_
            refine jT_callA [1] (y := 200) (pcN := 4) (dC := 0) (bc1 := 0) (bc2 := 0) (c1 := 19) (c2 := 1064) (as := [(4, 1)]) (asC := [(4, 0)]) (LN := [(0, (4, 0)), (1, (4, 1))]) (stN := []) (hsC := [(101, [], [e0, e1, e2, e3, e4, e5])]) (ex := []) (v := (0, 0)) (st2 := [(0, 0)]) (hs2 := [jzQ_371, (101, [], [e0, e1, e2, e3, e4, e5]), jgh, jgh, jgh, jgh, jgh, (130, [], [17, 18, 19, 20, 21, 22]), jgh, jgh, jgh, jgh, jgh, jgh, jgh, jgh, jgh, (100, [], (jenc (jlg 0))), (100, [], (jenc (jlg 1))), (100, [], (jenc (jlg 2))), (100, [], (jenc (jlg 3))), (100, [], (jenc (jlg 4))), (100, [], (jenc (jlg 5)))]) (jQ_200_152 (d := 0) (by omega) (by omega) (by omega) (by omega) (by omega) (by omega) (by omega) (by omega) (by omega) (by omega) (by omega)) (by rfl) (by rfl) (by rfl) (by rfl) ⟨rfl, trivial⟩ (by rfl) (by rfl) (by omega) (by show 23 ≤ 23; omega) (by omega) (by omega) rfl rfl ?_
            refine jT_xifT (pcN := 11) jIQ_213_4 rfl (by decide +kernel) rfl ?_
            refine jT_xaload_n (v := (4, 0)) (pcN := 12) jIQ_213_11 rfl rfl rfl ?_
            refine jT_xaload_n (v := (4, 1)) (pcN := 13) jIQ_213_12 rfl rfl rfl ?_
            refine jT_callA [0, 1, 2, 3, 4, 5, 6, 7, 8, 9, 10, 11, 12, 13, 14, 15, 16, 17, 18, 19, 20, 21, 22] (y := 214) (pcN := 16) (dC := 2) (bc1 := 19) (bc2 := 1064) (c1 := 0) (c2 := 0) (as := [(4, 0), (4, 1)]) (asC := [(4, 0), (4, 1)]) (LN := [(0, (4, 0)), (1, (4, 1))]) (stN := []) (hsC := [jzQ_371, (101, [], [e0, e1, e2, e3, e4, e5]), jgh, jgh, jgh, jgh, jgh, (130, [], [17, 18, 19, 20, 21, 22]), jgh, jgh, jgh, jgh, jgh, jgh, jgh, jgh, jgh, (100, [], (jenc (jlg 0))), (100, [], (jenc (jlg 1))), (100, [], (jenc (jlg 2))), (100, [], (jenc (jlg 3))), (100, [], (jenc (jlg 4))), (100, [], (jenc (jlg 5)))]) (ex := [(100, [], (jenc (jlz e0 e1 e2 e3 e4 e5)))]) (v := (4, 23)) (st2 := [(4, 23)]) (hs2 := [jzQ_371, (101, [], [e0, e1, e2, e3, e4, e5]), jgh, jgh, jgh, jgh, jgh, (130, [], [17, 18, 19, 20, 21, 22]), jgh, jgh, jgh, jgh, jgh, jgh, jgh, jgh, jgh, (100, [], (jenc (jlg 0))), (100, [], (jenc (jlg 1))), (100, [], (jenc (jlg 2))), (100, [], (jenc (jlg 3))), (100, [], (jenc (jlg 4))), (100, [], (jenc (jlg 5))), (100, [], (jenc (jlz e0 e1 e2 e3 e4 e5)))]) (jQl_lg_150 (d := 0) (e0 := e0) (e1 := e1) (e2 := e2) (e3 := e3) (e4 := e4) (e5 := e5) (by omega) (by omega) (by omega) (by omega) (by omega) (by omega)) (by rfl) (by rfl) (by rfl) (by rfl) ⟨rfl, rfl, rfl, rfl, rfl, rfl, rfl, rfl, rfl, rfl, rfl, rfl, rfl, rfl, rfl, rfl, rfl, rfl, rfl, rfl, rfl, rfl, rfl, trivial⟩ (by rfl) (by rfl) (by omega) (by show 23 ≤ 23; omega) (by omega) (by omega) rfl rfl ?_
            refine jT_xiconst (k := 0) (pcN := 17) jIQ_213_16 rfl ?_
            refine jT_iald (x := (jlz e0 e1 e2 e3 e4 e5).sign) (a := 23) (j := 0) (fs := []) (X := (jenc (jlz e0 e1 e2 e3 e4 e5))) (by rfl) (by rfl) (by rfl) (by rfl) (jenc_sg rfl) ?_
            refine jT_eq (LN := [(0, (4, 0)), (1, (4, 1))]) (stN := [(0, (jlz e0 e1 e2 e3 e4 e5).sign)]) (hsN := [jzQ_371, (101, [], [e0, e1, e2, e3, e4, e5]), jgh, jgh, jgh, jgh, jgh, (130, [], [17, 18, 19, 20, 21, 22]), jgh, jgh, jgh, jgh, jgh, jgh, jgh, jgh, jgh, (100, [], (jenc (jlg 0))), (100, [], (jenc (jlg 1))), (100, [], (jenc (jlg 2))), (100, [], (jenc (jlg 3))), (100, [], (jenc (jlg 4))), (100, [], (jenc (jlg 5))), (100, [], (jenc (jlz e0 e1 e2 e3 e4 e5)))]) rfl rfl rfl ?_
            refine jT_loc (LN := [(0, (4, 0))]) (by show List.Nodup [0]; decide) (by intro q hq; simp only [List.mem_cons, List.not_mem_nil, or_false] at hq; rcases hq with rfl <;> rfl) ?_
            refine jT_drop 23 (hs0 := [jzQ_371, (101, [], [e0, e1, e2, e3, e4, e5]), jgh, jgh, jgh, jgh, jgh, (130, [], [17, 18, 19, 20, 21, 22]), jgh, jgh, jgh, jgh, jgh, jgh, jgh, jgh, jgh, (100, [], (jenc (jlg 0))), (100, [], (jenc (jlg 1))), (100, [], (jenc (jlg 2))), (100, [], (jenc (jlg 3))), (100, [], (jenc (jlg 4))), (100, [], (jenc (jlg 5)))]) (ex := [(100, [], (jenc (jlz e0 e1 e2 e3 e4 e5)))]) rfl rfl rfl (by decide) ?_
            exact jT_ret rfl (by decide) (by show 23 ≤ 23; decide) (by omega) (by omega) ⟨rfl, rfl, rfl⟩
          · rcases (show (0 ≤ e2) ∨ (e2 < 0) by omega) with g_5 | g_5
            · rcases (show (0 ≤ e3 - 1) ∨ (e3 - 1 < 0) by omega) with g_6 | g_6
              · refine jT_xaload_n (v := (4, 1)) (pcN := 1) jIQ_213_0 rfl rfl rfl ?_
                refine jT_callA [1] (y := 200) (pcN := 4) (dC := 0) (bc1 := 0) (bc2 := 0) (c1 := 19) (c2 := 1064) (as := [(4, 1)]) (asC := [(4, 0)]) (LN := [(0, (4, 0)), (1, (4, 1))]) (stN := []) (hsC := [(101, [], [e0, e1, e2, e3, e4, e5])]) (ex := []) (v := (0, 0)) (st2 := [(0, 0)]) (hs2 := [jzQ_371, (101, [], [e0, e1, e2, e3, e4, e5]), jgh, jgh, jgh, jgh, jgh, (130, [], [17, 18, 19, 20, 21, 22]), jgh, jgh, jgh, jgh, jgh, jgh, jgh, jgh, jgh, (100, [], (jenc (jlg 0))), (100, [], (jenc (jlg 1))), (100, [], (jenc (jlg 2))), (100, [], (jenc (jlg 3))), (100, [], (jenc (jlg 4))), (100, [], (jenc (jlg 5)))]) (jQ_200_153 (d := 0) (by omega) (by omega) (by omega) (by omega) (by omega) (by omega) (by omega) (by omega) (by omega) (by omega) (by omega) (by omega) (by omega)) (by rfl) (by rfl) (by rfl) (by rfl) ⟨rfl, trivial⟩ (by rfl) (by rfl) (by omega) (by show 23 ≤ 23; omega) (by omega) (by omega) rfl rfl ?_
                refine jT_xifT (pcN := 11) jIQ_213_4 rfl (by decide +kernel) rfl ?_
                refine jT_xaload_n (v := (4, 0)) (pcN := 12) jIQ_213_11 rfl rfl rfl ?_
                refine jT_xaload_n (v := (4, 1)) (pcN := 13) jIQ_213_12 rfl rfl rfl ?_
                refine jT_callA [0, 1, 2, 3, 4, 5, 6, 7, 8, 9, 10, 11, 12, 13, 14, 15, 16, 17, 18, 19, 20, 21, 22] (y := 214) (pcN := 16) (dC := 2) (bc1 := 19) (bc2 := 1064) (c1 := 0) (c2 := 0) (as := [(4, 0), (4, 1)]) (asC := [(4, 0), (4, 1)]) (LN := [(0, (4, 0)), (1, (4, 1))]) (stN := []) (hsC := [jzQ_371, (101, [], [e0, e1, e2, e3, e4, e5]), jgh, jgh, jgh, jgh, jgh, (130, [], [17, 18, 19, 20, 21, 22]), jgh, jgh, jgh, jgh, jgh, jgh, jgh, jgh, jgh, (100, [], (jenc (jlg 0))), (100, [], (jenc (jlg 1))), (100, [], (jenc (jlg 2))), (100, [], (jenc (jlg 3))), (100, [], (jenc (jlg 4))), (100, [], (jenc (jlg 5)))]) (ex := [(100, [], (jenc (jlz e0 e1 e2 e3 e4 e5)))]) (v := (4, 23)) (st2 := [(4, 23)]) (hs2 := [jzQ_371, (101, [], [e0, e1, e2, e3, e4, e5]), jgh, jgh, jgh, jgh, jgh, (130, [], [17, 18, 19, 20, 21, 22]), jgh, jgh, jgh, jgh, jgh, jgh, jgh, jgh, jgh, (100, [], (jenc (jlg 0))), (100, [], (jenc (jlg 1))), (100, [], (jenc (jlg 2))), (100, [], (jenc (jlg 3))), (100, [], (jenc (jlg 4))), (100, [], (jenc (jlg 5))), (100, [], (jenc (jlz e0 e1 e2 e3 e4 e5)))]) (jQl_lg_150 (d := 0) (e0 := e0) (e1 := e1) (e2 := e2) (e3 := e3) (e4 := e4) (e5 := e5) (by omega) (by omega) (by omega) (by omega) (by omega) (by omega)) (by rfl) (by rfl) (by rfl) (by rfl) ⟨rfl, rfl, rfl, rfl, rfl, rfl, rfl, rfl, rfl, rfl, rfl, rfl, rfl, rfl, rfl, rfl, rfl, rfl, rfl, rfl, rfl, rfl, rfl, trivial⟩ (by rfl) (by rfl) (by omega) (by show 23 ≤ 23; omega) (by omega) (by omega) rfl rfl ?_
                refine jT_xiconst (k := 0) (pcN := 17) jIQ_213_16 rfl ?_
                refine jT_iald (x := (jlz e0 e1 e2 e3 e4 e5).sign) (a := 23) (j := 0) (fs := []) (X := (jenc (jlz e0 e1 e2 e3 e4 e5))) (by rfl) (by rfl) (by rfl) (by rfl) (jenc_sg rfl) ?_
                refine jT_eq (LN := [(0, (4, 0)), (1, (4, 1))]) (stN := [(0, (jlz e0 e1 e2 e3 e4 e5).sign)]) (hsN := [jzQ_371, (101, [], [e0, e1, e2, e3, e4, e5]), jgh, jgh, jgh, jgh, jgh, (130, [], [17, 18, 19, 20, 21, 22]), jgh, jgh, jgh, jgh, jgh, jgh, jgh, jgh, jgh, (100, [], (jenc (jlg 0))), (100, [], (jenc (jlg 1))), (100, [], (jenc (jlg 2))), (100, [], (jenc (jlg 3))), (100, [], (jenc (jlg 4))), (100, [], (jenc (jlg 5))), (100, [], (jenc (jlz e0 e1 e2 e3 e4 e5)))]) rfl rfl rfl ?_
                refine jT_loc (LN := [(0, (4, 0))]) (by show List.Nodup [0]; decide) (by intro q hq; simp only [List.mem_cons, List.not_mem_nil, or_false] at hq; rcases hq with rfl <;> rfl) ?_
                refine jT_drop 23 (hs0 := [jzQ_371, (101, [], [e0, e1, e2, e3, e4, e5]), jgh, jgh, jgh, jgh, jgh, (130, [], [17, 18, 19, 20, 21, 22]), jgh, jgh, jgh, jgh, jgh, jgh, jgh, jgh, jgh, (100, [], (jenc (jlg 0))), (100, [], (jenc (jlg 1))), (100, [], (jenc (jlg 2))), (100, [], (jenc (jlg 3))), (100, [], (jenc (jlg 4))), (100, [], (jenc (jlg 5)))]) (ex := [(100, [], (jenc (jlz e0 e1 e2 e3 e4 e5)))]) rfl rfl rfl (by decide) ?_
                exact jT_ret rfl (by decide) (by show 23 ≤ 23; decide) (by omega) (by omega) ⟨rfl, rfl, rfl⟩
              · rcases (show (0 ≤ e3) ∨ (e3 < 0) by omega) with g_7 | g_7
                · rcases (show (0 ≤ e4 - 1) ∨ (e4 - 1 < 0) by omega) with g_8 | g_8
                  · refine jT_xaload_n (v := (4, 1)) (pcN := 1) jIQ_213_0 rfl rfl rfl ?_
                    refine jT_callA [1] (y := 200) (pcN := 4) (dC := 0) (bc1 := 0) (bc2 := 0) (c1 := 19) (c2 := 1064) (as := [(4, 1)]) (asC := [(4, 0)]) (LN := [(0, (4, 0)), (1, (4, 1))]) (stN := []) (hsC := [(101, [], [e0, e1, e2, e3, e4, e5])]) (ex := []) (v := (0, 0)) (st2 := [(0, 0)]) (hs2 := [jzQ_371, (101, [], [e0, e1, e2, e3, e4, e5]), jgh, jgh, jgh, jgh, jgh, (130, [], [17, 18, 19, 20, 21, 22]), jgh, jgh, jgh, jgh, jgh, jgh, jgh, jgh, jgh, (100, [], (jenc (jlg 0))), (100, [], (jenc (jlg 1))), (100, [], (jenc (jlg 2))), (100, [], (jenc (jlg 3))), (100, [], (jenc (jlg 4))), (100, [], (jenc (jlg 5)))]) (jQ_200_154 (d := 0) (by omega) (by omega) (by omega) (by omega) (by omega) (by omega) (by omega) (by omega) (by omega) (by omega) (by omega) (by omega) (by omega) (by omega) (by omega)) (by rfl) (by rfl) (by rfl) (by rfl) ⟨rfl, trivial⟩ (by rfl) (by rfl) (by omega) (by show 23 ≤ 23; omega) (by omega) (by omega) rfl rfl ?_
                    refine jT_xifT (pcN := 11) jIQ_213_4 rfl (by decide +kernel) rfl ?_
                    refine jT_xaload_n (v := (4, 0)) (pcN := 12) jIQ_213_11 rfl rfl rfl ?_
                    refine jT_xaload_n (v := (4, 1)) (pcN := 13) jIQ_213_12 rfl rfl rfl ?_
                    refine jT_callA [0, 1, 2, 3, 4, 5, 6, 7, 8, 9, 10, 11, 12, 13, 14, 15, 16, 17, 18, 19, 20, 21, 22] (y := 214) (pcN := 16) (dC := 2) (bc1 := 19) (bc2 := 1064) (c1 := 0) (c2 := 0) (as := [(4, 0), (4, 1)]) (asC := [(4, 0), (4, 1)]) (LN := [(0, (4, 0)), (1, (4, 1))]) (stN := []) (hsC := [jzQ_371, (101, [], [e0, e1, e2, e3, e4, e5]), jgh, jgh, jgh, jgh, jgh, (130, [], [17, 18, 19, 20, 21, 22]), jgh, jgh, jgh, jgh, jgh, jgh, jgh, jgh, jgh, (100, [], (jenc (jlg 0))), (100, [], (jenc (jlg 1))), (100, [], (jenc (jlg 2))), (100, [], (jenc (jlg 3))), (100, [], (jenc (jlg 4))), (100, [], (jenc (jlg 5)))]) (ex := [(100, [], (jenc (jlz e0 e1 e2 e3 e4 e5)))]) (v := (4, 23)) (st2 := [(4, 23)]) (hs2 := [jzQ_371, (101, [], [e0, e1, e2, e3, e4, e5]), jgh, jgh, jgh, jgh, jgh, (130, [], [17, 18, 19, 20, 21, 22]), jgh, jgh, jgh, jgh, jgh, jgh, jgh, jgh, jgh, (100, [], (jenc (jlg 0))), (100, [], (jenc (jlg 1))), (100, [], (jenc (jlg 2))), (100, [], (jenc (jlg 3))), (100, [], (jenc (jlg 4))), (100, [], (jenc (jlg 5))), (100, [], (jenc (jlz e0 e1 e2 e3 e4 e5)))]) (jQl_lg_150 (d := 0) (e0 := e0) (e1 := e1) (e2 := e2) (e3 := e3) (e4 := e4) (e5 := e5) (by omega) (by omega) (by omega) (by omega) (by omega) (by omega)) (by rfl) (by rfl) (by rfl) (by rfl) ⟨rfl, rfl, rfl, rfl, rfl, rfl, rfl, rfl, rfl, rfl, rfl, rfl, rfl, rfl, rfl, rfl, rfl, rfl, rfl, rfl, rfl, rfl, rfl, trivial⟩ (by rfl) (by rfl) (by omega) (by show 23 ≤ 23; omega) (by omega) (by omega) rfl rfl ?_
                    refine jT_xiconst (k := 0) (pcN := 17) jIQ_213_16 rfl ?_
                    refine jT_iald (x := (jlz e0 e1 e2 e3 e4 e5).sign) (a := 23) (j := 0) (fs := []) (X := (jenc (jlz e0 e1 e2 e3 e4 e5))) (by rfl) (by rfl) (by rfl) (by rfl) (jenc_sg rfl) ?_
                    refine jT_eq (LN := [(0, (4, 0)), (1, (4, 1))]) (stN := [(0, (jlz e0 e1 e2 e3 e4 e5).sign)]) (hsN := [jzQ_371, (101, [], [e0, e1, e2, e3, e4, e5]), jgh, jgh, jgh, jgh, jgh, (130, [], [17, 18, 19, 20, 21, 22]), jgh, jgh, jgh, jgh, jgh, jgh, jgh, jgh, jgh, (100, [], (jenc (jlg 0))), (100, [], (jenc (jlg 1))), (100, [], (jenc (jlg 2))), (100, [], (jenc (jlg 3))), (100, [], (jenc (jlg 4))), (100, [], (jenc (jlg 5))), (100, [], (jenc (jlz e0 e1 e2 e3 e4 e5)))]) rfl rfl rfl ?_
                    refine jT_loc (LN := [(0, (4, 0))]) (by show List.Nodup [0]; decide) (by intro q hq; simp only [List.mem_cons, List.not_mem_nil, or_false] at hq; rcases hq with rfl <;> rfl) ?_
                    refine jT_drop 23 (hs0 := [jzQ_371, (101, [], [e0, e1, e2, e3, e4, e5]), jgh, jgh, jgh, jgh, jgh, (130, [], [17, 18, 19, 20, 21, 22]), jgh, jgh, jgh, jgh, jgh, jgh, jgh, jgh, jgh, (100, [], (jenc (jlg 0))), (100, [], (jenc (jlg 1))), (100, [], (jenc (jlg 2))), (100, [], (jenc (jlg 3))), (100, [], (jenc (jlg 4))), (100, [], (jenc (jlg 5)))]) (ex := [(100, [], (jenc (jlz e0 e1 e2 e3 e4 e5)))]) rfl rfl rfl (by decide) ?_
                    exact jT_ret rfl (by decide) (by show 23 ≤ 23; decide) (by omega) (by omega) ⟨rfl, rfl, rfl⟩
                  · rcases (show (0 ≤ e4) ∨ (e4 < 0) by omega) with g_9 | g_9
                    · rcases (show (0 ≤ e5 - 1) ∨ (e5 - 1 < 0) by omega) with g_10 | g_10
                      · refine jT_xaload_n (v := (4, 1)) (pcN := 1) jIQ_213_0 rfl rfl rfl ?_
                        refine jT_callA [1] (y := 200) (pcN := 4) (dC := 0) (bc1 := 0) (bc2 := 0) (c1 := 19) (c2 := 1064) (as := [(4, 1)]) (asC := [(4, 0)]) (LN := [(0, (4, 0)), (1, (4, 1))]) (stN := []) (hsC := [(101, [], [e0, e1, e2, e3, e4, e5])]) (ex := []) (v := (0, 0)) (st2 := [(0, 0)]) (hs2 := [jzQ_371, (101, [], [e0, e1, e2, e3, e4, e5]), jgh, jgh, jgh, jgh, jgh, (130, [], [17, 18, 19, 20, 21, 22]), jgh, jgh, jgh, jgh, jgh, jgh, jgh, jgh, jgh, (100, [], (jenc (jlg 0))), (100, [], (jenc (jlg 1))), (100, [], (jenc (jlg 2))), (100, [], (jenc (jlg 3))), (100, [], (jenc (jlg 4))), (100, [], (jenc (jlg 5)))]) (jQ_200_155 (d := 0) (by omega) (by omega) (by omega) (by omega) (by omega) (by omega) (by omega) (by omega) (by omega) (by omega) (by omega) (by omega) (by omega) (by omega) (by omega) (by omega) (by omega)) (by rfl) (by rfl) (by rfl) (by rfl) ⟨rfl, trivial⟩ (by rfl) (by rfl) (by omega) (by show 23 ≤ 23; omega) (by omega) (by omega) rfl rfl ?_
                        refine jT_xifT (pcN := 11) jIQ_213_4 rfl (by decide +kernel) rfl ?_
                        refine jT_xaload_n (v := (4, 0)) (pcN := 12) jIQ_213_11 rfl rfl rfl ?_
                        refine jT_xaload_n (v := (4, 1)) (pcN := 13) jIQ_213_12 rfl rfl rfl ?_
                        refine jT_callA [0, 1, 2, 3, 4, 5, 6, 7, 8, 9, 10, 11, 12, 13, 14, 15, 16, 17, 18, 19, 20, 21, 22] (y := 214) (pcN := 16) (dC := 2) (bc1 := 19) (bc2 := 1064) (c1 := 0) (c2 := 0) (as := [(4, 0), (4, 1)]) (asC := [(4, 0), (4, 1)]) (LN := [(0, (4, 0)), (1, (4, 1))]) (stN := []) (hsC := [jzQ_371, (101, [], [e0, e1, e2, e3, e4, e5]), jgh, jgh, jgh, jgh, jgh, (130, [], [17, 18, 19, 20, 21, 22]), jgh, jgh, jgh, jgh, jgh, jgh, jgh, jgh, jgh, (100, [], (jenc (jlg 0))), (100, [], (jenc (jlg 1))), (100, [], (jenc (jlg 2))), (100, [], (jenc (jlg 3))), (100, [], (jenc (jlg 4))), (100, [], (jenc (jlg 5)))]) (ex := [(100, [], (jenc (jlz e0 e1 e2 e3 e4 e5)))]) (v := (4, 23)) (st2 := [(4, 23)]) (hs2 := [jzQ_371, (101, [], [e0, e1, e2, e3, e4, e5]), jgh, jgh, jgh, jgh, jgh, (130, [], [17, 18, 19, 20, 21, 22]), jgh, jgh, jgh, jgh, jgh, jgh, jgh, jgh, jgh, (100, [], (jenc (jlg 0))), (100, [], (jenc (jlg 1))), (100, [], (jenc (jlg 2))), (100, [], (jenc (jlg 3))), (100, [], (jenc (jlg 4))), (100, [], (jenc (jlg 5))), (100, [], (jenc (jlz e0 e1 e2 e3 e4 e5)))]) (jQl_lg_150 (d := 0) (e0 := e0) (e1 := e1) (e2 := e2) (e3 := e3) (e4 := e4) (e5 := e5) (by omega) (by omega) (by omega) (by omega) (by omega) (by omega)) (by rfl) (by rfl) (by rfl) (by rfl) ⟨rfl, rfl, rfl, rfl, rfl, rfl, rfl, rfl, rfl, rfl, rfl, rfl, rfl, rfl, rfl, rfl, rfl, rfl, rfl, rfl, rfl, rfl, rfl, trivial⟩ (by rfl) (by rfl) (by omega) (by show 23 ≤ 23; omega) (by omega) (by omega) rfl rfl ?_
                        refine jT_xiconst (k := 0) (pcN := 17) jIQ_213_16 rfl ?_
                        refine jT_iald (x := (jlz e0 e1 e2 e3 e4 e5).sign) (a := 23) (j := 0) (fs := []) (X := (jenc (jlz e0 e1 e2 e3 e4 e5))) (by rfl) (by rfl) (by rfl) (by rfl) (jenc_sg rfl) ?_
                        refine jT_eq (LN := [(0, (4, 0)), (1, (4, 1))]) (stN := [(0, (jlz e0 e1 e2 e3 e4 e5).sign)]) (hsN := [jzQ_371, (101, [], [e0, e1, e2, e3, e4, e5]), jgh, jgh, jgh, jgh, jgh, (130, [], [17, 18, 19, 20, 21, 22]), jgh, jgh, jgh, jgh, jgh, jgh, jgh, jgh, jgh, (100, [], (jenc (jlg 0))), (100, [], (jenc (jlg 1))), (100, [], (jenc (jlg 2))), (100, [], (jenc (jlg 3))), (100, [], (jenc (jlg 4))), (100, [], (jenc (jlg 5))), (100, [], (jenc (jlz e0 e1 e2 e3 e4 e5)))]) rfl rfl rfl ?_
                        refine jT_loc (LN := [(0, (4, 0))]) (by show List.Nodup [0]; decide) (by intro q hq; simp only [List.mem_cons, List.not_mem_nil, or_false] at hq; rcases hq with rfl <;> rfl) ?_
                        refine jT_drop 23 (hs0 := [jzQ_371, (101, [], [e0, e1, e2, e3, e4, e5]), jgh, jgh, jgh, jgh, jgh, (130, [], [17, 18, 19, 20, 21, 22]), jgh, jgh, jgh, jgh, jgh, jgh, jgh, jgh, jgh, (100, [], (jenc (jlg 0))), (100, [], (jenc (jlg 1))), (100, [], (jenc (jlg 2))), (100, [], (jenc (jlg 3))), (100, [], (jenc (jlg 4))), (100, [], (jenc (jlg 5)))]) (ex := [(100, [], (jenc (jlz e0 e1 e2 e3 e4 e5)))]) rfl rfl rfl (by decide) ?_
                        exact jT_ret rfl (by decide) (by show 23 ≤ 23; decide) (by omega) (by omega) ⟨rfl, rfl, rfl⟩
                      · rcases (show (0 ≤ e5) ∨ (e5 < 0) by omega) with g_11 | g_11
                        · refine jT_xaload_n (v := (4, 1)) (pcN := 1) jIQ_213_0 rfl rfl rfl ?_
                          refine jT_callA [1] (y := 200) (pcN := 4) (dC := 0) (bc1 := 0) (bc2 := 0) (c1 := 19) (c2 := 1064) (as := [(4, 1)]) (asC := [(4, 0)]) (LN := [(0, (4, 0)), (1, (4, 1))]) (stN := []) (hsC := [(101, [], [e0, e1, e2, e3, e4, e5])]) (ex := []) (v := (0, 1)) (st2 := [(0, 1)]) (hs2 := [jzQ_371, (101, [], [e0, e1, e2, e3, e4, e5]), jgh, jgh, jgh, jgh, jgh, (130, [], [17, 18, 19, 20, 21, 22]), jgh, jgh, jgh, jgh, jgh, jgh, jgh, jgh, jgh, (100, [], (jenc (jlg 0))), (100, [], (jenc (jlg 1))), (100, [], (jenc (jlg 2))), (100, [], (jenc (jlg 3))), (100, [], (jenc (jlg 4))), (100, [], (jenc (jlg 5)))]) (jQ_200_156 (d := 0) (by omega) (by omega) (by omega) (by omega) (by omega) (by omega) (by omega) (by omega) (by omega) (by omega) (by omega) (by omega) (by omega) (by omega) (by omega) (by omega) (by omega) (by omega)) (by rfl) (by rfl) (by rfl) (by rfl) ⟨rfl, trivial⟩ (by rfl) (by rfl) (by omega) (by show 23 ≤ 23; omega) (by omega) (by omega) rfl rfl ?_
                          refine jT_xifF (t := 11) (pcN := 7) jIQ_213_4 rfl (by decide +kernel) rfl rfl ?_
                          refine jT_xiconst (k := 0) (pcN := 8) jIQ_213_7 rfl ?_
                          refine jT_xgoto (pcN := 18) jIQ_213_8 rfl ?_
                          refine jT_loc (LN := [(0, (4, 0))]) (by show List.Nodup [0]; decide) (by intro q hq; simp only [List.mem_cons, List.not_mem_nil, or_false] at hq; rcases hq with rfl <;> rfl) ?_
                          refine jT_eq (LN := [(0, (4, 0))]) (stN := [(0, (jlz e0 e1 e2 e3 e4 e5).sign)]) (hsN := [jzQ_371, (101, [], [e0, e1, e2, e3, e4, e5]), jgh, jgh, jgh, jgh, jgh, (130, [], [17, 18, 19, 20, 21, 22]), jgh, jgh, jgh, jgh, jgh, jgh, jgh, jgh, jgh, (100, [], (jenc (jlg 0))), (100, [], (jenc (jlg 1))), (100, [], (jenc (jlg 2))), (100, [], (jenc (jlg 3))), (100, [], (jenc (jlg 4))), (100, [], (jenc (jlg 5)))]) rfl (by rw [jlz_z (by omega) (by omega) (by omega) (by omega) (by omega) (by omega)]; rfl) rfl ?_
                          exact jT_ret rfl (by decide) (by show 23 ≤ 23; decide) (by omega) (by omega) ⟨rfl, rfl, rfl⟩
                        · refine jT_xaload_n (v := (4, 1)) (pcN := 1) jIQ_213_0 rfl rfl rfl ?_
                          refine jT_callA [1] (y := 200) (pcN := 4) (dC := 0) (bc1 := 0) (bc2 := 0) (c1 := 19) (c2 := 1064) (as := [(4, 1)]) (asC := [(4, 0)]) (LN := [(0, (4, 0)), (1, (4, 1))]) (stN := []) (hsC := [(101, [], [e0, e1, e2, e3, e4, e5])]) (ex := []) (v := (0, 0)) (st2 := [(0, 0)]) (hs2 := [jzQ_371, (101, [], [e0, e1, e2, e3, e4, e5]), jgh, jgh, jgh, jgh, jgh, (130, [], [17, 18, 19, 20, 21, 22]), jgh, jgh, jgh, jgh, jgh, jgh, jgh, jgh, jgh, (100, [], (jenc (jlg 0))), (100, [], (jenc (jlg 1))), (100, [], (jenc (jlg 2))), (100, [], (jenc (jlg 3))), (100, [], (jenc (jlg 4))), (100, [], (jenc (jlg 5)))]) (jQ_200_157 (d := 0) (by omega) (by omega) (by omega) (by omega) (by omega) (by omega) (by omega) (by omega) (by omega) (by omega) (by omega) (by omega) (by omega) (by omega) (by omega) (by omega) (by omega) (by omega)) (by rfl) (by rfl) (by rfl) (by rfl) ⟨rfl, trivial⟩ (by rfl) (by rfl) (by omega) (by show 23 ≤ 23; omega) (by omega) (by omega) rfl rfl ?_
                          refine jT_xifT (pcN := 11) jIQ_213_4 rfl (by decide +kernel) rfl ?_
                          refine jT_xaload_n (v := (4, 0)) (pcN := 12) jIQ_213_11 rfl rfl rfl ?_
                          refine jT_xaload_n (v := (4, 1)) (pcN := 13) jIQ_213_12 rfl rfl rfl ?_
                          refine jT_callA [0, 1, 2, 3, 4, 5, 6, 7, 8, 9, 10, 11, 12, 13, 14, 15, 16, 17, 18, 19, 20, 21, 22] (y := 214) (pcN := 16) (dC := 2) (bc1 := 19) (bc2 := 1064) (c1 := 0) (c2 := 0) (as := [(4, 0), (4, 1)]) (asC := [(4, 0), (4, 1)]) (LN := [(0, (4, 0)), (1, (4, 1))]) (stN := []) (hsC := [jzQ_371, (101, [], [e0, e1, e2, e3, e4, e5]), jgh, jgh, jgh, jgh, jgh, (130, [], [17, 18, 19, 20, 21, 22]), jgh, jgh, jgh, jgh, jgh, jgh, jgh, jgh, jgh, (100, [], (jenc (jlg 0))), (100, [], (jenc (jlg 1))), (100, [], (jenc (jlg 2))), (100, [], (jenc (jlg 3))), (100, [], (jenc (jlg 4))), (100, [], (jenc (jlg 5)))]) (ex := [(100, [], (jenc (jlz e0 e1 e2 e3 e4 e5)))]) (v := (4, 23)) (st2 := [(4, 23)]) (hs2 := [jzQ_371, (101, [], [e0, e1, e2, e3, e4, e5]), jgh, jgh, jgh, jgh, jgh, (130, [], [17, 18, 19, 20, 21, 22]), jgh, jgh, jgh, jgh, jgh, jgh, jgh, jgh, jgh, (100, [], (jenc (jlg 0))), (100, [], (jenc (jlg 1))), (100, [], (jenc (jlg 2))), (100, [], (jenc (jlg 3))), (100, [], (jenc (jlg 4))), (100, [], (jenc (jlg 5))), (100, [], (jenc (jlz e0 e1 e2 e3 e4 e5)))]) (jQl_lg_150 (d := 0) (e0 := e0) (e1 := e1) (e2 := e2) (e3 := e3) (e4 := e4) (e5 := e5) (by omega) (by omega) (by omega) (by omega) (by omega) (by omega)) (by rfl) (by rfl) (by rfl) (by rfl) ⟨rfl, rfl, rfl, rfl, rfl, rfl, rfl, rfl, rfl, rfl, rfl, rfl, rfl, rfl, rfl, rfl, rfl, rfl, rfl, rfl, rfl, rfl, rfl, trivial⟩ (by rfl) (by rfl) (by omega) (by show 23 ≤ 23; omega) (by omega) (by omega) rfl rfl ?_
                          refine jT_xiconst (k := 0) (pcN := 17) jIQ_213_16 rfl ?_
                          refine jT_iald (x := (jlz e0 e1 e2 e3 e4 e5).sign) (a := 23) (j := 0) (fs := []) (X := (jenc (jlz e0 e1 e2 e3 e4 e5))) (by rfl) (by rfl) (by rfl) (by rfl) (jenc_sg rfl) ?_
                          refine jT_eq (LN := [(0, (4, 0)), (1, (4, 1))]) (stN := [(0, (jlz e0 e1 e2 e3 e4 e5).sign)]) (hsN := [jzQ_371, (101, [], [e0, e1, e2, e3, e4, e5]), jgh, jgh, jgh, jgh, jgh, (130, [], [17, 18, 19, 20, 21, 22]), jgh, jgh, jgh, jgh, jgh, jgh, jgh, jgh, jgh, (100, [], (jenc (jlg 0))), (100, [], (jenc (jlg 1))), (100, [], (jenc (jlg 2))), (100, [], (jenc (jlg 3))), (100, [], (jenc (jlg 4))), (100, [], (jenc (jlg 5))), (100, [], (jenc (jlz e0 e1 e2 e3 e4 e5)))]) rfl rfl rfl ?_
                          refine jT_loc (LN := [(0, (4, 0))]) (by show List.Nodup [0]; decide) (by intro q hq; simp only [List.mem_cons, List.not_mem_nil, or_false] at hq; rcases hq with rfl <;> rfl) ?_
                          refine jT_drop 23 (hs0 := [jzQ_371, (101, [], [e0, e1, e2, e3, e4, e5]), jgh, jgh, jgh, jgh, jgh, (130, [], [17, 18, 19, 20, 21, 22]), jgh, jgh, jgh, jgh, jgh, jgh, jgh, jgh, jgh, (100, [], (jenc (jlg 0))), (100, [], (jenc (jlg 1))), (100, [], (jenc (jlg 2))), (100, [], (jenc (jlg 3))), (100, [], (jenc (jlg 4))), (100, [], (jenc (jlg 5)))]) (ex := [(100, [], (jenc (jlz e0 e1 e2 e3 e4 e5)))]) rfl rfl rfl (by decide) ?_
                          exact jT_ret rfl (by decide) (by show 23 ≤ 23; decide) (by omega) (by omega) ⟨rfl, rfl, rfl⟩
                    · refine jT_xaload_n (v := (4, 1)) (pcN := 1) jIQ_213_0 rfl rfl rfl ?_
                      refine jT_callA [1] (y := 200) (pcN := 4) (dC := 0) (bc1 := 0) (bc2 := 0) (c1 := 19) (c2 := 1064) (as := [(4, 1)]) (asC := [(4, 0)]) (LN := [(0, (4, 0)), (1, (4, 1))]) (stN := []) (hsC := [(101, [], [e0, e1, e2, e3, e4, e5])]) (ex := []) (v := (0, 0)) (st2 := [(0, 0)]) (hs2 := [jzQ_371, (101, [], [e0, e1, e2, e3, e4, e5]), jgh, jgh, jgh, jgh, jgh, (130, [], [17, 18, 19, 20, 21, 22]), jgh, jgh, jgh, jgh, jgh, jgh, jgh, jgh, jgh, (100, [], (jenc (jlg 0))), (100, [], (jenc (jlg 1))), (100, [], (jenc (jlg 2))), (100, [], (jenc (jlg 3))), (100, [], (jenc (jlg 4))), (100, [], (jenc (jlg 5)))]) (jQ_200_158 (d := 0) (by omega) (by omega) (by omega) (by omega) (by omega) (by omega) (by omega) (by omega) (by omega) (by omega) (by omega) (by omega) (by omega) (by omega) (by omega) (by omega)) (by rfl) (by rfl) (by rfl) (by rfl) ⟨rfl, trivial⟩ (by rfl) (by rfl) (by omega) (by show 23 ≤ 23; omega) (by omega) (by omega) rfl rfl ?_
                      refine jT_xifT (pcN := 11) jIQ_213_4 rfl (by decide +kernel) rfl ?_
                      refine jT_xaload_n (v := (4, 0)) (pcN := 12) jIQ_213_11 rfl rfl rfl ?_
                      refine jT_xaload_n (v := (4, 1)) (pcN := 13) jIQ_213_12 rfl rfl rfl ?_
                      refine jT_callA [0, 1, 2, 3, 4, 5, 6, 7, 8, 9, 10, 11, 12, 13, 14, 15, 16, 17, 18, 19, 20, 21, 22] (y := 214) (pcN := 16) (dC := 2) (bc1 := 19) (bc2 := 1064) (c1 := 0) (c2 := 0) (as := [(4, 0), (4, 1)]) (asC := [(4, 0), (4, 1)]) (LN := [(0, (4, 0)), (1, (4, 1))]) (stN := []) (hsC := [jzQ_371, (101, [], [e0, e1, e2, e3, e4, e5]), jgh, jgh, jgh, jgh, jgh, (130, [], [17, 18, 19, 20, 21, 22]), jgh, jgh, jgh, jgh, jgh, jgh, jgh, jgh, jgh, (100, [], (jenc (jlg 0))), (100, [], (jenc (jlg 1))), (100, [], (jenc (jlg 2))), (100, [], (jenc (jlg 3))), (100, [], (jenc (jlg 4))), (100, [], (jenc (jlg 5)))]) (ex := [(100, [], (jenc (jlz e0 e1 e2 e3 e4 e5)))]) (v := (4, 23)) (st2 := [(4, 23)]) (hs2 := [jzQ_371, (101, [], [e0, e1, e2, e3, e4, e5]), jgh, jgh, jgh, jgh, jgh, (130, [], [17, 18, 19, 20, 21, 22]), jgh, jgh, jgh, jgh, jgh, jgh, jgh, jgh, jgh, (100, [], (jenc (jlg 0))), (100, [], (jenc (jlg 1))), (100, [], (jenc (jlg 2))), (100, [], (jenc (jlg 3))), (100, [], (jenc (jlg 4))), (100, [], (jenc (jlg 5))), (100, [], (jenc (jlz e0 e1 e2 e3 e4 e5)))]) (jQl_lg_150 (d := 0) (e0 := e0) (e1 := e1) (e2 := e2) (e3 := e3) (e4 := e4) (e5 := e5) (by omega) (by omega) (by omega) (by omega) (by omega) (by omega)) (by rfl) (by rfl) (by rfl) (by rfl) ⟨rfl, rfl, rfl, rfl, rfl, rfl, rfl, rfl, rfl, rfl, rfl, rfl, rfl, rfl, rfl, rfl, rfl, rfl, rfl, rfl, rfl, rfl, rfl, trivial⟩ (by rfl) (by rfl) (by omega) (by show 23 ≤ 23; omega) (by omega) (by omega) rfl rfl ?_
                      refine jT_xiconst (k := 0) (pcN := 17) jIQ_213_16 rfl ?_
                      refine jT_iald (x := (jlz e0 e1 e2 e3 e4 e5).sign) (a := 23) (j := 0) (fs := []) (X := (jenc (jlz e0 e1 e2 e3 e4 e5))) (by rfl) (by rfl) (by rfl) (by rfl) (jenc_sg rfl) ?_
                      refine jT_eq (LN := [(0, (4, 0)), (1, (4, 1))]) (stN := [(0, (jlz e0 e1 e2 e3 e4 e5).sign)]) (hsN := [jzQ_371, (101, [], [e0, e1, e2, e3, e4, e5]), jgh, jgh, jgh, jgh, jgh, (130, [], [17, 18, 19, 20, 21, 22]), jgh, jgh, jgh, jgh, jgh, jgh, jgh, jgh, jgh, (100, [], (jenc (jlg 0))), (100, [], (jenc (jlg 1))), (100, [], (jenc (jlg 2))), (100, [], (jenc (jlg 3))), (100, [], (jenc (jlg 4))), (100, [], (jenc (jlg 5))), (100, [], (jenc (jlz e0 e1 e2 e3 e4 e5)))]) rfl rfl rfl ?_
                      refine jT_loc (LN := [(0, (4, 0))]) (by show List.Nodup [0]; decide) (by intro q hq; simp only [List.mem_cons, List.not_mem_nil, or_false] at hq; rcases hq with rfl <;> rfl) ?_
                      refine jT_drop 23 (hs0 := [jzQ_371, (101, [], [e0, e1, e2, e3, e4, e5]), jgh, jgh, jgh, jgh, jgh, (130, [], [17, 18, 19, 20, 21, 22]), jgh, jgh, jgh, jgh, jgh, jgh, jgh, jgh, jgh, (100, [], (jenc (jlg 0))), (100, [], (jenc (jlg 1))), (100, [], (jenc (jlg 2))), (100, [], (jenc (jlg 3))), (100, [], (jenc (jlg 4))), (100, [], (jenc (jlg 5)))]) (ex := [(100, [], (jenc (jlz e0 e1 e2 e3 e4 e5)))]) rfl rfl rfl (by decide) ?_
                      exact jT_ret rfl (by decide) (by show 23 ≤ 23; decide) (by omega) (by omega) ⟨rfl, rfl, rfl⟩
                · refine jT_xaload_n (v := (4, 1)) (pcN := 1) jIQ_213_0 rfl rfl rfl ?_
                  refine jT_callA [1] (y := 200) (pcN := 4) (dC := 0) (bc1 := 0) (bc2 := 0) (c1 := 19) (c2 := 1064) (as := [(4, 1)]) (asC := [(4, 0)]) (LN := [(0, (4, 0)), (1, (4, 1))]) (stN := []) (hsC := [(101, [], [e0, e1, e2, e3, e4, e5])]) (ex := []) (v := (0, 0)) (st2 := [(0, 0)]) (hs2 := [jzQ_371, (101, [], [e0, e1, e2, e3, e4, e5]), jgh, jgh, jgh, jgh, jgh, (130, [], [17, 18, 19, 20, 21, 22]), jgh, jgh, jgh, jgh, jgh, jgh, jgh, jgh, jgh, (100, [], (jenc (jlg 0))), (100, [], (jenc (jlg 1))), (100, [], (jenc (jlg 2))), (100, [], (jenc (jlg 3))), (100, [], (jenc (jlg 4))), (100, [], (jenc (jlg 5)))]) (jQ_200_159 (d := 0) (by omega) (by omega) (by omega) (by omega) (by omega) (by omega) (by omega) (by omega) (by omega) (by omega) (by omega) (by omega) (by omega) (by omega)) (by rfl) (by rfl) (by rfl) (by rfl) ⟨rfl, trivial⟩ (by rfl) (by rfl) (by omega) (by show 23 ≤ 23; omega) (by omega) (by omega) rfl rfl ?_
                  refine jT_xifT (pcN := 11) jIQ_213_4 rfl (by decide +kernel) rfl ?_
                  refine jT_xaload_n (v := (4, 0)) (pcN := 12) jIQ_213_11 rfl rfl rfl ?_
                  refine jT_xaload_n (v := (4, 1)) (pcN := 13) jIQ_213_12 rfl rfl rfl ?_
                  refine jT_callA [0, 1, 2, 3, 4, 5, 6, 7, 8, 9, 10, 11, 12, 13, 14, 15, 16, 17, 18, 19, 20, 21, 22] (y := 214) (pcN := 16) (dC := 2) (bc1 := 19) (bc2 := 1064) (c1 := 0) (c2 := 0) (as := [(4, 0), (4, 1)]) (asC := [(4, 0), (4, 1)]) (LN := [(0, (4, 0)), (1, (4, 1))]) (stN := []) (hsC := [jzQ_371, (101, [], [e0, e1, e2, e3, e4, e5]), jgh, jgh, jgh, jgh, jgh, (130, [], [17, 18, 19, 20, 21, 22]), jgh, jgh, jgh, jgh, jgh, jgh, jgh, jgh, jgh, (100, [], (jenc (jlg 0))), (100, [], (jenc (jlg 1))), (100, [], (jenc (jlg 2))), (100, [], (jenc (jlg 3))), (100, [], (jenc (jlg 4))), (100, [], (jenc (jlg 5)))]) (ex := [(100, [], (jenc (jlz e0 e1 e2 e3 e4 e5)))]) (v := (4, 23)) (st2 := [(4, 23)]) (hs2 := [jzQ_371, (101, [], [e0, e1, e2, e3, e4, e5]), jgh, jgh, jgh, jgh, jgh, (130, [], [17, 18, 19, 20, 21, 22]), jgh, jgh, jgh, jgh, jgh, jgh, jgh, jgh, jgh, (100, [], (jenc (jlg 0))), (100, [], (jenc (jlg 1))), (100, [], (jenc (jlg 2))), (100, [], (jenc (jlg 3))), (100, [], (jenc (jlg 4))), (100, [], (jenc (jlg 5))), (100, [], (jenc (jlz e0 e1 e2 e3 e4 e5)))]) (jQl_lg_150 (d := 0) (e0 := e0) (e1 := e1) (e2 := e2) (e3 := e3) (e4 := e4) (e5 := e5) (by omega) (by omega) (by omega) (by omega) (by omega) (by omega)) (by rfl) (by rfl) (by rfl) (by rfl) ⟨rfl, rfl, rfl, rfl, rfl, rfl, rfl, rfl, rfl, rfl, rfl, rfl, rfl, rfl, rfl, rfl, rfl, rfl, rfl, rfl, rfl, rfl, rfl, trivial⟩ (by rfl) (by rfl) (by omega) (by show 23 ≤ 23; omega) (by omega) (by omega) rfl rfl ?_
                  refine jT_xiconst (k := 0) (pcN := 17) jIQ_213_16 rfl ?_
                  refine jT_iald (x := (jlz e0 e1 e2 e3 e4 e5).sign) (a := 23) (j := 0) (fs := []) (X := (jenc (jlz e0 e1 e2 e3 e4 e5))) (by rfl) (by rfl) (by rfl) (by rfl) (jenc_sg rfl) ?_
                  refine jT_eq (LN := [(0, (4, 0)), (1, (4, 1))]) (stN := [(0, (jlz e0 e1 e2 e3 e4 e5).sign)]) (hsN := [jzQ_371, (101, [], [e0, e1, e2, e3, e4, e5]), jgh, jgh, jgh, jgh, jgh, (130, [], [17, 18, 19, 20, 21, 22]), jgh, jgh, jgh, jgh, jgh, jgh, jgh, jgh, jgh, (100, [], (jenc (jlg 0))), (100, [], (jenc (jlg 1))), (100, [], (jenc (jlg 2))), (100, [], (jenc (jlg 3))), (100, [], (jenc (jlg 4))), (100, [], (jenc (jlg 5))), (100, [], (jenc (jlz e0 e1 e2 e3 e4 e5)))]) rfl rfl rfl ?_
                  refine jT_loc (LN := [(0, (4, 0))]) (by show List.Nodup [0]; decide) (by intro q hq; simp only [List.mem_cons, List.not_mem_nil, or_false] at hq; rcases hq with rfl <;> rfl) ?_
                  refine jT_drop 23 (hs0 := [jzQ_371, (101, [], [e0, e1, e2, e3, e4, e5]), jgh, jgh, jgh, jgh, jgh, (130, [], [17, 18, 19, 20, 21, 22]), jgh, jgh, jgh, jgh, jgh, jgh, jgh, jgh, jgh, (100, [], (jenc (jlg 0))), (100, [], (jenc (jlg 1))), (100, [], (jenc (jlg 2))), (100, [], (jenc (jlg 3))), (100, [], (jenc (jlg 4))), (100, [], (jenc (jlg 5)))]) (ex := [(100, [], (jenc (jlz e0 e1 e2 e3 e4 e5)))]) rfl rfl rfl (by decide) ?_
                  exact jT_ret rfl (by decide) (by show 23 ≤ 23; decide) (by omega) (by omega) ⟨rfl, rfl, rfl⟩
            · refine jT_xaload_n (v := (4, 1)) (pcN := 1) jIQ_213_0 rfl rfl rfl ?_
              refine jT_callA [1] (y := 200) (pcN := 4) (dC := 0) (bc1 := 0) (bc2 := 0) (c1 := 19) (c2 := 1064) (as := [(4, 1)]) (asC := [(4, 0)]) (LN := [(0, (4, 0)), (1, (4, 1))]) (stN := []) (hsC := [(101, [], [e0, e1, e2, e3, e4, e5])]) (ex := []) (v := (0, 0)) (st2 := [(0, 0)]) (hs2 := [jzQ_371, (101, [], [e0, e1, e2, e3, e4, e5]), jgh, jgh, jgh, jgh, jgh, (130, [], [17, 18, 19, 20, 21, 22]), jgh, jgh, jgh, jgh, jgh, jgh, jgh, jgh, jgh, (100, [], (jenc (jlg 0))), (100, [], (jenc (jlg 1))), (100, [], (jenc (jlg 2))), (100, [], (jenc (jlg 3))), (100, [], (jenc (jlg 4))), (100, [], (jenc (jlg 5)))]) (jQ_200_160 (d := 0) (by omega) (by omega) (by omega) (by omega) (by omega) (by omega) (by omega) (by omega) (by omega) (by omega) (by omega) (by omega)) (by rfl) (by rfl) (by rfl) (by rfl) ⟨rfl, trivial⟩ (by rfl) (by rfl) (by omega) (by show 23 ≤ 23; omega) (by omega) (by omega) rfl rfl ?_
              refine jT_xifT (pcN := 11) jIQ_213_4 rfl (by decide +kernel) rfl ?_
              refine jT_xaload_n (v := (4, 0)) (pcN := 12) jIQ_213_11 rfl rfl rfl ?_
              refine jT_xaload_n (v := (4, 1)) (pcN := 13) jIQ_213_12 rfl rfl rfl ?_
              refine jT_callA [0, 1, 2, 3, 4, 5, 6, 7, 8, 9, 10, 11, 12, 13, 14, 15, 16, 17, 18, 19, 20, 21, 22] (y := 214) (pcN := 16) (dC := 2) (bc1 := 19) (bc2 := 1064) (c1 := 0) (c2 := 0) (as := [(4, 0), (4, 1)]) (asC := [(4, 0), (4, 1)]) (LN := [(0, (4, 0)), (1, (4, 1))]) (stN := []) (hsC := [jzQ_371, (101, [], [e0, e1, e2, e3, e4, e5]), jgh, jgh, jgh, jgh, jgh, (130, [], [17, 18, 19, 20, 21, 22]), jgh, jgh, jgh, jgh, jgh, jgh, jgh, jgh, jgh, (100, [], (jenc (jlg 0))), (100, [], (jenc (jlg 1))), (100, [], (jenc (jlg 2))), (100, [], (jenc (jlg 3))), (100, [], (jenc (jlg 4))), (100, [], (jenc (jlg 5)))]) (ex := [(100, [], (jenc (jlz e0 e1 e2 e3 e4 e5)))]) (v := (4, 23)) (st2 := [(4, 23)]) (hs2 := [jzQ_371, (101, [], [e0, e1, e2, e3, e4, e5]), jgh, jgh, jgh, jgh, jgh, (130, [], [17, 18, 19, 20, 21, 22]), jgh, jgh, jgh, jgh, jgh, jgh, jgh, jgh, jgh, (100, [], (jenc (jlg 0))), (100, [], (jenc (jlg 1))), (100, [], (jenc (jlg 2))), (100, [], (jenc (jlg 3))), (100, [], (jenc (jlg 4))), (100, [], (jenc (jlg 5))), (100, [], (jenc (jlz e0 e1 e2 e3 e4 e5)))]) (jQl_lg_150 (d := 0) (e0 := e0) (e1 := e1) (e2 := e2) (e3 := e3) (e4 := e4) (e5 := e5) (by omega) (by omega) (by omega) (by omega) (by omega) (by omega)) (by rfl) (by rfl) (by rfl) (by rfl) ⟨rfl, rfl, rfl, rfl, rfl, rfl, rfl, rfl, rfl, rfl, rfl, rfl, rfl, rfl, rfl, rfl, rfl, rfl, rfl, rfl, rfl, rfl, rfl, trivial⟩ (by rfl) (by rfl) (by omega) (by show 23 ≤ 23; omega) (by omega) (by omega) rfl rfl ?_
              refine jT_xiconst (k := 0) (pcN := 17) jIQ_213_16 rfl ?_
              refine jT_iald (x := (jlz e0 e1 e2 e3 e4 e5).sign) (a := 23) (j := 0) (fs := []) (X := (jenc (jlz e0 e1 e2 e3 e4 e5))) (by rfl) (by rfl) (by rfl) (by rfl) (jenc_sg rfl) ?_
              refine jT_eq (LN := [(0, (4, 0)), (1, (4, 1))]) (stN := [(0, (jlz e0 e1 e2 e3 e4 e5).sign)]) (hsN := [jzQ_371, (101, [], [e0, e1, e2, e3, e4, e5]), jgh, jgh, jgh, jgh, jgh, (130, [], [17, 18, 19, 20, 21, 22]), jgh, jgh, jgh, jgh, jgh, jgh, jgh, jgh, jgh, (100, [], (jenc (jlg 0))), (100, [], (jenc (jlg 1))), (100, [], (jenc (jlg 2))), (100, [], (jenc (jlg 3))), (100, [], (jenc (jlg 4))), (100, [], (jenc (jlg 5))), (100, [], (jenc (jlz e0 e1 e2 e3 e4 e5)))]) rfl rfl rfl ?_
              refine jT_loc (LN := [(0, (4, 0))]) (by show List.Nodup [0]; decide) (by intro q hq; simp only [List.mem_cons, List.not_mem_nil, or_false] at hq; rcases hq with rfl <;> rfl) ?_
              refine jT_drop 23 (hs0 := [jzQ_371, (101, [], [e0, e1, e2, e3, e4, e5]), jgh, jgh, jgh, jgh, jgh, (130, [], [17, 18, 19, 20, 21, 22]), jgh, jgh, jgh, jgh, jgh, jgh, jgh, jgh, jgh, (100, [], (jenc (jlg 0))), (100, [], (jenc (jlg 1))), (100, [], (jenc (jlg 2))), (100, [], (jenc (jlg 3))), (100, [], (jenc (jlg 4))), (100, [], (jenc (jlg 5)))]) (ex := [(100, [], (jenc (jlz e0 e1 e2 e3 e4 e5)))]) rfl rfl rfl (by decide) ?_
              exact jT_ret rfl (by decide) (by show 23 ≤ 23; decide) (by omega) (by omega) ⟨rfl, rfl, rfl⟩
        · refine jT_xaload_n (v := (4, 1)) (pcN := 1) jIQ_213_0 rfl rfl rfl ?_
          refine jT_callA [1] (y := 200) (pcN := 4) (dC := 0) (bc1 := 0) (bc2 := 0) (c1 := 19) (c2 := 1064) (as := [(4, 1)]) (asC := [(4, 0)]) (LN := [(0, (4, 0)), (1, (4, 1))]) (stN := []) (hsC := [(101, [], [e0, e1, e2, e3, e4, e5])]) (ex := []) (v := (0, 0)) (st2 := [(0, 0)]) (hs2 := [jzQ_371, (101, [], [e0, e1, e2, e3, e4, e5]), jgh, jgh, jgh, jgh, jgh, (130, [], [17, 18, 19, 20, 21, 22]), jgh, jgh, jgh, jgh, jgh, jgh, jgh, jgh, jgh, (100, [], (jenc (jlg 0))), (100, [], (jenc (jlg 1))), (100, [], (jenc (jlg 2))), (100, [], (jenc (jlg 3))), (100, [], (jenc (jlg 4))), (100, [], (jenc (jlg 5)))]) (jQ_200_161 (d := 0) (by omega) (by omega) (by omega) (by omega) (by omega) (by omega) (by omega) (by omega) (by omega) (by omega)) (by rfl) (by rfl) (by rfl) (by rfl) ⟨rfl, trivial⟩ (by rfl) (by rfl) (by omega) (by show 23 ≤ 23; omega) (by omega) (by omega) rfl rfl ?_
          refine jT_xifT (pcN := 11) jIQ_213_4 rfl (by decide +kernel) rfl ?_
          refine jT_xaload_n (v := (4, 0)) (pcN := 12) jIQ_213_11 rfl rfl rfl ?_
          refine jT_xaload_n (v := (4, 1)) (pcN := 13) jIQ_213_12 rfl rfl rfl ?_
          refine jT_callA [0, 1, 2, 3, 4, 5, 6, 7, 8, 9, 10, 11, 12, 13, 14, 15, 16, 17, 18, 19, 20, 21, 22] (y := 214) (pcN := 16) (dC := 2) (bc1 := 19) (bc2 := 1064) (c1 := 0) (c2 := 0) (as := [(4, 0), (4, 1)]) (asC := [(4, 0), (4, 1)]) (LN := [(0, (4, 0)), (1, (4, 1))]) (stN := []) (hsC := [jzQ_371, (101, [], [e0, e1, e2, e3, e4, e5]), jgh, jgh, jgh, jgh, jgh, (130, [], [17, 18, 19, 20, 21, 22]), jgh, jgh, jgh, jgh, jgh, jgh, jgh, jgh, jgh, (100, [], (jenc (jlg 0))), (100, [], (jenc (jlg 1))), (100, [], (jenc (jlg 2))), (100, [], (jenc (jlg 3))), (100, [], (jenc (jlg 4))), (100, [], (jenc (jlg 5)))]) (ex := [(100, [], (jenc (jlz e0 e1 e2 e3 e4 e5)))]) (v := (4, 23)) (st2 := [(4, 23)]) (hs2 := [jzQ_371, (101, [], [e0, e1, e2, e3, e4, e5]), jgh, jgh, jgh, jgh, jgh, (130, [], [17, 18, 19, 20, 21, 22]), jgh, jgh, jgh, jgh, jgh, jgh, jgh, jgh, jgh, (100, [], (jenc (jlg 0))), (100, [], (jenc (jlg 1))), (100, [], (jenc (jlg 2))), (100, [], (jenc (jlg 3))), (100, [], (jenc (jlg 4))), (100, [], (jenc (jlg 5))), (100, [], (jenc (jlz e0 e1 e2 e3 e4 e5)))]) (jQl_lg_150 (d := 0) (e0 := e0) (e1 := e1) (e2 := e2) (e3 := e3) (e4 := e4) (e5 := e5) (by omega) (by omega) (by omega) (by omega) (by omega) (by omega)) (by rfl) (by rfl) (by rfl) (by rfl) ⟨rfl, rfl, rfl, rfl, rfl, rfl, rfl, rfl, rfl, rfl, rfl, rfl, rfl, rfl, rfl, rfl, rfl, rfl, rfl, rfl, rfl, rfl, rfl, trivial⟩ (by rfl) (by rfl) (by omega) (by show 23 ≤ 23; omega) (by omega) (by omega) rfl rfl ?_
          refine jT_xiconst (k := 0) (pcN := 17) jIQ_213_16 rfl ?_
          refine jT_iald (x := (jlz e0 e1 e2 e3 e4 e5).sign) (a := 23) (j := 0) (fs := []) (X := (jenc (jlz e0 e1 e2 e3 e4 e5))) (by rfl) (by rfl) (by rfl) (by rfl) (jenc_sg rfl) ?_
          refine jT_eq (LN := [(0, (4, 0)), (1, (4, 1))]) (stN := [(0, (jlz e0 e1 e2 e3 e4 e5).sign)]) (hsN := [jzQ_371, (101, [], [e0, e1, e2, e3, e4, e5]), jgh, jgh, jgh, jgh, jgh, (130, [], [17, 18, 19, 20, 21, 22]), jgh, jgh, jgh, jgh, jgh, jgh, jgh, jgh, jgh, (100, [], (jenc (jlg 0))), (100, [], (jenc (jlg 1))), (100, [], (jenc (jlg 2))), (100, [], (jenc (jlg 3))), (100, [], (jenc (jlg 4))), (100, [], (jenc (jlg 5))), (100, [], (jenc (jlz e0 e1 e2 e3 e4 e5)))]) rfl rfl rfl ?_
          refine jT_loc (LN := [(0, (4, 0))]) (by show List.Nodup [0]; decide) (by intro q hq; simp only [List.mem_cons, List.not_mem_nil, or_false] at hq; rcases hq with rfl <;> rfl) ?_
          refine jT_drop 23 (hs0 := [jzQ_371, (101, [], [e0, e1, e2, e3, e4, e5]), jgh, jgh, jgh, jgh, jgh, (130, [], [17, 18, 19, 20, 21, 22]), jgh, jgh, jgh, jgh, jgh, jgh, jgh, jgh, jgh, (100, [], (jenc (jlg 0))), (100, [], (jenc (jlg 1))), (100, [], (jenc (jlg 2))), (100, [], (jenc (jlg 3))), (100, [], (jenc (jlg 4))), (100, [], (jenc (jlg 5)))]) (ex := [(100, [], (jenc (jlz e0 e1 e2 e3 e4 e5)))]) rfl rfl rfl (by decide) ?_
          exact jT_ret rfl (by decide) (by show 23 ≤ 23; decide) (by omega) (by omega) ⟨rfl, rfl, rfl⟩
    · refine jT_xaload_n (v := (4, 1)) (pcN := 1) jIQ_213_0 rfl rfl rfl ?_
      refine jT_callA [1] (y := 200) (pcN := 4) (dC := 0) (bc1 := 0) (bc2 := 0) (c1 := 19) (c2 := 1064) (as := [(4, 1)]) (asC := [(4, 0)]) (LN := [(0, (4, 0)), (1, (4, 1))]) (stN := []) (hsC := [(101, [], [e0, e1, e2, e3, e4, e5])]) (ex := []) (v := (0, 0)) (st2 := [(0, 0)]) (hs2 := [jzQ_371, (101, [], [e0, e1, e2, e3, e4, e5]), jgh, jgh, jgh, jgh, jgh, (130, [], [17, 18, 19, 20, 21, 22]), jgh, jgh, jgh, jgh, jgh, jgh, jgh, jgh, jgh, (100, [], (jenc (jlg 0))), (100, [], (jenc (jlg 1))), (100, [], (jenc (jlg 2))), (100, [], (jenc (jlg 3))), (100, [], (jenc (jlg 4))), (100, [], (jenc (jlg 5)))]) (jQ_200_162 (d := 0) (by omega) (by omega) (by omega) (by omega) (by omega) (by omega) (by omega) (by omega)) (by rfl) (by rfl) (by rfl) (by rfl) ⟨rfl, trivial⟩ (by rfl) (by rfl) (by omega) (by show 23 ≤ 23; omega) (by omega) (by omega) rfl rfl ?_
      refine jT_xifT (pcN := 11) jIQ_213_4 rfl (by decide +kernel) rfl ?_
      refine jT_xaload_n (v := (4, 0)) (pcN := 12) jIQ_213_11 rfl rfl rfl ?_
      refine jT_xaload_n (v := (4, 1)) (pcN := 13) jIQ_213_12 rfl rfl rfl ?_
      refine jT_callA [0, 1, 2, 3, 4, 5, 6, 7, 8, 9, 10, 11, 12, 13, 14, 15, 16, 17, 18, 19, 20, 21, 22] (y := 214) (pcN := 16) (dC := 2) (bc1 := 19) (bc2 := 1064) (c1 := 0) (c2 := 0) (as := [(4, 0), (4, 1)]) (asC := [(4, 0), (4, 1)]) (LN := [(0, (4, 0)), (1, (4, 1))]) (stN := []) (hsC := [jzQ_371, (101, [], [e0, e1, e2, e3, e4, e5]), jgh, jgh, jgh, jgh, jgh, (130, [], [17, 18, 19, 20, 21, 22]), jgh, jgh, jgh, jgh, jgh, jgh, jgh, jgh, jgh, (100, [], (jenc (jlg 0))), (100, [], (jenc (jlg 1))), (100, [], (jenc (jlg 2))), (100, [], (jenc (jlg 3))), (100, [], (jenc (jlg 4))), (100, [], (jenc (jlg 5)))]) (ex := [(100, [], (jenc (jlz e0 e1 e2 e3 e4 e5)))]) (v := (4, 23)) (st2 := [(4, 23)]) (hs2 := [jzQ_371, (101, [], [e0, e1, e2, e3, e4, e5]), jgh, jgh, jgh, jgh, jgh, (130, [], [17, 18, 19, 20, 21, 22]), jgh, jgh, jgh, jgh, jgh, jgh, jgh, jgh, jgh, (100, [], (jenc (jlg 0))), (100, [], (jenc (jlg 1))), (100, [], (jenc (jlg 2))), (100, [], (jenc (jlg 3))), (100, [], (jenc (jlg 4))), (100, [], (jenc (jlg 5))), (100, [], (jenc (jlz e0 e1 e2 e3 e4 e5)))]) (jQl_lg_150 (d := 0) (e0 := e0) (e1 := e1) (e2 := e2) (e3 := e3) (e4 := e4) (e5 := e5) (by omega) (by omega) (by omega) (by omega) (by omega) (by omega)) (by rfl) (by rfl) (by rfl) (by rfl) ⟨rfl, rfl, rfl, rfl, rfl, rfl, rfl, rfl, rfl, rfl, rfl, rfl, rfl, rfl, rfl, rfl, rfl, rfl, rfl, rfl, rfl, rfl, rfl, trivial⟩ (by rfl) (by rfl) (by omega) (by show 23 ≤ 23; omega) (by omega) (by omega) rfl rfl ?_
      refine jT_xiconst (k := 0) (pcN := 17) jIQ_213_16 rfl ?_
      refine jT_iald (x := (jlz e0 e1 e2 e3 e4 e5).sign) (a := 23) (j := 0) (fs := []) (X := (jenc (jlz e0 e1 e2 e3 e4 e5))) (by rfl) (by rfl) (by rfl) (by rfl) (jenc_sg rfl) ?_
      refine jT_eq (LN := [(0, (4, 0)), (1, (4, 1))]) (stN := [(0, (jlz e0 e1 e2 e3 e4 e5).sign)]) (hsN := [jzQ_371, (101, [], [e0, e1, e2, e3, e4, e5]), jgh, jgh, jgh, jgh, jgh, (130, [], [17, 18, 19, 20, 21, 22]), jgh, jgh, jgh, jgh, jgh, jgh, jgh, jgh, jgh, (100, [], (jenc (jlg 0))), (100, [], (jenc (jlg 1))), (100, [], (jenc (jlg 2))), (100, [], (jenc (jlg 3))), (100, [], (jenc (jlg 4))), (100, [], (jenc (jlg 5))), (100, [], (jenc (jlz e0 e1 e2 e3 e4 e5)))]) rfl rfl rfl ?_
      refine jT_loc (LN := [(0, (4, 0))]) (by show List.Nodup [0]; decide) (by intro q hq; simp only [List.mem_cons, List.not_mem_nil, or_false] at hq; rcases hq with rfl <;> rfl) ?_
      refine jT_drop 23 (hs0 := [jzQ_371, (101, [], [e0, e1, e2, e3, e4, e5]), jgh, jgh, jgh, jgh, jgh, (130, [], [17, 18, 19, 20, 21, 22]), jgh, jgh, jgh, jgh, jgh, jgh, jgh, jgh, jgh, (100, [], (jenc (jlg 0))), (100, [], (jenc (jlg 1))), (100, [], (jenc (jlg 2))), (100, [], (jenc (jlg 3))), (100, [], (jenc (jlg 4))), (100, [], (jenc (jlg 5)))]) (ex := [(100, [], (jenc (jlz e0 e1 e2 e3 e4 e5)))]) rfl rfl rfl (by decide) ?_
      exact jT_ret rfl (by decide) (by show 23 ≤ 23; decide) (by omega) (by omega) ⟨rfl, rfl, rfl⟩
theorem jQ_212_163 {xs : List Int} {d : Nat} {N r7 r8 : Int} (h_N : (-1099511627776) ≤ N ∧ N ≤ 1099511627776) (h_r7 : (-20) ≤ r7 ∧ r7 ≤ 20) (h_r8 : (-10) ≤ r8 ∧ r8 ≤ 10) : jT xs (d + 4) 212 22 0 [(0, (4, 0)), (1, (4, 1)), (2, (1, N + 1))] [] [jzQ_378, (101, [], [0, r7, r8, 0, 0, 0]), jgh, jgh, jgh, jgh, jgh, (130, [], [16, 17, 18, 19, 20, 21]), jgh, jgh, jgh, jgh, jgh, jgh, jgh, jgh, (100, [], (jenc (jlg 0))), (100, [], (jenc (jlg 1))), (100, [], (jenc (jlg 2))), (100, [], (jenc (jlg 3))), (100, [], (jenc (jlg 4))), (100, [], (jenc (jlg 5)))] 20 1070 (fun k v hsN => k = 0 ∧ v = (0, (jlz (-N - 1) r7 r8 0 0 0).sign) ∧ hsN = [jzQ_378, (101, [], [0, r7, r8, 0, 0, 0]), jgh, jgh, jgh, jgh, jgh, (130, [], [16, 17, 18, 19, 20, 21]), jgh, jgh, jgh, jgh, jgh, jgh, jgh, jgh, (100, [], (jenc (jlg 0))), (100, [], (jenc (jlg 1))), (100, [], (jenc (jlg 2))), (100, [], (jenc (jlg 3))), (100, [], (jenc (jlg 4))), (100, [], (jenc (jlg 5)))] ++ []) := by
  refine jT_xbipush (k := 6) (pcN := 2) jIQ_212_0 (by decide) rfl ?_
  refine jT_adv 1 (pcN := 4) (LN := [(0, (4, 0)), (1, (4, 1)), (2, (1, N + 1))]) (stN := [(4, 22)]) (hsN := [jzQ_378, (101, [], [0, r7, r8, 0, 0, 0]), jgh, jgh, jgh, jgh, jgh, (130, [], [16, 17, 18, 19, 20, 21]), jgh, jgh, jgh, jgh, jgh, jgh, jgh, jgh, (100, [], (jenc (jlg 0))), (100, [], (jenc (jlg 1))), (100, [], (jenc (jlg 2))), (100, [], (jenc (jlg 3))), (100, [], (jenc (jlg 4))), (100, [], (jenc (jlg 5))), (101, [], [0, 0, 0, 0, 0, 0])]) (c1 := 1) (s1 := 6) (c2 := 19) (s2 := 1064) (by exact rfl) ?_ (by omega) (by omega)
  refine jT_xastore (v := (4, 22)) (LN := [(4, (4, 22)), (0, (4, 0)), (1, (4, 1)), (2, (1, N + 1))]) (pcN := 6) jIQ_212_4 rfl rfl rfl rfl ?_
  refine jT_xaload_n (v := (4, 1)) (pcN := 7) jIQ_212_6 rfl rfl rfl ?_
  refine jT_xiconst (k := 0) (pcN := 8) jIQ_212_7 rfl ?_
  refine jT_xaload (v := (4, 22)) (pcN := 10) jIQ_212_8 rfl rfl rfl ?_
  refine jT_xiconst (k := 0) (pcN := 11) jIQ_212_10 rfl ?_
  refine jT_xbipush (k := 6) (pcN := 13) jIQ_212_11 (by decide) rfl ?_
  refine jT_adv 1 (pcN := 16) (LN := [(4, (4, 22)), (0, (4, 0)), (1, (4, 1)), (2, (1, N + 1))]) (stN := []) (hsN := [jzQ_378, (101, [], [0, r7, r8, 0, 0, 0]), jgh, jgh, jgh, jgh, jgh, (130, [], [16, 17, 18, 19, 20, 21]), jgh, jgh, jgh, jgh, jgh, jgh, jgh, jgh, (100, [], (jenc (jlg 0))), (100, [], (jenc (jlg 1))), (100, [], (jenc (jlg 2))), (100, [], (jenc (jlg 3))), (100, [], (jenc (jlg 4))), (100, [], (jenc (jlg 5))), (101, [], [0, r7, r8, 0, 0, 0])]) (c1 := 0) (s1 := 0) (c2 := 19) (s2 := 1064) (by exact rfl) ?_ (by omega) (by omega)
  refine jT_xaload (v := (4, 22)) (pcN := 18) jIQ_212_16 rfl rfl rfl ?_
  refine jT_xiconst (k := 0) (pcN := 19) jIQ_212_18 rfl ?_
  refine jT_adv 1 (pcN := 20) (LN := [(4, (4, 22)), (0, (4, 0)), (1, (4, 1)), (2, (1, N + 1))]) (stN := [(0, 0), (4, 22), (0, 0), (4, 22)]) (hsN := [jzQ_378, (101, [], [0, r7, r8, 0, 0, 0]), jgh, jgh, jgh, jgh, jgh, (130, [], [16, 17, 18, 19, 20, 21]), jgh, jgh, jgh, jgh, jgh, jgh, jgh, jgh, (100, [], (jenc (jlg 0))), (100, [], (jenc (jlg 1))), (100, [], (jenc (jlg 2))), (100, [], (jenc (jlg 3))), (100, [], (jenc (jlg 4))), (100, [], (jenc (jlg 5))), (101, [], [0, r7, r8, 0, 0, 0])]) (c1 := 0) (s1 := 0) (c2 := 19) (s2 := 1064) (by exact rfl) ?_ (by omega) (by omega)
  refine jT_lald (x := 0) (a := 22) (j := 0) (fs := []) (X := [0, r7, r8, 0, 0, 0]) jIQ_212_20 rfl rfl rfl rfl ?_
  refine jT_eq (LN := [(4, (4, 22)), (0, (4, 0)), (1, (4, 1)), (2, (1, N + 1))]) (stN := [(1, 0), (0, 0), (4, 22)]) (hsN := [jzQ_378, (101, [], [0, r7, r8, 0, 0, 0]), jgh, jgh, jgh, jgh, jgh, (130, [], [16, 17, 18, 19, 20, 21]), jgh, jgh, jgh, jgh, jgh, jgh, jgh, jgh, (100, [], (jenc (jlg 0))), (100, [], (jenc (jlg 1))), (100, [], (jenc (jlg 2))), (100, [], (jenc (jlg 3))), (100, [], (jenc (jlg 4))), (100, [], (jenc (jlg 5))), (101, [], [0, r7, r8, 0, 0, 0])]) rfl rfl rfl ?_
  refine jT_xlload_n (v := (1, N + 1)) (pcN := 22) jIQ_212_21 rfl rfl rfl ?_
  refine jT_xlsub (x := 0) (y := N + 1) (z := -N - 1) (pcN := 23) jIQ_212_22 rfl (by omega) rfl ?_
  refine jT_adv 1 (pcN := 24) (LN := [(4, (4, 22)), (0, (4, 0)), (1, (4, 1)), (2, (1, N + 1))]) (stN := []) (hsN := [jzQ_378, (101, [], [0, r7, r8, 0, 0, 0]), jgh, jgh, jgh, jgh, jgh, (130, [], [16, 17, 18, 19, 20, 21]), jgh, jgh, jgh, jgh, jgh, jgh, jgh, jgh, (100, [], (jenc (jlg 0))), (100, [], (jenc (jlg 1))), (100, [], (jenc (jlg 2))), (100, [], (jenc (jlg 3))), (100, [], (jenc (jlg 4))), (100, [], (jenc (jlg 5))), (101, [], [-N - 1, r7, r8, 0, 0, 0])]) (c1 := 0) (s1 := 0) (c2 := 19) (s2 := 1064) (by exact rfl) ?_ (by omega) (by omega)
  refine jT_xaload_n (v := (4, 0)) (pcN := 25) jIQ_212_24 rfl rfl rfl ?_
  refine jT_xaload (v := (4, 22)) (pcN := 27) jIQ_212_25 rfl rfl rfl ?_
  refine jT_callA [0, 22, 2, 3, 4, 5, 6, 7, 1, 8, 9, 10, 11, 12, 13, 14, 15, 16, 17, 18, 19, 20, 21] (y := 213) (pcN := 30) (dC := 3) (bc1 := 19) (bc2 := 1064) (c1 := 0) (c2 := 0) (as := [(4, 0), (4, 22)]) (asC := [(4, 0), (4, 1)]) (LN := [(4, (4, 22)), (0, (4, 0)), (1, (4, 1)), (2, (1, N + 1))]) (stN := []) (hsC := [jzQ_371, (101, [], [-N - 1, r7, r8, 0, 0, 0]), jgh, jgh, jgh, jgh, jgh, (130, [], [17, 18, 19, 20, 21, 22]), jgh, jgh, jgh, jgh, jgh, jgh, jgh, jgh, jgh, (100, [], (jenc (jlg 0))), (100, [], (jenc (jlg 1))), (100, [], (jenc (jlg 2))), (100, [], (jenc (jlg 3))), (100, [], (jenc (jlg 4))), (100, [], (jenc (jlg 5)))]) (ex := []) (v := (0, (jlz (-N - 1) r7 r8 0 0 0).sign)) (st2 := [(0, (jlz (-N - 1) r7 r8 0 0 0).sign)]) (hs2 := [jzQ_378, (101, [], [0, r7, r8, 0, 0, 0]), jgh, jgh, jgh, jgh, jgh, (130, [], [16, 17, 18, 19, 20, 21]), jgh, jgh, jgh, jgh, jgh, jgh, jgh, jgh, (100, [], (jenc (jlg 0))), (100, [], (jenc (jlg 1))), (100, [], (jenc (jlg 2))), (100, [], (jenc (jlg 3))), (100, [], (jenc (jlg 4))), (100, [], (jenc (jlg 5))), (101, [], [-N - 1, r7, r8, 0, 0, 0])]) (jQl_sg_148 (d := 0) (e0 := -N - 1) (e1 := r7) (e2 := r8) (e3 := 0) (e4 := 0) (e5 := 0) (by omega) (by omega) (by omega) (by omega) (by omega) (by omega)) (by rfl) (by rfl) (by rfl) (by rfl) ⟨rfl, rfl, rfl, rfl, rfl, rfl, rfl, rfl, rfl, rfl, rfl, rfl, rfl, rfl, rfl, rfl, rfl, rfl, rfl, rfl, rfl, rfl, rfl, trivial⟩ (by rfl) (by rfl) (by omega) (by show 22 ≤ 23; omega) (by omega) (by omega) rfl rfl ?_
  have hb_q1 := jsgn_b (jlz (-N - 1) r7 r8 0 0 0)
  generalize hq_q1 : (jlz (-N - 1) r7 r8 0 0 0).sign = q1 at hb_q1 ⊢
  refine jT_loc (LN := [(0, (4, 0))]) (by show List.Nodup [0]; decide) (by intro q hq; simp only [List.mem_cons, List.not_mem_nil, or_false] at hq; rcases hq with rfl <;> rfl) ?_
  refine jT_drop 22 (hs0 := [jzQ_378, (101, [], [0, r7, r8, 0, 0, 0]), jgh, jgh, jgh, jgh, jgh, (130, [], [16, 17, 18, 19, 20, 21]), jgh, jgh, jgh, jgh, jgh, jgh, jgh, jgh, (100, [], (jenc (jlg 0))), (100, [], (jenc (jlg 1))), (100, [], (jenc (jlg 2))), (100, [], (jenc (jlg 3))), (100, [], (jenc (jlg 4))), (100, [], (jenc (jlg 5)))]) (ex := [(101, [], [-N - 1, r7, r8, 0, 0, 0])]) rfl rfl rfl (by decide) ?_
  subst hq_q1
  exact jT_ret rfl (by decide) (by show 22 ≤ 22; omega) (by omega) (by omega) ⟨rfl, rfl, rfl⟩
theorem jIQ_210_19 : jmI (jm 210) 19 = (.ifCond .ge 12, 3) := by rfl
theorem jQ_212_164 {xs : List Int} {d : Nat} {N r7 r8 : Int} (h_N : (-1099511627776) ≤ N ∧ N ≤ 1099511627776) (h_r7 : (-20) ≤ r7 ∧ r7 ≤ 20) (h_r8 : (-10) ≤ r8 ∧ r8 ≤ 10) (g_0 : (jlz (-N - 1) r7 r8 0 0 0).sign < 0) : jT xs (d + 4) 212 22 0 [(0, (4, 0)), (1, (4, 1)), (2, (1, N + 1))] [] [jzQ_378, (101, [], [0, r7, r8, 0, 0, 0]), jgh, jgh, jgh, jgh, jgh, (130, [], [16, 17, 18, 19, 20, 21]), jgh, jgh, jgh, jgh, jgh, jgh, jgh, jgh, (100, [], (jenc (jlg 0))), (100, [], (jenc (jlg 1))), (100, [], (jenc (jlg 2))), (100, [], (jenc (jlg 3))), (100, [], (jenc (jlg 4))), (100, [], (jenc (jlg 5)))] 20 1070 (fun k v hsN => k = 0 ∧ v = (0, (jlz (-N - 1) r7 r8 0 0 0).sign) ∧ hsN = [jzQ_378, (101, [], [0, r7, r8, 0, 0, 0]), jgh, jgh, jgh, jgh, jgh, (130, [], [16, 17, 18, 19, 20, 21]), jgh, jgh, jgh, jgh, jgh, jgh, jgh, jgh, (100, [], (jenc (jlg 0))), (100, [], (jenc (jlg 1))), (100, [], (jenc (jlg 2))), (100, [], (jenc (jlg 3))), (100, [], (jenc (jlg 4))), (100, [], (jenc (jlg 5)))] ++ []) := by
  refine jT_xbipush (k := 6) (pcN := 2) jIQ_212_0 (by decide) rfl ?_
  refine jT_adv 1 (pcN := 4) (LN := [(0, (4, 0)), (1, (4, 1)), (2, (1, N + 1))]) (stN := [(4, 22)]) (hsN := [jzQ_378, (101, [], [0, r7, r8, 0, 0, 0]), jgh, jgh, jgh, jgh, jgh, (130, [], [16, 17, 18, 19, 20, 21]), jgh, jgh, jgh, jgh, jgh, jgh, jgh, jgh, (100, [], (jenc (jlg 0))), (100, [], (jenc (jlg 1))), (100, [], (jenc (jlg 2))), (100, [], (jenc (jlg 3))), (100, [], (jenc (jlg 4))), (100, [], (jenc (jlg 5))), (101, [], [0, 0, 0, 0, 0, 0])]) (c1 := 1) (s1 := 6) (c2 := 19) (s2 := 1064) (by exact rfl) ?_ (by omega) (by omega)
  refine jT_xastore (v := (4, 22)) (LN := [(4, (4, 22)), (0, (4, 0)), (1, (4, 1)), (2, (1, N + 1))]) (pcN := 6) jIQ_212_4 rfl rfl rfl rfl ?_
  refine jT_xaload_n (v := (4, 1)) (pcN := 7) jIQ_212_6 rfl rfl rfl ?_
  refine jT_xiconst (k := 0) (pcN := 8) jIQ_212_7 rfl ?_
  refine jT_xaload (v := (4, 22)) (pcN := 10) jIQ_212_8 rfl rfl rfl ?_
  refine jT_xiconst (k := 0) (pcN := 11) jIQ_212_10 rfl ?_
  refine jT_xbipush (k := 6) (pcN := 13) jIQ_212_11 (by decide) rfl ?_
  refine jT_adv 1 (pcN := 16) (LN := [(4, (4, 22)), (0, (4, 0)), (1, (4, 1)), (2, (1, N + 1))]) (stN := []) (hsN := [jzQ_378, (101, [], [0, r7, r8, 0, 0, 0]), jgh, jgh, jgh, jgh, jgh, (130, [], [16, 17, 18, 19, 20, 21]), jgh, jgh, jgh, jgh, jgh, jgh, jgh, jgh, (100, [], (jenc (jlg 0))), (100, [], (jenc (jlg 1))), (100, [], (jenc (jlg 2))), (100, [], (jenc (jlg 3))), (100, [], (jenc (jlg 4))), (100, [], (jenc (jlg 5))), (101, [], [0, r7, r8, 0, 0, 0])]) (c1 := 0) (s1 := 0) (c2 := 19) (s2 := 1064) (by exact rfl) ?_ (by omega) (by omega)
  refine jT_xaload (v := (4, 22)) (pcN := 18) jIQ_212_16 rfl rfl rfl ?_
  refine jT_xiconst (k := 0) (pcN := 19) jIQ_212_18 rfl ?_
  refine jT_adv 1 (pcN := 20) (LN := [(4, (4, 22)), (0, (4, 0)), (1, (4, 1)), (2, (1, N + 1))]) (stN := [(0, 0), (4, 22), (0, 0), (4, 22)]) (hsN := [jzQ_378, (101, [], [0, r7, r8, 0, 0, 0]), jgh, jgh, jgh, jgh, jgh, (130, [], [16, 17, 18, 19, 20, 21]), jgh, jgh, jgh, jgh, jgh, jgh, jgh, jgh, (100, [], (jenc (jlg 0))), (100, [], (jenc (jlg 1))), (100, [], (jenc (jlg 2))), (100, [], (jenc (jlg 3))), (100, [], (jenc (jlg 4))), (100, [], (jenc (jlg 5))), (101, [], [0, r7, r8, 0, 0, 0])]) (c1 := 0) (s1 := 0) (c2 := 19) (s2 := 1064) (by exact rfl) ?_ (by omega) (by omega)
  refine jT_lald (x := 0) (a := 22) (j := 0) (fs := []) (X := [0, r7, r8, 0, 0, 0]) jIQ_212_20 rfl rfl rfl rfl ?_
  refine jT_eq (LN := [(4, (4, 22)), (0, (4, 0)), (1, (4, 1)), (2, (1, N + 1))]) (stN := [(1, 0), (0, 0), (4, 22)]) (hsN := [jzQ_378, (101, [], [0, r7, r8, 0, 0, 0]), jgh, jgh, jgh, jgh, jgh, (130, [], [16, 17, 18, 19, 20, 21]), jgh, jgh, jgh, jgh, jgh, jgh, jgh, jgh, (100, [], (jenc (jlg 0))), (100, [], (jenc (jlg 1))), (100, [], (jenc (jlg 2))), (100, [], (jenc (jlg 3))), (100, [], (jenc (jlg 4))), (100, [], (jenc (jlg 5))), (101, [], [0, r7, r8, 0, 0, 0])]) rfl rfl rfl ?_
  refine jT_xlload_n (v := (1, N + 1)) (pcN := 22) jIQ_212_21 rfl rfl rfl ?_
  refine jT_xlsub (x := 0) (y := N + 1) (z := -N - 1) (pcN := 23) jIQ_212_22 rfl (by omega) rfl ?_
  refine jT_adv 1 (pcN := 24) (LN := [(4, (4, 22)), (0, (4, 0)), (1, (4, 1)), (2, (1, N + 1))]) (stN := []) (hsN := [jzQ_378, (101, [], [0, r7, r8, 0, 0, 0]), jgh, jgh, jgh, jgh, jgh, (130, [], [16, 17, 18, 19, 20, 21]), jgh, jgh, jgh, jgh, jgh, jgh, jgh, jgh, (100, [], (jenc (jlg 0))), (100, [], (jenc (jlg 1))), (100, [], (jenc (jlg 2))), (100, [], (jenc (jlg 3))), (100, [], (jenc (jlg 4))), (100, [], (jenc (jlg 5))), (101, [], [-N - 1, r7, r8, 0, 0, 0])]) (c1 := 0) (s1 := 0) (c2 := 19) (s2 := 1064) (by exact rfl) ?_ (by omega) (by omega)
  refine jT_xaload_n (v := (4, 0)) (pcN := 25) jIQ_212_24 rfl rfl rfl ?_
  refine jT_xaload (v := (4, 22)) (pcN := 27) jIQ_212_25 rfl rfl rfl ?_
  refine jT_callA [0, 22, 2, 3, 4, 5, 6, 7, 1, 8, 9, 10, 11, 12, 13, 14, 15, 16, 17, 18, 19, 20, 21] (y := 213) (pcN := 30) (dC := 3) (bc1 := 19) (bc2 := 1064) (c1 := 0) (c2 := 0) (as := [(4, 0), (4, 22)]) (asC := [(4, 0), (4, 1)]) (LN := [(4, (4, 22)), (0, (4, 0)), (1, (4, 1)), (2, (1, N + 1))]) (stN := []) (hsC := [jzQ_371, (101, [], [-N - 1, r7, r8, 0, 0, 0]), jgh, jgh, jgh, jgh, jgh, (130, [], [17, 18, 19, 20, 21, 22]), jgh, jgh, jgh, jgh, jgh, jgh, jgh, jgh, jgh, (100, [], (jenc (jlg 0))), (100, [], (jenc (jlg 1))), (100, [], (jenc (jlg 2))), (100, [], (jenc (jlg 3))), (100, [], (jenc (jlg 4))), (100, [], (jenc (jlg 5)))]) (ex := []) (v := (0, (jlz (-N - 1) r7 r8 0 0 0).sign)) (st2 := [(0, (jlz (-N - 1) r7 r8 0 0 0).sign)]) (hs2 := [jzQ_378, (101, [], [0, r7, r8, 0, 0, 0]), jgh, jgh, jgh, jgh, jgh, (130, [], [16, 17, 18, 19, 20, 21]), jgh, jgh, jgh, jgh, jgh, jgh, jgh, jgh, (100, [], (jenc (jlg 0))), (100, [], (jenc (jlg 1))), (100, [], (jenc (jlg 2))), (100, [], (jenc (jlg 3))), (100, [], (jenc (jlg 4))), (100, [], (jenc (jlg 5))), (101, [], [-N - 1, r7, r8, 0, 0, 0])]) (jQl_sg_148 (d := 0) (e0 := -N - 1) (e1 := r7) (e2 := r8) (e3 := 0) (e4 := 0) (e5 := 0) (by omega) (by omega) (by omega) (by omega) (by omega) (by omega)) (by rfl) (by rfl) (by rfl) (by rfl) ⟨rfl, rfl, rfl, rfl, rfl, rfl, rfl, rfl, rfl, rfl, rfl, rfl, rfl, rfl, rfl, rfl, rfl, rfl, rfl, rfl, rfl, rfl, rfl, trivial⟩ (by rfl) (by rfl) (by omega) (by show 22 ≤ 23; omega) (by omega) (by omega) rfl rfl ?_
  have hb_q1 := jsgn_b (jlz (-N - 1) r7 r8 0 0 0)
  generalize hq_q1 : (jlz (-N - 1) r7 r8 0 0 0).sign = q1 at hb_q1 g_0 ⊢
  refine jT_loc (LN := [(0, (4, 0))]) (by show List.Nodup [0]; decide) (by intro q hq; simp only [List.mem_cons, List.not_mem_nil, or_false] at hq; rcases hq with rfl <;> rfl) ?_
  refine jT_drop 22 (hs0 := [jzQ_378, (101, [], [0, r7, r8, 0, 0, 0]), jgh, jgh, jgh, jgh, jgh, (130, [], [16, 17, 18, 19, 20, 21]), jgh, jgh, jgh, jgh, jgh, jgh, jgh, jgh, (100, [], (jenc (jlg 0))), (100, [], (jenc (jlg 1))), (100, [], (jenc (jlg 2))), (100, [], (jenc (jlg 3))), (100, [], (jenc (jlg 4))), (100, [], (jenc (jlg 5)))]) (ex := [(101, [], [-N - 1, r7, r8, 0, 0, 0])]) rfl rfl rfl (by decide) ?_
  subst hq_q1
  exact jT_ret rfl (by decide) (by show 22 ≤ 22; omega) (by omega) (by omega) ⟨rfl, rfl, rfl⟩
theorem jIQ_210_22 : jmI (jm 210) 22 = (.lload 4, 2) := by rfl
theorem jIQ_210_24 : jmI (jm 210) 24 = (.lconst 1, 1) := by rfl
theorem jIQ_210_25 : jmI (jm 210) 25 = (.lsub, 1) := by rfl
theorem jIQ_210_26 : jmI (jm 210) 26 = (.lstore 4, 2) := by rfl
theorem jIQ_210_28 : jmI (jm 210) 28 = (.goto (-18), 3) := by rfl
theorem jQ_212_165 {xs : List Int} {d : Nat} {N r7 r8 : Int} (h_N : (-1099511627776) ≤ N ∧ N ≤ 1099511627776) (h_r7 : (-20) ≤ r7 ∧ r7 ≤ 20) (h_r8 : (-10) ≤ r8 ∧ r8 ≤ 10) : jT xs (d + 4) 212 22 0 [(0, (4, 0)), (1, (4, 1)), (2, (1, N))] [] [jzQ_378, (101, [], [0, r7, r8, 0, 0, 0]), jgh, jgh, jgh, jgh, jgh, (130, [], [16, 17, 18, 19, 20, 21]), jgh, jgh, jgh, jgh, jgh, jgh, jgh, jgh, (100, [], (jenc (jlg 0))), (100, [], (jenc (jlg 1))), (100, [], (jenc (jlg 2))), (100, [], (jenc (jlg 3))), (100, [], (jenc (jlg 4))), (100, [], (jenc (jlg 5)))] 20 1070 (fun k v hsN => k = 0 ∧ v = (0, (jlz (-N) r7 r8 0 0 0).sign) ∧ hsN = [jzQ_378, (101, [], [0, r7, r8, 0, 0, 0]), jgh, jgh, jgh, jgh, jgh, (130, [], [16, 17, 18, 19, 20, 21]), jgh, jgh, jgh, jgh, jgh, jgh, jgh, jgh, (100, [], (jenc (jlg 0))), (100, [], (jenc (jlg 1))), (100, [], (jenc (jlg 2))), (100, [], (jenc (jlg 3))), (100, [], (jenc (jlg 4))), (100, [], (jenc (jlg 5)))] ++ []) := by
  refine jT_xbipush (k := 6) (pcN := 2) jIQ_212_0 (by decide) rfl ?_
  refine jT_adv 1 (pcN := 4) (LN := [(0, (4, 0)), (1, (4, 1)), (2, (1, N))]) (stN := [(4, 22)]) (hsN := [jzQ_378, (101, [], [0, r7, r8, 0, 0, 0]), jgh, jgh, jgh, jgh, jgh, (130, [], [16, 17, 18, 19, 20, 21]), jgh, jgh, jgh, jgh, jgh, jgh, jgh, jgh, (100, [], (jenc (jlg 0))), (100, [], (jenc (jlg 1))), (100, [], (jenc (jlg 2))), (100, [], (jenc (jlg 3))), (100, [], (jenc (jlg 4))), (100, [], (jenc (jlg 5))), (101, [], [0, 0, 0, 0, 0, 0])]) (c1 := 1) (s1 := 6) (c2 := 19) (s2 := 1064) (by exact rfl) ?_ (by omega) (by omega)
  refine jT_xastore (v := (4, 22)) (LN := [(4, (4, 22)), (0, (4, 0)), (1, (4, 1)), (2, (1, N))]) (pcN := 6) jIQ_212_4 rfl rfl rfl rfl ?_
  refine jT_xaload_n (v := (4, 1)) (pcN := 7) jIQ_212_6 rfl rfl rfl ?_
  refine jT_xiconst (k := 0) (pcN := 8) jIQ_212_7 rfl ?_
  refine jT_xaload (v := (4, 22)) (pcN := 10) jIQ_212_8 rfl rfl rfl ?_
  refine jT_xiconst (k := 0) (pcN := 11) jIQ_212_10 rfl ?_
  refine jT_xbipush (k := 6) (pcN := 13) jIQ_212_11 (by decide) rfl ?_
  refine jT_adv 1 (pcN := 16) (LN := [(4, (4, 22)), (0, (4, 0)), (1, (4, 1)), (2, (1, N))]) (stN := []) (hsN := [jzQ_378, (101, [], [0, r7, r8, 0, 0, 0]), jgh, jgh, jgh, jgh, jgh, (130, [], [16, 17, 18, 19, 20, 21]), jgh, jgh, jgh, jgh, jgh, jgh, jgh, jgh, (100, [], (jenc (jlg 0))), (100, [], (jenc (jlg 1))), (100, [], (jenc (jlg 2))), (100, [], (jenc (jlg 3))), (100, [], (jenc (jlg 4))), (100, [], (jenc (jlg 5))), (101, [], [0, r7, r8, 0, 0, 0])]) (c1 := 0) (s1 := 0) (c2 := 19) (s2 := 1064) (by exact rfl) ?_ (by omega) (by omega)
  refine jT_xaload (v := (4, 22)) (pcN := 18) jIQ_212_16 rfl rfl rfl ?_
  refine jT_xiconst (k := 0) (pcN := 19) jIQ_212_18 rfl ?_
  refine jT_adv 1 (pcN := 20) (LN := [(4, (4, 22)), (0, (4, 0)), (1, (4, 1)), (2, (1, N))]) (stN := [(0, 0), (4, 22), (0, 0), (4, 22)]) (hsN := [jzQ_378, (101, [], [0, r7, r8, 0, 0, 0]), jgh, jgh, jgh, jgh, jgh, (130, [], [16, 17, 18, 19, 20, 21]), jgh, jgh, jgh, jgh, jgh, jgh, jgh, jgh, (100, [], (jenc (jlg 0))), (100, [], (jenc (jlg 1))), (100, [], (jenc (jlg 2))), (100, [], (jenc (jlg 3))), (100, [], (jenc (jlg 4))), (100, [], (jenc (jlg 5))), (101, [], [0, r7, r8, 0, 0, 0])]) (c1 := 0) (s1 := 0) (c2 := 19) (s2 := 1064) (by exact rfl) ?_ (by omega) (by omega)
  refine jT_lald (x := 0) (a := 22) (j := 0) (fs := []) (X := [0, r7, r8, 0, 0, 0]) jIQ_212_20 rfl rfl rfl rfl ?_
  refine jT_eq (LN := [(4, (4, 22)), (0, (4, 0)), (1, (4, 1)), (2, (1, N))]) (stN := [(1, 0), (0, 0), (4, 22)]) (hsN := [jzQ_378, (101, [], [0, r7, r8, 0, 0, 0]), jgh, jgh, jgh, jgh, jgh, (130, [], [16, 17, 18, 19, 20, 21]), jgh, jgh, jgh, jgh, jgh, jgh, jgh, jgh, (100, [], (jenc (jlg 0))), (100, [], (jenc (jlg 1))), (100, [], (jenc (jlg 2))), (100, [], (jenc (jlg 3))), (100, [], (jenc (jlg 4))), (100, [], (jenc (jlg 5))), (101, [], [0, r7, r8, 0, 0, 0])]) rfl rfl rfl ?_
  refine jT_xlload_n (v := (1, N)) (pcN := 22) jIQ_212_21 rfl rfl rfl ?_
  refine jT_xlsub (x := 0) (y := N) (z := -N) (pcN := 23) jIQ_212_22 rfl (by omega) rfl ?_
  refine jT_adv 1 (pcN := 24) (LN := [(4, (4, 22)), (0, (4, 0)), (1, (4, 1)), (2, (1, N))]) (stN := []) (hsN := [jzQ_378, (101, [], [0, r7, r8, 0, 0, 0]), jgh, jgh, jgh, jgh, jgh, (130, [], [16, 17, 18, 19, 20, 21]), jgh, jgh, jgh, jgh, jgh, jgh, jgh, jgh, (100, [], (jenc (jlg 0))), (100, [], (jenc (jlg 1))), (100, [], (jenc (jlg 2))), (100, [], (jenc (jlg 3))), (100, [], (jenc (jlg 4))), (100, [], (jenc (jlg 5))), (101, [], [-N, r7, r8, 0, 0, 0])]) (c1 := 0) (s1 := 0) (c2 := 19) (s2 := 1064) (by exact rfl) ?_ (by omega) (by omega)
  refine jT_xaload_n (v := (4, 0)) (pcN := 25) jIQ_212_24 rfl rfl rfl ?_
  refine jT_xaload (v := (4, 22)) (pcN := 27) jIQ_212_25 rfl rfl rfl ?_
  refine jT_callA [0, 22, 2, 3, 4, 5, 6, 7, 1, 8, 9, 10, 11, 12, 13, 14, 15, 16, 17, 18, 19, 20, 21] (y := 213) (pcN := 30) (dC := 3) (bc1 := 19) (bc2 := 1064) (c1 := 0) (c2 := 0) (as := [(4, 0), (4, 22)]) (asC := [(4, 0), (4, 1)]) (LN := [(4, (4, 22)), (0, (4, 0)), (1, (4, 1)), (2, (1, N))]) (stN := []) (hsC := [jzQ_371, (101, [], [-N, r7, r8, 0, 0, 0]), jgh, jgh, jgh, jgh, jgh, (130, [], [17, 18, 19, 20, 21, 22]), jgh, jgh, jgh, jgh, jgh, jgh, jgh, jgh, jgh, (100, [], (jenc (jlg 0))), (100, [], (jenc (jlg 1))), (100, [], (jenc (jlg 2))), (100, [], (jenc (jlg 3))), (100, [], (jenc (jlg 4))), (100, [], (jenc (jlg 5)))]) (ex := []) (v := (0, (jlz (-N) r7 r8 0 0 0).sign)) (st2 := [(0, (jlz (-N) r7 r8 0 0 0).sign)]) (hs2 := [jzQ_378, (101, [], [0, r7, r8, 0, 0, 0]), jgh, jgh, jgh, jgh, jgh, (130, [], [16, 17, 18, 19, 20, 21]), jgh, jgh, jgh, jgh, jgh, jgh, jgh, jgh, (100, [], (jenc (jlg 0))), (100, [], (jenc (jlg 1))), (100, [], (jenc (jlg 2))), (100, [], (jenc (jlg 3))), (100, [], (jenc (jlg 4))), (100, [], (jenc (jlg 5))), (101, [], [-N, r7, r8, 0, 0, 0])]) (jQl_sg_148 (d := 0) (e0 := -N) (e1 := r7) (e2 := r8) (e3 := 0) (e4 := 0) (e5 := 0) (by omega) (by omega) (by omega) (by omega) (by omega) (by omega)) (by rfl) (by rfl) (by rfl) (by rfl) ⟨rfl, rfl, rfl, rfl, rfl, rfl, rfl, rfl, rfl, rfl, rfl, rfl, rfl, rfl, rfl, rfl, rfl, rfl, rfl, rfl, rfl, rfl, rfl, trivial⟩ (by rfl) (by rfl) (by omega) (by show 22 ≤ 23; omega) (by omega) (by omega) rfl rfl ?_
  have hb_q1 := jsgn_b (jlz (-N) r7 r8 0 0 0)
  generalize hq_q1 : (jlz (-N) r7 r8 0 0 0).sign = q1 at hb_q1 ⊢
  refine jT_loc (LN := [(0, (4, 0))]) (by show List.Nodup [0]; decide) (by intro q hq; simp only [List.mem_cons, List.not_mem_nil, or_false] at hq; rcases hq with rfl <;> rfl) ?_
  refine jT_drop 22 (hs0 := [jzQ_378, (101, [], [0, r7, r8, 0, 0, 0]), jgh, jgh, jgh, jgh, jgh, (130, [], [16, 17, 18, 19, 20, 21]), jgh, jgh, jgh, jgh, jgh, jgh, jgh, jgh, (100, [], (jenc (jlg 0))), (100, [], (jenc (jlg 1))), (100, [], (jenc (jlg 2))), (100, [], (jenc (jlg 3))), (100, [], (jenc (jlg 4))), (100, [], (jenc (jlg 5)))]) (ex := [(101, [], [-N, r7, r8, 0, 0, 0])]) rfl rfl rfl (by decide) ?_
  subst hq_q1
  exact jT_ret rfl (by decide) (by show 22 ≤ 22; omega) (by omega) (by omega) ⟨rfl, rfl, rfl⟩
theorem jQ_212_166 {xs : List Int} {d : Nat} {N r7 r8 : Int} (h_N : (-1099511627776) ≤ N ∧ N ≤ 1099511627776) (h_r7 : (-20) ≤ r7 ∧ r7 ≤ 20) (h_r8 : (-10) ≤ r8 ∧ r8 ≤ 10) (g_0 : (jlz (-N - 1) r7 r8 0 0 0).sign < 0) (g_1 : 0 ≤ (jlz (-N) r7 r8 0 0 0).sign) : jT xs (d + 4) 212 22 0 [(0, (4, 0)), (1, (4, 1)), (2, (1, N + 1))] [] [jzQ_378, (101, [], [0, r7, r8, 0, 0, 0]), jgh, jgh, jgh, jgh, jgh, (130, [], [16, 17, 18, 19, 20, 21]), jgh, jgh, jgh, jgh, jgh, jgh, jgh, jgh, (100, [], (jenc (jlg 0))), (100, [], (jenc (jlg 1))), (100, [], (jenc (jlg 2))), (100, [], (jenc (jlg 3))), (100, [], (jenc (jlg 4))), (100, [], (jenc (jlg 5)))] 20 1070 (fun k v hsN => k = 0 ∧ v = (0, (jlz (-N - 1) r7 r8 0 0 0).sign) ∧ hsN = [jzQ_378, (101, [], [0, r7, r8, 0, 0, 0]), jgh, jgh, jgh, jgh, jgh, (130, [], [16, 17, 18, 19, 20, 21]), jgh, jgh, jgh, jgh, jgh, jgh, jgh, jgh, (100, [], (jenc (jlg 0))), (100, [], (jenc (jlg 1))), (100, [], (jenc (jlg 2))), (100, [], (jenc (jlg 3))), (100, [], (jenc (jlg 4))), (100, [], (jenc (jlg 5)))] ++ []) := by
  refine jT_xbipush (k := 6) (pcN := 2) jIQ_212_0 (by decide) rfl ?_
  refine jT_adv 1 (pcN := 4) (LN := [(0, (4, 0)), (1, (4, 1)), (2, (1, N + 1))]) (stN := [(4, 22)]) (hsN := [jzQ_378, (101, [], [0, r7, r8, 0, 0, 0]), jgh, jgh, jgh, jgh, jgh, (130, [], [16, 17, 18, 19, 20, 21]), jgh, jgh, jgh, jgh, jgh, jgh, jgh, jgh, (100, [], (jenc (jlg 0))), (100, [], (jenc (jlg 1))), (100, [], (jenc (jlg 2))), (100, [], (jenc (jlg 3))), (100, [], (jenc (jlg 4))), (100, [], (jenc (jlg 5))), (101, [], [0, 0, 0, 0, 0, 0])]) (c1 := 1) (s1 := 6) (c2 := 19) (s2 := 1064) (by exact rfl) ?_ (by omega) (by omega)
  refine jT_xastore (v := (4, 22)) (LN := [(4, (4, 22)), (0, (4, 0)), (1, (4, 1)), (2, (1, N + 1))]) (pcN := 6) jIQ_212_4 rfl rfl rfl rfl ?_
  refine jT_xaload_n (v := (4, 1)) (pcN := 7) jIQ_212_6 rfl rfl rfl ?_
  refine jT_xiconst (k := 0) (pcN := 8) jIQ_212_7 rfl ?_
  refine jT_xaload (v := (4, 22)) (pcN := 10) jIQ_212_8 rfl rfl rfl ?_
  refine jT_xiconst (k := 0) (pcN := 11) jIQ_212_10 rfl ?_
  refine jT_xbipush (k := 6) (pcN := 13) jIQ_212_11 (by decide) rfl ?_
  refine jT_adv 1 (pcN := 16) (LN := [(4, (4, 22)), (0, (4, 0)), (1, (4, 1)), (2, (1, N + 1))]) (stN := []) (hsN := [jzQ_378, (101, [], [0, r7, r8, 0, 0, 0]), jgh, jgh, jgh, jgh, jgh, (130, [], [16, 17, 18, 19, 20, 21]), jgh, jgh, jgh, jgh, jgh, jgh, jgh, jgh, (100, [], (jenc (jlg 0))), (100, [], (jenc (jlg 1))), (100, [], (jenc (jlg 2))), (100, [], (jenc (jlg 3))), (100, [], (jenc (jlg 4))), (100, [], (jenc (jlg 5))), (101, [], [0, r7, r8, 0, 0, 0])]) (c1 := 0) (s1 := 0) (c2 := 19) (s2 := 1064) (by exact rfl) ?_ (by omega) (by omega)
  refine jT_xaload (v := (4, 22)) (pcN := 18) jIQ_212_16 rfl rfl rfl ?_
  refine jT_xiconst (k := 0) (pcN := 19) jIQ_212_18 rfl ?_
  refine jT_adv 1 (pcN := 20) (LN := [(4, (4, 22)), (0, (4, 0)), (1, (4, 1)), (2, (1, N + 1))]) (stN := [(0, 0), (4, 22), (0, 0), (4, 22)]) (hsN := [jzQ_378, (101, [], [0, r7, r8, 0, 0, 0]), jgh, jgh, jgh, jgh, jgh, (130, [], [16, 17, 18, 19, 20, 21]), jgh, jgh, jgh, jgh, jgh, jgh, jgh, jgh, (100, [], (jenc (jlg 0))), (100, [], (jenc (jlg 1))), (100, [], (jenc (jlg 2))), (100, [], (jenc (jlg 3))), (100, [], (jenc (jlg 4))), (100, [], (jenc (jlg 5))), (101, [], [0, r7, r8, 0, 0, 0])]) (c1 := 0) (s1 := 0) (c2 := 19) (s2 := 1064) (by exact rfl) ?_ (by omega) (by omega)
  refine jT_lald (x := 0) (a := 22) (j := 0) (fs := []) (X := [0, r7, r8, 0, 0, 0]) jIQ_212_20 rfl rfl rfl rfl ?_
  refine jT_eq (LN := [(4, (4, 22)), (0, (4, 0)), (1, (4, 1)), (2, (1, N + 1))]) (stN := [(1, 0), (0, 0), (4, 22)]) (hsN := [jzQ_378, (101, [], [0, r7, r8, 0, 0, 0]), jgh, jgh, jgh, jgh, jgh, (130, [], [16, 17, 18, 19, 20, 21]), jgh, jgh, jgh, jgh, jgh, jgh, jgh, jgh, (100, [], (jenc (jlg 0))), (100, [], (jenc (jlg 1))), (100, [], (jenc (jlg 2))), (100, [], (jenc (jlg 3))), (100, [], (jenc (jlg 4))), (100, [], (jenc (jlg 5))), (101, [], [0, r7, r8, 0, 0, 0])]) rfl rfl rfl ?_
  refine jT_xlload_n (v := (1, N + 1)) (pcN := 22) jIQ_212_21 rfl rfl rfl ?_
  refine jT_xlsub (x := 0) (y := N + 1) (z := -N - 1) (pcN := 23) jIQ_212_22 rfl (by omega) rfl ?_
  refine jT_adv 1 (pcN := 24) (LN := [(4, (4, 22)), (0, (4, 0)), (1, (4, 1)), (2, (1, N + 1))]) (stN := []) (hsN := [jzQ_378, (101, [], [0, r7, r8, 0, 0, 0]), jgh, jgh, jgh, jgh, jgh, (130, [], [16, 17, 18, 19, 20, 21]), jgh, jgh, jgh, jgh, jgh, jgh, jgh, jgh, (100, [], (jenc (jlg 0))), (100, [], (jenc (jlg 1))), (100, [], (jenc (jlg 2))), (100, [], (jenc (jlg 3))), (100, [], (jenc (jlg 4))), (100, [], (jenc (jlg 5))), (101, [], [-N - 1, r7, r8, 0, 0, 0])]) (c1 := 0) (s1 := 0) (c2 := 19) (s2 := 1064) (by exact rfl) ?_ (by omega) (by omega)
  refine jT_xaload_n (v := (4, 0)) (pcN := 25) jIQ_212_24 rfl rfl rfl ?_
  refine jT_xaload (v := (4, 22)) (pcN := 27) jIQ_212_25 rfl rfl rfl ?_
  refine jT_callA [0, 22, 2, 3, 4, 5, 6, 7, 1, 8, 9, 10, 11, 12, 13, 14, 15, 16, 17, 18, 19, 20, 21] (y := 213) (pcN := 30) (dC := 3) (bc1 := 19) (bc2 := 1064) (c1 := 0) (c2 := 0) (as := [(4, 0), (4, 22)]) (asC := [(4, 0), (4, 1)]) (LN := [(4, (4, 22)), (0, (4, 0)), (1, (4, 1)), (2, (1, N + 1))]) (stN := []) (hsC := [jzQ_371, (101, [], [-N - 1, r7, r8, 0, 0, 0]), jgh, jgh, jgh, jgh, jgh, (130, [], [17, 18, 19, 20, 21, 22]), jgh, jgh, jgh, jgh, jgh, jgh, jgh, jgh, jgh, (100, [], (jenc (jlg 0))), (100, [], (jenc (jlg 1))), (100, [], (jenc (jlg 2))), (100, [], (jenc (jlg 3))), (100, [], (jenc (jlg 4))), (100, [], (jenc (jlg 5)))]) (ex := []) (v := (0, (jlz (-N - 1) r7 r8 0 0 0).sign)) (st2 := [(0, (jlz (-N - 1) r7 r8 0 0 0).sign)]) (hs2 := [jzQ_378, (101, [], [0, r7, r8, 0, 0, 0]), jgh, jgh, jgh, jgh, jgh, (130, [], [16, 17, 18, 19, 20, 21]), jgh, jgh, jgh, jgh, jgh, jgh, jgh, jgh, (100, [], (jenc (jlg 0))), (100, [], (jenc (jlg 1))), (100, [], (jenc (jlg 2))), (100, [], (jenc (jlg 3))), (100, [], (jenc (jlg 4))), (100, [], (jenc (jlg 5))), (101, [], [-N - 1, r7, r8, 0, 0, 0])]) (jQl_sg_148 (d := 0) (e0 := -N - 1) (e1 := r7) (e2 := r8) (e3 := 0) (e4 := 0) (e5 := 0) (by omega) (by omega) (by omega) (by omega) (by omega) (by omega)) (by rfl) (by rfl) (by rfl) (by rfl) ⟨rfl, rfl, rfl, rfl, rfl, rfl, rfl, rfl, rfl, rfl, rfl, rfl, rfl, rfl, rfl, rfl, rfl, rfl, rfl, rfl, rfl, rfl, rfl, trivial⟩ (by rfl) (by rfl) (by omega) (by show 22 ≤ 23; omega) (by omega) (by omega) rfl rfl ?_
  have hb_q1 := jsgn_b (jlz (-N - 1) r7 r8 0 0 0)
  generalize hq_q1 : (jlz (-N - 1) r7 r8 0 0 0).sign = q1 at hb_q1 g_0 ⊢
  refine jT_loc (LN := [(0, (4, 0))]) (by show List.Nodup [0]; decide) (by intro q hq; simp only [List.mem_cons, List.not_mem_nil, or_false] at hq; rcases hq with rfl <;> rfl) ?_
  refine jT_drop 22 (hs0 := [jzQ_378, (101, [], [0, r7, r8, 0, 0, 0]), jgh, jgh, jgh, jgh, jgh, (130, [], [16, 17, 18, 19, 20, 21]), jgh, jgh, jgh, jgh, jgh, jgh, jgh, jgh, (100, [], (jenc (jlg 0))), (100, [], (jenc (jlg 1))), (100, [], (jenc (jlg 2))), (100, [], (jenc (jlg 3))), (100, [], (jenc (jlg 4))), (100, [], (jenc (jlg 5)))]) (ex := [(101, [], [-N - 1, r7, r8, 0, 0, 0])]) rfl rfl rfl (by decide) ?_
  subst hq_q1
  exact jT_ret rfl (by decide) (by show 22 ≤ 22; omega) (by omega) (by omega) ⟨rfl, rfl, rfl⟩
theorem jQ_212_167 {xs : List Int} {d : Nat} {N r7 r8 : Int} (h_N : (-1099511627776) ≤ N ∧ N ≤ 1099511627776) (h_r7 : (-20) ≤ r7 ∧ r7 ≤ 20) (h_r8 : (-10) ≤ r8 ∧ r8 ≤ 10) (g_0 : 0 ≤ (jlz (-N) r7 r8 0 0 0).sign) : jT xs (d + 4) 212 22 0 [(0, (4, 0)), (1, (4, 1)), (2, (1, N))] [] [jzQ_378, (101, [], [0, r7, r8, 0, 0, 0]), jgh, jgh, jgh, jgh, jgh, (130, [], [16, 17, 18, 19, 20, 21]), jgh, jgh, jgh, jgh, jgh, jgh, jgh, jgh, (100, [], (jenc (jlg 0))), (100, [], (jenc (jlg 1))), (100, [], (jenc (jlg 2))), (100, [], (jenc (jlg 3))), (100, [], (jenc (jlg 4))), (100, [], (jenc (jlg 5)))] 20 1070 (fun k v hsN => k = 0 ∧ v = (0, (jlz (-N) r7 r8 0 0 0).sign) ∧ hsN = [jzQ_378, (101, [], [0, r7, r8, 0, 0, 0]), jgh, jgh, jgh, jgh, jgh, (130, [], [16, 17, 18, 19, 20, 21]), jgh, jgh, jgh, jgh, jgh, jgh, jgh, jgh, (100, [], (jenc (jlg 0))), (100, [], (jenc (jlg 1))), (100, [], (jenc (jlg 2))), (100, [], (jenc (jlg 3))), (100, [], (jenc (jlg 4))), (100, [], (jenc (jlg 5)))] ++ []) := by
  refine jT_xbipush (k := 6) (pcN := 2) jIQ_212_0 (by decide) rfl ?_
  refine jT_adv 1 (pcN := 4) (LN := [(0, (4, 0)), (1, (4, 1)), (2, (1, N))]) (stN := [(4, 22)]) (hsN := [jzQ_378, (101, [], [0, r7, r8, 0, 0, 0]), jgh, jgh, jgh, jgh, jgh, (130, [], [16, 17, 18, 19, 20, 21]), jgh, jgh, jgh, jgh, jgh, jgh, jgh, jgh, (100, [], (jenc (jlg 0))), (100, [], (jenc (jlg 1))), (100, [], (jenc (jlg 2))), (100, [], (jenc (jlg 3))), (100, [], (jenc (jlg 4))), (100, [], (jenc (jlg 5))), (101, [], [0, 0, 0, 0, 0, 0])]) (c1 := 1) (s1 := 6) (c2 := 19) (s2 := 1064) (by exact rfl) ?_ (by omega) (by omega)
  refine jT_xastore (v := (4, 22)) (LN := [(4, (4, 22)), (0, (4, 0)), (1, (4, 1)), (2, (1, N))]) (pcN := 6) jIQ_212_4 rfl rfl rfl rfl ?_
  refine jT_xaload_n (v := (4, 1)) (pcN := 7) jIQ_212_6 rfl rfl rfl ?_
  refine jT_xiconst (k := 0) (pcN := 8) jIQ_212_7 rfl ?_
  refine jT_xaload (v := (4, 22)) (pcN := 10) jIQ_212_8 rfl rfl rfl ?_
  refine jT_xiconst (k := 0) (pcN := 11) jIQ_212_10 rfl ?_
  refine jT_xbipush (k := 6) (pcN := 13) jIQ_212_11 (by decide) rfl ?_
  refine jT_adv 1 (pcN := 16) (LN := [(4, (4, 22)), (0, (4, 0)), (1, (4, 1)), (2, (1, N))]) (stN := []) (hsN := [jzQ_378, (101, [], [0, r7, r8, 0, 0, 0]), jgh, jgh, jgh, jgh, jgh, (130, [], [16, 17, 18, 19, 20, 21]), jgh, jgh, jgh, jgh, jgh, jgh, jgh, jgh, (100, [], (jenc (jlg 0))), (100, [], (jenc (jlg 1))), (100, [], (jenc (jlg 2))), (100, [], (jenc (jlg 3))), (100, [], (jenc (jlg 4))), (100, [], (jenc (jlg 5))), (101, [], [0, r7, r8, 0, 0, 0])]) (c1 := 0) (s1 := 0) (c2 := 19) (s2 := 1064) (by exact rfl) ?_ (by omega) (by omega)
  refine jT_xaload (v := (4, 22)) (pcN := 18) jIQ_212_16 rfl rfl rfl ?_
  refine jT_xiconst (k := 0) (pcN := 19) jIQ_212_18 rfl ?_
  refine jT_adv 1 (pcN := 20) (LN := [(4, (4, 22)), (0, (4, 0)), (1, (4, 1)), (2, (1, N))]) (stN := [(0, 0), (4, 22), (0, 0), (4, 22)]) (hsN := [jzQ_378, (101, [], [0, r7, r8, 0, 0, 0]), jgh, jgh, jgh, jgh, jgh, (130, [], [16, 17, 18, 19, 20, 21]), jgh, jgh, jgh, jgh, jgh, jgh, jgh, jgh, (100, [], (jenc (jlg 0))), (100, [], (jenc (jlg 1))), (100, [], (jenc (jlg 2))), (100, [], (jenc (jlg 3))), (100, [], (jenc (jlg 4))), (100, [], (jenc (jlg 5))), (101, [], [0, r7, r8, 0, 0, 0])]) (c1 := 0) (s1 := 0) (c2 := 19) (s2 := 1064) (by exact rfl) ?_ (by omega) (by omega)
  refine jT_lald (x := 0) (a := 22) (j := 0) (fs := []) (X := [0, r7, r8, 0, 0, 0]) jIQ_212_20 rfl rfl rfl rfl ?_
  refine jT_eq (LN := [(4, (4, 22)), (0, (4, 0)), (1, (4, 1)), (2, (1, N))]) (stN := [(1, 0), (0, 0), (4, 22)]) (hsN := [jzQ_378, (101, [], [0, r7, r8, 0, 0, 0]), jgh, jgh, jgh, jgh, jgh, (130, [], [16, 17, 18, 19, 20, 21]), jgh, jgh, jgh, jgh, jgh, jgh, jgh, jgh, (100, [], (jenc (jlg 0))), (100, [], (jenc (jlg 1))), (100, [], (jenc (jlg 2))), (100, [], (jenc (jlg 3))), (100, [], (jenc (jlg 4))), (100, [], (jenc (jlg 5))), (101, [], [0, r7, r8, 0, 0, 0])]) rfl rfl rfl ?_
  refine jT_xlload_n (v := (1, N)) (pcN := 22) jIQ_212_21 rfl rfl rfl ?_
  refine jT_xlsub (x := 0) (y := N) (z := -N) (pcN := 23) jIQ_212_22 rfl (by omega) rfl ?_
  refine jT_adv 1 (pcN := 24) (LN := [(4, (4, 22)), (0, (4, 0)), (1, (4, 1)), (2, (1, N))]) (stN := []) (hsN := [jzQ_378, (101, [], [0, r7, r8, 0, 0, 0]), jgh, jgh, jgh, jgh, jgh, (130, [], [16, 17, 18, 19, 20, 21]), jgh, jgh, jgh, jgh, jgh, jgh, jgh, jgh, (100, [], (jenc (jlg 0))), (100, [], (jenc (jlg 1))), (100, [], (jenc (jlg 2))), (100, [], (jenc (jlg 3))), (100, [], (jenc (jlg 4))), (100, [], (jenc (jlg 5))), (101, [], [-N, r7, r8, 0, 0, 0])]) (c1 := 0) (s1 := 0) (c2 := 19) (s2 := 1064) (by exact rfl) ?_ (by omega) (by omega)
  refine jT_xaload_n (v := (4, 0)) (pcN := 25) jIQ_212_24 rfl rfl rfl ?_
  refine jT_xaload (v := (4, 22)) (pcN := 27) jIQ_212_25 rfl rfl rfl ?_
  refine jT_callA [0, 22, 2, 3, 4, 5, 6, 7, 1, 8, 9, 10, 11, 12, 13, 14, 15, 16, 17, 18, 19, 20, 21] (y := 213) (pcN := 30) (dC := 3) (bc1 := 19) (bc2 := 1064) (c1 := 0) (c2 := 0) (as := [(4, 0), (4, 22)]) (asC := [(4, 0), (4, 1)]) (LN := [(4, (4, 22)), (0, (4, 0)), (1, (4, 1)), (2, (1, N))]) (stN := []) (hsC := [jzQ_371, (101, [], [-N, r7, r8, 0, 0, 0]), jgh, jgh, jgh, jgh, jgh, (130, [], [17, 18, 19, 20, 21, 22]), jgh, jgh, jgh, jgh, jgh, jgh, jgh, jgh, jgh, (100, [], (jenc (jlg 0))), (100, [], (jenc (jlg 1))), (100, [], (jenc (jlg 2))), (100, [], (jenc (jlg 3))), (100, [], (jenc (jlg 4))), (100, [], (jenc (jlg 5)))]) (ex := []) (v := (0, (jlz (-N) r7 r8 0 0 0).sign)) (st2 := [(0, (jlz (-N) r7 r8 0 0 0).sign)]) (hs2 := [jzQ_378, (101, [], [0, r7, r8, 0, 0, 0]), jgh, jgh, jgh, jgh, jgh, (130, [], [16, 17, 18, 19, 20, 21]), jgh, jgh, jgh, jgh, jgh, jgh, jgh, jgh, (100, [], (jenc (jlg 0))), (100, [], (jenc (jlg 1))), (100, [], (jenc (jlg 2))), (100, [], (jenc (jlg 3))), (100, [], (jenc (jlg 4))), (100, [], (jenc (jlg 5))), (101, [], [-N, r7, r8, 0, 0, 0])]) (jQl_sg_148 (d := 0) (e0 := -N) (e1 := r7) (e2 := r8) (e3 := 0) (e4 := 0) (e5 := 0) (by omega) (by omega) (by omega) (by omega) (by omega) (by omega)) (by rfl) (by rfl) (by rfl) (by rfl) ⟨rfl, rfl, rfl, rfl, rfl, rfl, rfl, rfl, rfl, rfl, rfl, rfl, rfl, rfl, rfl, rfl, rfl, rfl, rfl, rfl, rfl, rfl, rfl, trivial⟩ (by rfl) (by rfl) (by omega) (by show 22 ≤ 23; omega) (by omega) (by omega) rfl rfl ?_
  have hb_q1 := jsgn_b (jlz (-N) r7 r8 0 0 0)
  generalize hq_q1 : (jlz (-N) r7 r8 0 0 0).sign = q1 at hb_q1 g_0 ⊢
  refine jT_loc (LN := [(0, (4, 0))]) (by show List.Nodup [0]; decide) (by intro q hq; simp only [List.mem_cons, List.not_mem_nil, or_false] at hq; rcases hq with rfl <;> rfl) ?_
  refine jT_drop 22 (hs0 := [jzQ_378, (101, [], [0, r7, r8, 0, 0, 0]), jgh, jgh, jgh, jgh, jgh, (130, [], [16, 17, 18, 19, 20, 21]), jgh, jgh, jgh, jgh, jgh, jgh, jgh, jgh, (100, [], (jenc (jlg 0))), (100, [], (jenc (jlg 1))), (100, [], (jenc (jlg 2))), (100, [], (jenc (jlg 3))), (100, [], (jenc (jlg 4))), (100, [], (jenc (jlg 5)))]) (ex := [(101, [], [-N, r7, r8, 0, 0, 0])]) rfl rfl rfl (by decide) ?_
  subst hq_q1
  exact jT_ret rfl (by decide) (by show 22 ≤ 22; omega) (by omega) (by omega) ⟨rfl, rfl, rfl⟩
theorem jIQ_210_31 : jmI (jm 210) 31 = (.aload_n 0, 1) := by rfl
theorem jIQ_210_32 : jmI (jm 210) 32 = (.aload_n 1, 1) := by rfl
theorem jIQ_210_33 : jmI (jm 210) 33 = (.lload 4, 2) := by rfl
theorem jIQ_210_35 : jmI (jm 210) 35 = (.lconst 1, 1) := by rfl
theorem jIQ_210_36 : jmI (jm 210) 36 = (.ladd, 1) := by rfl
theorem jIQ_210_37 : jmI (jm 210) 37 = (.lload_n 2, 1) := by rfl
theorem jIQ_210_38 : jmI (jm 210) 38 = (.lmul, 1) := by rfl
theorem jIQ_210_42 : jmI (jm 210) 42 = (.ifCond .lt 12, 3) := by rfl
theorem jIQ_210_54 : jmI (jm 210) 54 = (.lload 4, 2) := by rfl
theorem jQ_212_168 {xs : List Int} {d : Nat} {N r7 r8 : Int} (h_N : (-1099511627776) ≤ N ∧ N ≤ 1099511627776) (h_r7 : (-20) ≤ r7 ∧ r7 ≤ 20) (h_r8 : (-10) ≤ r8 ∧ r8 ≤ 10) (g_0 : 0 ≤ (jlz (-N) r7 r8 0 0 0).sign) (g_1 : (jlz (-N - 1) r7 r8 0 0 0).sign < 0) : jT xs (d + 4) 212 22 0 [(0, (4, 0)), (1, (4, 1)), (2, (1, N))] [] [jzQ_378, (101, [], [0, r7, r8, 0, 0, 0]), jgh, jgh, jgh, jgh, jgh, (130, [], [16, 17, 18, 19, 20, 21]), jgh, jgh, jgh, jgh, jgh, jgh, jgh, jgh, (100, [], (jenc (jlg 0))), (100, [], (jenc (jlg 1))), (100, [], (jenc (jlg 2))), (100, [], (jenc (jlg 3))), (100, [], (jenc (jlg 4))), (100, [], (jenc (jlg 5)))] 20 1070 (fun k v hsN => k = 0 ∧ v = (0, (jlz (-N) r7 r8 0 0 0).sign) ∧ hsN = [jzQ_378, (101, [], [0, r7, r8, 0, 0, 0]), jgh, jgh, jgh, jgh, jgh, (130, [], [16, 17, 18, 19, 20, 21]), jgh, jgh, jgh, jgh, jgh, jgh, jgh, jgh, (100, [], (jenc (jlg 0))), (100, [], (jenc (jlg 1))), (100, [], (jenc (jlg 2))), (100, [], (jenc (jlg 3))), (100, [], (jenc (jlg 4))), (100, [], (jenc (jlg 5)))] ++ []) := by
  refine jT_xbipush (k := 6) (pcN := 2) jIQ_212_0 (by decide) rfl ?_
  refine jT_adv 1 (pcN := 4) (LN := [(0, (4, 0)), (1, (4, 1)), (2, (1, N))]) (stN := [(4, 22)]) (hsN := [jzQ_378, (101, [], [0, r7, r8, 0, 0, 0]), jgh, jgh, jgh, jgh, jgh, (130, [], [16, 17, 18, 19, 20, 21]), jgh, jgh, jgh, jgh, jgh, jgh, jgh, jgh, (100, [], (jenc (jlg 0))), (100, [], (jenc (jlg 1))), (100, [], (jenc (jlg 2))), (100, [], (jenc (jlg 3))), (100, [], (jenc (jlg 4))), (100, [], (jenc (jlg 5))), (101, [], [0, 0, 0, 0, 0, 0])]) (c1 := 1) (s1 := 6) (c2 := 19) (s2 := 1064) (by exact rfl) ?_ (by omega) (by omega)
  refine jT_xastore (v := (4, 22)) (LN := [(4, (4, 22)), (0, (4, 0)), (1, (4, 1)), (2, (1, N))]) (pcN := 6) jIQ_212_4 rfl rfl rfl rfl ?_
  refine jT_xaload_n (v := (4, 1)) (pcN := 7) jIQ_212_6 rfl rfl rfl ?_
  refine jT_xiconst (k := 0) (pcN := 8) jIQ_212_7 rfl ?_
  refine jT_xaload (v := (4, 22)) (pcN := 10) jIQ_212_8 rfl rfl rfl ?_
  refine jT_xiconst (k := 0) (pcN := 11) jIQ_212_10 rfl ?_
  refine jT_xbipush (k := 6) (pcN := 13) jIQ_212_11 (by decide) rfl ?_
  refine jT_adv 1 (pcN := 16) (LN := [(4, (4, 22)), (0, (4, 0)), (1, (4, 1)), (2, (1, N))]) (stN := []) (hsN := [jzQ_378, (101, [], [0, r7, r8, 0, 0, 0]), jgh, jgh, jgh, jgh, jgh, (130, [], [16, 17, 18, 19, 20, 21]), jgh, jgh, jgh, jgh, jgh, jgh, jgh, jgh, (100, [], (jenc (jlg 0))), (100, [], (jenc (jlg 1))), (100, [], (jenc (jlg 2))), (100, [], (jenc (jlg 3))), (100, [], (jenc (jlg 4))), (100, [], (jenc (jlg 5))), (101, [], [0, r7, r8, 0, 0, 0])]) (c1 := 0) (s1 := 0) (c2 := 19) (s2 := 1064) (by exact rfl) ?_ (by omega) (by omega)
  refine jT_xaload (v := (4, 22)) (pcN := 18) jIQ_212_16 rfl rfl rfl ?_
  refine jT_xiconst (k := 0) (pcN := 19) jIQ_212_18 rfl ?_
  refine jT_adv 1 (pcN := 20) (LN := [(4, (4, 22)), (0, (4, 0)), (1, (4, 1)), (2, (1, N))]) (stN := [(0, 0), (4, 22), (0, 0), (4, 22)]) (hsN := [jzQ_378, (101, [], [0, r7, r8, 0, 0, 0]), jgh, jgh, jgh, jgh, jgh, (130, [], [16, 17, 18, 19, 20, 21]), jgh, jgh, jgh, jgh, jgh, jgh, jgh, jgh, (100, [], (jenc (jlg 0))), (100, [], (jenc (jlg 1))), (100, [], (jenc (jlg 2))), (100, [], (jenc (jlg 3))), (100, [], (jenc (jlg 4))), (100, [], (jenc (jlg 5))), (101, [], [0, r7, r8, 0, 0, 0])]) (c1 := 0) (s1 := 0) (c2 := 19) (s2 := 1064) (by exact rfl) ?_ (by omega) (by omega)
  refine jT_lald (x := 0) (a := 22) (j := 0) (fs := []) (X := [0, r7, r8, 0, 0, 0]) jIQ_212_20 rfl rfl rfl rfl ?_
  refine jT_eq (LN := [(4, (4, 22)), (0, (4, 0)), (1, (4, 1)), (2, (1, N))]) (stN := [(1, 0), (0, 0), (4, 22)]) (hsN := [jzQ_378, (101, [], [0, r7, r8, 0, 0, 0]), jgh, jgh, jgh, jgh, jgh, (130, [], [16, 17, 18, 19, 20, 21]), jgh, jgh, jgh, jgh, jgh, jgh, jgh, jgh, (100, [], (jenc (jlg 0))), (100, [], (jenc (jlg 1))), (100, [], (jenc (jlg 2))), (100, [], (jenc (jlg 3))), (100, [], (jenc (jlg 4))), (100, [], (jenc (jlg 5))), (101, [], [0, r7, r8, 0, 0, 0])]) rfl rfl rfl ?_
  refine jT_xlload_n (v := (1, N)) (pcN := 22) jIQ_212_21 rfl rfl rfl ?_
  refine jT_xlsub (x := 0) (y := N) (z := -N) (pcN := 23) jIQ_212_22 rfl (by omega) rfl ?_
  refine jT_adv 1 (pcN := 24) (LN := [(4, (4, 22)), (0, (4, 0)), (1, (4, 1)), (2, (1, N))]) (stN := []) (hsN := [jzQ_378, (101, [], [0, r7, r8, 0, 0, 0]), jgh, jgh, jgh, jgh, jgh, (130, [], [16, 17, 18, 19, 20, 21]), jgh, jgh, jgh, jgh, jgh, jgh, jgh, jgh, (100, [], (jenc (jlg 0))), (100, [], (jenc (jlg 1))), (100, [], (jenc (jlg 2))), (100, [], (jenc (jlg 3))), (100, [], (jenc (jlg 4))), (100, [], (jenc (jlg 5))), (101, [], [-N, r7, r8, 0, 0, 0])]) (c1 := 0) (s1 := 0) (c2 := 19) (s2 := 1064) (by exact rfl) ?_ (by omega) (by omega)
  refine jT_xaload_n (v := (4, 0)) (pcN := 25) jIQ_212_24 rfl rfl rfl ?_
  refine jT_xaload (v := (4, 22)) (pcN := 27) jIQ_212_25 rfl rfl rfl ?_
  refine jT_callA [0, 22, 2, 3, 4, 5, 6, 7, 1, 8, 9, 10, 11, 12, 13, 14, 15, 16, 17, 18, 19, 20, 21] (y := 213) (pcN := 30) (dC := 3) (bc1 := 19) (bc2 := 1064) (c1 := 0) (c2 := 0) (as := [(4, 0), (4, 22)]) (asC := [(4, 0), (4, 1)]) (LN := [(4, (4, 22)), (0, (4, 0)), (1, (4, 1)), (2, (1, N))]) (stN := []) (hsC := [jzQ_371, (101, [], [-N, r7, r8, 0, 0, 0]), jgh, jgh, jgh, jgh, jgh, (130, [], [17, 18, 19, 20, 21, 22]), jgh, jgh, jgh, jgh, jgh, jgh, jgh, jgh, jgh, (100, [], (jenc (jlg 0))), (100, [], (jenc (jlg 1))), (100, [], (jenc (jlg 2))), (100, [], (jenc (jlg 3))), (100, [], (jenc (jlg 4))), (100, [], (jenc (jlg 5)))]) (ex := []) (v := (0, (jlz (-N) r7 r8 0 0 0).sign)) (st2 := [(0, (jlz (-N) r7 r8 0 0 0).sign)]) (hs2 := [jzQ_378, (101, [], [0, r7, r8, 0, 0, 0]), jgh, jgh, jgh, jgh, jgh, (130, [], [16, 17, 18, 19, 20, 21]), jgh, jgh, jgh, jgh, jgh, jgh, jgh, jgh, (100, [], (jenc (jlg 0))), (100, [], (jenc (jlg 1))), (100, [], (jenc (jlg 2))), (100, [], (jenc (jlg 3))), (100, [], (jenc (jlg 4))), (100, [], (jenc (jlg 5))), (101, [], [-N, r7, r8, 0, 0, 0])]) (jQl_sg_148 (d := 0) (e0 := -N) (e1 := r7) (e2 := r8) (e3 := 0) (e4 := 0) (e5 := 0) (by omega) (by omega) (by omega) (by omega) (by omega) (by omega)) (by rfl) (by rfl) (by rfl) (by rfl) ⟨rfl, rfl, rfl, rfl, rfl, rfl, rfl, rfl, rfl, rfl, rfl, rfl, rfl, rfl, rfl, rfl, rfl, rfl, rfl, rfl, rfl, rfl, rfl, trivial⟩ (by rfl) (by rfl) (by omega) (by show 22 ≤ 23; omega) (by omega) (by omega) rfl rfl ?_
  have hb_q1 := jsgn_b (jlz (-N) r7 r8 0 0 0)
  generalize hq_q1 : (jlz (-N) r7 r8 0 0 0).sign = q1 at hb_q1 g_0 ⊢
  refine jT_loc (LN := [(0, (4, 0))]) (by show List.Nodup [0]; decide) (by intro q hq; simp only [List.mem_cons, List.not_mem_nil, or_false] at hq; rcases hq with rfl <;> rfl) ?_
  refine jT_drop 22 (hs0 := [jzQ_378, (101, [], [0, r7, r8, 0, 0, 0]), jgh, jgh, jgh, jgh, jgh, (130, [], [16, 17, 18, 19, 20, 21]), jgh, jgh, jgh, jgh, jgh, jgh, jgh, jgh, (100, [], (jenc (jlg 0))), (100, [], (jenc (jlg 1))), (100, [], (jenc (jlg 2))), (100, [], (jenc (jlg 3))), (100, [], (jenc (jlg 4))), (100, [], (jenc (jlg 5)))]) (ex := [(101, [], [-N, r7, r8, 0, 0, 0])]) rfl rfl rfl (by decide) ?_
  subst hq_q1
  exact jT_ret rfl (by decide) (by show 22 ≤ 22; omega) (by omega) (by omega) ⟨rfl, rfl, rfl⟩
theorem jQl_pc_147 {xs : List Int} {d : Nat} {r7 r8 : Int} (h_r7 : (-20) ≤ r7 ∧ r7 ≤ 20) (h_r8 : (-10) ≤ r8 ∧ r8 ≤ 10) {N d1 d2 d3 d4 d5 d6 d7 d8 d9 d10 d11 : Int} (fd1 : ((FP.l2d (Int64.ofInt r7)).toNat : Int) = d1) (fd2 : jn64 (FP.dmul (ju64 4609816855700290920) (ju64 d1)) = true ∧ ((FP.dmul (ju64 4609816855700290920) (ju64 d1)).toNat : Int) = d2) (fd3 : jn64 (FP.dadd (ju64 0) (ju64 d2)) = true ∧ ((FP.dadd (ju64 0) (ju64 d2)).toNat : Int) = d3) (fd4 : ((FP.l2d (Int64.ofInt r8)).toNat : Int) = d4) (fd5 : jn64 (FP.dmul (ju64 4612410936051475313) (ju64 d4)) = true ∧ ((FP.dmul (ju64 4612410936051475313) (ju64 d4)).toNat : Int) = d5) (fd6 : jn64 (FP.dadd (ju64 d3) (ju64 d5)) = true ∧ ((FP.dadd (ju64 d3) (ju64 d5)).toNat : Int) = d6) (fd7 : jn64 (FP.dadd (ju64 d6) (ju64 0)) = true ∧ ((FP.dadd (ju64 d6) (ju64 0)).toNat : Int) = d7) (fd8 : jn64 (FP.dadd (ju64 d7) (ju64 0)) = true ∧ ((FP.dadd (ju64 d7) (ju64 0)).toNat : Int) = d8) (fd9 : jn64 (FP.dadd (ju64 d8) (ju64 0)) = true ∧ ((FP.dadd (ju64 d8) (ju64 0)).toNat : Int) = d9) (fd10 : jn64 (FP.ddiv (ju64 d9) (ju64 4607182418800017408)) = true ∧ ((FP.ddiv (ju64 d9) (ju64 4607182418800017408)).toNat : Int) = d10) (fd11 : (FP.d2l (ju64 d10)).toInt = d11) (h_N : (-1099511627776) ≤ N ∧ N ≤ 1099511627776) (h1 : N ≤ d11) (h2 : d11 ≤ N + 1) (hA : 0 ≤ jlz (-N) r7 r8 0 0 0) (hB : jlz (-N - 1) r7 r8 0 0 0 < 0) : jT xs (d + 5) 210 22 0 [(0, (4, 0)), (1, (4, 1)), (2, (1, 1))] [] [jzQ_378, (101, [], [0, r7, r8, 0, 0, 0]), jgh, jgh, jgh, jgh, jgh, (130, [], [16, 17, 18, 19, 20, 21]), jgh, jgh, jgh, jgh, jgh, jgh, jgh, jgh, (100, [], (jenc (jlg 0))), (100, [], (jenc (jlg 1))), (100, [], (jenc (jlg 2))), (100, [], (jenc (jlg 3))), (100, [], (jenc (jlg 4))), (100, [], (jenc (jlg 5)))] 60 3210 (fun k v hsN => k = 0 ∧ v = (1, N) ∧ hsN = [jzQ_378, (101, [], [0, r7, r8, 0, 0, 0]), jgh, jgh, jgh, jgh, jgh, (130, [], [16, 17, 18, 19, 20, 21]), jgh, jgh, jgh, jgh, jgh, jgh, jgh, jgh, (100, [], (jenc (jlg 0))), (100, [], (jenc (jlg 1))), (100, [], (jenc (jlg 2))), (100, [], (jenc (jlg 3))), (100, [], (jenc (jlg 4))), (100, [], (jenc (jlg 5)))]) := by
  rcases (show d11 = N + 1 ∨ d11 = N by omega) with g_n | g_n
  · have g_0 : (jlz (-N - 1) r7 r8 0 0 0).sign < 0 := jsgn_n (Int.lt_of_le_of_lt (jlz_mono (by omega)) hB)
    have g_1 : 0 ≤ (jlz (-N) r7 r8 0 0 0).sign := jsgn_p (Int.le_trans hA (jlz_mono (by omega)))
    refine jT_xaload_n (v := (4, 1)) (pcN := 1) jIQ_210_0 rfl rfl rfl ?_
    refine jT_callA [1] (y := 211) (pcN := 4) (dC := 0) (bc1 := 0) (bc2 := 0) (c1 := 60) (c2 := 3210) (as := [(4, 1)]) (asC := [(4, 0)]) (LN := [(0, (4, 0)), (1, (4, 1)), (2, (1, 1))]) (stN := []) (hsC := [(101, [], [0, r7, r8, 0, 0, 0])]) (ex := []) (v := (3, d9)) (st2 := [(3, d9)]) (hs2 := [jzQ_378, (101, [], [0, r7, r8, 0, 0, 0]), jgh, jgh, jgh, jgh, jgh, (130, [], [16, 17, 18, 19, 20, 21]), jgh, jgh, jgh, jgh, jgh, jgh, jgh, jgh, (100, [], (jenc (jlg 0))), (100, [], (jenc (jlg 1))), (100, [], (jenc (jlg 2))), (100, [], (jenc (jlg 3))), (100, [], (jenc (jlg 4))), (100, [], (jenc (jlg 5)))]) (jQl_ro_146 (d := 0) (by omega) (by omega) fd1 fd2 fd3 fd4 fd5 fd6 fd7 fd8 fd9) (by rfl) (by rfl) (by rfl) (by rfl) ⟨rfl, trivial⟩ (by rfl) (by rfl) (by omega) (by show 22 ≤ 22; omega) (by omega) (by omega) rfl rfl ?_
    refine jT_xlload_n (v := (1, 1)) (pcN := 5) jIQ_210_4 rfl rfl rfl ?_
    refine jT_l2d (x := 1) (z := 4607182418800017408) (by rfl) (by rfl) (by decide +kernel) ?_
    refine jT_ddiv (x := d9) (y := 4607182418800017408) (z := d10) (by rfl) (by rfl) fd10 ?_
    refine jT_d2l (x := d10) (z := d11) (by rfl) (by rfl) fd11 ?_
    refine jT_xlstore (v := (1, d11)) (LN := [(4, (1, d11)), (0, (4, 0)), (1, (4, 1)), (2, (1, 1))]) (pcN := 10) jIQ_210_8 rfl rfl rfl rfl ?_
    refine jT_eq (LN := [(4, (1, N + 1)), (0, (4, 0)), (1, (4, 1)), (2, (1, 1))]) (stN := []) (hsN := [jzQ_378, (101, [], [0, r7, r8, 0, 0, 0]), jgh, jgh, jgh, jgh, jgh, (130, [], [16, 17, 18, 19, 20, 21]), jgh, jgh, jgh, jgh, jgh, jgh, jgh, jgh, (100, [], (jenc (jlg 0))), (100, [], (jenc (jlg 1))), (100, [], (jenc (jlg 2))), (100, [], (jenc (jlg 3))), (100, [], (jenc (jlg 4))), (100, [], (jenc (jlg 5)))]) (by rw [g_n]) rfl rfl ?_
    refine jT_xaload_n (v := (4, 0)) (pcN := 11) jIQ_210_10 rfl rfl rfl ?_
    refine jT_xaload_n (v := (4, 1)) (pcN := 12) jIQ_210_11 rfl rfl rfl ?_
    refine jT_xlload (v := (1, N + 1)) (pcN := 14) jIQ_210_12 rfl rfl rfl ?_
    refine jT_xlload_n (v := (1, 1)) (pcN := 15) jIQ_210_14 rfl rfl rfl ?_
    refine jT_xlmul (x := N + 1) (y := 1) (z := N + 1) (pcN := 16) jIQ_210_15 rfl (by omega) rfl ?_
    refine jT_callA [0, 1, 2, 3, 4, 5, 6, 7, 8, 9, 10, 11, 12, 13, 14, 15, 16, 17, 18, 19, 20, 21] (y := 212) (pcN := 19) (dC := 4) (bc1 := 20) (bc2 := 1070) (c1 := 40) (c2 := 2140) (as := [(4, 0), (4, 1), (1, N + 1)]) (asC := [(4, 0), (4, 1), (1, N + 1)]) (LN := [(4, (1, N + 1)), (0, (4, 0)), (1, (4, 1)), (2, (1, 1))]) (stN := []) (hsC := [jzQ_378, (101, [], [0, r7, r8, 0, 0, 0]), jgh, jgh, jgh, jgh, jgh, (130, [], [16, 17, 18, 19, 20, 21]), jgh, jgh, jgh, jgh, jgh, jgh, jgh, jgh, (100, [], (jenc (jlg 0))), (100, [], (jenc (jlg 1))), (100, [], (jenc (jlg 2))), (100, [], (jenc (jlg 3))), (100, [], (jenc (jlg 4))), (100, [], (jenc (jlg 5)))]) (ex := []) (v := (0, (jlz (-N - 1) r7 r8 0 0 0).sign)) (st2 := [(0, (jlz (-N - 1) r7 r8 0 0 0).sign)]) (hs2 := [jzQ_378, (101, [], [0, r7, r8, 0, 0, 0]), jgh, jgh, jgh, jgh, jgh, (130, [], [16, 17, 18, 19, 20, 21]), jgh, jgh, jgh, jgh, jgh, jgh, jgh, jgh, (100, [], (jenc (jlg 0))), (100, [], (jenc (jlg 1))), (100, [], (jenc (jlg 2))), (100, [], (jenc (jlg 3))), (100, [], (jenc (jlg 4))), (100, [], (jenc (jlg 5)))]) (jQ_212_166 (d := 0) (by omega) (by omega) (by omega) (by omega) (by omega)) (by rfl) (by rfl) (by rfl) (by rfl) ⟨rfl, rfl, rfl, rfl, rfl, rfl, rfl, rfl, rfl, rfl, rfl, rfl, rfl, rfl, rfl, rfl, rfl, rfl, rfl, rfl, rfl, rfl, trivial⟩ (by rfl) (by rfl) (by omega) (by show 22 ≤ 22; omega) (by omega) (by omega) rfl rfl ?_
    have hb_q1 := jsgn_b (jlz (-N - 1) r7 r8 0 0 0)
    generalize hq_q1 : (jlz (-N - 1) r7 r8 0 0 0).sign = q1 at hb_q1 g_0 ⊢
    refine jT_ifF (a := q1) (t := 31) (by rfl) (by rfl) (by rfl) (jw_idd (by omega) (by omega)) (by simp only [jcP] <;> omega) ?_
    refine jT_xlload (v := (1, N + 1)) (pcN := 24) jIQ_210_22 rfl rfl rfl ?_
    refine jT_xlconst (z := 1) (pcN := 25) jIQ_210_24 rfl rfl ?_
    refine jT_xlsub (x := N + 1) (y := 1) (z := N) (pcN := 26) jIQ_210_25 rfl (by omega) rfl ?_
    refine jT_xlstore (v := (1, N)) (LN := [(4, (1, N)), (0, (4, 0)), (1, (4, 1)), (2, (1, 1))]) (pcN := 28) jIQ_210_26 rfl rfl rfl rfl ?_
    refine jT_xgoto (pcN := 10) jIQ_210_28 rfl ?_
    refine jT_xaload_n (v := (4, 0)) (pcN := 11) jIQ_210_10 rfl rfl rfl ?_
    refine jT_xaload_n (v := (4, 1)) (pcN := 12) jIQ_210_11 rfl rfl rfl ?_
    refine jT_xlload (v := (1, N)) (pcN := 14) jIQ_210_12 rfl rfl rfl ?_
    refine jT_xlload_n (v := (1, 1)) (pcN := 15) jIQ_210_14 rfl rfl rfl ?_
    refine jT_xlmul (x := N) (y := 1) (z := N) (pcN := 16) jIQ_210_15 rfl (by omega) rfl ?_
    refine jT_callA [0, 1, 2, 3, 4, 5, 6, 7, 8, 9, 10, 11, 12, 13, 14, 15, 16, 17, 18, 19, 20, 21] (y := 212) (pcN := 19) (dC := 4) (bc1 := 20) (bc2 := 1070) (c1 := 20) (c2 := 1070) (as := [(4, 0), (4, 1), (1, N)]) (asC := [(4, 0), (4, 1), (1, N)]) (LN := [(4, (1, N)), (0, (4, 0)), (1, (4, 1)), (2, (1, 1))]) (stN := []) (hsC := [jzQ_378, (101, [], [0, r7, r8, 0, 0, 0]), jgh, jgh, jgh, jgh, jgh, (130, [], [16, 17, 18, 19, 20, 21]), jgh, jgh, jgh, jgh, jgh, jgh, jgh, jgh, (100, [], (jenc (jlg 0))), (100, [], (jenc (jlg 1))), (100, [], (jenc (jlg 2))), (100, [], (jenc (jlg 3))), (100, [], (jenc (jlg 4))), (100, [], (jenc (jlg 5)))]) (ex := []) (v := (0, (jlz (-N) r7 r8 0 0 0).sign)) (st2 := [(0, (jlz (-N) r7 r8 0 0 0).sign)]) (hs2 := [jzQ_378, (101, [], [0, r7, r8, 0, 0, 0]), jgh, jgh, jgh, jgh, jgh, (130, [], [16, 17, 18, 19, 20, 21]), jgh, jgh, jgh, jgh, jgh, jgh, jgh, jgh, (100, [], (jenc (jlg 0))), (100, [], (jenc (jlg 1))), (100, [], (jenc (jlg 2))), (100, [], (jenc (jlg 3))), (100, [], (jenc (jlg 4))), (100, [], (jenc (jlg 5)))]) (jQ_212_167 (d := 0) (by omega) (by omega) (by omega) (by omega)) (by rfl) (by rfl) (by rfl) (by rfl) ⟨rfl, rfl, rfl, rfl, rfl, rfl, rfl, rfl, rfl, rfl, rfl, rfl, rfl, rfl, rfl, rfl, rfl, rfl, rfl, rfl, rfl, rfl, trivial⟩ (by rfl) (by rfl) (by omega) (by show 22 ≤ 22; omega) (by omega) (by omega) rfl rfl ?_
    have hb_q2 := jsgn_b (jlz (-N) r7 r8 0 0 0)
    generalize hq_q2 : (jlz (-N) r7 r8 0 0 0).sign = q2 at hb_q2 g_1 ⊢
    refine jT_ifT (a := q2) (t := 31) (by rfl) (by rfl) (by rfl) (jw_idd (by omega) (by omega)) (by simp only [jcP] <;> omega) ?_
    refine jT_xaload_n (v := (4, 0)) (pcN := 32) jIQ_210_31 rfl rfl rfl ?_
    refine jT_xaload_n (v := (4, 1)) (pcN := 33) jIQ_210_32 rfl rfl rfl ?_
    refine jT_xlload (v := (1, N)) (pcN := 35) jIQ_210_33 rfl rfl rfl ?_
    refine jT_xlconst (z := 1) (pcN := 36) jIQ_210_35 rfl rfl ?_
    refine jT_xladd (x := N) (y := 1) (z := N + 1) (pcN := 37) jIQ_210_36 rfl (rfl) rfl ?_
    refine jT_xlload_n (v := (1, 1)) (pcN := 38) jIQ_210_37 rfl rfl rfl ?_
    refine jT_xlmul (x := N + 1) (y := 1) (z := N + 1) (pcN := 39) jIQ_210_38 rfl (by omega) rfl ?_
    refine jT_callA [0, 1, 2, 3, 4, 5, 6, 7, 8, 9, 10, 11, 12, 13, 14, 15, 16, 17, 18, 19, 20, 21] (y := 212) (pcN := 42) (dC := 4) (bc1 := 20) (bc2 := 1070) (c1 := 0) (c2 := 0) (as := [(4, 0), (4, 1), (1, N + 1)]) (asC := [(4, 0), (4, 1), (1, N + 1)]) (LN := [(4, (1, N)), (0, (4, 0)), (1, (4, 1)), (2, (1, 1))]) (stN := []) (hsC := [jzQ_378, (101, [], [0, r7, r8, 0, 0, 0]), jgh, jgh, jgh, jgh, jgh, (130, [], [16, 17, 18, 19, 20, 21]), jgh, jgh, jgh, jgh, jgh, jgh, jgh, jgh, (100, [], (jenc (jlg 0))), (100, [], (jenc (jlg 1))), (100, [], (jenc (jlg 2))), (100, [], (jenc (jlg 3))), (100, [], (jenc (jlg 4))), (100, [], (jenc (jlg 5)))]) (ex := []) (v := (0, (jlz (-N - 1) r7 r8 0 0 0).sign)) (st2 := [(0, (jlz (-N - 1) r7 r8 0 0 0).sign)]) (hs2 := [jzQ_378, (101, [], [0, r7, r8, 0, 0, 0]), jgh, jgh, jgh, jgh, jgh, (130, [], [16, 17, 18, 19, 20, 21]), jgh, jgh, jgh, jgh, jgh, jgh, jgh, jgh, (100, [], (jenc (jlg 0))), (100, [], (jenc (jlg 1))), (100, [], (jenc (jlg 2))), (100, [], (jenc (jlg 3))), (100, [], (jenc (jlg 4))), (100, [], (jenc (jlg 5)))]) (jQ_212_163 (d := 0) (by omega) (by omega) (by omega)) (by rfl) (by rfl) (by rfl) (by rfl) ⟨rfl, rfl, rfl, rfl, rfl, rfl, rfl, rfl, rfl, rfl, rfl, rfl, rfl, rfl, rfl, rfl, rfl, rfl, rfl, rfl, rfl, rfl, trivial⟩ (by rfl) (by rfl) (by omega) (by show 22 ≤ 22; omega) (by omega) (by omega) rfl rfl ?_
    rw [hq_q1]
    refine jT_ifT (a := q1) (t := 54) (by rfl) (by rfl) (by rfl) (jw_idd (by omega) (by omega)) (by simp only [jcP] <;> omega) ?_
    refine jT_xlload (v := (1, N)) (pcN := 56) jIQ_210_54 rfl rfl rfl ?_
    exact jT_ret rfl (by decide) (by show 22 ≤ 22; decide) (by omega) (by omega) ⟨rfl, rfl, rfl⟩
  · have g_0 : 0 ≤ (jlz (-N) r7 r8 0 0 0).sign := jsgn_p (Int.le_trans hA (jlz_mono (by omega)))
    have g_1 : (jlz (-N - 1) r7 r8 0 0 0).sign < 0 := jsgn_n (Int.lt_of_le_of_lt (jlz_mono (by omega)) hB)
    refine jT_xaload_n (v := (4, 1)) (pcN := 1) jIQ_210_0 rfl rfl rfl ?_
    refine jT_callA [1] (y := 211) (pcN := 4) (dC := 0) (bc1 := 0) (bc2 := 0) (c1 := 60) (c2 := 3210) (as := [(4, 1)]) (asC := [(4, 0)]) (LN := [(0, (4, 0)), (1, (4, 1)), (2, (1, 1))]) (stN := []) (hsC := [(101, [], [0, r7, r8, 0, 0, 0])]) (ex := []) (v := (3, d9)) (st2 := [(3, d9)]) (hs2 := [jzQ_378, (101, [], [0, r7, r8, 0, 0, 0]), jgh, jgh, jgh, jgh, jgh, (130, [], [16, 17, 18, 19, 20, 21]), jgh, jgh, jgh, jgh, jgh, jgh, jgh, jgh, (100, [], (jenc (jlg 0))), (100, [], (jenc (jlg 1))), (100, [], (jenc (jlg 2))), (100, [], (jenc (jlg 3))), (100, [], (jenc (jlg 4))), (100, [], (jenc (jlg 5)))]) (jQl_ro_146 (d := 0) (by omega) (by omega) fd1 fd2 fd3 fd4 fd5 fd6 fd7 fd8 fd9) (by rfl) (by rfl) (by rfl) (by rfl) ⟨rfl, trivial⟩ (by rfl) (by rfl) (by omega) (by show 22 ≤ 22; omega) (by omega) (by omega) rfl rfl ?_
    refine jT_xlload_n (v := (1, 1)) (pcN := 5) jIQ_210_4 rfl rfl rfl ?_
    refine jT_l2d (x := 1) (z := 4607182418800017408) (by rfl) (by rfl) (by decide +kernel) ?_
    refine jT_ddiv (x := d9) (y := 4607182418800017408) (z := d10) (by rfl) (by rfl) fd10 ?_
    refine jT_d2l (x := d10) (z := d11) (by rfl) (by rfl) fd11 ?_
    refine jT_xlstore (v := (1, d11)) (LN := [(4, (1, d11)), (0, (4, 0)), (1, (4, 1)), (2, (1, 1))]) (pcN := 10) jIQ_210_8 rfl rfl rfl rfl ?_
    refine jT_eq (LN := [(4, (1, N)), (0, (4, 0)), (1, (4, 1)), (2, (1, 1))]) (stN := []) (hsN := [jzQ_378, (101, [], [0, r7, r8, 0, 0, 0]), jgh, jgh, jgh, jgh, jgh, (130, [], [16, 17, 18, 19, 20, 21]), jgh, jgh, jgh, jgh, jgh, jgh, jgh, jgh, (100, [], (jenc (jlg 0))), (100, [], (jenc (jlg 1))), (100, [], (jenc (jlg 2))), (100, [], (jenc (jlg 3))), (100, [], (jenc (jlg 4))), (100, [], (jenc (jlg 5)))]) (by rw [g_n]) rfl rfl ?_
    refine jT_xaload_n (v := (4, 0)) (pcN := 11) jIQ_210_10 rfl rfl rfl ?_
    refine jT_xaload_n (v := (4, 1)) (pcN := 12) jIQ_210_11 rfl rfl rfl ?_
    refine jT_xlload (v := (1, N)) (pcN := 14) jIQ_210_12 rfl rfl rfl ?_
    refine jT_xlload_n (v := (1, 1)) (pcN := 15) jIQ_210_14 rfl rfl rfl ?_
    refine jT_xlmul (x := N) (y := 1) (z := N) (pcN := 16) jIQ_210_15 rfl (by omega) rfl ?_
    refine jT_callA [0, 1, 2, 3, 4, 5, 6, 7, 8, 9, 10, 11, 12, 13, 14, 15, 16, 17, 18, 19, 20, 21] (y := 212) (pcN := 19) (dC := 4) (bc1 := 20) (bc2 := 1070) (c1 := 40) (c2 := 2140) (as := [(4, 0), (4, 1), (1, N)]) (asC := [(4, 0), (4, 1), (1, N)]) (LN := [(4, (1, N)), (0, (4, 0)), (1, (4, 1)), (2, (1, 1))]) (stN := []) (hsC := [jzQ_378, (101, [], [0, r7, r8, 0, 0, 0]), jgh, jgh, jgh, jgh, jgh, (130, [], [16, 17, 18, 19, 20, 21]), jgh, jgh, jgh, jgh, jgh, jgh, jgh, jgh, (100, [], (jenc (jlg 0))), (100, [], (jenc (jlg 1))), (100, [], (jenc (jlg 2))), (100, [], (jenc (jlg 3))), (100, [], (jenc (jlg 4))), (100, [], (jenc (jlg 5)))]) (ex := []) (v := (0, (jlz (-N) r7 r8 0 0 0).sign)) (st2 := [(0, (jlz (-N) r7 r8 0 0 0).sign)]) (hs2 := [jzQ_378, (101, [], [0, r7, r8, 0, 0, 0]), jgh, jgh, jgh, jgh, jgh, (130, [], [16, 17, 18, 19, 20, 21]), jgh, jgh, jgh, jgh, jgh, jgh, jgh, jgh, (100, [], (jenc (jlg 0))), (100, [], (jenc (jlg 1))), (100, [], (jenc (jlg 2))), (100, [], (jenc (jlg 3))), (100, [], (jenc (jlg 4))), (100, [], (jenc (jlg 5)))]) (jQ_212_168 (d := 0) (by omega) (by omega) (by omega) (by omega) (by omega)) (by rfl) (by rfl) (by rfl) (by rfl) ⟨rfl, rfl, rfl, rfl, rfl, rfl, rfl, rfl, rfl, rfl, rfl, rfl, rfl, rfl, rfl, rfl, rfl, rfl, rfl, rfl, rfl, rfl, trivial⟩ (by rfl) (by rfl) (by omega) (by show 22 ≤ 22; omega) (by omega) (by omega) rfl rfl ?_
    have hb_q1 := jsgn_b (jlz (-N) r7 r8 0 0 0)
    generalize hq_q1 : (jlz (-N) r7 r8 0 0 0).sign = q1 at hb_q1 g_0 ⊢
    refine jT_ifT (a := q1) (t := 31) (by rfl) (by rfl) (by rfl) (jw_idd (by omega) (by omega)) (by simp only [jcP] <;> omega) ?_
    refine jT_xaload_n (v := (4, 0)) (pcN := 32) jIQ_210_31 rfl rfl rfl ?_
    refine jT_xaload_n (v := (4, 1)) (pcN := 33) jIQ_210_32 rfl rfl rfl ?_
    refine jT_xlload (v := (1, N)) (pcN := 35) jIQ_210_33 rfl rfl rfl ?_
    refine jT_xlconst (z := 1) (pcN := 36) jIQ_210_35 rfl rfl ?_
    refine jT_xladd (x := N) (y := 1) (z := N + 1) (pcN := 37) jIQ_210_36 rfl (rfl) rfl ?_
    refine jT_xlload_n (v := (1, 1)) (pcN := 38) jIQ_210_37 rfl rfl rfl ?_
    refine jT_xlmul (x := N + 1) (y := 1) (z := N + 1) (pcN := 39) jIQ_210_38 rfl (by omega) rfl ?_
    refine jT_callA [0, 1, 2, 3, 4, 5, 6, 7, 8, 9, 10, 11, 12, 13, 14, 15, 16, 17, 18, 19, 20, 21] (y := 212) (pcN := 42) (dC := 4) (bc1 := 20) (bc2 := 1070) (c1 := 20) (c2 := 1070) (as := [(4, 0), (4, 1), (1, N + 1)]) (asC := [(4, 0), (4, 1), (1, N + 1)]) (LN := [(4, (1, N)), (0, (4, 0)), (1, (4, 1)), (2, (1, 1))]) (stN := []) (hsC := [jzQ_378, (101, [], [0, r7, r8, 0, 0, 0]), jgh, jgh, jgh, jgh, jgh, (130, [], [16, 17, 18, 19, 20, 21]), jgh, jgh, jgh, jgh, jgh, jgh, jgh, jgh, (100, [], (jenc (jlg 0))), (100, [], (jenc (jlg 1))), (100, [], (jenc (jlg 2))), (100, [], (jenc (jlg 3))), (100, [], (jenc (jlg 4))), (100, [], (jenc (jlg 5)))]) (ex := []) (v := (0, (jlz (-N - 1) r7 r8 0 0 0).sign)) (st2 := [(0, (jlz (-N - 1) r7 r8 0 0 0).sign)]) (hs2 := [jzQ_378, (101, [], [0, r7, r8, 0, 0, 0]), jgh, jgh, jgh, jgh, jgh, (130, [], [16, 17, 18, 19, 20, 21]), jgh, jgh, jgh, jgh, jgh, jgh, jgh, jgh, (100, [], (jenc (jlg 0))), (100, [], (jenc (jlg 1))), (100, [], (jenc (jlg 2))), (100, [], (jenc (jlg 3))), (100, [], (jenc (jlg 4))), (100, [], (jenc (jlg 5)))]) (jQ_212_164 (d := 0) (by omega) (by omega) (by omega) (by omega)) (by rfl) (by rfl) (by rfl) (by rfl) ⟨rfl, rfl, rfl, rfl, rfl, rfl, rfl, rfl, rfl, rfl, rfl, rfl, rfl, rfl, rfl, rfl, rfl, rfl, rfl, rfl, rfl, rfl, trivial⟩ (by rfl) (by rfl) (by omega) (by show 22 ≤ 22; omega) (by omega) (by omega) rfl rfl ?_
    have hb_q2 := jsgn_b (jlz (-N - 1) r7 r8 0 0 0)
    generalize hq_q2 : (jlz (-N - 1) r7 r8 0 0 0).sign = q2 at hb_q2 g_1 ⊢
    refine jT_ifT (a := q2) (t := 54) (by rfl) (by rfl) (by rfl) (jw_idd (by omega) (by omega)) (by simp only [jcP] <;> omega) ?_
    refine jT_xlload (v := (1, N)) (pcN := 56) jIQ_210_54 rfl rfl rfl ?_
    exact jT_ret rfl (by decide) (by show 22 ≤ 22; decide) (by omega) (by omega) ⟨rfl, rfl, rfl⟩
theorem jQl_ps_169 {xs : List Int} {d : Nat} {r7 r8 : Int} (h_r7 : (-20) ≤ r7 ∧ r7 ≤ 20) (h_r8 : (-10) ≤ r8 ∧ r8 ≤ 10) : jT xs (d + 5) 210 22 0 [(0, (4, 0)), (1, (4, 1)), (2, (1, 1))] [] [jzQ_378, (101, [], [0, r7, r8, 0, 0, 0]), jgh, jgh, jgh, jgh, jgh, (130, [], [16, 17, 18, 19, 20, 21]), jgh, jgh, jgh, jgh, jgh, jgh, jgh, jgh, (100, [], (jenc (jlg 0))), (100, [], (jenc (jlg 1))), (100, [], (jenc (jlg 2))), (100, [], (jenc (jlg 3))), (100, [], (jenc (jlg 4))), (100, [], (jenc (jlg 5)))] 60 3210 (fun k v hsN => k = 0 ∧ v = (1, jkn r7 r8) ∧ hsN = [jzQ_378, (101, [], [0, r7, r8, 0, 0, 0]), jgh, jgh, jgh, jgh, jgh, (130, [], [16, 17, 18, 19, 20, 21]), jgh, jgh, jgh, jgh, jgh, jgh, jgh, jgh, (100, [], (jenc (jlg 0))), (100, [], (jenc (jlg 1))), (100, [], (jenc (jlg 2))), (100, [], (jenc (jlg 3))), (100, [], (jenc (jlg 4))), (100, [], (jenc (jlg 5)))]) := by
  obtain ⟨d1, d2, d3, d4, d5, d6, d7, d8, d9, d10, d11, fd1, fd2, fd3, fd4, fd5, fd6, fd7, fd8, fd9, fd10, fd11, h1, h2, h3, hA, hB⟩ := jcx (b := r7) (c := r8) (by omega) (by omega)
  exact jQl_pc_147 (by omega) (by omega) fd1 fd2 fd3 fd4 fd5 fd6 fd7 fd8 fd9 fd10 fd11 h3 h1 h2 hA hB
theorem jIQ_209_12 : jmI (jm 209) 12 = (.lstore_n 1, 1) := by rfl
theorem jIQ_209_13 : jmI (jm 209) 13 = (.aload_n 0, 1) := by rfl
theorem jIQ_209_14 : jmI (jm 209) 14 = (.getfield 31, 3) := by rfl
theorem jIQ_209_17 : jmI (jm 209) 17 = (.iconst 0, 1) := by rfl
theorem jIQ_209_19 : jmI (jm 209) 19 = (.laload, 1) := by rfl
theorem jIQ_209_20 : jmI (jm 209) 20 = (.lload_n 1, 1) := by rfl
theorem jIQ_209_21 : jmI (jm 209) 21 = (.aload_n 0, 1) := by rfl
theorem jIQ_209_22 : jmI (jm 209) 22 = (.getfield 35, 3) := by rfl
theorem jIQ_209_25 : jmI (jm 209) 25 = (.lmul, 1) := by rfl
theorem jIQ_209_26 : jmI (jm 209) 26 = (.lsub, 1) := by rfl
theorem jIQ_209_28 : jmI (jm 209) 28 = (.lload_n 1, 1) := by rfl
theorem jQ_209_170 {xs : List Int} {d : Nat} {r7 r8 : Int} (h_r7 : (-20) ≤ r7 ∧ r7 ≤ 20) (h_r8 : (-10) ≤ r8 ∧ r8 ≤ 10) (g_0 : 0 < r7) : jT xs (d + 6) 209 22 0 [(0, (4, 0))] [] [jzQ_20, jgh, jgh, jgh, jgh, jgh, (130, [], [16, 17, 18, 19, 20, 21]), (101, [], [0, r7, r8, 0, 0, 0]), jgh, jgh, jgh, jgh, jgh, jgh, jgh, jgh, (100, [], (jenc (jlg 0))), (100, [], (jenc (jlg 1))), (100, [], (jenc (jlg 2))), (100, [], (jenc (jlg 3))), (100, [], (jenc (jlg 4))), (100, [], (jenc (jlg 5)))] 60 3210 (fun k v hsN => k = 0 ∧ v = (1, jkn r7 r8) ∧ hsN = [jzQ_20, jgh, jgh, jgh, jgh, jgh, (130, [], [16, 17, 18, 19, 20, 21]), (101, [], [-(jkn r7 r8), r7, r8, 0, 0, 0]), jgh, jgh, jgh, jgh, jgh, jgh, jgh, jgh, (100, [], (jenc (jlg 0))), (100, [], (jenc (jlg 1))), (100, [], (jenc (jlg 2))), (100, [], (jenc (jlg 3))), (100, [], (jenc (jlg 4))), (100, [], (jenc (jlg 5)))]) := by
  refine jT_xaload_n (v := (4, 0)) (pcN := 1) jIQ_209_0 rfl rfl rfl ?_
  refine jT_xaload_n (v := (4, 0)) (pcN := 2) jIQ_209_1 rfl rfl rfl ?_
  refine jT_xgetf (a := 0) (t := 1) (ci := 14) (fi := 9) (c := jzQ_20) (v := (4, 7)) (pcN := 5) jIQ_209_2 rfl rfl rfl rfl rfl rfl rfl ?_
  refine jT_xaload_n (v := (4, 0)) (pcN := 6) jIQ_209_5 rfl rfl rfl ?_
  refine jT_xgetf (a := 0) (t := 1) (ci := 14) (fi := 10) (c := jzQ_20) (v := (1, 1)) (pcN := 9) jIQ_209_6 rfl rfl rfl rfl rfl rfl rfl ?_
  refine jT_callA [0, 7, 1, 2, 3, 4, 5, 6, 8, 9, 10, 11, 12, 13, 14, 15, 16, 17, 18, 19, 20, 21] (y := 210) (pcN := 12) (dC := 5) (bc1 := 60) (bc2 := 3210) (c1 := 0) (c2 := 0) (as := [(4, 0), (4, 7), (1, 1)]) (asC := [(4, 0), (4, 1), (1, 1)]) (LN := [(0, (4, 0))]) (stN := []) (hsC := [jzQ_378, (101, [], [0, r7, r8, 0, 0, 0]), jgh, jgh, jgh, jgh, jgh, (130, [], [16, 17, 18, 19, 20, 21]), jgh, jgh, jgh, jgh, jgh, jgh, jgh, jgh, (100, [], (jenc (jlg 0))), (100, [], (jenc (jlg 1))), (100, [], (jenc (jlg 2))), (100, [], (jenc (jlg 3))), (100, [], (jenc (jlg 4))), (100, [], (jenc (jlg 5)))]) (ex := []) (v := (1, jkn r7 r8)) (st2 := [(1, jkn r7 r8)]) (hs2 := [jzQ_20, jgh, jgh, jgh, jgh, jgh, (130, [], [16, 17, 18, 19, 20, 21]), (101, [], [0, r7, r8, 0, 0, 0]), jgh, jgh, jgh, jgh, jgh, jgh, jgh, jgh, (100, [], (jenc (jlg 0))), (100, [], (jenc (jlg 1))), (100, [], (jenc (jlg 2))), (100, [], (jenc (jlg 3))), (100, [], (jenc (jlg 4))), (100, [], (jenc (jlg 5)))]) (jQl_ps_169 (d := 0) (by omega) (by omega)) (by rfl) (by rfl) (by rfl) (by rfl) ⟨rfl, rfl, rfl, rfl, rfl, rfl, rfl, rfl, rfl, rfl, rfl, rfl, rfl, rfl, rfl, rfl, rfl, rfl, rfl, rfl, rfl, rfl, trivial⟩ (by rfl) (by rfl) (by omega) (by show 22 ≤ 22; omega) (by omega) (by omega) rfl rfl ?_
  have hb_q1 := jkn_b (b := r7) (c := r8) (by omega) (by omega)
  generalize hq_q1 : jkn r7 r8 = q1 at hb_q1 ⊢
  refine jT_xlstore_n (v := (1, q1)) (LN := [(1, (1, q1)), (0, (4, 0))]) (pcN := 13) jIQ_209_12 rfl rfl rfl rfl ?_
  refine jT_xaload_n (v := (4, 0)) (pcN := 14) jIQ_209_13 rfl rfl rfl ?_
  refine jT_xgetf (a := 0) (t := 1) (ci := 14) (fi := 9) (c := jzQ_20) (v := (4, 7)) (pcN := 17) jIQ_209_14 rfl rfl rfl rfl rfl rfl rfl ?_
  refine jT_xiconst (k := 0) (pcN := 18) jIQ_209_17 rfl ?_
  refine jT_adv 1 (pcN := 19) (LN := [(1, (1, q1)), (0, (4, 0))]) (stN := [(0, 0), (4, 7), (0, 0), (4, 7)]) (hsN := [jzQ_20, jgh, jgh, jgh, jgh, jgh, (130, [], [16, 17, 18, 19, 20, 21]), (101, [], [0, r7, r8, 0, 0, 0]), jgh, jgh, jgh, jgh, jgh, jgh, jgh, jgh, (100, [], (jenc (jlg 0))), (100, [], (jenc (jlg 1))), (100, [], (jenc (jlg 2))), (100, [], (jenc (jlg 3))), (100, [], (jenc (jlg 4))), (100, [], (jenc (jlg 5)))]) (c1 := 0) (s1 := 0) (c2 := 0) (s2 := 0) (by exact rfl) ?_ (by omega) (by omega)
  refine jT_lald (x := 0) (a := 7) (j := 0) (fs := []) (X := [0, r7, r8, 0, 0, 0]) jIQ_209_19 rfl rfl rfl rfl ?_
  refine jT_eq (LN := [(1, (1, q1)), (0, (4, 0))]) (stN := [(1, 0), (0, 0), (4, 7)]) (hsN := [jzQ_20, jgh, jgh, jgh, jgh, jgh, (130, [], [16, 17, 18, 19, 20, 21]), (101, [], [0, r7, r8, 0, 0, 0]), jgh, jgh, jgh, jgh, jgh, jgh, jgh, jgh, (100, [], (jenc (jlg 0))), (100, [], (jenc (jlg 1))), (100, [], (jenc (jlg 2))), (100, [], (jenc (jlg 3))), (100, [], (jenc (jlg 4))), (100, [], (jenc (jlg 5)))]) rfl rfl rfl ?_
  refine jT_xlload_n (v := (1, q1)) (pcN := 21) jIQ_209_20 rfl rfl rfl ?_
  refine jT_xaload_n (v := (4, 0)) (pcN := 22) jIQ_209_21 rfl rfl rfl ?_
  refine jT_xgetf (a := 0) (t := 1) (ci := 14) (fi := 10) (c := jzQ_20) (v := (1, 1)) (pcN := 25) jIQ_209_22 rfl rfl rfl rfl rfl rfl rfl ?_
  refine jT_xlmul (x := q1) (y := 1) (z := q1) (pcN := 26) jIQ_209_25 rfl (by omega) rfl ?_
  refine jT_xlsub (x := 0) (y := q1) (z := -q1) (pcN := 27) jIQ_209_26 rfl (by omega) rfl ?_
  refine jT_adv 1 (pcN := 28) (LN := [(1, (1, q1)), (0, (4, 0))]) (stN := []) (hsN := [jzQ_20, jgh, jgh, jgh, jgh, jgh, (130, [], [16, 17, 18, 19, 20, 21]), (101, [], [-q1, r7, r8, 0, 0, 0]), jgh, jgh, jgh, jgh, jgh, jgh, jgh, jgh, (100, [], (jenc (jlg 0))), (100, [], (jenc (jlg 1))), (100, [], (jenc (jlg 2))), (100, [], (jenc (jlg 3))), (100, [], (jenc (jlg 4))), (100, [], (jenc (jlg 5)))]) (c1 := 0) (s1 := 0) (c2 := 0) (s2 := 0) (by exact rfl) ?_ (by omega) (by omega)
  refine jT_xlload_n (v := (1, q1)) (pcN := 29) jIQ_209_28 rfl rfl rfl ?_
  subst hq_q1
  exact jT_ret rfl (by decide) (by show 22 ≤ 22; omega) (by omega) (by omega) ⟨rfl, rfl, rfl⟩
theorem jIQ_240_0 : jmI (jm 240) 0 = (.bipush 6, 2) := by rfl
theorem jIQ_240_4 : jmI (jm 240) 4 = (.astore_n 3, 1) := by rfl
theorem jIQ_240_5 : jmI (jm 240) 5 = (.iconst 0, 1) := by rfl
theorem jIQ_240_6 : jmI (jm 240) 6 = (.istore 4, 2) := by rfl
theorem jIQ_240_8 : jmI (jm 240) 8 = (.iload 4, 2) := by rfl
theorem jIQ_240_10 : jmI (jm 240) 10 = (.bipush 6, 2) := by rfl
theorem jIQ_240_12 : jmI (jm 240) 12 = (.if_icmp .ge 41, 3) := by rfl
theorem jIQ_240_15 : jmI (jm 240) 15 = (.aload_n 3, 1) := by rfl
theorem jIQ_240_16 : jmI (jm 240) 16 = (.iload 4, 2) := by rfl
theorem jIQ_240_18 : jmI (jm 240) 18 = (.aload_n 0, 1) := by rfl
theorem jIQ_240_19 : jmI (jm 240) 19 = (.getfield 31, 3) := by rfl
theorem jIQ_240_22 : jmI (jm 240) 22 = (.iload 4, 2) := by rfl
theorem jIQ_240_24 : jmI (jm 240) 24 = (.laload, 1) := by rfl
theorem jIQ_240_25 : jmI (jm 240) 25 = (.aload_n 1, 1) := by rfl
theorem jIQ_240_26 : jmI (jm 240) 26 = (.iload_n 2, 1) := by rfl
theorem jIQ_240_27 : jmI (jm 240) 27 = (.bipush 6, 2) := by rfl
theorem jIQ_240_29 : jmI (jm 240) 29 = (.iadd, 1) := by rfl
theorem jIQ_240_30 : jmI (jm 240) 30 = (.iaload, 1) := by rfl
theorem jIQ_240_31 : jmI (jm 240) 31 = (.i2l, 1) := by rfl
theorem jIQ_240_32 : jmI (jm 240) 32 = (.lmul, 1) := by rfl
theorem jIQ_240_33 : jmI (jm 240) 33 = (.aload_n 1, 1) := by rfl
theorem jIQ_240_34 : jmI (jm 240) 34 = (.iload_n 2, 1) := by rfl
theorem jIQ_240_35 : jmI (jm 240) 35 = (.iload 4, 2) := by rfl
theorem jIQ_240_37 : jmI (jm 240) 37 = (.iadd, 1) := by rfl
theorem jIQ_240_38 : jmI (jm 240) 38 = (.iaload, 1) := by rfl
theorem jIQ_240_39 : jmI (jm 240) 39 = (.i2l, 1) := by rfl
theorem jIQ_240_40 : jmI (jm 240) 40 = (.aload_n 0, 1) := by rfl
theorem jIQ_240_41 : jmI (jm 240) 41 = (.getfield 35, 3) := by rfl
theorem jIQ_240_44 : jmI (jm 240) 44 = (.lmul, 1) := by rfl
theorem jIQ_240_45 : jmI (jm 240) 45 = (.lsub, 1) := by rfl
theorem jIQ_240_47 : jmI (jm 240) 47 = (.iinc 4 1, 3) := by rfl
theorem jIQ_240_50 : jmI (jm 240) 50 = (.goto (-42), 3) := by rfl
theorem jIQ_240_53 : jmI (jm 240) 53 = (.aload_n 0, 1) := by rfl
theorem jIQ_240_54 : jmI (jm 240) 54 = (.aload_n 3, 1) := by rfl
theorem jQ_240_171 {xs : List Int} {d : Nat} {o3 q1 r7 r8 : Int} (h_o3 : 0 ≤ o3 ∧ o3 ≤ 7) (h_q1 : (-60) ≤ q1 ∧ q1 ≤ 60) (h_r7 : (-20) ≤ r7 ∧ r7 ≤ 20) (h_r8 : (-10) ≤ r8 ∧ r8 ≤ 10) (g_0 : 0 < r7) (g_1 : 0 ≤ (jlz (-q1) r7 r8 0 0 0).sign) : jT xs (d + 4) 240 22 0 [(0, (4, 0)), (1, (4, 1)), (2, (0, 7 * o3))] [] [jzQ_20, (100, [], jS0), jgh, jgh, jgh, jgh, (130, [], [16, 17, 18, 19, 20, 21]), (101, [], [-q1, r7, r8, 0, 0, 0]), jgh, jgh, jgh, jgh, jgh, jgh, jgh, jgh, (100, [], (jenc (jlg 0))), (100, [], (jenc (jlg 1))), (100, [], (jenc (jlg 2))), (100, [], (jenc (jlg 3))), (100, [], (jenc (jlg 4))), (100, [], (jenc (jlg 5)))] 20 1070 (fun k v hsN => k = 0 ∧ v = (0, (jlz (-q1) r7 r8 0 0 0).sign) ∧ hsN = [jzQ_20, (100, [], jS0), jgh, jgh, jgh, jgh, (130, [], [16, 17, 18, 19, 20, 21]), (101, [], [-q1, r7, r8, 0, 0, 0]), jgh, jgh, jgh, jgh, jgh, jgh, jgh, jgh, (100, [], (jenc (jlg 0))), (100, [], (jenc (jlg 1))), (100, [], (jenc (jlg 2))), (100, [], (jenc (jlg 3))), (100, [], (jenc (jlg 4))), (100, [], (jenc (jlg 5)))] ++ [(101, [], [-q1, r7, r8, 0, 0, 0])]) := by
  refine jT_xbipush (k := 6) (pcN := 2) jIQ_240_0 (by decide) rfl ?_
  refine jT_adv 1 (pcN := 4) (LN := [(0, (4, 0)), (1, (4, 1)), (2, (0, 7 * o3))]) (stN := [(4, 22)]) (hsN := [jzQ_20, (100, [], jS0), jgh, jgh, jgh, jgh, (130, [], [16, 17, 18, 19, 20, 21]), (101, [], [-q1, r7, r8, 0, 0, 0]), jgh, jgh, jgh, jgh, jgh, jgh, jgh, jgh, (100, [], (jenc (jlg 0))), (100, [], (jenc (jlg 1))), (100, [], (jenc (jlg 2))), (100, [], (jenc (jlg 3))), (100, [], (jenc (jlg 4))), (100, [], (jenc (jlg 5))), (101, [], [0, 0, 0, 0, 0, 0])]) (c1 := 1) (s1 := 6) (c2 := 19) (s2 := 1064) (by exact rfl) ?_ (by omega) (by omega)
  refine jT_xastore_n (v := (4, 22)) (LN := [(3, (4, 22)), (0, (4, 0)), (1, (4, 1)), (2, (0, 7 * o3))]) (pcN := 5) jIQ_240_4 rfl rfl rfl rfl ?_
  refine jT_xiconst (k := 0) (pcN := 6) jIQ_240_5 rfl ?_
  refine jT_xistore (v := (0, 0)) (LN := [(4, (0, 0)), (3, (4, 22)), (0, (4, 0)), (1, (4, 1)), (2, (0, 7 * o3))]) (pcN := 8) jIQ_240_6 rfl rfl rfl rfl ?_
  refine jT_xiload (v := (0, 0)) (pcN := 10) jIQ_240_8 rfl rfl rfl ?_
  refine jT_xbipush (k := 6) (pcN := 12) jIQ_240_10 (by decide) rfl ?_
  refine jT_xicF (t := 53) (pcN := 15) jIQ_240_12 rfl (by decide +kernel) rfl rfl ?_
  refine jT_xaload_n (v := (4, 22)) (pcN := 16) jIQ_240_15 rfl rfl rfl ?_
  refine jT_xiload (v := (0, 0)) (pcN := 18) jIQ_240_16 rfl rfl rfl ?_
  refine jT_xaload_n (v := (4, 0)) (pcN := 19) jIQ_240_18 rfl rfl rfl ?_
  refine jT_xgetf (a := 0) (t := 1) (ci := 14) (fi := 9) (c := jzQ_20) (v := (4, 7)) (pcN := 22) jIQ_240_19 rfl rfl rfl rfl rfl rfl rfl ?_
  refine jT_xiload (v := (0, 0)) (pcN := 24) jIQ_240_22 rfl rfl rfl ?_
  refine jT_lald (x := -q1) (a := 7) (j := 0) (fs := []) (X := [-q1, r7, r8, 0, 0, 0]) jIQ_240_24 rfl rfl rfl rfl ?_
  refine jT_eq (LN := [(4, (0, 0)), (3, (4, 22)), (0, (4, 0)), (1, (4, 1)), (2, (0, 7 * o3))]) (stN := [(1, -q1), (0, 0), (4, 22)]) (hsN := [jzQ_20, (100, [], jS0), jgh, jgh, jgh, jgh, (130, [], [16, 17, 18, 19, 20, 21]), (101, [], [-q1, r7, r8, 0, 0, 0]), jgh, jgh, jgh, jgh, jgh, jgh, jgh, jgh, (100, [], (jenc (jlg 0))), (100, [], (jenc (jlg 1))), (100, [], (jenc (jlg 2))), (100, [], (jenc (jlg 3))), (100, [], (jenc (jlg 4))), (100, [], (jenc (jlg 5))), (101, [], [0, 0, 0, 0, 0, 0])]) rfl rfl rfl ?_
  refine jT_xaload_n (v := (4, 1)) (pcN := 26) jIQ_240_25 rfl rfl rfl ?_
  refine jT_xiload_n (v := (0, 7 * o3)) (pcN := 27) jIQ_240_26 rfl rfl rfl ?_
  refine jT_xbipush (k := 6) (pcN := 29) jIQ_240_27 (by decide) rfl ?_
  refine jT_xiadd (x := 7 * o3) (y := 6) (z := 7 * o3 + 6) (pcN := 30) jIQ_240_29 rfl (by omega) rfl ?_
  refine jT_iald (x := 1) (a := 1) (j := (7 * o3 + 6).toNat) (fs := []) (X := jS0) (by rfl) (by rfl) (by rfl) (jw_nn (by omega) (by omega)) (jS0_r6 (by omega) (by omega)) ?_
  refine jT_eq (LN := [(4, (0, 0)), (3, (4, 22)), (0, (4, 0)), (1, (4, 1)), (2, (0, 7 * o3))]) (stN := [(0, 1), (1, -q1), (0, 0), (4, 22)]) (hsN := [jzQ_20, (100, [], jS0), jgh, jgh, jgh, jgh, (130, [], [16, 17, 18, 19, 20, 21]), (101, [], [-q1, r7, r8, 0, 0, 0]), jgh, jgh, jgh, jgh, jgh, jgh, jgh, jgh, (100, [], (jenc (jlg 0))), (100, [], (jenc (jlg 1))), (100, [], (jenc (jlg 2))), (100, [], (jenc (jlg 3))), (100, [], (jenc (jlg 4))), (100, [], (jenc (jlg 5))), (101, [], [0, 0, 0, 0, 0, 0])]) rfl rfl rfl ?_
  refine jT_xi2l (x := 1) (z := 1) (pcN := 32) jIQ_240_31 rfl (by decide +kernel) rfl ?_
  refine jT_xlmul (x := -q1) (y := 1) (z := -q1) (pcN := 33) jIQ_240_32 rfl (by omega) rfl ?_
  refine jT_xaload_n (v := (4, 1)) (pcN := 34) jIQ_240_33 rfl rfl rfl ?_
  refine jT_xiload_n (v := (0, 7 * o3)) (pcN := 35) jIQ_240_34 rfl rfl rfl ?_
  refine jT_xiload (v := (0, 0)) (pcN := 37) jIQ_240_35 rfl rfl rfl ?_
  refine jT_xiadd (x := 7 * o3) (y := 0) (z := 7 * o3) (pcN := 38) jIQ_240_37 rfl (by omega) rfl ?_
  refine jT_iald (x := 0) (a := 1) (j := (7 * o3).toNat) (fs := []) (X := jS0) (by rfl) (by rfl) (by rfl) (jw_nn (by omega) (by omega)) (jS0_r0 (by omega) (by omega)) ?_
  refine jT_eq (LN := [(4, (0, 0)), (3, (4, 22)), (0, (4, 0)), (1, (4, 1)), (2, (0, 7 * o3))]) (stN := [(0, 0), (1, -q1), (0, 0), (4, 22)]) (hsN := [jzQ_20, (100, [], jS0), jgh, jgh, jgh, jgh, (130, [], [16, 17, 18, 19, 20, 21]), (101, [], [-q1, r7, r8, 0, 0, 0]), jgh, jgh, jgh, jgh, jgh, jgh, jgh, jgh, (100, [], (jenc (jlg 0))), (100, [], (jenc (jlg 1))), (100, [], (jenc (jlg 2))), (100, [], (jenc (jlg 3))), (100, [], (jenc (jlg 4))), (100, [], (jenc (jlg 5))), (101, [], [0, 0, 0, 0, 0, 0])]) rfl rfl rfl ?_
  refine jT_xi2l (x := 0) (z := 0) (pcN := 40) jIQ_240_39 rfl (by decide +kernel) rfl ?_
  refine jT_xaload_n (v := (4, 0)) (pcN := 41) jIQ_240_40 rfl rfl rfl ?_
  refine jT_xgetf (a := 0) (t := 1) (ci := 14) (fi := 10) (c := jzQ_20) (v := (1, 1)) (pcN := 44) jIQ_240_41 rfl rfl rfl rfl rfl rfl rfl ?_
  refine jT_xlmul (x := 0) (y := 1) (z := 0) (pcN := 45) jIQ_240_44 rfl (by decide) rfl ?_
  refine jT_xlsub (x := -q1) (y := 0) (z := -q1) (pcN := 46) jIQ_240_45 rfl (by omega) rfl ?_
  refine jT_adv 1 (pcN := 47) (LN := [(4, (0, 0)), (3, (4, 22)), (0, (4, 0)), (1, (4, 1)), (2, (0, 7 * o3))]) (stN := []) (hsN := [jzQ_20, (100, [], jS0), jgh, jgh, jgh, jgh, (130, [], [16, 17, 18, 19, 20, 21]), (101, [], [-q1, r7, r8, 0, 0, 0]), jgh, jgh, jgh, jgh, jgh, jgh, jgh, jgh, (100, [], (jenc (jlg 0))), (100, [], (jenc (jlg 1))), (100, [], (jenc (jlg 2))), (100, [], (jenc (jlg 3))), (100, [], (jenc (jlg 4))), (100, [], (jenc (jlg 5))), (101, [], [-q1, 0, 0, 0, 0, 0])]) (c1 := 0) (s1 := 0) (c2 := 19) (s2 := 1064) (by exact rfl) ?_ (by omega) (by omega)
  refine jT_xiinc (x := 0) (z := 1) (LN := [(4, (0, 1)), (3, (4, 22)), (0, (4, 0)), (1, (4, 1)), (2, (0, 7 * o3))]) (pcN := 50) jIQ_240_47 rfl rfl (by decide) rfl rfl ?_
  refine jT_xgoto (pcN := 8) jIQ_240_50 rfl ?_
  refine jT_xiload (v := (0, 1)) (pcN := 10) jIQ_240_8 rfl rfl rfl ?_
  refine jT_xbipush (k := 6) (pcN := 12) jIQ_240_10 (by decide) rfl ?_
  refine jT_xicF (t := 53) (pcN := 15) jIQ_240_12 rfl (by decide +kernel) rfl rfl ?_
  refine jT_xaload_n (v := (4, 22)) (pcN := 16) jIQ_240_15 rfl rfl rfl ?_
  refine jT_xiload (v := (0, 1)) (pcN := 18) jIQ_240_16 rfl rfl rfl ?_
  refine jT_xaload_n (v := (4, 0)) (pcN := 19) jIQ_240_18 rfl rfl rfl ?_
  refine jT_xgetf (a := 0) (t := 1) (ci := 14) (fi := 9) (c := jzQ_20) (v := (4, 7)) (pcN := 22) jIQ_240_19 rfl rfl rfl rfl rfl rfl rfl ?_
  refine jT_xiload (v := (0, 1)) (pcN := 24) jIQ_240_22 rfl rfl rfl ?_
  refine jT_lald (x := r7) (a := 7) (j := 1) (fs := []) (X := [-q1, r7, r8, 0, 0, 0]) jIQ_240_24 rfl rfl rfl rfl ?_
  refine jT_eq (LN := [(4, (0, 1)), (3, (4, 22)), (0, (4, 0)), (1, (4, 1)), (2, (0, 7 * o3))]) (stN := [(1, r7), (0, 1), (4, 22)]) (hsN := [jzQ_20, (100, [], jS0), jgh, jgh, jgh, jgh, (130, [], [16, 17, 18, 19, 20, 21]), (101, [], [-q1, r7, r8, 0, 0, 0]), jgh, jgh, jgh, jgh, jgh, jgh, jgh, jgh, (100, [], (jenc (jlg 0))), (100, [], (jenc (jlg 1))), (100, [], (jenc (jlg 2))), (100, [], (jenc (jlg 3))), (100, [], (jenc (jlg 4))), (100, [], (jenc (jlg 5))), (101, [], [-q1, 0, 0, 0, 0, 0])]) rfl rfl rfl ?_
  refine jT_xaload_n (v := (4, 1)) (pcN := 26) jIQ_240_25 rfl rfl rfl ?_
  refine jT_xiload_n (v := (0, 7 * o3)) (pcN := 27) jIQ_240_26 rfl rfl rfl ?_
  refine jT_xbipush (k := 6) (pcN := 29) jIQ_240_27 (by decide) rfl ?_
  refine jT_xiadd (x := 7 * o3) (y := 6) (z := 7 * o3 + 6) (pcN := 30) jIQ_240_29 rfl (by omega) rfl ?_
  refine jT_iald (x := 1) (a := 1) (j := (7 * o3 + 6).toNat) (fs := []) (X := jS0) (by rfl) (by rfl) (by rfl) (jw_nn (by omega) (by omega)) (jS0_r6 (by omega) (by omega)) ?_
  refine jT_eq (LN := [(4, (0, 1)), (3, (4, 22)), (0, (4, 0)), (1, (4, 1)), (2, (0, 7 * o3))]) (stN := [(0, 1), (1, r7), (0, 1), (4, 22)]) (hsN := [jzQ_20, (100, [], jS0), jgh, jgh, jgh, jgh, (130, [], [16, 17, 18, 19, 20, 21]), (101, [], [-q1, r7, r8, 0, 0, 0]), jgh, jgh, jgh, jgh, jgh, jgh, jgh, jgh, (100, [], (jenc (jlg 0))), (100, [], (jenc (jlg 1))), (100, [], (jenc (jlg 2))), (100, [], (jenc (jlg 3))), (100, [], (jenc (jlg 4))), (100, [], (jenc (jlg 5))), (101, [], [-q1, 0, 0, 0, 0, 0])]) rfl rfl rfl ?_
  refine jT_xi2l (x := 1) (z := 1) (pcN := 32) jIQ_240_31 rfl (by decide +kernel) rfl ?_
  refine jT_xlmul (x := r7) (y := 1) (z := r7) (pcN := 33) jIQ_240_32 rfl (by omega) rfl ?_
  refine jT_xaload_n (v := (4, 1)) (pcN := 34) jIQ_240_33 rfl rfl rfl ?_
  refine jT_xiload_n (v := (0, 7 * o3)) (pcN := 35) jIQ_240_34 rfl rfl rfl ?_
  refine jT_xiload (v := (0, 1)) (pcN := 37) jIQ_240_35 rfl rfl rfl ?_
  refine jT_xiadd (x := 7 * o3) (y := 1) (z := 7 * o3 + 1) (pcN := 38) jIQ_240_37 rfl (by omega) rfl ?_
  refine jT_iald (x := 0) (a := 1) (j := (7 * o3 + 1).toNat) (fs := []) (X := jS0) (by rfl) (by rfl) (by rfl) (jw_nn (by omega) (by omega)) (jS0_r1 (by omega) (by omega)) ?_
  refine jT_eq (LN := [(4, (0, 1)), (3, (4, 22)), (0, (4, 0)), (1, (4, 1)), (2, (0, 7 * o3))]) (stN := [(0, 0), (1, r7), (0, 1), (4, 22)]) (hsN := [jzQ_20, (100, [], jS0), jgh, jgh, jgh, jgh, (130, [], [16, 17, 18, 19, 20, 21]), (101, [], [-q1, r7, r8, 0, 0, 0]), jgh, jgh, jgh, jgh, jgh, jgh, jgh, jgh, (100, [], (jenc (jlg 0))), (100, [], (jenc (jlg 1))), (100, [], (jenc (jlg 2))), (100, [], (jenc (jlg 3))), (100, [], (jenc (jlg 4))), (100, [], (jenc (jlg 5))), (101, [], [-q1, 0, 0, 0, 0, 0])]) rfl rfl rfl ?_
  refine jT_xi2l (x := 0) (z := 0) (pcN := 40) jIQ_240_39 rfl (by decide +kernel) rfl ?_
  refine jT_xaload_n (v := (4, 0)) (pcN := 41) jIQ_240_40 rfl rfl rfl ?_
  refine jT_xgetf (a := 0) (t := 1) (ci := 14) (fi := 10) (c := jzQ_20) (v := (1, 1)) (pcN := 44) jIQ_240_41 rfl rfl rfl rfl rfl rfl rfl ?_
  refine jT_xlmul (x := 0) (y := 1) (z := 0) (pcN := 45) jIQ_240_44 rfl (by decide) rfl ?_
  refine jT_xlsub (x := r7) (y := 0) (z := r7) (pcN := 46) jIQ_240_45 rfl (by omega) rfl ?_
  refine jT_adv 1 (pcN := 47) (LN := [(4, (0, 1)), (3, (4, 22)), (0, (4, 0)), (1, (4, 1)), (2, (0, 7 * o3))]) (stN := []) (hsN := [jzQ_20, (100, [], jS0), jgh, jgh, jgh, jgh, (130, [], [16, 17, 18, 19, 20, 21]), (101, [], [-q1, r7, r8, 0, 0, 0]), jgh, jgh, jgh, jgh, jgh, jgh, jgh, jgh, (100, [], (jenc (jlg 0))), (100, [], (jenc (jlg 1))), (100, [], (jenc (jlg 2))), (100, [], (jenc (jlg 3))), (100, [], (jenc (jlg 4))), (100, [], (jenc (jlg 5))), (101, [], [-q1, r7, 0, 0, 0, 0])]) (c1 := 0) (s1 := 0) (c2 := 19) (s2 := 1064) (by exact rfl) ?_ (by omega) (by omega)
  refine jT_xiinc (x := 1) (z := 2) (LN := [(4, (0, 2)), (3, (4, 22)), (0, (4, 0)), (1, (4, 1)), (2, (0, 7 * o3))]) (pcN := 50) jIQ_240_47 rfl rfl (by decide) rfl rfl ?_
  refine jT_xgoto (pcN := 8) jIQ_240_50 rfl ?_
  refine jT_xiload (v := (0, 2)) (pcN := 10) jIQ_240_8 rfl rfl rfl ?_
  refine jT_xbipush (k := 6) (pcN := 12) jIQ_240_10 (by decide) rfl ?_
  refine jT_xicF (t := 53) (pcN := 15) jIQ_240_12 rfl (by decide +kernel) rfl rfl ?_
  refine jT_xaload_n (v := (4, 22)) (pcN := 16) jIQ_240_15 rfl rfl rfl ?_
  refine jT_xiload (v := (0, 2)) (pcN := 18) jIQ_240_16 rfl rfl rfl ?_
  refine jT_xaload_n (v := (4, 0)) (pcN := 19) jIQ_240_18 rfl rfl rfl ?_
  refine jT_xgetf (a := 0) (t := 1) (ci := 14) (fi := 9) (c := jzQ_20) (v := (4, 7)) (pcN := 22) jIQ_240_19 rfl rfl rfl rfl rfl rfl rfl ?_
  refine jT_xiload (v := (0, 2)) (pcN := 24) jIQ_240_22 rfl rfl rfl ?_
  refine jT_lald (x := r8) (a := 7) (j := 2) (fs := []) (X := [-q1, r7, r8, 0, 0, 0]) jIQ_240_24 rfl rfl rfl rfl ?_
  refine jT_eq (LN := [(4, (0, 2)), (3, (4, 22)), (0, (4, 0)), (1, (4, 1)), (2, (0, 7 * o3))]) (stN := [(1, r8), (0, 2), (4, 22)]) (hsN := [jzQ_20, (100, [], jS0), jgh, jgh, jgh, jgh, (130, [], [16, 17, 18, 19, 20, 21]), (101, [], [-q1, r7, r8, 0, 0, 0]), jgh, jgh, jgh, jgh, jgh, jgh, jgh, jgh, (100, [], (jenc (jlg 0))), (100, [], (jenc (jlg 1))), (100, [], (jenc (jlg 2))), (100, [], (jenc (jlg 3))), (100, [], (jenc (jlg 4))), (100, [], (jenc (jlg 5))), (101, [], [-q1, r7, 0, 0, 0, 0])]) rfl rfl rfl ?_
  refine jT_xaload_n (v := (4, 1)) (pcN := 26) jIQ_240_25 rfl rfl rfl ?_
  refine jT_xiload_n (v := (0, 7 * o3)) (pcN := 27) jIQ_240_26 rfl rfl rfl ?_
  refine jT_xbipush (k := 6) (pcN := 29) jIQ_240_27 (by decide) rfl ?_
  refine jT_xiadd (x := 7 * o3) (y := 6) (z := 7 * o3 + 6) (pcN := 30) jIQ_240_29 rfl (by omega) rfl ?_
  refine jT_iald (x := 1) (a := 1) (j := (7 * o3 + 6).toNat) (fs := []) (X := jS0) (by rfl) (by rfl) (by rfl) (jw_nn (by omega) (by omega)) (jS0_r6 (by omega) (by omega)) ?_
  refine jT_eq (LN := [(4, (0, 2)), (3, (4, 22)), (0, (4, 0)), (1, (4, 1)), (2, (0, 7 * o3))]) (stN := [(0, 1), (1, r8), (0, 2), (4, 22)]) (hsN := [jzQ_20, (100, [], jS0), jgh, jgh, jgh, jgh, (130, [], [16, 17, 18, 19, 20, 21]), (101, [], [-q1, r7, r8, 0, 0, 0]), jgh, jgh, jgh, jgh, jgh, jgh, jgh, jgh, (100, [], (jenc (jlg 0))), (100, [], (jenc (jlg 1))), (100, [], (jenc (jlg 2))), (100, [], (jenc (jlg 3))), (100, [], (jenc (jlg 4))), (100, [], (jenc (jlg 5))), (101, [], [-q1, r7, 0, 0, 0, 0])]) rfl rfl rfl ?_
  refine jT_xi2l (x := 1) (z := 1) (pcN := 32) jIQ_240_31 rfl (by decide +kernel) rfl ?_
  refine jT_xlmul (x := r8) (y := 1) (z := r8) (pcN := 33) jIQ_240_32 rfl (by omega) rfl ?_
  refine jT_xaload_n (v := (4, 1)) (pcN := 34) jIQ_240_33 rfl rfl rfl ?_
  refine jT_xiload_n (v := (0, 7 * o3)) (pcN := 35) jIQ_240_34 rfl rfl rfl ?_
  refine jT_xiload (v := (0, 2)) (pcN := 37) jIQ_240_35 rfl rfl rfl ?_
  refine jT_xiadd (x := 7 * o3) (y := 2) (z := 7 * o3 + 2) (pcN := 38) jIQ_240_37 rfl (by omega) rfl ?_
  refine jT_iald (x := 0) (a := 1) (j := (7 * o3 + 2).toNat) (fs := []) (X := jS0) (by rfl) (by rfl) (by rfl) (jw_nn (by omega) (by omega)) (jS0_r2 (by omega) (by omega)) ?_
  refine jT_eq (LN := [(4, (0, 2)), (3, (4, 22)), (0, (4, 0)), (1, (4, 1)), (2, (0, 7 * o3))]) (stN := [(0, 0), (1, r8), (0, 2), (4, 22)]) (hsN := [jzQ_20, (100, [], jS0), jgh, jgh, jgh, jgh, (130, [], [16, 17, 18, 19, 20, 21]), (101, [], [-q1, r7, r8, 0, 0, 0]), jgh, jgh, jgh, jgh, jgh, jgh, jgh, jgh, (100, [], (jenc (jlg 0))), (100, [], (jenc (jlg 1))), (100, [], (jenc (jlg 2))), (100, [], (jenc (jlg 3))), (100, [], (jenc (jlg 4))), (100, [], (jenc (jlg 5))), (101, [], [-q1, r7, 0, 0, 0, 0])]) rfl rfl rfl ?_
  refine jT_xi2l (x := 0) (z := 0) (pcN := 40) jIQ_240_39 rfl (by decide +kernel) rfl ?_
  refine jT_xaload_n (v := (4, 0)) (pcN := 41) jIQ_240_40 rfl rfl rfl ?_
  refine jT_xgetf (a := 0) (t := 1) (ci := 14) (fi := 10) (c := jzQ_20) (v := (1, 1)) (pcN := 44) jIQ_240_41 rfl rfl rfl rfl rfl rfl rfl ?_
  refine jT_xlmul (x := 0) (y := 1) (z := 0) (pcN := 45) jIQ_240_44 rfl (by decide) rfl ?_
  refine jT_xlsub (x := r8) (y := 0) (z := r8) (pcN := 46) jIQ_240_45 rfl (by omega) rfl ?_
  refine jT_adv 1 (pcN := 47) (LN := [(4, (0, 2)), (3, (4, 22)), (0, (4, 0)), (1, (4, 1)), (2, (0, 7 * o3))]) (stN := []) (hsN := [jzQ_20, (100, [], jS0), jgh, jgh, jgh, jgh, (130, [], [16, 17, 18, 19, 20, 21]), (101, [], [-q1, r7, r8, 0, 0, 0]), jgh, jgh, jgh, jgh, jgh, jgh, jgh, jgh, (100, [], (jenc (jlg 0))), (100, [], (jenc (jlg 1))), (100, [], (jenc (jlg 2))), (100, [], (jenc (jlg 3))), (100, [], (jenc (jlg 4))), (100, [], (jenc (jlg 5))), (101, [], [-q1, r7, r8, 0, 0, 0])]) (c1 := 0) (s1 := 0) (c2 := 19) (s2 := 1064) (by exact rfl) ?_ (by omega) (by omega)
  refine jT_xiinc (x := 2) (z := 3) (LN := [(4, (0, 3)), (3, (4, 22)), (0, (4, 0)), (1, (4, 1)), (2, (0, 7 * o3))]) (pcN := 50) jIQ_240_47 rfl rfl (by decide) rfl rfl ?_
  refine jT_xgoto (pcN := 8) jIQ_240_50 rfl ?_
  refine jT_xiload (v := (0, 3)) (pcN := 10) jIQ_240_8 rfl rfl rfl ?_
  refine jT_xbipush (k := 6) (pcN := 12) jIQ_240_10 (by decide) rfl ?_
  refine jT_xicF (t := 53) (pcN := 15) jIQ_240_12 rfl (by decide +kernel) rfl rfl ?_
  refine jT_xaload_n (v := (4, 22)) (pcN := 16) jIQ_240_15 rfl rfl rfl ?_
  refine jT_xiload (v := (0, 3)) (pcN := 18) jIQ_240_16 rfl rfl rfl ?_
  refine jT_xaload_n (v := (4, 0)) (pcN := 19) jIQ_240_18 rfl rfl rfl ?_
  refine jT_xgetf (a := 0) (t := 1) (ci := 14) (fi := 9) (c := jzQ_20) (v := (4, 7)) (pcN := 22) jIQ_240_19 rfl rfl rfl rfl rfl rfl rfl ?_
  refine jT_xiload (v := (0, 3)) (pcN := 24) jIQ_240_22 rfl rfl rfl ?_
  refine jT_lald (x := 0) (a := 7) (j := 3) (fs := []) (X := [-q1, r7, r8, 0, 0, 0]) jIQ_240_24 rfl rfl rfl rfl ?_
  refine jT_eq (LN := [(4, (0, 3)), (3, (4, 22)), (0, (4, 0)), (1, (4, 1)), (2, (0, 7 * o3))]) (stN := [(1, 0), (0, 3), (4, 22)]) (hsN := [jzQ_20, (100, [], jS0), jgh, jgh, jgh, jgh, (130, [], [16, 17, 18, 19, 20, 21]), (101, [], [-q1, r7, r8, 0, 0, 0]), jgh, jgh, jgh, jgh, jgh, jgh, jgh, jgh, (100, [], (jenc (jlg 0))), (100, [], (jenc (jlg 1))), (100, [], (jenc (jlg 2))), (100, [], (jenc (jlg 3))), (100, [], (jenc (jlg 4))), (100, [], (jenc (jlg 5))), (101, [], [-q1, r7, r8, 0, 0, 0])]) rfl rfl rfl ?_
  refine jT_xaload_n (v := (4, 1)) (pcN := 26) jIQ_240_25 rfl rfl rfl ?_
  refine jT_xiload_n (v := (0, 7 * o3)) (pcN := 27) jIQ_240_26 rfl rfl rfl ?_
  refine jT_xbipush (k := 6) (pcN := 29) jIQ_240_27 (by decide) rfl ?_
  refine jT_xiadd (x := 7 * o3) (y := 6) (z := 7 * o3 + 6) (pcN := 30) jIQ_240_29 rfl (by omega) rfl ?_
  refine jT_iald (x := 1) (a := 1) (j := (7 * o3 + 6).toNat) (fs := []) (X := jS0) (by rfl) (by rfl) (by rfl) (jw_nn (by omega) (by omega)) (jS0_r6 (by omega) (by omega)) ?_
  refine jT_eq (LN := [(4, (0, 3)), (3, (4, 22)), (0, (4, 0)), (1, (4, 1)), (2, (0, 7 * o3))]) (stN := [(0, 1), (1, 0), (0, 3), (4, 22)]) (hsN := [jzQ_20, (100, [], jS0), jgh, jgh, jgh, jgh, (130, [], [16, 17, 18, 19, 20, 21]), (101, [], [-q1, r7, r8, 0, 0, 0]), jgh, jgh, jgh, jgh, jgh, jgh, jgh, jgh, (100, [], (jenc (jlg 0))), (100, [], (jenc (jlg 1))), (100, [], (jenc (jlg 2))), (100, [], (jenc (jlg 3))), (100, [], (jenc (jlg 4))), (100, [], (jenc (jlg 5))), (101, [], [-q1, r7, r8, 0, 0, 0])]) rfl rfl rfl ?_
  refine jT_xi2l (x := 1) (z := 1) (pcN := 32) jIQ_240_31 rfl (by decide +kernel) rfl ?_
  refine jT_xlmul (x := 0) (y := 1) (z := 0) (pcN := 33) jIQ_240_32 rfl (by decide) rfl ?_
  refine jT_xaload_n (v := (4, 1)) (pcN := 34) jIQ_240_33 rfl rfl rfl ?_
  refine jT_xiload_n (v := (0, 7 * o3)) (pcN := 35) jIQ_240_34 rfl rfl rfl ?_
  refine jT_xiload (v := (0, 3)) (pcN := 37) jIQ_240_35 rfl rfl rfl ?_
  refine jT_xiadd (x := 7 * o3) (y := 3) (z := 7 * o3 + 3) (pcN := 38) jIQ_240_37 rfl (by omega) rfl ?_
  refine jT_iald (x := 0) (a := 1) (j := (7 * o3 + 3).toNat) (fs := []) (X := jS0) (by rfl) (by rfl) (by rfl) (jw_nn (by omega) (by omega)) (jS0_r3 (by omega) (by omega)) ?_
  refine jT_eq (LN := [(4, (0, 3)), (3, (4, 22)), (0, (4, 0)), (1, (4, 1)), (2, (0, 7 * o3))]) (stN := [(0, 0), (1, 0), (0, 3), (4, 22)]) (hsN := [jzQ_20, (100, [], jS0), jgh, jgh, jgh, jgh, (130, [], [16, 17, 18, 19, 20, 21]), (101, [], [-q1, r7, r8, 0, 0, 0]), jgh, jgh, jgh, jgh, jgh, jgh, jgh, jgh, (100, [], (jenc (jlg 0))), (100, [], (jenc (jlg 1))), (100, [], (jenc (jlg 2))), (100, [], (jenc (jlg 3))), (100, [], (jenc (jlg 4))), (100, [], (jenc (jlg 5))), (101, [], [-q1, r7, r8, 0, 0, 0])]) rfl rfl rfl ?_
  refine jT_xi2l (x := 0) (z := 0) (pcN := 40) jIQ_240_39 rfl (by decide +kernel) rfl ?_
  refine jT_xaload_n (v := (4, 0)) (pcN := 41) jIQ_240_40 rfl rfl rfl ?_
  refine jT_xgetf (a := 0) (t := 1) (ci := 14) (fi := 10) (c := jzQ_20) (v := (1, 1)) (pcN := 44) jIQ_240_41 rfl rfl rfl rfl rfl rfl rfl ?_
  refine jT_xlmul (x := 0) (y := 1) (z := 0) (pcN := 45) jIQ_240_44 rfl (by decide) rfl ?_
  refine jT_xlsub (x := 0) (y := 0) (z := 0) (pcN := 46) jIQ_240_45 rfl (by decide) rfl ?_
  refine jT_adv 1 (pcN := 47) (LN := [(4, (0, 3)), (3, (4, 22)), (0, (4, 0)), (1, (4, 1)), (2, (0, 7 * o3))]) (stN := []) (hsN := [jzQ_20, (100, [], jS0), jgh, jgh, jgh, jgh, (130, [], [16, 17, 18, 19, 20, 21]), (101, [], [-q1, r7, r8, 0, 0, 0]), jgh, jgh, jgh, jgh, jgh, jgh, jgh, jgh, (100, [], (jenc (jlg 0))), (100, [], (jenc (jlg 1))), (100, [], (jenc (jlg 2))), (100, [], (jenc (jlg 3))), (100, [], (jenc (jlg 4))), (100, [], (jenc (jlg 5))), (101, [], [-q1, r7, r8, 0, 0, 0])]) (c1 := 0) (s1 := 0) (c2 := 19) (s2 := 1064) (by exact rfl) ?_ (by omega) (by omega)
  refine jT_xiinc (x := 3) (z := 4) (LN := [(4, (0, 4)), (3, (4, 22)), (0, (4, 0)), (1, (4, 1)), (2, (0, 7 * o3))]) (pcN := 50) jIQ_240_47 rfl rfl (by decide) rfl rfl ?_
  refine jT_xgoto (pcN := 8) jIQ_240_50 rfl ?_
  refine jT_xiload (v := (0, 4)) (pcN := 10) jIQ_240_8 rfl rfl rfl ?_
  refine jT_xbipush (k := 6) (pcN := 12) jIQ_240_10 (by decide) rfl ?_
  refine jT_xicF (t := 53) (pcN := 15) jIQ_240_12 rfl (by decide +kernel) rfl rfl ?_
  refine jT_xaload_n (v := (4, 22)) (pcN := 16) jIQ_240_15 rfl rfl rfl ?_
  refine jT_xiload (v := (0, 4)) (pcN := 18) jIQ_240_16 rfl rfl rfl ?_
  refine jT_xaload_n (v := (4, 0)) (pcN := 19) jIQ_240_18 rfl rfl rfl ?_
  refine jT_xgetf (a := 0) (t := 1) (ci := 14) (fi := 9) (c := jzQ_20) (v := (4, 7)) (pcN := 22) jIQ_240_19 rfl rfl rfl rfl rfl rfl rfl ?_
  refine jT_xiload (v := (0, 4)) (pcN := 24) jIQ_240_22 rfl rfl rfl ?_
  refine jT_lald (x := 0) (a := 7) (j := 4) (fs := []) (X := [-q1, r7, r8, 0, 0, 0]) jIQ_240_24 rfl rfl rfl rfl ?_
  refine jT_eq (LN := [(4, (0, 4)), (3, (4, 22)), (0, (4, 0)), (1, (4, 1)), (2, (0, 7 * o3))]) (stN := [(1, 0), (0, 4), (4, 22)]) (hsN := [jzQ_20, (100, [], jS0), jgh, jgh, jgh, jgh, (130, [], [16, 17, 18, 19, 20, 21]), (101, [], [-q1, r7, r8, 0, 0, 0]), jgh, jgh, jgh, jgh, jgh, jgh, jgh, jgh, (100, [], (jenc (jlg 0))), (100, [], (jenc (jlg 1))), (100, [], (jenc (jlg 2))), (100, [], (jenc (jlg 3))), (100, [], (jenc (jlg 4))), (100, [], (jenc (jlg 5))), (101, [], [-q1, r7, r8, 0, 0, 0])]) rfl rfl rfl ?_
  refine jT_xaload_n (v := (4, 1)) (pcN := 26) jIQ_240_25 rfl rfl rfl ?_
  refine jT_xiload_n (v := (0, 7 * o3)) (pcN := 27) jIQ_240_26 rfl rfl rfl ?_
  refine jT_xbipush (k := 6) (pcN := 29) jIQ_240_27 (by decide) rfl ?_
  refine jT_xiadd (x := 7 * o3) (y := 6) (z := 7 * o3 + 6) (pcN := 30) jIQ_240_29 rfl (by omega) rfl ?_
  refine jT_iald (x := 1) (a := 1) (j := (7 * o3 + 6).toNat) (fs := []) (X := jS0) (by rfl) (by rfl) (by rfl) (jw_nn (by omega) (by omega)) (jS0_r6 (by omega) (by omega)) ?_
  refine jT_eq (LN := [(4, (0, 4)), (3, (4, 22)), (0, (4, 0)), (1, (4, 1)), (2, (0, 7 * o3))]) (stN := [(0, 1), (1, 0), (0, 4), (4, 22)]) (hsN := [jzQ_20, (100, [], jS0), jgh, jgh, jgh, jgh, (130, [], [16, 17, 18, 19, 20, 21]), (101, [], [-q1, r7, r8, 0, 0, 0]), jgh, jgh, jgh, jgh, jgh, jgh, jgh, jgh, (100, [], (jenc (jlg 0))), (100, [], (jenc (jlg 1))), (100, [], (jenc (jlg 2))), (100, [], (jenc (jlg 3))), (100, [], (jenc (jlg 4))), (100, [], (jenc (jlg 5))), (101, [], [-q1, r7, r8, 0, 0, 0])]) rfl rfl rfl ?_
  refine jT_xi2l (x := 1) (z := 1) (pcN := 32) jIQ_240_31 rfl (by decide +kernel) rfl ?_
  refine jT_xlmul (x := 0) (y := 1) (z := 0) (pcN := 33) jIQ_240_32 rfl (by decide) rfl ?_
  refine jT_xaload_n (v := (4, 1)) (pcN := 34) jIQ_240_33 rfl rfl rfl ?_
  refine jT_xiload_n (v := (0, 7 * o3)) (pcN := 35) jIQ_240_34 rfl rfl rfl ?_
  refine jT_xiload (v := (0, 4)) (pcN := 37) jIQ_240_35 rfl rfl rfl ?_
  refine jT_xiadd (x := 7 * o3) (y := 4) (z := 7 * o3 + 4) (pcN := 38) jIQ_240_37 rfl (by omega) rfl ?_
  refine jT_iald (x := 0) (a := 1) (j := (7 * o3 + 4).toNat) (fs := []) (X := jS0) (by rfl) (by rfl) (by rfl) (jw_nn (by omega) (by omega)) (jS0_r4 (by omega) (by omega)) ?_
  refine jT_eq (LN := [(4, (0, 4)), (3, (4, 22)), (0, (4, 0)), (1, (4, 1)), (2, (0, 7 * o3))]) (stN := [(0, 0), (1, 0), (0, 4), (4, 22)]) (hsN := [jzQ_20, (100, [], jS0), jgh, jgh, jgh, jgh, (130, [], [16, 17, 18, 19, 20, 21]), (101, [], [-q1, r7, r8, 0, 0, 0]), jgh, jgh, jgh, jgh, jgh, jgh, jgh, jgh, (100, [], (jenc (jlg 0))), (100, [], (jenc (jlg 1))), (100, [], (jenc (jlg 2))), (100, [], (jenc (jlg 3))), (100, [], (jenc (jlg 4))), (100, [], (jenc (jlg 5))), (101, [], [-q1, r7, r8, 0, 0, 0])]) rfl rfl rfl ?_
  refine jT_xi2l (x := 0) (z := 0) (pcN := 40) jIQ_240_39 rfl (by decide +kernel) rfl ?_
  refine jT_xaload_n (v := (4, 0)) (pcN := 41) jIQ_240_40 rfl rfl rfl ?_
  refine jT_xgetf (a := 0) (t := 1) (ci := 14) (fi := 10) (c := jzQ_20) (v := (1, 1)) (pcN := 44) jIQ_240_41 rfl rfl rfl rfl rfl rfl rfl ?_
  refine jT_xlmul (x := 0) (y := 1) (z := 0) (pcN := 45) jIQ_240_44 rfl (by decide) rfl ?_
  refine jT_xlsub (x := 0) (y := 0) (z := 0) (pcN := 46) jIQ_240_45 rfl (by decide) rfl ?_
  refine jT_adv 1 (pcN := 47) (LN := [(4, (0, 4)), (3, (4, 22)), (0, (4, 0)), (1, (4, 1)), (2, (0, 7 * o3))]) (stN := []) (hsN := [jzQ_20, (100, [], jS0), jgh, jgh, jgh, jgh, (130, [], [16, 17, 18, 19, 20, 21]), (101, [], [-q1, r7, r8, 0, 0, 0]), jgh, jgh, jgh, jgh, jgh, jgh, jgh, jgh, (100, [], (jenc (jlg 0))), (100, [], (jenc (jlg 1))), (100, [], (jenc (jlg 2))), (100, [], (jenc (jlg 3))), (100, [], (jenc (jlg 4))), (100, [], (jenc (jlg 5))), (101, [], [-q1, r7, r8, 0, 0, 0])]) (c1 := 0) (s1 := 0) (c2 := 19) (s2 := 1064) (by exact rfl) ?_ (by omega) (by omega)
  refine jT_xiinc (x := 4) (z := 5) (LN := [(4, (0, 5)), (3, (4, 22)), (0, (4, 0)), (1, (4, 1)), (2, (0, 7 * o3))]) (pcN := 50) jIQ_240_47 rfl rfl (by decide) rfl rfl ?_
  refine jT_xgoto (pcN := 8) jIQ_240_50 rfl ?_
  refine jT_xiload (v := (0, 5)) (pcN := 10) jIQ_240_8 rfl rfl rfl ?_
  refine jT_xbipush (k := 6) (pcN := 12) jIQ_240_10 (by decide) rfl ?_
  refine jT_xicF (t := 53) (pcN := 15) jIQ_240_12 rfl (by decide +kernel) rfl rfl ?_
  refine jT_xaload_n (v := (4, 22)) (pcN := 16) jIQ_240_15 rfl rfl rfl ?_
  refine jT_xiload (v := (0, 5)) (pcN := 18) jIQ_240_16 rfl rfl rfl ?_
  refine jT_xaload_n (v := (4, 0)) (pcN := 19) jIQ_240_18 rfl rfl rfl ?_
  refine jT_xgetf (a := 0) (t := 1) (ci := 14) (fi := 9) (c := jzQ_20) (v := (4, 7)) (pcN := 22) jIQ_240_19 rfl rfl rfl rfl rfl rfl rfl ?_
  refine jT_xiload (v := (0, 5)) (pcN := 24) jIQ_240_22 rfl rfl rfl ?_
  refine jT_lald (x := 0) (a := 7) (j := 5) (fs := []) (X := [-q1, r7, r8, 0, 0, 0]) jIQ_240_24 rfl rfl rfl rfl ?_
  refine jT_eq (LN := [(4, (0, 5)), (3, (4, 22)), (0, (4, 0)), (1, (4, 1)), (2, (0, 7 * o3))]) (stN := [(1, 0), (0, 5), (4, 22)]) (hsN := [jzQ_20, (100, [], jS0), jgh, jgh, jgh, jgh, (130, [], [16, 17, 18, 19, 20, 21]), (101, [], [-q1, r7, r8, 0, 0, 0]), jgh, jgh, jgh, jgh, jgh, jgh, jgh, jgh, (100, [], (jenc (jlg 0))), (100, [], (jenc (jlg 1))), (100, [], (jenc (jlg 2))), (100, [], (jenc (jlg 3))), (100, [], (jenc (jlg 4))), (100, [], (jenc (jlg 5))), (101, [], [-q1, r7, r8, 0, 0, 0])]) rfl rfl rfl ?_
  refine jT_xaload_n (v := (4, 1)) (pcN := 26) jIQ_240_25 rfl rfl rfl ?_
  refine jT_xiload_n (v := (0, 7 * o3)) (pcN := 27) jIQ_240_26 rfl rfl rfl ?_
  refine jT_xbipush (k := 6) (pcN := 29) jIQ_240_27 (by decide) rfl ?_
  refine jT_xiadd (x := 7 * o3) (y := 6) (z := 7 * o3 + 6) (pcN := 30) jIQ_240_29 rfl (by omega) rfl ?_
  refine jT_iald (x := 1) (a := 1) (j := (7 * o3 + 6).toNat) (fs := []) (X := jS0) (by rfl) (by rfl) (by rfl) (jw_nn (by omega) (by omega)) (jS0_r6 (by omega) (by omega)) ?_
  refine jT_eq (LN := [(4, (0, 5)), (3, (4, 22)), (0, (4, 0)), (1, (4, 1)), (2, (0, 7 * o3))]) (stN := [(0, 1), (1, 0), (0, 5), (4, 22)]) (hsN := [jzQ_20, (100, [], jS0), jgh, jgh, jgh, jgh, (130, [], [16, 17, 18, 19, 20, 21]), (101, [], [-q1, r7, r8, 0, 0, 0]), jgh, jgh, jgh, jgh, jgh, jgh, jgh, jgh, (100, [], (jenc (jlg 0))), (100, [], (jenc (jlg 1))), (100, [], (jenc (jlg 2))), (100, [], (jenc (jlg 3))), (100, [], (jenc (jlg 4))), (100, [], (jenc (jlg 5))), (101, [], [-q1, r7, r8, 0, 0, 0])]) rfl rfl rfl ?_
  refine jT_xi2l (x := 1) (z := 1) (pcN := 32) jIQ_240_31 rfl (by decide +kernel) rfl ?_
  refine jT_xlmul (x := 0) (y := 1) (z := 0) (pcN := 33) jIQ_240_32 rfl (by decide) rfl ?_
  refine jT_xaload_n (v := (4, 1)) (pcN := 34) jIQ_240_33 rfl rfl rfl ?_
  refine jT_xiload_n (v := (0, 7 * o3)) (pcN := 35) jIQ_240_34 rfl rfl rfl ?_
  refine jT_xiload (v := (0, 5)) (pcN := 37) jIQ_240_35 rfl rfl rfl ?_
  refine jT_xiadd (x := 7 * o3) (y := 5) (z := 7 * o3 + 5) (pcN := 38) jIQ_240_37 rfl (by omega) rfl ?_
  refine jT_iald (x := 0) (a := 1) (j := (7 * o3 + 5).toNat) (fs := []) (X := jS0) (by rfl) (by rfl) (by rfl) (jw_nn (by omega) (by omega)) (jS0_r5 (by omega) (by omega)) ?_
  refine jT_eq (LN := [(4, (0, 5)), (3, (4, 22)), (0, (4, 0)), (1, (4, 1)), (2, (0, 7 * o3))]) (stN := [(0, 0), (1, 0), (0, 5), (4, 22)]) (hsN := [jzQ_20, (100, [], jS0), jgh, jgh, jgh, jgh, (130, [], [16, 17, 18, 19, 20, 21]), (101, [], [-q1, r7, r8, 0, 0, 0]), jgh, jgh, jgh, jgh, jgh, jgh, jgh, jgh, (100, [], (jenc (jlg 0))), (100, [], (jenc (jlg 1))), (100, [], (jenc (jlg 2))), (100, [], (jenc (jlg 3))), (100, [], (jenc (jlg 4))), (100, [], (jenc (jlg 5))), (101, [], [-q1, r7, r8, 0, 0, 0])]) rfl rfl rfl ?_
  refine jT_xi2l (x := 0) (z := 0) (pcN := 40) jIQ_240_39 rfl (by decide +kernel) rfl ?_
  refine jT_xaload_n (v := (4, 0)) (pcN := 41) jIQ_240_40 rfl rfl rfl ?_
  refine jT_xgetf (a := 0) (t := 1) (ci := 14) (fi := 10) (c := jzQ_20) (v := (1, 1)) (pcN := 44) jIQ_240_41 rfl rfl rfl rfl rfl rfl rfl ?_
  refine jT_xlmul (x := 0) (y := 1) (z := 0) (pcN := 45) jIQ_240_44 rfl (by decide) rfl ?_
  refine jT_xlsub (x := 0) (y := 0) (z := 0) (pcN := 46) jIQ_240_45 rfl (by decide) rfl ?_
  refine jT_adv 1 (pcN := 47) (LN := [(4, (0, 5)), (3, (4, 22)), (0, (4, 0)), (1, (4, 1)), (2, (0, 7 * o3))]) (stN := []) (hsN := [jzQ_20, (100, [], jS0), jgh, jgh, jgh, jgh, (130, [], [16, 17, 18, 19, 20, 21]), (101, [], [-q1, r7, r8, 0, 0, 0]), jgh, jgh, jgh, jgh, jgh, jgh, jgh, jgh, (100, [], (jenc (jlg 0))), (100, [], (jenc (jlg 1))), (100, [], (jenc (jlg 2))), (100, [], (jenc (jlg 3))), (100, [], (jenc (jlg 4))), (100, [], (jenc (jlg 5))), (101, [], [-q1, r7, r8, 0, 0, 0])]) (c1 := 0) (s1 := 0) (c2 := 19) (s2 := 1064) (by exact rfl) ?_ (by omega) (by omega)
  refine jT_xiinc (x := 5) (z := 6) (LN := [(4, (0, 6)), (3, (4, 22)), (0, (4, 0)), (1, (4, 1)), (2, (0, 7 * o3))]) (pcN := 50) jIQ_240_47 rfl rfl (by decide) rfl rfl ?_
  refine jT_xgoto (pcN := 8) jIQ_240_50 rfl ?_
  refine jT_xiload (v := (0, 6)) (pcN := 10) jIQ_240_8 rfl rfl rfl ?_
  refine jT_xbipush (k := 6) (pcN := 12) jIQ_240_10 (by decide) rfl ?_
  refine jT_xicT (pcN := 53) jIQ_240_12 rfl (by decide +kernel) rfl ?_
  refine jT_xaload_n (v := (4, 0)) (pcN := 54) jIQ_240_53 rfl rfl rfl ?_
  refine jT_xaload_n (v := (4, 22)) (pcN := 55) jIQ_240_54 rfl rfl rfl ?_
  refine jT_callA [0, 22, 1, 2, 3, 4, 5, 6, 7, 8, 9, 10, 11, 12, 13, 14, 15, 16, 17, 18, 19, 20, 21] (y := 213) (pcN := 58) (dC := 3) (bc1 := 19) (bc2 := 1064) (c1 := 0) (c2 := 0) (as := [(4, 0), (4, 22)]) (asC := [(4, 0), (4, 1)]) (LN := [(4, (0, 6)), (3, (4, 22)), (0, (4, 0)), (1, (4, 1)), (2, (0, 7 * o3))]) (stN := []) (hsC := [jzQ_371, (101, [], [-q1, r7, r8, 0, 0, 0]), jgh, jgh, jgh, jgh, jgh, (130, [], [17, 18, 19, 20, 21, 22]), jgh, jgh, jgh, jgh, jgh, jgh, jgh, jgh, jgh, (100, [], (jenc (jlg 0))), (100, [], (jenc (jlg 1))), (100, [], (jenc (jlg 2))), (100, [], (jenc (jlg 3))), (100, [], (jenc (jlg 4))), (100, [], (jenc (jlg 5)))]) (ex := []) (v := (0, (jlz (-q1) r7 r8 0 0 0).sign)) (st2 := [(0, (jlz (-q1) r7 r8 0 0 0).sign)]) (hs2 := [jzQ_20, (100, [], jS0), jgh, jgh, jgh, jgh, (130, [], [16, 17, 18, 19, 20, 21]), (101, [], [-q1, r7, r8, 0, 0, 0]), jgh, jgh, jgh, jgh, jgh, jgh, jgh, jgh, (100, [], (jenc (jlg 0))), (100, [], (jenc (jlg 1))), (100, [], (jenc (jlg 2))), (100, [], (jenc (jlg 3))), (100, [], (jenc (jlg 4))), (100, [], (jenc (jlg 5))), (101, [], [-q1, r7, r8, 0, 0, 0])]) (jQl_sg_148 (d := 0) (e0 := -q1) (e1 := r7) (e2 := r8) (e3 := 0) (e4 := 0) (e5 := 0) (by omega) (by omega) (by omega) (by omega) (by omega) (by omega)) (by rfl) (by rfl) (by rfl) (by rfl) ⟨rfl, rfl, rfl, rfl, rfl, rfl, rfl, rfl, rfl, rfl, rfl, rfl, rfl, rfl, rfl, rfl, rfl, rfl, rfl, rfl, rfl, rfl, rfl, trivial⟩ (by rfl) (by rfl) (by omega) (by show 22 ≤ 23; omega) (by omega) (by omega) rfl rfl ?_
  have hb_q2 := jsgn_b (jlz (-q1) r7 r8 0 0 0)
  generalize hq_q2 : (jlz (-q1) r7 r8 0 0 0).sign = q2 at hb_q2 g_1 ⊢
  subst hq_q2
  exact jT_ret rfl (by decide) (by show 22 ≤ 23; omega) (by omega) (by omega) ⟨rfl, rfl, rfl⟩
theorem jIQ_299_0 : jmI (jm 299) 0 = (.aload_n 0, 1) := by rfl
def jpQ_546 : List JC := [jzQ_371, jgh, (100, [], jS0), jgh, jgh, jgh, jgh, (130, [], [17, 18, 19, 20, 21, 22]), (101, [], [0, 0, 0, 0, 0, 0]), jgh, jgh, jgh, jgh, jgh, jgh, jgh, jgh, (100, [], (jenc (jlg 0))), (100, [], (jenc (jlg 1))), (100, [], (jenc (jlg 2))), (100, [], (jenc (jlg 3))), (100, [], (jenc (jlg 4))), (100, [], (jenc (jlg 5)))]
theorem jIQ_299_4 : jmI (jm 299) 4 = (.aload_n 0, 1) := by rfl
theorem jIQ_299_5 : jmI (jm 299) 5 = (.getfield 31, 3) := by rfl
theorem jIQ_299_8 : jmI (jm 299) 8 = (.iconst 1, 1) := by rfl
theorem jIQ_299_9 : jmI (jm 299) 9 = (.iload_n 1, 1) := by rfl
theorem jIQ_299_10 : jmI (jm 299) 10 = (.i2l, 1) := by rfl
theorem jIQ_299_12 : jmI (jm 299) 12 = (.aload_n 0, 1) := by rfl
theorem jIQ_299_13 : jmI (jm 299) 13 = (.getfield 31, 3) := by rfl
theorem jIQ_299_16 : jmI (jm 299) 16 = (.iconst 2, 1) := by rfl
theorem jIQ_299_17 : jmI (jm 299) 17 = (.iload_n 2, 1) := by rfl
theorem jIQ_299_18 : jmI (jm 299) 18 = (.i2l, 1) := by rfl
theorem jIQ_299_20 : jmI (jm 299) 20 = (.aload_n 0, 1) := by rfl
theorem jIQ_299_24 : jmI (jm 299) 24 = (.lstore 5, 2) := by rfl
theorem jIQ_299_26 : jmI (jm 299) 26 = (.lload 5, 2) := by rfl
theorem jIQ_299_28 : jmI (jm 299) 28 = (.aload_n 0, 1) := by rfl
theorem jIQ_299_29 : jmI (jm 299) 29 = (.getfield 31, 3) := by rfl
theorem jIQ_299_32 : jmI (jm 299) 32 = (.iconst 0, 1) := by rfl
theorem jIQ_299_33 : jmI (jm 299) 33 = (.laload, 1) := by rfl
theorem jIQ_299_36 : jmI (jm 299) 36 = (.ifCond .ne 18, 3) := by rfl
theorem jIQ_299_39 : jmI (jm 299) 39 = (.aload_n 0, 1) := by rfl
theorem jIQ_299_40 : jmI (jm 299) 40 = (.aload_n 0, 1) := by rfl
theorem jIQ_299_41 : jmI (jm 299) 41 = (.getfield 9, 3) := by rfl
theorem jIQ_299_44 : jmI (jm 299) 44 = (.bipush 7, 2) := by rfl
theorem jIQ_299_46 : jmI (jm 299) 46 = (.iload_n 3, 1) := by rfl
theorem jIQ_299_47 : jmI (jm 299) 47 = (.imul, 1) := by rfl
theorem jIQ_299_51 : jmI (jm 299) 51 = (.ifCond .lt 5, 3) := by rfl
theorem jIQ_299_54 : jmI (jm 299) 54 = (.iconst 0, 1) := by rfl
theorem jQ_299_172 {xs : List Int} {d : Nat} {o3 r7 r8 u127_0 u127_1 u127_2 u127_3 u127_4 u127_5 : Int} (h_o3 : 0 ≤ o3 ∧ o3 ≤ 7) (h_r7 : (-20) ≤ r7 ∧ r7 ≤ 20) (h_r8 : (-10) ≤ r8 ∧ r8 ≤ 10) (g_0 : 0 < r7) : jT xs (d + 7) 299 23 0 [(0, (4, 0)), (1, (0, r7)), (2, (0, r8)), (3, (0, o3)), (4, (4, 1))] [] [jzQ_371, jgh, (100, [], jS0), jgh, jgh, jgh, jgh, (130, [], [17, 18, 19, 20, 21, 22]), (101, [], [u127_0, u127_1, u127_2, u127_3, u127_4, u127_5]), jgh, jgh, jgh, jgh, jgh, jgh, jgh, jgh, (100, [], (jenc (jlg 0))), (100, [], (jenc (jlg 1))), (100, [], (jenc (jlg 2))), (100, [], (jenc (jlg 3))), (100, [], (jenc (jlg 4))), (100, [], (jenc (jlg 5)))] 80 4280 (fun k v hsN => k = 0 ∧ v = (0, 0) ∧ hsN = [jzQ_371, jgh, (100, [], jS0), jgh, jgh, jgh, jgh, (130, [], [17, 18, 19, 20, 21, 22]), (101, [], [-(jkn r7 r8), r7, r8, 0, 0, 0]), jgh, jgh, jgh, jgh, jgh, jgh, jgh, jgh, (100, [], (jenc (jlg 0))), (100, [], (jenc (jlg 1))), (100, [], (jenc (jlg 2))), (100, [], (jenc (jlg 3))), (100, [], (jenc (jlg 4))), (100, [], (jenc (jlg 5))), (101, [], [-(jkn r7 r8), r7, r8, 0, 0, 0])]) := by
  refine jT_xaload_n (v := (4, 0)) (pcN := 1) jIQ_299_0 rfl rfl rfl ?_
  refine jT_callB [0, 2, 3, 4, 5, 6, 7, 8, 9, 10, 11, 12, 13, 14, 15, 16] (y := 193) (pcN := 4) (dC := 0) (bc1 := 0) (bc2 := 0) (c1 := 80) (c2 := 4280) (as := [(4, 0)]) (asC := [(4, 0)]) (LN := [(0, (4, 0)), (1, (0, r7)), (2, (0, r8)), (3, (0, o3)), (4, (4, 1))]) (stN := []) (hsC := [jzQ_20, jgh, jgh, jgh, jgh, jgh, jgh, (101, [], [u127_0, u127_1, u127_2, u127_3, u127_4, u127_5]), jgh, jgh, jgh, jgh, jgh, jgh, jgh, jgh]) (hsD := jpQ_394) (v := (9, 0)) (st2 := []) (hs2 := jpQ_546) (jQ_193_145 (d := 0)) (by rfl) (by rfl) (by rfl) (by rfl) ⟨rfl, rfl, rfl, rfl, rfl, rfl, rfl, rfl, rfl, rfl, rfl, rfl, rfl, rfl, rfl, rfl, trivial⟩ (by rfl) (by rfl) (by omega) (by show 23 ≤ 23; omega) (by omega) (by omega) rfl rfl ?_
  refine jT_xaload_n (v := (4, 0)) (pcN := 5) jIQ_299_4 rfl rfl rfl ?_
  refine jT_xgetf (a := 0) (t := 1) (ci := 14) (fi := 9) (c := jzQ_371) (v := (4, 8)) (pcN := 8) jIQ_299_5 rfl rfl rfl rfl rfl rfl rfl ?_
  refine jT_xiconst (k := 1) (pcN := 9) jIQ_299_8 rfl ?_
  refine jT_xiload_n (v := (0, r7)) (pcN := 10) jIQ_299_9 rfl rfl rfl ?_
  refine jT_xi2l (x := r7) (z := r7) (pcN := 11) jIQ_299_10 rfl (jw_idd (by omega) (by omega)) rfl ?_
  refine jT_adv 1 (pcN := 12) (LN := [(0, (4, 0)), (1, (0, r7)), (2, (0, r8)), (3, (0, o3)), (4, (4, 1))]) (stN := []) (hsN := [jzQ_371, jgh, (100, [], jS0), jgh, jgh, jgh, jgh, (130, [], [17, 18, 19, 20, 21, 22]), (101, [], [0, r7, 0, 0, 0, 0]), jgh, jgh, jgh, jgh, jgh, jgh, jgh, jgh, (100, [], (jenc (jlg 0))), (100, [], (jenc (jlg 1))), (100, [], (jenc (jlg 2))), (100, [], (jenc (jlg 3))), (100, [], (jenc (jlg 4))), (100, [], (jenc (jlg 5)))]) (c1 := 0) (s1 := 0) (c2 := 80) (s2 := 4280) (by exact rfl) ?_ (by omega) (by omega)
  refine jT_xaload_n (v := (4, 0)) (pcN := 13) jIQ_299_12 rfl rfl rfl ?_
  refine jT_xgetf (a := 0) (t := 1) (ci := 14) (fi := 9) (c := jzQ_371) (v := (4, 8)) (pcN := 16) jIQ_299_13 rfl rfl rfl rfl rfl rfl rfl ?_
  refine jT_xiconst (k := 2) (pcN := 17) jIQ_299_16 rfl ?_
  refine jT_xiload_n (v := (0, r8)) (pcN := 18) jIQ_299_17 rfl rfl rfl ?_
  refine jT_xi2l (x := r8) (z := r8) (pcN := 19) jIQ_299_18 rfl (jw_idd (by omega) (by omega)) rfl ?_
  refine jT_adv 1 (pcN := 20) (LN := [(0, (4, 0)), (1, (0, r7)), (2, (0, r8)), (3, (0, o3)), (4, (4, 1))]) (stN := []) (hsN := [jzQ_371, jgh, (100, [], jS0), jgh, jgh, jgh, jgh, (130, [], [17, 18, 19, 20, 21, 22]), (101, [], [0, r7, r8, 0, 0, 0]), jgh, jgh, jgh, jgh, jgh, jgh, jgh, jgh, (100, [], (jenc (jlg 0))), (100, [], (jenc (jlg 1))), (100, [], (jenc (jlg 2))), (100, [], (jenc (jlg 3))), (100, [], (jenc (jlg 4))), (100, [], (jenc (jlg 5)))]) (c1 := 0) (s1 := 0) (c2 := 80) (s2 := 4280) (by exact rfl) ?_ (by omega) (by omega)
  refine jT_xaload_n (v := (4, 0)) (pcN := 21) jIQ_299_20 rfl rfl rfl ?_
  refine jT_callB [0, 2, 3, 4, 5, 6, 7, 8, 9, 10, 11, 12, 13, 14, 15, 16, 17, 18, 19, 20, 21, 22] (y := 209) (pcN := 24) (dC := 6) (bc1 := 60) (bc2 := 3210) (c1 := 20) (c2 := 1070) (as := [(4, 0)]) (asC := [(4, 0)]) (LN := [(0, (4, 0)), (1, (0, r7)), (2, (0, r8)), (3, (0, o3)), (4, (4, 1))]) (stN := []) (hsC := [jzQ_20, jgh, jgh, jgh, jgh, jgh, (130, [], [16, 17, 18, 19, 20, 21]), (101, [], [0, r7, r8, 0, 0, 0]), jgh, jgh, jgh, jgh, jgh, jgh, jgh, jgh, (100, [], (jenc (jlg 0))), (100, [], (jenc (jlg 1))), (100, [], (jenc (jlg 2))), (100, [], (jenc (jlg 3))), (100, [], (jenc (jlg 4))), (100, [], (jenc (jlg 5)))]) (hsD := [jzQ_20, jgh, jgh, jgh, jgh, jgh, (130, [], [16, 17, 18, 19, 20, 21]), (101, [], [-(jkn r7 r8), r7, r8, 0, 0, 0]), jgh, jgh, jgh, jgh, jgh, jgh, jgh, jgh, (100, [], (jenc (jlg 0))), (100, [], (jenc (jlg 1))), (100, [], (jenc (jlg 2))), (100, [], (jenc (jlg 3))), (100, [], (jenc (jlg 4))), (100, [], (jenc (jlg 5)))]) (v := (1, jkn r7 r8)) (st2 := [(1, jkn r7 r8)]) (hs2 := [jzQ_371, jgh, (100, [], jS0), jgh, jgh, jgh, jgh, (130, [], [17, 18, 19, 20, 21, 22]), (101, [], [-(jkn r7 r8), r7, r8, 0, 0, 0]), jgh, jgh, jgh, jgh, jgh, jgh, jgh, jgh, (100, [], (jenc (jlg 0))), (100, [], (jenc (jlg 1))), (100, [], (jenc (jlg 2))), (100, [], (jenc (jlg 3))), (100, [], (jenc (jlg 4))), (100, [], (jenc (jlg 5)))]) (jQ_209_170 (d := 0) (by omega) (by omega) (by omega)) (by rfl) (by rfl) (by rfl) (by rfl) ⟨rfl, rfl, rfl, rfl, rfl, rfl, rfl, rfl, rfl, rfl, rfl, rfl, rfl, rfl, rfl, rfl, rfl, rfl, rfl, rfl, rfl, rfl, trivial⟩ (by rfl) (by rfl) (by omega) (by show 23 ≤ 23; omega) (by omega) (by omega) rfl rfl ?_
  have hb_q1 := jkn_b (b := r7) (c := r8) (by omega) (by omega)
  generalize hq_q1 : jkn r7 r8 = q1 at hb_q1 ⊢
  refine jT_eq (LN := [(0, (4, 0)), (1, (0, r7)), (2, (0, r8)), (3, (0, o3)), (4, (4, 1))]) (stN := [(1, q1)]) (hsN := [jzQ_371, jgh, (100, [], jS0), jgh, jgh, jgh, jgh, (130, [], [17, 18, 19, 20, 21, 22]), (101, [], [-q1, r7, r8, 0, 0, 0]), jgh, jgh, jgh, jgh, jgh, jgh, jgh, jgh, (100, [], (jenc (jlg 0))), (100, [], (jenc (jlg 1))), (100, [], (jenc (jlg 2))), (100, [], (jenc (jlg 3))), (100, [], (jenc (jlg 4))), (100, [], (jenc (jlg 5)))]) (rfl) (rfl) (by simp only [List.cons.injEq, Prod.mk.injEq, and_true, true_and] <;> ((try unfold jw); (try unfold jwl); omega)) ?_
  refine jT_xlstore (v := (1, q1)) (LN := [(5, (1, q1)), (0, (4, 0)), (1, (0, r7)), (2, (0, r8)), (3, (0, o3)), (4, (4, 1))]) (pcN := 26) jIQ_299_24 rfl rfl rfl rfl ?_
  have g_1 : 0 ≤ (jlz (-q1) r7 r8 0 0 0).sign := by rw [← hq_q1]; exact jkn_s (by omega) (by omega)
  refine jT_xlload (v := (1, q1)) (pcN := 28) jIQ_299_26 rfl rfl rfl ?_
  refine jT_xaload_n (v := (4, 0)) (pcN := 29) jIQ_299_28 rfl rfl rfl ?_
  refine jT_xgetf (a := 0) (t := 1) (ci := 14) (fi := 9) (c := jzQ_371) (v := (4, 8)) (pcN := 32) jIQ_299_29 rfl rfl rfl rfl rfl rfl rfl ?_
  refine jT_xiconst (k := 0) (pcN := 33) jIQ_299_32 rfl ?_
  refine jT_lald (x := -q1) (a := 8) (j := 0) (fs := []) (X := [-q1, r7, r8, 0, 0, 0]) jIQ_299_33 rfl rfl rfl rfl ?_
  refine jT_eq (LN := [(5, (1, q1)), (0, (4, 0)), (1, (0, r7)), (2, (0, r8)), (3, (0, o3)), (4, (4, 1))]) (stN := [(1, -q1), (1, q1)]) (hsN := [jzQ_371, jgh, (100, [], jS0), jgh, jgh, jgh, jgh, (130, [], [17, 18, 19, 20, 21, 22]), (101, [], [-q1, r7, r8, 0, 0, 0]), jgh, jgh, jgh, jgh, jgh, jgh, jgh, jgh, (100, [], (jenc (jlg 0))), (100, [], (jenc (jlg 1))), (100, [], (jenc (jlg 2))), (100, [], (jenc (jlg 3))), (100, [], (jenc (jlg 4))), (100, [], (jenc (jlg 5)))]) rfl rfl rfl ?_
  refine jT_adv 1 (pcN := 35) (LN := [(5, (1, q1)), (0, (4, 0)), (1, (0, r7)), (2, (0, r8)), (3, (0, o3)), (4, (4, 1))]) (stN := [(1, -(-q1)), (1, q1)]) (hsN := [jzQ_371, jgh, (100, [], jS0), jgh, jgh, jgh, jgh, (130, [], [17, 18, 19, 20, 21, 22]), (101, [], [-q1, r7, r8, 0, 0, 0]), jgh, jgh, jgh, jgh, jgh, jgh, jgh, jgh, (100, [], (jenc (jlg 0))), (100, [], (jenc (jlg 1))), (100, [], (jenc (jlg 2))), (100, [], (jenc (jlg 3))), (100, [], (jenc (jlg 4))), (100, [], (jenc (jlg 5)))]) (c1 := 0) (s1 := 0) (c2 := 20) (s2 := 1070) (by exact rfl) ?_ (by omega) (by omega)
  refine jT_eq (LN := [(5, (1, q1)), (0, (4, 0)), (1, (0, r7)), (2, (0, r8)), (3, (0, o3)), (4, (4, 1))]) (stN := [(1, q1), (1, q1)]) (hsN := [jzQ_371, jgh, (100, [], jS0), jgh, jgh, jgh, jgh, (130, [], [17, 18, 19, 20, 21, 22]), (101, [], [-q1, r7, r8, 0, 0, 0]), jgh, jgh, jgh, jgh, jgh, jgh, jgh, jgh, (100, [], (jenc (jlg 0))), (100, [], (jenc (jlg 1))), (100, [], (jenc (jlg 2))), (100, [], (jenc (jlg 3))), (100, [], (jenc (jlg 4))), (100, [], (jenc (jlg 5)))]) (rfl) (by simp only [List.cons.injEq, Prod.mk.injEq, and_true, true_and] <;> ((try unfold jw); (try unfold jwl); omega)) (rfl) ?_
  refine jT_lcmp (a := q1) (b := q1) (z := 0) (by rfl) (by rfl) (jwl_idd (by omega) (by omega)) (jwl_idd (by omega) (by omega)) (by rw [decide_eq_false (show ¬ ((q1 : Int) < q1) by omega), decide_eq_true (show (q1 : Int) = q1 by omega)]; rfl) ?_
  refine jT_xifF (t := 54) (pcN := 39) jIQ_299_36 rfl (by decide +kernel) rfl rfl ?_
  refine jT_xaload_n (v := (4, 0)) (pcN := 40) jIQ_299_39 rfl rfl rfl ?_
  refine jT_xaload_n (v := (4, 0)) (pcN := 41) jIQ_299_40 rfl rfl rfl ?_
  refine jT_xgetf (a := 0) (t := 1) (ci := 14) (fi := 1) (c := jzQ_371) (v := (4, 2)) (pcN := 44) jIQ_299_41 rfl rfl rfl rfl rfl rfl rfl ?_
  refine jT_xbipush (k := 7) (pcN := 46) jIQ_299_44 (by decide) rfl ?_
  refine jT_xiload_n (v := (0, o3)) (pcN := 47) jIQ_299_46 rfl rfl rfl ?_
  refine jT_ximul (x := 7) (y := o3) (z := 7 * o3) (pcN := 48) jIQ_299_47 rfl (rfl) rfl ?_
  refine jT_callA [0, 2, 3, 4, 5, 6, 7, 8, 9, 10, 11, 12, 13, 14, 15, 16, 17, 18, 19, 20, 21, 22] (y := 240) (pcN := 51) (dC := 4) (bc1 := 20) (bc2 := 1070) (c1 := 0) (c2 := 0) (as := [(4, 0), (4, 2), (0, 7 * o3)]) (asC := [(4, 0), (4, 1), (0, 7 * o3)]) (LN := [(5, (1, q1)), (0, (4, 0)), (1, (0, r7)), (2, (0, r8)), (3, (0, o3)), (4, (4, 1))]) (stN := []) (hsC := [jzQ_20, (100, [], jS0), jgh, jgh, jgh, jgh, (130, [], [16, 17, 18, 19, 20, 21]), (101, [], [-q1, r7, r8, 0, 0, 0]), jgh, jgh, jgh, jgh, jgh, jgh, jgh, jgh, (100, [], (jenc (jlg 0))), (100, [], (jenc (jlg 1))), (100, [], (jenc (jlg 2))), (100, [], (jenc (jlg 3))), (100, [], (jenc (jlg 4))), (100, [], (jenc (jlg 5)))]) (ex := [(101, [], [-q1, r7, r8, 0, 0, 0])]) (v := (0, (jlz (-q1) r7 r8 0 0 0).sign)) (st2 := [(0, (jlz (-q1) r7 r8 0 0 0).sign)]) (hs2 := [jzQ_371, jgh, (100, [], jS0), jgh, jgh, jgh, jgh, (130, [], [17, 18, 19, 20, 21, 22]), (101, [], [-q1, r7, r8, 0, 0, 0]), jgh, jgh, jgh, jgh, jgh, jgh, jgh, jgh, (100, [], (jenc (jlg 0))), (100, [], (jenc (jlg 1))), (100, [], (jenc (jlg 2))), (100, [], (jenc (jlg 3))), (100, [], (jenc (jlg 4))), (100, [], (jenc (jlg 5))), (101, [], [-q1, r7, r8, 0, 0, 0])]) (jQ_240_171 (d := 0) (by omega) (by omega) (by omega) (by omega) (by omega) (by omega)) (by rfl) (by rfl) (by rfl) (by rfl) ⟨rfl, rfl, rfl, rfl, rfl, rfl, rfl, rfl, rfl, rfl, rfl, rfl, rfl, rfl, rfl, rfl, rfl, rfl, rfl, rfl, rfl, rfl, trivial⟩ (by rfl) (by rfl) (by omega) (by show 23 ≤ 23; omega) (by omega) (by omega) rfl rfl ?_
  have hb_q2 := jsgn_b (jlz (-q1) r7 r8 0 0 0)
  generalize hq_q2 : (jlz (-q1) r7 r8 0 0 0).sign = q2 at hb_q2 g_1 ⊢
  refine jT_ifF (a := q2) (t := 56) (by rfl) (by rfl) (by rfl) (jw_idd (by omega) (by omega)) (by simp only [jcP] <;> omega) ?_
  refine jT_xiconst (k := 0) (pcN := 55) jIQ_299_54 rfl ?_
  subst hq_q2
  subst hq_q1
  exact jT_ret rfl (by decide) (by show 23 ≤ 24; omega) (by omega) (by omega) ⟨rfl, rfl, rfl⟩
theorem jQ_209_173 {xs : List Int} {d : Nat} {r7 r8 : Int} (h_r7 : (-20) ≤ r7 ∧ r7 ≤ 20) (h_r8 : (-10) ≤ r8 ∧ r8 ≤ 10) (g_0 : 0 ≤ r7) (g_1 : r7 ≤ 0) (g_2 : 0 < r8) : jT xs (d + 6) 209 22 0 [(0, (4, 0))] [] [jzQ_20, jgh, jgh, jgh, jgh, jgh, (130, [], [16, 17, 18, 19, 20, 21]), (101, [], [0, r7, r8, 0, 0, 0]), jgh, jgh, jgh, jgh, jgh, jgh, jgh, jgh, (100, [], (jenc (jlg 0))), (100, [], (jenc (jlg 1))), (100, [], (jenc (jlg 2))), (100, [], (jenc (jlg 3))), (100, [], (jenc (jlg 4))), (100, [], (jenc (jlg 5)))] 60 3210 (fun k v hsN => k = 0 ∧ v = (1, jkn r7 r8) ∧ hsN = [jzQ_20, jgh, jgh, jgh, jgh, jgh, (130, [], [16, 17, 18, 19, 20, 21]), (101, [], [-(jkn r7 r8), r7, r8, 0, 0, 0]), jgh, jgh, jgh, jgh, jgh, jgh, jgh, jgh, (100, [], (jenc (jlg 0))), (100, [], (jenc (jlg 1))), (100, [], (jenc (jlg 2))), (100, [], (jenc (jlg 3))), (100, [], (jenc (jlg 4))), (100, [], (jenc (jlg 5)))]) := by
  refine jT_xaload_n (v := (4, 0)) (pcN := 1) jIQ_209_0 rfl rfl rfl ?_
  refine jT_xaload_n (v := (4, 0)) (pcN := 2) jIQ_209_1 rfl rfl rfl ?_
  refine jT_xgetf (a := 0) (t := 1) (ci := 14) (fi := 9) (c := jzQ_20) (v := (4, 7)) (pcN := 5) jIQ_209_2 rfl rfl rfl rfl rfl rfl rfl ?_
  refine jT_xaload_n (v := (4, 0)) (pcN := 6) jIQ_209_5 rfl rfl rfl ?_
  refine jT_xgetf (a := 0) (t := 1) (ci := 14) (fi := 10) (c := jzQ_20) (v := (1, 1)) (pcN := 9) jIQ_209_6 rfl rfl rfl rfl rfl rfl rfl ?_
  refine jT_callA [0, 7, 1, 2, 3, 4, 5, 6, 8, 9, 10, 11, 12, 13, 14, 15, 16, 17, 18, 19, 20, 21] (y := 210) (pcN := 12) (dC := 5) (bc1 := 60) (bc2 := 3210) (c1 := 0) (c2 := 0) (as := [(4, 0), (4, 7), (1, 1)]) (asC := [(4, 0), (4, 1), (1, 1)]) (LN := [(0, (4, 0))]) (stN := []) (hsC := [jzQ_378, (101, [], [0, r7, r8, 0, 0, 0]), jgh, jgh, jgh, jgh, jgh, (130, [], [16, 17, 18, 19, 20, 21]), jgh, jgh, jgh, jgh, jgh, jgh, jgh, jgh, (100, [], (jenc (jlg 0))), (100, [], (jenc (jlg 1))), (100, [], (jenc (jlg 2))), (100, [], (jenc (jlg 3))), (100, [], (jenc (jlg 4))), (100, [], (jenc (jlg 5)))]) (ex := []) (v := (1, jkn r7 r8)) (st2 := [(1, jkn r7 r8)]) (hs2 := [jzQ_20, jgh, jgh, jgh, jgh, jgh, (130, [], [16, 17, 18, 19, 20, 21]), (101, [], [0, r7, r8, 0, 0, 0]), jgh, jgh, jgh, jgh, jgh, jgh, jgh, jgh, (100, [], (jenc (jlg 0))), (100, [], (jenc (jlg 1))), (100, [], (jenc (jlg 2))), (100, [], (jenc (jlg 3))), (100, [], (jenc (jlg 4))), (100, [], (jenc (jlg 5)))]) (jQl_ps_169 (d := 0) (by omega) (by omega)) (by rfl) (by rfl) (by rfl) (by rfl) ⟨rfl, rfl, rfl, rfl, rfl, rfl, rfl, rfl, rfl, rfl, rfl, rfl, rfl, rfl, rfl, rfl, rfl, rfl, rfl, rfl, rfl, rfl, trivial⟩ (by rfl) (by rfl) (by omega) (by show 22 ≤ 22; omega) (by omega) (by omega) rfl rfl ?_
  have hb_q1 := jkn_b (b := r7) (c := r8) (by omega) (by omega)
  generalize hq_q1 : jkn r7 r8 = q1 at hb_q1 ⊢
  refine jT_xlstore_n (v := (1, q1)) (LN := [(1, (1, q1)), (0, (4, 0))]) (pcN := 13) jIQ_209_12 rfl rfl rfl rfl ?_
  refine jT_xaload_n (v := (4, 0)) (pcN := 14) jIQ_209_13 rfl rfl rfl ?_
  refine jT_xgetf (a := 0) (t := 1) (ci := 14) (fi := 9) (c := jzQ_20) (v := (4, 7)) (pcN := 17) jIQ_209_14 rfl rfl rfl rfl rfl rfl rfl ?_
  refine jT_xiconst (k := 0) (pcN := 18) jIQ_209_17 rfl ?_
  refine jT_adv 1 (pcN := 19) (LN := [(1, (1, q1)), (0, (4, 0))]) (stN := [(0, 0), (4, 7), (0, 0), (4, 7)]) (hsN := [jzQ_20, jgh, jgh, jgh, jgh, jgh, (130, [], [16, 17, 18, 19, 20, 21]), (101, [], [0, r7, r8, 0, 0, 0]), jgh, jgh, jgh, jgh, jgh, jgh, jgh, jgh, (100, [], (jenc (jlg 0))), (100, [], (jenc (jlg 1))), (100, [], (jenc (jlg 2))), (100, [], (jenc (jlg 3))), (100, [], (jenc (jlg 4))), (100, [], (jenc (jlg 5)))]) (c1 := 0) (s1 := 0) (c2 := 0) (s2 := 0) (by exact rfl) ?_ (by omega) (by omega)
  refine jT_lald (x := 0) (a := 7) (j := 0) (fs := []) (X := [0, r7, r8, 0, 0, 0]) jIQ_209_19 rfl rfl rfl rfl ?_
  refine jT_eq (LN := [(1, (1, q1)), (0, (4, 0))]) (stN := [(1, 0), (0, 0), (4, 7)]) (hsN := [jzQ_20, jgh, jgh, jgh, jgh, jgh, (130, [], [16, 17, 18, 19, 20, 21]), (101, [], [0, r7, r8, 0, 0, 0]), jgh, jgh, jgh, jgh, jgh, jgh, jgh, jgh, (100, [], (jenc (jlg 0))), (100, [], (jenc (jlg 1))), (100, [], (jenc (jlg 2))), (100, [], (jenc (jlg 3))), (100, [], (jenc (jlg 4))), (100, [], (jenc (jlg 5)))]) rfl rfl rfl ?_
  refine jT_xlload_n (v := (1, q1)) (pcN := 21) jIQ_209_20 rfl rfl rfl ?_
  refine jT_xaload_n (v := (4, 0)) (pcN := 22) jIQ_209_21 rfl rfl rfl ?_
  refine jT_xgetf (a := 0) (t := 1) (ci := 14) (fi := 10) (c := jzQ_20) (v := (1, 1)) (pcN := 25) jIQ_209_22 rfl rfl rfl rfl rfl rfl rfl ?_
  refine jT_xlmul (x := q1) (y := 1) (z := q1) (pcN := 26) jIQ_209_25 rfl (by omega) rfl ?_
  refine jT_xlsub (x := 0) (y := q1) (z := -q1) (pcN := 27) jIQ_209_26 rfl (by omega) rfl ?_
  refine jT_adv 1 (pcN := 28) (LN := [(1, (1, q1)), (0, (4, 0))]) (stN := []) (hsN := [jzQ_20, jgh, jgh, jgh, jgh, jgh, (130, [], [16, 17, 18, 19, 20, 21]), (101, [], [-q1, r7, r8, 0, 0, 0]), jgh, jgh, jgh, jgh, jgh, jgh, jgh, jgh, (100, [], (jenc (jlg 0))), (100, [], (jenc (jlg 1))), (100, [], (jenc (jlg 2))), (100, [], (jenc (jlg 3))), (100, [], (jenc (jlg 4))), (100, [], (jenc (jlg 5)))]) (c1 := 0) (s1 := 0) (c2 := 0) (s2 := 0) (by exact rfl) ?_ (by omega) (by omega)
  refine jT_xlload_n (v := (1, q1)) (pcN := 29) jIQ_209_28 rfl rfl rfl ?_
  subst hq_q1
  exact jT_ret rfl (by decide) (by show 22 ≤ 22; omega) (by omega) (by omega) ⟨rfl, rfl, rfl⟩
theorem jQ_240_174 {xs : List Int} {d : Nat} {o3 q1 r7 r8 : Int} (h_o3 : 0 ≤ o3 ∧ o3 ≤ 7) (h_q1 : (-60) ≤ q1 ∧ q1 ≤ 60) (h_r7 : (-20) ≤ r7 ∧ r7 ≤ 20) (h_r8 : (-10) ≤ r8 ∧ r8 ≤ 10) (g_0 : 0 ≤ r7) (g_1 : r7 ≤ 0) (g_2 : 0 < r8) (g_3 : 0 ≤ (jlz (-q1) r7 r8 0 0 0).sign) : jT xs (d + 4) 240 22 0 [(0, (4, 0)), (1, (4, 1)), (2, (0, 7 * o3))] [] [jzQ_20, (100, [], jS0), jgh, jgh, jgh, jgh, (130, [], [16, 17, 18, 19, 20, 21]), (101, [], [-q1, r7, r8, 0, 0, 0]), jgh, jgh, jgh, jgh, jgh, jgh, jgh, jgh, (100, [], (jenc (jlg 0))), (100, [], (jenc (jlg 1))), (100, [], (jenc (jlg 2))), (100, [], (jenc (jlg 3))), (100, [], (jenc (jlg 4))), (100, [], (jenc (jlg 5)))] 20 1070 (fun k v hsN => k = 0 ∧ v = (0, (jlz (-q1) r7 r8 0 0 0).sign) ∧ hsN = [jzQ_20, (100, [], jS0), jgh, jgh, jgh, jgh, (130, [], [16, 17, 18, 19, 20, 21]), (101, [], [-q1, r7, r8, 0, 0, 0]), jgh, jgh, jgh, jgh, jgh, jgh, jgh, jgh, (100, [], (jenc (jlg 0))), (100, [], (jenc (jlg 1))), (100, [], (jenc (jlg 2))), (100, [], (jenc (jlg 3))), (100, [], (jenc (jlg 4))), (100, [], (jenc (jlg 5)))] ++ [(101, [], [-q1, r7, r8, 0, 0, 0])]) := by
  refine jT_xbipush (k := 6) (pcN := 2) jIQ_240_0 (by decide) rfl ?_
  refine jT_adv 1 (pcN := 4) (LN := [(0, (4, 0)), (1, (4, 1)), (2, (0, 7 * o3))]) (stN := [(4, 22)]) (hsN := [jzQ_20, (100, [], jS0), jgh, jgh, jgh, jgh, (130, [], [16, 17, 18, 19, 20, 21]), (101, [], [-q1, r7, r8, 0, 0, 0]), jgh, jgh, jgh, jgh, jgh, jgh, jgh, jgh, (100, [], (jenc (jlg 0))), (100, [], (jenc (jlg 1))), (100, [], (jenc (jlg 2))), (100, [], (jenc (jlg 3))), (100, [], (jenc (jlg 4))), (100, [], (jenc (jlg 5))), (101, [], [0, 0, 0, 0, 0, 0])]) (c1 := 1) (s1 := 6) (c2 := 19) (s2 := 1064) (by exact rfl) ?_ (by omega) (by omega)
  refine jT_xastore_n (v := (4, 22)) (LN := [(3, (4, 22)), (0, (4, 0)), (1, (4, 1)), (2, (0, 7 * o3))]) (pcN := 5) jIQ_240_4 rfl rfl rfl rfl ?_
  refine jT_xiconst (k := 0) (pcN := 6) jIQ_240_5 rfl ?_
  refine jT_xistore (v := (0, 0)) (LN := [(4, (0, 0)), (3, (4, 22)), (0, (4, 0)), (1, (4, 1)), (2, (0, 7 * o3))]) (pcN := 8) jIQ_240_6 rfl rfl rfl rfl ?_
  refine jT_xiload (v := (0, 0)) (pcN := 10) jIQ_240_8 rfl rfl rfl ?_
  refine jT_xbipush (k := 6) (pcN := 12) jIQ_240_10 (by decide) rfl ?_
  refine jT_xicF (t := 53) (pcN := 15) jIQ_240_12 rfl (by decide +kernel) rfl rfl ?_
  refine jT_xaload_n (v := (4, 22)) (pcN := 16) jIQ_240_15 rfl rfl rfl ?_
  refine jT_xiload (v := (0, 0)) (pcN := 18) jIQ_240_16 rfl rfl rfl ?_
  refine jT_xaload_n (v := (4, 0)) (pcN := 19) jIQ_240_18 rfl rfl rfl ?_
  refine jT_xgetf (a := 0) (t := 1) (ci := 14) (fi := 9) (c := jzQ_20) (v := (4, 7)) (pcN := 22) jIQ_240_19 rfl rfl rfl rfl rfl rfl rfl ?_
  refine jT_xiload (v := (0, 0)) (pcN := 24) jIQ_240_22 rfl rfl rfl ?_
  refine jT_lald (x := -q1) (a := 7) (j := 0) (fs := []) (X := [-q1, r7, r8, 0, 0, 0]) jIQ_240_24 rfl rfl rfl rfl ?_
  refine jT_eq (LN := [(4, (0, 0)), (3, (4, 22)), (0, (4, 0)), (1, (4, 1)), (2, (0, 7 * o3))]) (stN := [(1, -q1), (0, 0), (4, 22)]) (hsN := [jzQ_20, (100, [], jS0), jgh, jgh, jgh, jgh, (130, [], [16, 17, 18, 19, 20, 21]), (101, [], [-q1, r7, r8, 0, 0, 0]), jgh, jgh, jgh, jgh, jgh, jgh, jgh, jgh, (100, [], (jenc (jlg 0))), (100, [], (jenc (jlg 1))), (100, [], (jenc (jlg 2))), (100, [], (jenc (jlg 3))), (100, [], (jenc (jlg 4))), (100, [], (jenc (jlg 5))), (101, [], [0, 0, 0, 0, 0, 0])]) rfl rfl rfl ?_
  refine jT_xaload_n (v := (4, 1)) (pcN := 26) jIQ_240_25 rfl rfl rfl ?_
  refine jT_xiload_n (v := (0, 7 * o3)) (pcN := 27) jIQ_240_26 rfl rfl rfl ?_
  refine jT_xbipush (k := 6) (pcN := 29) jIQ_240_27 (by decide) rfl ?_
  refine jT_xiadd (x := 7 * o3) (y := 6) (z := 7 * o3 + 6) (pcN := 30) jIQ_240_29 rfl (by omega) rfl ?_
  refine jT_iald (x := 1) (a := 1) (j := (7 * o3 + 6).toNat) (fs := []) (X := jS0) (by rfl) (by rfl) (by rfl) (jw_nn (by omega) (by omega)) (jS0_r6 (by omega) (by omega)) ?_
  refine jT_eq (LN := [(4, (0, 0)), (3, (4, 22)), (0, (4, 0)), (1, (4, 1)), (2, (0, 7 * o3))]) (stN := [(0, 1), (1, -q1), (0, 0), (4, 22)]) (hsN := [jzQ_20, (100, [], jS0), jgh, jgh, jgh, jgh, (130, [], [16, 17, 18, 19, 20, 21]), (101, [], [-q1, r7, r8, 0, 0, 0]), jgh, jgh, jgh, jgh, jgh, jgh, jgh, jgh, (100, [], (jenc (jlg 0))), (100, [], (jenc (jlg 1))), (100, [], (jenc (jlg 2))), (100, [], (jenc (jlg 3))), (100, [], (jenc (jlg 4))), (100, [], (jenc (jlg 5))), (101, [], [0, 0, 0, 0, 0, 0])]) rfl rfl rfl ?_
  refine jT_xi2l (x := 1) (z := 1) (pcN := 32) jIQ_240_31 rfl (by decide +kernel) rfl ?_
  refine jT_xlmul (x := -q1) (y := 1) (z := -q1) (pcN := 33) jIQ_240_32 rfl (by omega) rfl ?_
  refine jT_xaload_n (v := (4, 1)) (pcN := 34) jIQ_240_33 rfl rfl rfl ?_
  refine jT_xiload_n (v := (0, 7 * o3)) (pcN := 35) jIQ_240_34 rfl rfl rfl ?_
  refine jT_xiload (v := (0, 0)) (pcN := 37) jIQ_240_35 rfl rfl rfl ?_
  refine jT_xiadd (x := 7 * o3) (y := 0) (z := 7 * o3) (pcN := 38) jIQ_240_37 rfl (by omega) rfl ?_
  refine jT_iald (x := 0) (a := 1) (j := (7 * o3).toNat) (fs := []) (X := jS0) (by rfl) (by rfl) (by rfl) (jw_nn (by omega) (by omega)) (jS0_r0 (by omega) (by omega)) ?_
  refine jT_eq (LN := [(4, (0, 0)), (3, (4, 22)), (0, (4, 0)), (1, (4, 1)), (2, (0, 7 * o3))]) (stN := [(0, 0), (1, -q1), (0, 0), (4, 22)]) (hsN := [jzQ_20, (100, [], jS0), jgh, jgh, jgh, jgh, (130, [], [16, 17, 18, 19, 20, 21]), (101, [], [-q1, r7, r8, 0, 0, 0]), jgh, jgh, jgh, jgh, jgh, jgh, jgh, jgh, (100, [], (jenc (jlg 0))), (100, [], (jenc (jlg 1))), (100, [], (jenc (jlg 2))), (100, [], (jenc (jlg 3))), (100, [], (jenc (jlg 4))), (100, [], (jenc (jlg 5))), (101, [], [0, 0, 0, 0, 0, 0])]) rfl rfl rfl ?_
  refine jT_xi2l (x := 0) (z := 0) (pcN := 40) jIQ_240_39 rfl (by decide +kernel) rfl ?_
  refine jT_xaload_n (v := (4, 0)) (pcN := 41) jIQ_240_40 rfl rfl rfl ?_
  refine jT_xgetf (a := 0) (t := 1) (ci := 14) (fi := 10) (c := jzQ_20) (v := (1, 1)) (pcN := 44) jIQ_240_41 rfl rfl rfl rfl rfl rfl rfl ?_
  refine jT_xlmul (x := 0) (y := 1) (z := 0) (pcN := 45) jIQ_240_44 rfl (by decide) rfl ?_
  refine jT_xlsub (x := -q1) (y := 0) (z := -q1) (pcN := 46) jIQ_240_45 rfl (by omega) rfl ?_
  refine jT_adv 1 (pcN := 47) (LN := [(4, (0, 0)), (3, (4, 22)), (0, (4, 0)), (1, (4, 1)), (2, (0, 7 * o3))]) (stN := []) (hsN := [jzQ_20, (100, [], jS0), jgh, jgh, jgh, jgh, (130, [], [16, 17, 18, 19, 20, 21]), (101, [], [-q1, r7, r8, 0, 0, 0]), jgh, jgh, jgh, jgh, jgh, jgh, jgh, jgh, (100, [], (jenc (jlg 0))), (100, [], (jenc (jlg 1))), (100, [], (jenc (jlg 2))), (100, [], (jenc (jlg 3))), (100, [], (jenc (jlg 4))), (100, [], (jenc (jlg 5))), (101, [], [-q1, 0, 0, 0, 0, 0])]) (c1 := 0) (s1 := 0) (c2 := 19) (s2 := 1064) (by exact rfl) ?_ (by omega) (by omega)
  refine jT_xiinc (x := 0) (z := 1) (LN := [(4, (0, 1)), (3, (4, 22)), (0, (4, 0)), (1, (4, 1)), (2, (0, 7 * o3))]) (pcN := 50) jIQ_240_47 rfl rfl (by decide) rfl rfl ?_
  refine jT_xgoto (pcN := 8) jIQ_240_50 rfl ?_
  refine jT_xiload (v := (0, 1)) (pcN := 10) jIQ_240_8 rfl rfl rfl ?_
  refine jT_xbipush (k := 6) (pcN := 12) jIQ_240_10 (by decide) rfl ?_
  refine jT_xicF (t := 53) (pcN := 15) jIQ_240_12 rfl (by decide +kernel) rfl rfl ?_
  refine jT_xaload_n (v := (4, 22)) (pcN := 16) jIQ_240_15 rfl rfl rfl ?_
  refine jT_xiload (v := (0, 1)) (pcN := 18) jIQ_240_16 rfl rfl rfl ?_
  refine jT_xaload_n (v := (4, 0)) (pcN := 19) jIQ_240_18 rfl rfl rfl ?_
  refine jT_xgetf (a := 0) (t := 1) (ci := 14) (fi := 9) (c := jzQ_20) (v := (4, 7)) (pcN := 22) jIQ_240_19 rfl rfl rfl rfl rfl rfl rfl ?_
  refine jT_xiload (v := (0, 1)) (pcN := 24) jIQ_240_22 rfl rfl rfl ?_
  refine jT_lald (x := r7) (a := 7) (j := 1) (fs := []) (X := [-q1, r7, r8, 0, 0, 0]) jIQ_240_24 rfl rfl rfl rfl ?_
  refine jT_eq (LN := [(4, (0, 1)), (3, (4, 22)), (0, (4, 0)), (1, (4, 1)), (2, (0, 7 * o3))]) (stN := [(1, r7), (0, 1), (4, 22)]) (hsN := [jzQ_20, (100, [], jS0), jgh, jgh, jgh, jgh, (130, [], [16, 17, 18, 19, 20, 21]), (101, [], [-q1, r7, r8, 0, 0, 0]), jgh, jgh, jgh, jgh, jgh, jgh, jgh, jgh, (100, [], (jenc (jlg 0))), (100, [], (jenc (jlg 1))), (100, [], (jenc (jlg 2))), (100, [], (jenc (jlg 3))), (100, [], (jenc (jlg 4))), (100, [], (jenc (jlg 5))), (101, [], [-q1, 0, 0, 0, 0, 0])]) rfl rfl rfl ?_
  refine jT_xaload_n (v := (4, 1)) (pcN := 26) jIQ_240_25 rfl rfl rfl ?_
  refine jT_xiload_n (v := (0, 7 * o3)) (pcN := 27) jIQ_240_26 rfl rfl rfl ?_
  refine jT_xbipush (k := 6) (pcN := 29) jIQ_240_27 (by decide) rfl ?_
  refine jT_xiadd (x := 7 * o3) (y := 6) (z := 7 * o3 + 6) (pcN := 30) jIQ_240_29 rfl (by omega) rfl ?_
  refine jT_iald (x := 1) (a := 1) (j := (7 * o3 + 6).toNat) (fs := []) (X := jS0) (by rfl) (by rfl) (by rfl) (jw_nn (by omega) (by omega)) (jS0_r6 (by omega) (by omega)) ?_
  refine jT_eq (LN := [(4, (0, 1)), (3, (4, 22)), (0, (4, 0)), (1, (4, 1)), (2, (0, 7 * o3))]) (stN := [(0, 1), (1, r7), (0, 1), (4, 22)]) (hsN := [jzQ_20, (100, [], jS0), jgh, jgh, jgh, jgh, (130, [], [16, 17, 18, 19, 20, 21]), (101, [], [-q1, r7, r8, 0, 0, 0]), jgh, jgh, jgh, jgh, jgh, jgh, jgh, jgh, (100, [], (jenc (jlg 0))), (100, [], (jenc (jlg 1))), (100, [], (jenc (jlg 2))), (100, [], (jenc (jlg 3))), (100, [], (jenc (jlg 4))), (100, [], (jenc (jlg 5))), (101, [], [-q1, 0, 0, 0, 0, 0])]) rfl rfl rfl ?_
  refine jT_xi2l (x := 1) (z := 1) (pcN := 32) jIQ_240_31 rfl (by decide +kernel) rfl ?_
  refine jT_xlmul (x := r7) (y := 1) (z := r7) (pcN := 33) jIQ_240_32 rfl (by omega) rfl ?_
  refine jT_xaload_n (v := (4, 1)) (pcN := 34) jIQ_240_33 rfl rfl rfl ?_
  refine jT_xiload_n (v := (0, 7 * o3)) (pcN := 35) jIQ_240_34 rfl rfl rfl ?_
  refine jT_xiload (v := (0, 1)) (pcN := 37) jIQ_240_35 rfl rfl rfl ?_
  refine jT_xiadd (x := 7 * o3) (y := 1) (z := 7 * o3 + 1) (pcN := 38) jIQ_240_37 rfl (by omega) rfl ?_
  refine jT_iald (x := 0) (a := 1) (j := (7 * o3 + 1).toNat) (fs := []) (X := jS0) (by rfl) (by rfl) (by rfl) (jw_nn (by omega) (by omega)) (jS0_r1 (by omega) (by omega)) ?_
  refine jT_eq (LN := [(4, (0, 1)), (3, (4, 22)), (0, (4, 0)), (1, (4, 1)), (2, (0, 7 * o3))]) (stN := [(0, 0), (1, r7), (0, 1), (4, 22)]) (hsN := [jzQ_20, (100, [], jS0), jgh, jgh, jgh, jgh, (130, [], [16, 17, 18, 19, 20, 21]), (101, [], [-q1, r7, r8, 0, 0, 0]), jgh, jgh, jgh, jgh, jgh, jgh, jgh, jgh, (100, [], (jenc (jlg 0))), (100, [], (jenc (jlg 1))), (100, [], (jenc (jlg 2))), (100, [], (jenc (jlg 3))), (100, [], (jenc (jlg 4))), (100, [], (jenc (jlg 5))), (101, [], [-q1, 0, 0, 0, 0, 0])]) rfl rfl rfl ?_
  refine jT_xi2l (x := 0) (z := 0) (pcN := 40) jIQ_240_39 rfl (by decide +kernel) rfl ?_
  refine jT_xaload_n (v := (4, 0)) (pcN := 41) jIQ_240_40 rfl rfl rfl ?_
  refine jT_xgetf (a := 0) (t := 1) (ci := 14) (fi := 10) (c := jzQ_20) (v := (1, 1)) (pcN := 44) jIQ_240_41 rfl rfl rfl rfl rfl rfl rfl ?_
  refine jT_xlmul (x := 0) (y := 1) (z := 0) (pcN := 45) jIQ_240_44 rfl (by decide) rfl ?_
  refine jT_xlsub (x := r7) (y := 0) (z := r7) (pcN := 46) jIQ_240_45 rfl (by omega) rfl ?_
  refine jT_adv 1 (pcN := 47) (LN := [(4, (0, 1)), (3, (4, 22)), (0, (4, 0)), (1, (4, 1)), (2, (0, 7 * o3))]) (stN := []) (hsN := [jzQ_20, (100, [], jS0), jgh, jgh, jgh, jgh, (130, [], [16, 17, 18, 19, 20, 21]), (101, [], [-q1, r7, r8, 0, 0, 0]), jgh, jgh, jgh, jgh, jgh, jgh, jgh, jgh, (100, [], (jenc (jlg 0))), (100, [], (jenc (jlg 1))), (100, [], (jenc (jlg 2))), (100, [], (jenc (jlg 3))), (100, [], (jenc (jlg 4))), (100, [], (jenc (jlg 5))), (101, [], [-q1, r7, 0, 0, 0, 0])]) (c1 := 0) (s1 := 0) (c2 := 19) (s2 := 1064) (by exact rfl) ?_ (by omega) (by omega)
  refine jT_xiinc (x := 1) (z := 2) (LN := [(4, (0, 2)), (3, (4, 22)), (0, (4, 0)), (1, (4, 1)), (2, (0, 7 * o3))]) (pcN := 50) jIQ_240_47 rfl rfl (by decide) rfl rfl ?_
  refine jT_xgoto (pcN := 8) jIQ_240_50 rfl ?_
  refine jT_xiload (v := (0, 2)) (pcN := 10) jIQ_240_8 rfl rfl rfl ?_
  refine jT_xbipush (k := 6) (pcN := 12) jIQ_240_10 (by decide) rfl ?_
  refine jT_xicF (t := 53) (pcN := 15) jIQ_240_12 rfl (by decide +kernel) rfl rfl ?_
  refine jT_xaload_n (v := (4, 22)) (pcN := 16) jIQ_240_15 rfl rfl rfl ?_
  refine jT_xiload (v := (0, 2)) (pcN := 18) jIQ_240_16 rfl rfl rfl ?_
  refine jT_xaload_n (v := (4, 0)) (pcN := 19) jIQ_240_18 rfl rfl rfl ?_
  refine jT_xgetf (a := 0) (t := 1) (ci := 14) (fi := 9) (c := jzQ_20) (v := (4, 7)) (pcN := 22) jIQ_240_19 rfl rfl rfl rfl rfl rfl rfl ?_
  refine jT_xiload (v := (0, 2)) (pcN := 24) jIQ_240_22 rfl rfl rfl ?_
  refine jT_lald (x := r8) (a := 7) (j := 2) (fs := []) (X := [-q1, r7, r8, 0, 0, 0]) jIQ_240_24 rfl rfl rfl rfl ?_
  refine jT_eq (LN := [(4, (0, 2)), (3, (4, 22)), (0, (4, 0)), (1, (4, 1)), (2, (0, 7 * o3))]) (stN := [(1, r8), (0, 2), (4, 22)]) (hsN := [jzQ_20, (100, [], jS0), jgh, jgh, jgh, jgh, (130, [], [16, 17, 18, 19, 20, 21]), (101, [], [-q1, r7, r8, 0, 0, 0]), jgh, jgh, jgh, jgh, jgh, jgh, jgh, jgh, (100, [], (jenc (jlg 0))), (100, [], (jenc (jlg 1))), (100, [], (jenc (jlg 2))), (100, [], (jenc (jlg 3))), (100, [], (jenc (jlg 4))), (100, [], (jenc (jlg 5))), (101, [], [-q1, r7, 0, 0, 0, 0])]) rfl rfl rfl ?_
  refine jT_xaload_n (v := (4, 1)) (pcN := 26) jIQ_240_25 rfl rfl rfl ?_
  refine jT_xiload_n (v := (0, 7 * o3)) (pcN := 27) jIQ_240_26 rfl rfl rfl ?_
  refine jT_xbipush (k := 6) (pcN := 29) jIQ_240_27 (by decide) rfl ?_
  refine jT_xiadd (x := 7 * o3) (y := 6) (z := 7 * o3 + 6) (pcN := 30) jIQ_240_29 rfl (by omega) rfl ?_
  refine jT_iald (x := 1) (a := 1) (j := (7 * o3 + 6).toNat) (fs := []) (X := jS0) (by rfl) (by rfl) (by rfl) (jw_nn (by omega) (by omega)) (jS0_r6 (by omega) (by omega)) ?_
  refine jT_eq (LN := [(4, (0, 2)), (3, (4, 22)), (0, (4, 0)), (1, (4, 1)), (2, (0, 7 * o3))]) (stN := [(0, 1), (1, r8), (0, 2), (4, 22)]) (hsN := [jzQ_20, (100, [], jS0), jgh, jgh, jgh, jgh, (130, [], [16, 17, 18, 19, 20, 21]), (101, [], [-q1, r7, r8, 0, 0, 0]), jgh, jgh, jgh, jgh, jgh, jgh, jgh, jgh, (100, [], (jenc (jlg 0))), (100, [], (jenc (jlg 1))), (100, [], (jenc (jlg 2))), (100, [], (jenc (jlg 3))), (100, [], (jenc (jlg 4))), (100, [], (jenc (jlg 5))), (101, [], [-q1, r7, 0, 0, 0, 0])]) rfl rfl rfl ?_
  refine jT_xi2l (x := 1) (z := 1) (pcN := 32) jIQ_240_31 rfl (by decide +kernel) rfl ?_
  refine jT_xlmul (x := r8) (y := 1) (z := r8) (pcN := 33) jIQ_240_32 rfl (by omega) rfl ?_
  refine jT_xaload_n (v := (4, 1)) (pcN := 34) jIQ_240_33 rfl rfl rfl ?_
  refine jT_xiload_n (v := (0, 7 * o3)) (pcN := 35) jIQ_240_34 rfl rfl rfl ?_
  refine jT_xiload (v := (0, 2)) (pcN := 37) jIQ_240_35 rfl rfl rfl ?_
  refine jT_xiadd (x := 7 * o3) (y := 2) (z := 7 * o3 + 2) (pcN := 38) jIQ_240_37 rfl (by omega) rfl ?_
  refine jT_iald (x := 0) (a := 1) (j := (7 * o3 + 2).toNat) (fs := []) (X := jS0) (by rfl) (by rfl) (by rfl) (jw_nn (by omega) (by omega)) (jS0_r2 (by omega) (by omega)) ?_
  refine jT_eq (LN := [(4, (0, 2)), (3, (4, 22)), (0, (4, 0)), (1, (4, 1)), (2, (0, 7 * o3))]) (stN := [(0, 0), (1, r8), (0, 2), (4, 22)]) (hsN := [jzQ_20, (100, [], jS0), jgh, jgh, jgh, jgh, (130, [], [16, 17, 18, 19, 20, 21]), (101, [], [-q1, r7, r8, 0, 0, 0]), jgh, jgh, jgh, jgh, jgh, jgh, jgh, jgh, (100, [], (jenc (jlg 0))), (100, [], (jenc (jlg 1))), (100, [], (jenc (jlg 2))), (100, [], (jenc (jlg 3))), (100, [], (jenc (jlg 4))), (100, [], (jenc (jlg 5))), (101, [], [-q1, r7, 0, 0, 0, 0])]) rfl rfl rfl ?_
  refine jT_xi2l (x := 0) (z := 0) (pcN := 40) jIQ_240_39 rfl (by decide +kernel) rfl ?_
  refine jT_xaload_n (v := (4, 0)) (pcN := 41) jIQ_240_40 rfl rfl rfl ?_
  refine jT_xgetf (a := 0) (t := 1) (ci := 14) (fi := 10) (c := jzQ_20) (v := (1, 1)) (pcN := 44) jIQ_240_41 rfl rfl rfl rfl rfl rfl rfl ?_
  refine jT_xlmul (x := 0) (y := 1) (z := 0) (pcN := 45) jIQ_240_44 rfl (by decide) rfl ?_
  refine jT_xlsub (x := r8) (y := 0) (z := r8) (pcN := 46) jIQ_240_45 rfl (by omega) rfl ?_
  refine jT_adv 1 (pcN := 47) (LN := [(4, (0, 2)), (3, (4, 22)), (0, (4, 0)), (1, (4, 1)), (2, (0, 7 * o3))]) (stN := []) (hsN := [jzQ_20, (100, [], jS0), jgh, jgh, jgh, jgh, (130, [], [16, 17, 18, 19, 20, 21]), (101, [], [-q1, r7, r8, 0, 0, 0]), jgh, jgh, jgh, jgh, jgh, jgh, jgh, jgh, (100, [], (jenc (jlg 0))), (100, [], (jenc (jlg 1))), (100, [], (jenc (jlg 2))), (100, [], (jenc (jlg 3))), (100, [], (jenc (jlg 4))), (100, [], (jenc (jlg 5))), (101, [], [-q1, r7, r8, 0, 0, 0])]) (c1 := 0) (s1 := 0) (c2 := 19) (s2 := 1064) (by exact rfl) ?_ (by omega) (by omega)
  refine jT_xiinc (x := 2) (z := 3) (LN := [(4, (0, 3)), (3, (4, 22)), (0, (4, 0)), (1, (4, 1)), (2, (0, 7 * o3))]) (pcN := 50) jIQ_240_47 rfl rfl (by decide) rfl rfl ?_
  refine jT_xgoto (pcN := 8) jIQ_240_50 rfl ?_
  refine jT_xiload (v := (0, 3)) (pcN := 10) jIQ_240_8 rfl rfl rfl ?_
  refine jT_xbipush (k := 6) (pcN := 12) jIQ_240_10 (by decide) rfl ?_
  refine jT_xicF (t := 53) (pcN := 15) jIQ_240_12 rfl (by decide +kernel) rfl rfl ?_
  refine jT_xaload_n (v := (4, 22)) (pcN := 16) jIQ_240_15 rfl rfl rfl ?_
  refine jT_xiload (v := (0, 3)) (pcN := 18) jIQ_240_16 rfl rfl rfl ?_
  refine jT_xaload_n (v := (4, 0)) (pcN := 19) jIQ_240_18 rfl rfl rfl ?_
  refine jT_xgetf (a := 0) (t := 1) (ci := 14) (fi := 9) (c := jzQ_20) (v := (4, 7)) (pcN := 22) jIQ_240_19 rfl rfl rfl rfl rfl rfl rfl ?_
  refine jT_xiload (v := (0, 3)) (pcN := 24) jIQ_240_22 rfl rfl rfl ?_
  refine jT_lald (x := 0) (a := 7) (j := 3) (fs := []) (X := [-q1, r7, r8, 0, 0, 0]) jIQ_240_24 rfl rfl rfl rfl ?_
  refine jT_eq (LN := [(4, (0, 3)), (3, (4, 22)), (0, (4, 0)), (1, (4, 1)), (2, (0, 7 * o3))]) (stN := [(1, 0), (0, 3), (4, 22)]) (hsN := [jzQ_20, (100, [], jS0), jgh, jgh, jgh, jgh, (130, [], [16, 17, 18, 19, 20, 21]), (101, [], [-q1, r7, r8, 0, 0, 0]), jgh, jgh, jgh, jgh, jgh, jgh, jgh, jgh, (100, [], (jenc (jlg 0))), (100, [], (jenc (jlg 1))), (100, [], (jenc (jlg 2))), (100, [], (jenc (jlg 3))), (100, [], (jenc (jlg 4))), (100, [], (jenc (jlg 5))), (101, [], [-q1, r7, r8, 0, 0, 0])]) rfl rfl rfl ?_
  refine jT_xaload_n (v := (4, 1)) (pcN := 26) jIQ_240_25 rfl rfl rfl ?_
  refine jT_xiload_n (v := (0, 7 * o3)) (pcN := 27) jIQ_240_26 rfl rfl rfl ?_
  refine jT_xbipush (k := 6) (pcN := 29) jIQ_240_27 (by decide) rfl ?_
  refine jT_xiadd (x := 7 * o3) (y := 6) (z := 7 * o3 + 6) (pcN := 30) jIQ_240_29 rfl (by omega) rfl ?_
  refine jT_iald (x := 1) (a := 1) (j := (7 * o3 + 6).toNat) (fs := []) (X := jS0) (by rfl) (by rfl) (by rfl) (jw_nn (by omega) (by omega)) (jS0_r6 (by omega) (by omega)) ?_
  refine jT_eq (LN := [(4, (0, 3)), (3, (4, 22)), (0, (4, 0)), (1, (4, 1)), (2, (0, 7 * o3))]) (stN := [(0, 1), (1, 0), (0, 3), (4, 22)]) (hsN := [jzQ_20, (100, [], jS0), jgh, jgh, jgh, jgh, (130, [], [16, 17, 18, 19, 20, 21]), (101, [], [-q1, r7, r8, 0, 0, 0]), jgh, jgh, jgh, jgh, jgh, jgh, jgh, jgh, (100, [], (jenc (jlg 0))), (100, [], (jenc (jlg 1))), (100, [], (jenc (jlg 2))), (100, [], (jenc (jlg 3))), (100, [], (jenc (jlg 4))), (100, [], (jenc (jlg 5))), (101, [], [-q1, r7, r8, 0, 0, 0])]) rfl rfl rfl ?_
  refine jT_xi2l (x := 1) (z := 1) (pcN := 32) jIQ_240_31 rfl (by decide +kernel) rfl ?_
  refine jT_xlmul (x := 0) (y := 1) (z := 0) (pcN := 33) jIQ_240_32 rfl (by decide) rfl ?_
  refine jT_xaload_n (v := (4, 1)) (pcN := 34) jIQ_240_33 rfl rfl rfl ?_
  refine jT_xiload_n (v := (0, 7 * o3)) (pcN := 35) jIQ_240_34 rfl rfl rfl ?_
  refine jT_xiload (v := (0, 3)) (pcN := 37) jIQ_240_35 rfl rfl rfl ?_
  refine jT_xiadd (x := 7 * o3) (y := 3) (z := 7 * o3 + 3) (pcN := 38) jIQ_240_37 rfl (by omega) rfl ?_
  refine jT_iald (x := 0) (a := 1) (j := (7 * o3 + 3).toNat) (fs := []) (X := jS0) (by rfl) (by rfl) (by rfl) (jw_nn (by omega) (by omega)) (jS0_r3 (by omega) (by omega)) ?_
  refine jT_eq (LN := [(4, (0, 3)), (3, (4, 22)), (0, (4, 0)), (1, (4, 1)), (2, (0, 7 * o3))]) (stN := [(0, 0), (1, 0), (0, 3), (4, 22)]) (hsN := [jzQ_20, (100, [], jS0), jgh, jgh, jgh, jgh, (130, [], [16, 17, 18, 19, 20, 21]), (101, [], [-q1, r7, r8, 0, 0, 0]), jgh, jgh, jgh, jgh, jgh, jgh, jgh, jgh, (100, [], (jenc (jlg 0))), (100, [], (jenc (jlg 1))), (100, [], (jenc (jlg 2))), (100, [], (jenc (jlg 3))), (100, [], (jenc (jlg 4))), (100, [], (jenc (jlg 5))), (101, [], [-q1, r7, r8, 0, 0, 0])]) rfl rfl rfl ?_
  refine jT_xi2l (x := 0) (z := 0) (pcN := 40) jIQ_240_39 rfl (by decide +kernel) rfl ?_
  refine jT_xaload_n (v := (4, 0)) (pcN := 41) jIQ_240_40 rfl rfl rfl ?_
  refine jT_xgetf (a := 0) (t := 1) (ci := 14) (fi := 10) (c := jzQ_20) (v := (1, 1)) (pcN := 44) jIQ_240_41 rfl rfl rfl rfl rfl rfl rfl ?_
  refine jT_xlmul (x := 0) (y := 1) (z := 0) (pcN := 45) jIQ_240_44 rfl (by decide) rfl ?_
  refine jT_xlsub (x := 0) (y := 0) (z := 0) (pcN := 46) jIQ_240_45 rfl (by decide) rfl ?_
  refine jT_adv 1 (pcN := 47) (LN := [(4, (0, 3)), (3, (4, 22)), (0, (4, 0)), (1, (4, 1)), (2, (0, 7 * o3))]) (stN := []) (hsN := [jzQ_20, (100, [], jS0), jgh, jgh, jgh, jgh, (130, [], [16, 17, 18, 19, 20, 21]), (101, [], [-q1, r7, r8, 0, 0, 0]), jgh, jgh, jgh, jgh, jgh, jgh, jgh, jgh, (100, [], (jenc (jlg 0))), (100, [], (jenc (jlg 1))), (100, [], (jenc (jlg 2))), (100, [], (jenc (jlg 3))), (100, [], (jenc (jlg 4))), (100, [], (jenc (jlg 5))), (101, [], [-q1, r7, r8, 0, 0, 0])]) (c1 := 0) (s1 := 0) (c2 := 19) (s2 := 1064) (by exact rfl) ?_ (by omega) (by omega)
  refine jT_xiinc (x := 3) (z := 4) (LN := [(4, (0, 4)), (3, (4, 22)), (0, (4, 0)), (1, (4, 1)), (2, (0, 7 * o3))]) (pcN := 50) jIQ_240_47 rfl rfl (by decide) rfl rfl ?_
  refine jT_xgoto (pcN := 8) jIQ_240_50 rfl ?_
  refine jT_xiload (v := (0, 4)) (pcN := 10) jIQ_240_8 rfl rfl rfl ?_
  refine jT_xbipush (k := 6) (pcN := 12) jIQ_240_10 (by decide) rfl ?_
  refine jT_xicF (t := 53) (pcN := 15) jIQ_240_12 rfl (by decide +kernel) rfl rfl ?_
  refine jT_xaload_n (v := (4, 22)) (pcN := 16) jIQ_240_15 rfl rfl rfl ?_
  refine jT_xiload (v := (0, 4)) (pcN := 18) jIQ_240_16 rfl rfl rfl ?_
  refine jT_xaload_n (v := (4, 0)) (pcN := 19) jIQ_240_18 rfl rfl rfl ?_
  refine jT_xgetf (a := 0) (t := 1) (ci := 14) (fi := 9) (c := jzQ_20) (v := (4, 7)) (pcN := 22) jIQ_240_19 rfl rfl rfl rfl rfl rfl rfl ?_
  refine jT_xiload (v := (0, 4)) (pcN := 24) jIQ_240_22 rfl rfl rfl ?_
  refine jT_lald (x := 0) (a := 7) (j := 4) (fs := []) (X := [-q1, r7, r8, 0, 0, 0]) jIQ_240_24 rfl rfl rfl rfl ?_
  refine jT_eq (LN := [(4, (0, 4)), (3, (4, 22)), (0, (4, 0)), (1, (4, 1)), (2, (0, 7 * o3))]) (stN := [(1, 0), (0, 4), (4, 22)]) (hsN := [jzQ_20, (100, [], jS0), jgh, jgh, jgh, jgh, (130, [], [16, 17, 18, 19, 20, 21]), (101, [], [-q1, r7, r8, 0, 0, 0]), jgh, jgh, jgh, jgh, jgh, jgh, jgh, jgh, (100, [], (jenc (jlg 0))), (100, [], (jenc (jlg 1))), (100, [], (jenc (jlg 2))), (100, [], (jenc (jlg 3))), (100, [], (jenc (jlg 4))), (100, [], (jenc (jlg 5))), (101, [], [-q1, r7, r8, 0, 0, 0])]) rfl rfl rfl ?_
  refine jT_xaload_n (v := (4, 1)) (pcN := 26) jIQ_240_25 rfl rfl rfl ?_
  refine jT_xiload_n (v := (0, 7 * o3)) (pcN := 27) jIQ_240_26 rfl rfl rfl ?_
  refine jT_xbipush (k := 6) (pcN := 29) jIQ_240_27 (by decide) rfl ?_
  refine jT_xiadd (x := 7 * o3) (y := 6) (z := 7 * o3 + 6) (pcN := 30) jIQ_240_29 rfl (by omega) rfl ?_
  refine jT_iald (x := 1) (a := 1) (j := (7 * o3 + 6).toNat) (fs := []) (X := jS0) (by rfl) (by rfl) (by rfl) (jw_nn (by omega) (by omega)) (jS0_r6 (by omega) (by omega)) ?_
  refine jT_eq (LN := [(4, (0, 4)), (3, (4, 22)), (0, (4, 0)), (1, (4, 1)), (2, (0, 7 * o3))]) (stN := [(0, 1), (1, 0), (0, 4), (4, 22)]) (hsN := [jzQ_20, (100, [], jS0), jgh, jgh, jgh, jgh, (130, [], [16, 17, 18, 19, 20, 21]), (101, [], [-q1, r7, r8, 0, 0, 0]), jgh, jgh, jgh, jgh, jgh, jgh, jgh, jgh, (100, [], (jenc (jlg 0))), (100, [], (jenc (jlg 1))), (100, [], (jenc (jlg 2))), (100, [], (jenc (jlg 3))), (100, [], (jenc (jlg 4))), (100, [], (jenc (jlg 5))), (101, [], [-q1, r7, r8, 0, 0, 0])]) rfl rfl rfl ?_
  refine jT_xi2l (x := 1) (z := 1) (pcN := 32) jIQ_240_31 rfl (by decide +kernel) rfl ?_
  refine jT_xlmul (x := 0) (y := 1) (z := 0) (pcN := 33) jIQ_240_32 rfl (by decide) rfl ?_
  refine jT_xaload_n (v := (4, 1)) (pcN := 34) jIQ_240_33 rfl rfl rfl ?_
  refine jT_xiload_n (v := (0, 7 * o3)) (pcN := 35) jIQ_240_34 rfl rfl rfl ?_
  refine jT_xiload (v := (0, 4)) (pcN := 37) jIQ_240_35 rfl rfl rfl ?_
  refine jT_xiadd (x := 7 * o3) (y := 4) (z := 7 * o3 + 4) (pcN := 38) jIQ_240_37 rfl (by omega) rfl ?_
  refine jT_iald (x := 0) (a := 1) (j := (7 * o3 + 4).toNat) (fs := []) (X := jS0) (by rfl) (by rfl) (by rfl) (jw_nn (by omega) (by omega)) (jS0_r4 (by omega) (by omega)) ?_
  refine jT_eq (LN := [(4, (0, 4)), (3, (4, 22)), (0, (4, 0)), (1, (4, 1)), (2, (0, 7 * o3))]) (stN := [(0, 0), (1, 0), (0, 4), (4, 22)]) (hsN := [jzQ_20, (100, [], jS0), jgh, jgh, jgh, jgh, (130, [], [16, 17, 18, 19, 20, 21]), (101, [], [-q1, r7, r8, 0, 0, 0]), jgh, jgh, jgh, jgh, jgh, jgh, jgh, jgh, (100, [], (jenc (jlg 0))), (100, [], (jenc (jlg 1))), (100, [], (jenc (jlg 2))), (100, [], (jenc (jlg 3))), (100, [], (jenc (jlg 4))), (100, [], (jenc (jlg 5))), (101, [], [-q1, r7, r8, 0, 0, 0])]) rfl rfl rfl ?_
  refine jT_xi2l (x := 0) (z := 0) (pcN := 40) jIQ_240_39 rfl (by decide +kernel) rfl ?_
  refine jT_xaload_n (v := (4, 0)) (pcN := 41) jIQ_240_40 rfl rfl rfl ?_
  refine jT_xgetf (a := 0) (t := 1) (ci := 14) (fi := 10) (c := jzQ_20) (v := (1, 1)) (pcN := 44) jIQ_240_41 rfl rfl rfl rfl rfl rfl rfl ?_
  refine jT_xlmul (x := 0) (y := 1) (z := 0) (pcN := 45) jIQ_240_44 rfl (by decide) rfl ?_
  refine jT_xlsub (x := 0) (y := 0) (z := 0) (pcN := 46) jIQ_240_45 rfl (by decide) rfl ?_
  refine jT_adv 1 (pcN := 47) (LN := [(4, (0, 4)), (3, (4, 22)), (0, (4, 0)), (1, (4, 1)), (2, (0, 7 * o3))]) (stN := []) (hsN := [jzQ_20, (100, [], jS0), jgh, jgh, jgh, jgh, (130, [], [16, 17, 18, 19, 20, 21]), (101, [], [-q1, r7, r8, 0, 0, 0]), jgh, jgh, jgh, jgh, jgh, jgh, jgh, jgh, (100, [], (jenc (jlg 0))), (100, [], (jenc (jlg 1))), (100, [], (jenc (jlg 2))), (100, [], (jenc (jlg 3))), (100, [], (jenc (jlg 4))), (100, [], (jenc (jlg 5))), (101, [], [-q1, r7, r8, 0, 0, 0])]) (c1 := 0) (s1 := 0) (c2 := 19) (s2 := 1064) (by exact rfl) ?_ (by omega) (by omega)
  refine jT_xiinc (x := 4) (z := 5) (LN := [(4, (0, 5)), (3, (4, 22)), (0, (4, 0)), (1, (4, 1)), (2, (0, 7 * o3))]) (pcN := 50) jIQ_240_47 rfl rfl (by decide) rfl rfl ?_
  refine jT_xgoto (pcN := 8) jIQ_240_50 rfl ?_
  refine jT_xiload (v := (0, 5)) (pcN := 10) jIQ_240_8 rfl rfl rfl ?_
  refine jT_xbipush (k := 6) (pcN := 12) jIQ_240_10 (by decide) rfl ?_
  refine jT_xicF (t := 53) (pcN := 15) jIQ_240_12 rfl (by decide +kernel) rfl rfl ?_
  refine jT_xaload_n (v := (4, 22)) (pcN := 16) jIQ_240_15 rfl rfl rfl ?_
  refine jT_xiload (v := (0, 5)) (pcN := 18) jIQ_240_16 rfl rfl rfl ?_
  refine jT_xaload_n (v := (4, 0)) (pcN := 19) jIQ_240_18 rfl rfl rfl ?_
  refine jT_xgetf (a := 0) (t := 1) (ci := 14) (fi := 9) (c := jzQ_20) (v := (4, 7)) (pcN := 22) jIQ_240_19 rfl rfl rfl rfl rfl rfl rfl ?_
  refine jT_xiload (v := (0, 5)) (pcN := 24) jIQ_240_22 rfl rfl rfl ?_
  refine jT_lald (x := 0) (a := 7) (j := 5) (fs := []) (X := [-q1, r7, r8, 0, 0, 0]) jIQ_240_24 rfl rfl rfl rfl ?_
  refine jT_eq (LN := [(4, (0, 5)), (3, (4, 22)), (0, (4, 0)), (1, (4, 1)), (2, (0, 7 * o3))]) (stN := [(1, 0), (0, 5), (4, 22)]) (hsN := [jzQ_20, (100, [], jS0), jgh, jgh, jgh, jgh, (130, [], [16, 17, 18, 19, 20, 21]), (101, [], [-q1, r7, r8, 0, 0, 0]), jgh, jgh, jgh, jgh, jgh, jgh, jgh, jgh, (100, [], (jenc (jlg 0))), (100, [], (jenc (jlg 1))), (100, [], (jenc (jlg 2))), (100, [], (jenc (jlg 3))), (100, [], (jenc (jlg 4))), (100, [], (jenc (jlg 5))), (101, [], [-q1, r7, r8, 0, 0, 0])]) rfl rfl rfl ?_
  refine jT_xaload_n (v := (4, 1)) (pcN := 26) jIQ_240_25 rfl rfl rfl ?_
  refine jT_xiload_n (v := (0, 7 * o3)) (pcN := 27) jIQ_240_26 rfl rfl rfl ?_
  refine jT_xbipush (k := 6) (pcN := 29) jIQ_240_27 (by decide) rfl ?_
  refine jT_xiadd (x := 7 * o3) (y := 6) (z := 7 * o3 + 6) (pcN := 30) jIQ_240_29 rfl (by omega) rfl ?_
  refine jT_iald (x := 1) (a := 1) (j := (7 * o3 + 6).toNat) (fs := []) (X := jS0) (by rfl) (by rfl) (by rfl) (jw_nn (by omega) (by omega)) (jS0_r6 (by omega) (by omega)) ?_
  refine jT_eq (LN := [(4, (0, 5)), (3, (4, 22)), (0, (4, 0)), (1, (4, 1)), (2, (0, 7 * o3))]) (stN := [(0, 1), (1, 0), (0, 5), (4, 22)]) (hsN := [jzQ_20, (100, [], jS0), jgh, jgh, jgh, jgh, (130, [], [16, 17, 18, 19, 20, 21]), (101, [], [-q1, r7, r8, 0, 0, 0]), jgh, jgh, jgh, jgh, jgh, jgh, jgh, jgh, (100, [], (jenc (jlg 0))), (100, [], (jenc (jlg 1))), (100, [], (jenc (jlg 2))), (100, [], (jenc (jlg 3))), (100, [], (jenc (jlg 4))), (100, [], (jenc (jlg 5))), (101, [], [-q1, r7, r8, 0, 0, 0])]) rfl rfl rfl ?_
  refine jT_xi2l (x := 1) (z := 1) (pcN := 32) jIQ_240_31 rfl (by decide +kernel) rfl ?_
  refine jT_xlmul (x := 0) (y := 1) (z := 0) (pcN := 33) jIQ_240_32 rfl (by decide) rfl ?_
  refine jT_xaload_n (v := (4, 1)) (pcN := 34) jIQ_240_33 rfl rfl rfl ?_
  refine jT_xiload_n (v := (0, 7 * o3)) (pcN := 35) jIQ_240_34 rfl rfl rfl ?_
  refine jT_xiload (v := (0, 5)) (pcN := 37) jIQ_240_35 rfl rfl rfl ?_
  refine jT_xiadd (x := 7 * o3) (y := 5) (z := 7 * o3 + 5) (pcN := 38) jIQ_240_37 rfl (by omega) rfl ?_
  refine jT_iald (x := 0) (a := 1) (j := (7 * o3 + 5).toNat) (fs := []) (X := jS0) (by rfl) (by rfl) (by rfl) (jw_nn (by omega) (by omega)) (jS0_r5 (by omega) (by omega)) ?_
  refine jT_eq (LN := [(4, (0, 5)), (3, (4, 22)), (0, (4, 0)), (1, (4, 1)), (2, (0, 7 * o3))]) (stN := [(0, 0), (1, 0), (0, 5), (4, 22)]) (hsN := [jzQ_20, (100, [], jS0), jgh, jgh, jgh, jgh, (130, [], [16, 17, 18, 19, 20, 21]), (101, [], [-q1, r7, r8, 0, 0, 0]), jgh, jgh, jgh, jgh, jgh, jgh, jgh, jgh, (100, [], (jenc (jlg 0))), (100, [], (jenc (jlg 1))), (100, [], (jenc (jlg 2))), (100, [], (jenc (jlg 3))), (100, [], (jenc (jlg 4))), (100, [], (jenc (jlg 5))), (101, [], [-q1, r7, r8, 0, 0, 0])]) rfl rfl rfl ?_
  refine jT_xi2l (x := 0) (z := 0) (pcN := 40) jIQ_240_39 rfl (by decide +kernel) rfl ?_
  refine jT_xaload_n (v := (4, 0)) (pcN := 41) jIQ_240_40 rfl rfl rfl ?_
  refine jT_xgetf (a := 0) (t := 1) (ci := 14) (fi := 10) (c := jzQ_20) (v := (1, 1)) (pcN := 44) jIQ_240_41 rfl rfl rfl rfl rfl rfl rfl ?_
  refine jT_xlmul (x := 0) (y := 1) (z := 0) (pcN := 45) jIQ_240_44 rfl (by decide) rfl ?_
  refine jT_xlsub (x := 0) (y := 0) (z := 0) (pcN := 46) jIQ_240_45 rfl (by decide) rfl ?_
  refine jT_adv 1 (pcN := 47) (LN := [(4, (0, 5)), (3, (4, 22)), (0, (4, 0)), (1, (4, 1)), (2, (0, 7 * o3))]) (stN := []) (hsN := [jzQ_20, (100, [], jS0), jgh, jgh, jgh, jgh, (130, [], [16, 17, 18, 19, 20, 21]), (101, [], [-q1, r7, r8, 0, 0, 0]), jgh, jgh, jgh, jgh, jgh, jgh, jgh, jgh, (100, [], (jenc (jlg 0))), (100, [], (jenc (jlg 1))), (100, [], (jenc (jlg 2))), (100, [], (jenc (jlg 3))), (100, [], (jenc (jlg 4))), (100, [], (jenc (jlg 5))), (101, [], [-q1, r7, r8, 0, 0, 0])]) (c1 := 0) (s1 := 0) (c2 := 19) (s2 := 1064) (by exact rfl) ?_ (by omega) (by omega)
  refine jT_xiinc (x := 5) (z := 6) (LN := [(4, (0, 6)), (3, (4, 22)), (0, (4, 0)), (1, (4, 1)), (2, (0, 7 * o3))]) (pcN := 50) jIQ_240_47 rfl rfl (by decide) rfl rfl ?_
  refine jT_xgoto (pcN := 8) jIQ_240_50 rfl ?_
  refine jT_xiload (v := (0, 6)) (pcN := 10) jIQ_240_8 rfl rfl rfl ?_
  refine jT_xbipush (k := 6) (pcN := 12) jIQ_240_10 (by decide) rfl ?_
  refine jT_xicT (pcN := 53) jIQ_240_12 rfl (by decide +kernel) rfl ?_
  refine jT_xaload_n (v := (4, 0)) (pcN := 54) jIQ_240_53 rfl rfl rfl ?_
  refine jT_xaload_n (v := (4, 22)) (pcN := 55) jIQ_240_54 rfl rfl rfl ?_
  refine jT_callA [0, 22, 1, 2, 3, 4, 5, 6, 7, 8, 9, 10, 11, 12, 13, 14, 15, 16, 17, 18, 19, 20, 21] (y := 213) (pcN := 58) (dC := 3) (bc1 := 19) (bc2 := 1064) (c1 := 0) (c2 := 0) (as := [(4, 0), (4, 22)]) (asC := [(4, 0), (4, 1)]) (LN := [(4, (0, 6)), (3, (4, 22)), (0, (4, 0)), (1, (4, 1)), (2, (0, 7 * o3))]) (stN := []) (hsC := [jzQ_371, (101, [], [-q1, r7, r8, 0, 0, 0]), jgh, jgh, jgh, jgh, jgh, (130, [], [17, 18, 19, 20, 21, 22]), jgh, jgh, jgh, jgh, jgh, jgh, jgh, jgh, jgh, (100, [], (jenc (jlg 0))), (100, [], (jenc (jlg 1))), (100, [], (jenc (jlg 2))), (100, [], (jenc (jlg 3))), (100, [], (jenc (jlg 4))), (100, [], (jenc (jlg 5)))]) (ex := []) (v := (0, (jlz (-q1) r7 r8 0 0 0).sign)) (st2 := [(0, (jlz (-q1) r7 r8 0 0 0).sign)]) (hs2 := [jzQ_20, (100, [], jS0), jgh, jgh, jgh, jgh, (130, [], [16, 17, 18, 19, 20, 21]), (101, [], [-q1, r7, r8, 0, 0, 0]), jgh, jgh, jgh, jgh, jgh, jgh, jgh, jgh, (100, [], (jenc (jlg 0))), (100, [], (jenc (jlg 1))), (100, [], (jenc (jlg 2))), (100, [], (jenc (jlg 3))), (100, [], (jenc (jlg 4))), (100, [], (jenc (jlg 5))), (101, [], [-q1, r7, r8, 0, 0, 0])]) (jQl_sg_148 (d := 0) (e0 := -q1) (e1 := r7) (e2 := r8) (e3 := 0) (e4 := 0) (e5 := 0) (by omega) (by omega) (by omega) (by omega) (by omega) (by omega)) (by rfl) (by rfl) (by rfl) (by rfl) ⟨rfl, rfl, rfl, rfl, rfl, rfl, rfl, rfl, rfl, rfl, rfl, rfl, rfl, rfl, rfl, rfl, rfl, rfl, rfl, rfl, rfl, rfl, rfl, trivial⟩ (by rfl) (by rfl) (by omega) (by show 22 ≤ 23; omega) (by omega) (by omega) rfl rfl ?_
  have hb_q2 := jsgn_b (jlz (-q1) r7 r8 0 0 0)
  generalize hq_q2 : (jlz (-q1) r7 r8 0 0 0).sign = q2 at hb_q2 g_3 ⊢
  subst hq_q2
  exact jT_ret rfl (by decide) (by show 22 ≤ 23; omega) (by omega) (by omega) ⟨rfl, rfl, rfl⟩
theorem jQ_299_175 {xs : List Int} {d : Nat} {o3 r7 r8 u127_0 u127_1 u127_2 u127_3 u127_4 u127_5 : Int} (h_o3 : 0 ≤ o3 ∧ o3 ≤ 7) (h_r7 : (-20) ≤ r7 ∧ r7 ≤ 20) (h_r8 : (-10) ≤ r8 ∧ r8 ≤ 10) (g_0 : 0 ≤ r7) (g_1 : r7 ≤ 0) (g_2 : 0 < r8) : jT xs (d + 7) 299 23 0 [(0, (4, 0)), (1, (0, r7)), (2, (0, r8)), (3, (0, o3)), (4, (4, 1))] [] [jzQ_371, jgh, (100, [], jS0), jgh, jgh, jgh, jgh, (130, [], [17, 18, 19, 20, 21, 22]), (101, [], [u127_0, u127_1, u127_2, u127_3, u127_4, u127_5]), jgh, jgh, jgh, jgh, jgh, jgh, jgh, jgh, (100, [], (jenc (jlg 0))), (100, [], (jenc (jlg 1))), (100, [], (jenc (jlg 2))), (100, [], (jenc (jlg 3))), (100, [], (jenc (jlg 4))), (100, [], (jenc (jlg 5)))] 80 4280 (fun k v hsN => k = 0 ∧ v = (0, 0) ∧ hsN = [jzQ_371, jgh, (100, [], jS0), jgh, jgh, jgh, jgh, (130, [], [17, 18, 19, 20, 21, 22]), (101, [], [-(jkn r7 r8), r7, r8, 0, 0, 0]), jgh, jgh, jgh, jgh, jgh, jgh, jgh, jgh, (100, [], (jenc (jlg 0))), (100, [], (jenc (jlg 1))), (100, [], (jenc (jlg 2))), (100, [], (jenc (jlg 3))), (100, [], (jenc (jlg 4))), (100, [], (jenc (jlg 5))), (101, [], [-(jkn r7 r8), r7, r8, 0, 0, 0])]) := by
  refine jT_xaload_n (v := (4, 0)) (pcN := 1) jIQ_299_0 rfl rfl rfl ?_
  refine jT_callB [0, 2, 3, 4, 5, 6, 7, 8, 9, 10, 11, 12, 13, 14, 15, 16] (y := 193) (pcN := 4) (dC := 0) (bc1 := 0) (bc2 := 0) (c1 := 80) (c2 := 4280) (as := [(4, 0)]) (asC := [(4, 0)]) (LN := [(0, (4, 0)), (1, (0, r7)), (2, (0, r8)), (3, (0, o3)), (4, (4, 1))]) (stN := []) (hsC := [jzQ_20, jgh, jgh, jgh, jgh, jgh, jgh, (101, [], [u127_0, u127_1, u127_2, u127_3, u127_4, u127_5]), jgh, jgh, jgh, jgh, jgh, jgh, jgh, jgh]) (hsD := jpQ_394) (v := (9, 0)) (st2 := []) (hs2 := jpQ_546) (jQ_193_145 (d := 0)) (by rfl) (by rfl) (by rfl) (by rfl) ⟨rfl, rfl, rfl, rfl, rfl, rfl, rfl, rfl, rfl, rfl, rfl, rfl, rfl, rfl, rfl, rfl, trivial⟩ (by rfl) (by rfl) (by omega) (by show 23 ≤ 23; omega) (by omega) (by omega) rfl rfl ?_
  refine jT_xaload_n (v := (4, 0)) (pcN := 5) jIQ_299_4 rfl rfl rfl ?_
  refine jT_xgetf (a := 0) (t := 1) (ci := 14) (fi := 9) (c := jzQ_371) (v := (4, 8)) (pcN := 8) jIQ_299_5 rfl rfl rfl rfl rfl rfl rfl ?_
  refine jT_xiconst (k := 1) (pcN := 9) jIQ_299_8 rfl ?_
  refine jT_xiload_n (v := (0, r7)) (pcN := 10) jIQ_299_9 rfl rfl rfl ?_
  refine jT_xi2l (x := r7) (z := r7) (pcN := 11) jIQ_299_10 rfl (jw_idd (by omega) (by omega)) rfl ?_
  refine jT_adv 1 (pcN := 12) (LN := [(0, (4, 0)), (1, (0, r7)), (2, (0, r8)), (3, (0, o3)), (4, (4, 1))]) (stN := []) (hsN := [jzQ_371, jgh, (100, [], jS0), jgh, jgh, jgh, jgh, (130, [], [17, 18, 19, 20, 21, 22]), (101, [], [0, r7, 0, 0, 0, 0]), jgh, jgh, jgh, jgh, jgh, jgh, jgh, jgh, (100, [], (jenc (jlg 0))), (100, [], (jenc (jlg 1))), (100, [], (jenc (jlg 2))), (100, [], (jenc (jlg 3))), (100, [], (jenc (jlg 4))), (100, [], (jenc (jlg 5)))]) (c1 := 0) (s1 := 0) (c2 := 80) (s2 := 4280) (by exact rfl) ?_ (by omega) (by omega)
  refine jT_xaload_n (v := (4, 0)) (pcN := 13) jIQ_299_12 rfl rfl rfl ?_
  refine jT_xgetf (a := 0) (t := 1) (ci := 14) (fi := 9) (c := jzQ_371) (v := (4, 8)) (pcN := 16) jIQ_299_13 rfl rfl rfl rfl rfl rfl rfl ?_
  refine jT_xiconst (k := 2) (pcN := 17) jIQ_299_16 rfl ?_
  refine jT_xiload_n (v := (0, r8)) (pcN := 18) jIQ_299_17 rfl rfl rfl ?_
  refine jT_xi2l (x := r8) (z := r8) (pcN := 19) jIQ_299_18 rfl (jw_idd (by omega) (by omega)) rfl ?_
  refine jT_adv 1 (pcN := 20) (LN := [(0, (4, 0)), (1, (0, r7)), (2, (0, r8)), (3, (0, o3)), (4, (4, 1))]) (stN := []) (hsN := [jzQ_371, jgh, (100, [], jS0), jgh, jgh, jgh, jgh, (130, [], [17, 18, 19, 20, 21, 22]), (101, [], [0, r7, r8, 0, 0, 0]), jgh, jgh, jgh, jgh, jgh, jgh, jgh, jgh, (100, [], (jenc (jlg 0))), (100, [], (jenc (jlg 1))), (100, [], (jenc (jlg 2))), (100, [], (jenc (jlg 3))), (100, [], (jenc (jlg 4))), (100, [], (jenc (jlg 5)))]) (c1 := 0) (s1 := 0) (c2 := 80) (s2 := 4280) (by exact rfl) ?_ (by omega) (by omega)
  refine jT_xaload_n (v := (4, 0)) (pcN := 21) jIQ_299_20 rfl rfl rfl ?_
  refine jT_callB [0, 2, 3, 4, 5, 6, 7, 8, 9, 10, 11, 12, 13, 14, 15, 16, 17, 18, 19, 20, 21, 22] (y := 209) (pcN := 24) (dC := 6) (bc1 := 60) (bc2 := 3210) (c1 := 20) (c2 := 1070) (as := [(4, 0)]) (asC := [(4, 0)]) (LN := [(0, (4, 0)), (1, (0, r7)), (2, (0, r8)), (3, (0, o3)), (4, (4, 1))]) (stN := []) (hsC := [jzQ_20, jgh, jgh, jgh, jgh, jgh, (130, [], [16, 17, 18, 19, 20, 21]), (101, [], [0, r7, r8, 0, 0, 0]), jgh, jgh, jgh, jgh, jgh, jgh, jgh, jgh, (100, [], (jenc (jlg 0))), (100, [], (jenc (jlg 1))), (100, [], (jenc (jlg 2))), (100, [], (jenc (jlg 3))), (100, [], (jenc (jlg 4))), (100, [], (jenc (jlg 5)))]) (hsD := [jzQ_20, jgh, jgh, jgh, jgh, jgh, (130, [], [16, 17, 18, 19, 20, 21]), (101, [], [-(jkn r7 r8), r7, r8, 0, 0, 0]), jgh, jgh, jgh, jgh, jgh, jgh, jgh, jgh, (100, [], (jenc (jlg 0))), (100, [], (jenc (jlg 1))), (100, [], (jenc (jlg 2))), (100, [], (jenc (jlg 3))), (100, [], (jenc (jlg 4))), (100, [], (jenc (jlg 5)))]) (v := (1, jkn r7 r8)) (st2 := [(1, jkn r7 r8)]) (hs2 := [jzQ_371, jgh, (100, [], jS0), jgh, jgh, jgh, jgh, (130, [], [17, 18, 19, 20, 21, 22]), (101, [], [-(jkn r7 r8), r7, r8, 0, 0, 0]), jgh, jgh, jgh, jgh, jgh, jgh, jgh, jgh, (100, [], (jenc (jlg 0))), (100, [], (jenc (jlg 1))), (100, [], (jenc (jlg 2))), (100, [], (jenc (jlg 3))), (100, [], (jenc (jlg 4))), (100, [], (jenc (jlg 5)))]) (jQ_209_173 (d := 0) (by omega) (by omega) (by omega) (by omega) (by omega)) (by rfl) (by rfl) (by rfl) (by rfl) ⟨rfl, rfl, rfl, rfl, rfl, rfl, rfl, rfl, rfl, rfl, rfl, rfl, rfl, rfl, rfl, rfl, rfl, rfl, rfl, rfl, rfl, rfl, trivial⟩ (by rfl) (by rfl) (by omega) (by show 23 ≤ 23; omega) (by omega) (by omega) rfl rfl ?_
  have hb_q1 := jkn_b (b := r7) (c := r8) (by omega) (by omega)
  generalize hq_q1 : jkn r7 r8 = q1 at hb_q1 ⊢
  refine jT_eq (LN := [(0, (4, 0)), (1, (0, r7)), (2, (0, r8)), (3, (0, o3)), (4, (4, 1))]) (stN := [(1, q1)]) (hsN := [jzQ_371, jgh, (100, [], jS0), jgh, jgh, jgh, jgh, (130, [], [17, 18, 19, 20, 21, 22]), (101, [], [-q1, r7, r8, 0, 0, 0]), jgh, jgh, jgh, jgh, jgh, jgh, jgh, jgh, (100, [], (jenc (jlg 0))), (100, [], (jenc (jlg 1))), (100, [], (jenc (jlg 2))), (100, [], (jenc (jlg 3))), (100, [], (jenc (jlg 4))), (100, [], (jenc (jlg 5)))]) (rfl) (rfl) (by simp only [List.cons.injEq, Prod.mk.injEq, and_true, true_and] <;> ((try unfold jw); (try unfold jwl); omega)) ?_
  refine jT_xlstore (v := (1, q1)) (LN := [(5, (1, q1)), (0, (4, 0)), (1, (0, r7)), (2, (0, r8)), (3, (0, o3)), (4, (4, 1))]) (pcN := 26) jIQ_299_24 rfl rfl rfl rfl ?_
  have g_3 : 0 ≤ (jlz (-q1) r7 r8 0 0 0).sign := by rw [← hq_q1]; exact jkn_s (by omega) (by omega)
  refine jT_xlload (v := (1, q1)) (pcN := 28) jIQ_299_26 rfl rfl rfl ?_
  refine jT_xaload_n (v := (4, 0)) (pcN := 29) jIQ_299_28 rfl rfl rfl ?_
  refine jT_xgetf (a := 0) (t := 1) (ci := 14) (fi := 9) (c := jzQ_371) (v := (4, 8)) (pcN := 32) jIQ_299_29 rfl rfl rfl rfl rfl rfl rfl ?_
  refine jT_xiconst (k := 0) (pcN := 33) jIQ_299_32 rfl ?_
  refine jT_lald (x := -q1) (a := 8) (j := 0) (fs := []) (X := [-q1, r7, r8, 0, 0, 0]) jIQ_299_33 rfl rfl rfl rfl ?_
  refine jT_eq (LN := [(5, (1, q1)), (0, (4, 0)), (1, (0, r7)), (2, (0, r8)), (3, (0, o3)), (4, (4, 1))]) (stN := [(1, -q1), (1, q1)]) (hsN := [jzQ_371, jgh, (100, [], jS0), jgh, jgh, jgh, jgh, (130, [], [17, 18, 19, 20, 21, 22]), (101, [], [-q1, r7, r8, 0, 0, 0]), jgh, jgh, jgh, jgh, jgh, jgh, jgh, jgh, (100, [], (jenc (jlg 0))), (100, [], (jenc (jlg 1))), (100, [], (jenc (jlg 2))), (100, [], (jenc (jlg 3))), (100, [], (jenc (jlg 4))), (100, [], (jenc (jlg 5)))]) rfl rfl rfl ?_
  refine jT_adv 1 (pcN := 35) (LN := [(5, (1, q1)), (0, (4, 0)), (1, (0, r7)), (2, (0, r8)), (3, (0, o3)), (4, (4, 1))]) (stN := [(1, -(-q1)), (1, q1)]) (hsN := [jzQ_371, jgh, (100, [], jS0), jgh, jgh, jgh, jgh, (130, [], [17, 18, 19, 20, 21, 22]), (101, [], [-q1, r7, r8, 0, 0, 0]), jgh, jgh, jgh, jgh, jgh, jgh, jgh, jgh, (100, [], (jenc (jlg 0))), (100, [], (jenc (jlg 1))), (100, [], (jenc (jlg 2))), (100, [], (jenc (jlg 3))), (100, [], (jenc (jlg 4))), (100, [], (jenc (jlg 5)))]) (c1 := 0) (s1 := 0) (c2 := 20) (s2 := 1070) (by exact rfl) ?_ (by omega) (by omega)
  refine jT_eq (LN := [(5, (1, q1)), (0, (4, 0)), (1, (0, r7)), (2, (0, r8)), (3, (0, o3)), (4, (4, 1))]) (stN := [(1, q1), (1, q1)]) (hsN := [jzQ_371, jgh, (100, [], jS0), jgh, jgh, jgh, jgh, (130, [], [17, 18, 19, 20, 21, 22]), (101, [], [-q1, r7, r8, 0, 0, 0]), jgh, jgh, jgh, jgh, jgh, jgh, jgh, jgh, (100, [], (jenc (jlg 0))), (100, [], (jenc (jlg 1))), (100, [], (jenc (jlg 2))), (100, [], (jenc (jlg 3))), (100, [], (jenc (jlg 4))), (100, [], (jenc (jlg 5)))]) (rfl) (by simp only [List.cons.injEq, Prod.mk.injEq, and_true, true_and] <;> ((try unfold jw); (try unfold jwl); omega)) (rfl) ?_
  refine jT_lcmp (a := q1) (b := q1) (z := 0) (by rfl) (by rfl) (jwl_idd (by omega) (by omega)) (jwl_idd (by omega) (by omega)) (by rw [decide_eq_false (show ¬ ((q1 : Int) < q1) by omega), decide_eq_true (show (q1 : Int) = q1 by omega)]; rfl) ?_
  refine jT_xifF (t := 54) (pcN := 39) jIQ_299_36 rfl (by decide +kernel) rfl rfl ?_
  refine jT_xaload_n (v := (4, 0)) (pcN := 40) jIQ_299_39 rfl rfl rfl ?_
  refine jT_xaload_n (v := (4, 0)) (pcN := 41) jIQ_299_40 rfl rfl rfl ?_
  refine jT_xgetf (a := 0) (t := 1) (ci := 14) (fi := 1) (c := jzQ_371) (v := (4, 2)) (pcN := 44) jIQ_299_41 rfl rfl rfl rfl rfl rfl rfl ?_
  refine jT_xbipush (k := 7) (pcN := 46) jIQ_299_44 (by decide) rfl ?_
  refine jT_xiload_n (v := (0, o3)) (pcN := 47) jIQ_299_46 rfl rfl rfl ?_
  refine jT_ximul (x := 7) (y := o3) (z := 7 * o3) (pcN := 48) jIQ_299_47 rfl (rfl) rfl ?_
  refine jT_callA [0, 2, 3, 4, 5, 6, 7, 8, 9, 10, 11, 12, 13, 14, 15, 16, 17, 18, 19, 20, 21, 22] (y := 240) (pcN := 51) (dC := 4) (bc1 := 20) (bc2 := 1070) (c1 := 0) (c2 := 0) (as := [(4, 0), (4, 2), (0, 7 * o3)]) (asC := [(4, 0), (4, 1), (0, 7 * o3)]) (LN := [(5, (1, q1)), (0, (4, 0)), (1, (0, r7)), (2, (0, r8)), (3, (0, o3)), (4, (4, 1))]) (stN := []) (hsC := [jzQ_20, (100, [], jS0), jgh, jgh, jgh, jgh, (130, [], [16, 17, 18, 19, 20, 21]), (101, [], [-q1, r7, r8, 0, 0, 0]), jgh, jgh, jgh, jgh, jgh, jgh, jgh, jgh, (100, [], (jenc (jlg 0))), (100, [], (jenc (jlg 1))), (100, [], (jenc (jlg 2))), (100, [], (jenc (jlg 3))), (100, [], (jenc (jlg 4))), (100, [], (jenc (jlg 5)))]) (ex := [(101, [], [-q1, r7, r8, 0, 0, 0])]) (v := (0, (jlz (-q1) r7 r8 0 0 0).sign)) (st2 := [(0, (jlz (-q1) r7 r8 0 0 0).sign)]) (hs2 := [jzQ_371, jgh, (100, [], jS0), jgh, jgh, jgh, jgh, (130, [], [17, 18, 19, 20, 21, 22]), (101, [], [-q1, r7, r8, 0, 0, 0]), jgh, jgh, jgh, jgh, jgh, jgh, jgh, jgh, (100, [], (jenc (jlg 0))), (100, [], (jenc (jlg 1))), (100, [], (jenc (jlg 2))), (100, [], (jenc (jlg 3))), (100, [], (jenc (jlg 4))), (100, [], (jenc (jlg 5))), (101, [], [-q1, r7, r8, 0, 0, 0])]) (jQ_240_174 (d := 0) (by omega) (by omega) (by omega) (by omega) (by omega) (by omega) (by omega) (by omega)) (by rfl) (by rfl) (by rfl) (by rfl) ⟨rfl, rfl, rfl, rfl, rfl, rfl, rfl, rfl, rfl, rfl, rfl, rfl, rfl, rfl, rfl, rfl, rfl, rfl, rfl, rfl, rfl, rfl, trivial⟩ (by rfl) (by rfl) (by omega) (by show 23 ≤ 23; omega) (by omega) (by omega) rfl rfl ?_
  have hb_q2 := jsgn_b (jlz (-q1) r7 r8 0 0 0)
  generalize hq_q2 : (jlz (-q1) r7 r8 0 0 0).sign = q2 at hb_q2 g_3 ⊢
  refine jT_ifF (a := q2) (t := 56) (by rfl) (by rfl) (by rfl) (jw_idd (by omega) (by omega)) (by simp only [jcP] <;> omega) ?_
  refine jT_xiconst (k := 0) (pcN := 55) jIQ_299_54 rfl ?_
  subst hq_q2
  subst hq_q1
  exact jT_ret rfl (by decide) (by show 23 ≤ 24; omega) (by omega) (by omega) ⟨rfl, rfl, rfl⟩
theorem jQ_209_176 {xs : List Int} {d : Nat} {r7 r8 : Int} (h_r7 : (-20) ≤ r7 ∧ r7 ≤ 20) (h_r8 : (-10) ≤ r8 ∧ r8 ≤ 10) (g_0 : 0 ≤ r7) (g_1 : r7 ≤ 0) (g_2 : r8 < 0) : jT xs (d + 6) 209 22 0 [(0, (4, 0))] [] [jzQ_20, jgh, jgh, jgh, jgh, jgh, (130, [], [16, 17, 18, 19, 20, 21]), (101, [], [0, r7, r8, 0, 0, 0]), jgh, jgh, jgh, jgh, jgh, jgh, jgh, jgh, (100, [], (jenc (jlg 0))), (100, [], (jenc (jlg 1))), (100, [], (jenc (jlg 2))), (100, [], (jenc (jlg 3))), (100, [], (jenc (jlg 4))), (100, [], (jenc (jlg 5)))] 60 3210 (fun k v hsN => k = 0 ∧ v = (1, jkn r7 r8) ∧ hsN = [jzQ_20, jgh, jgh, jgh, jgh, jgh, (130, [], [16, 17, 18, 19, 20, 21]), (101, [], [-(jkn r7 r8), r7, r8, 0, 0, 0]), jgh, jgh, jgh, jgh, jgh, jgh, jgh, jgh, (100, [], (jenc (jlg 0))), (100, [], (jenc (jlg 1))), (100, [], (jenc (jlg 2))), (100, [], (jenc (jlg 3))), (100, [], (jenc (jlg 4))), (100, [], (jenc (jlg 5)))]) := by
  refine jT_xaload_n (v := (4, 0)) (pcN := 1) jIQ_209_0 rfl rfl rfl ?_
  refine jT_xaload_n (v := (4, 0)) (pcN := 2) jIQ_209_1 rfl rfl rfl ?_
  refine jT_xgetf (a := 0) (t := 1) (ci := 14) (fi := 9) (c := jzQ_20) (v := (4, 7)) (pcN := 5) jIQ_209_2 rfl rfl rfl rfl rfl rfl rfl ?_
  refine jT_xaload_n (v := (4, 0)) (pcN := 6) jIQ_209_5 rfl rfl rfl ?_
  refine jT_xgetf (a := 0) (t := 1) (ci := 14) (fi := 10) (c := jzQ_20) (v := (1, 1)) (pcN := 9) jIQ_209_6 rfl rfl rfl rfl rfl rfl rfl ?_
  refine jT_callA [0, 7, 1, 2, 3, 4, 5, 6, 8, 9, 10, 11, 12, 13, 14, 15, 16, 17, 18, 19, 20, 21] (y := 210) (pcN := 12) (dC := 5) (bc1 := 60) (bc2 := 3210) (c1 := 0) (c2 := 0) (as := [(4, 0), (4, 7), (1, 1)]) (asC := [(4, 0), (4, 1), (1, 1)]) (LN := [(0, (4, 0))]) (stN := []) (hsC := [jzQ_378, (101, [], [0, r7, r8, 0, 0, 0]), jgh, jgh, jgh, jgh, jgh, (130, [], [16, 17, 18, 19, 20, 21]), jgh, jgh, jgh, jgh, jgh, jgh, jgh, jgh, (100, [], (jenc (jlg 0))), (100, [], (jenc (jlg 1))), (100, [], (jenc (jlg 2))), (100, [], (jenc (jlg 3))), (100, [], (jenc (jlg 4))), (100, [], (jenc (jlg 5)))]) (ex := []) (v := (1, jkn r7 r8)) (st2 := [(1, jkn r7 r8)]) (hs2 := [jzQ_20, jgh, jgh, jgh, jgh, jgh, (130, [], [16, 17, 18, 19, 20, 21]), (101, [], [0, r7, r8, 0, 0, 0]), jgh, jgh, jgh, jgh, jgh, jgh, jgh, jgh, (100, [], (jenc (jlg 0))), (100, [], (jenc (jlg 1))), (100, [], (jenc (jlg 2))), (100, [], (jenc (jlg 3))), (100, [], (jenc (jlg 4))), (100, [], (jenc (jlg 5)))]) (jQl_ps_169 (d := 0) (by omega) (by omega)) (by rfl) (by rfl) (by rfl) (by rfl) ⟨rfl, rfl, rfl, rfl, rfl, rfl, rfl, rfl, rfl, rfl, rfl, rfl, rfl, rfl, rfl, rfl, rfl, rfl, rfl, rfl, rfl, rfl, trivial⟩ (by rfl) (by rfl) (by omega) (by show 22 ≤ 22; omega) (by omega) (by omega) rfl rfl ?_
  have hb_q1 := jkn_b (b := r7) (c := r8) (by omega) (by omega)
  generalize hq_q1 : jkn r7 r8 = q1 at hb_q1 ⊢
  refine jT_xlstore_n (v := (1, q1)) (LN := [(1, (1, q1)), (0, (4, 0))]) (pcN := 13) jIQ_209_12 rfl rfl rfl rfl ?_
  refine jT_xaload_n (v := (4, 0)) (pcN := 14) jIQ_209_13 rfl rfl rfl ?_
  refine jT_xgetf (a := 0) (t := 1) (ci := 14) (fi := 9) (c := jzQ_20) (v := (4, 7)) (pcN := 17) jIQ_209_14 rfl rfl rfl rfl rfl rfl rfl ?_
  refine jT_xiconst (k := 0) (pcN := 18) jIQ_209_17 rfl ?_
  refine jT_adv 1 (pcN := 19) (LN := [(1, (1, q1)), (0, (4, 0))]) (stN := [(0, 0), (4, 7), (0, 0), (4, 7)]) (hsN := [jzQ_20, jgh, jgh, jgh, jgh, jgh, (130, [], [16, 17, 18, 19, 20, 21]), (101, [], [0, r7, r8, 0, 0, 0]), jgh, jgh, jgh, jgh, jgh, jgh, jgh, jgh, (100, [], (jenc (jlg 0))), (100, [], (jenc (jlg 1))), (100, [], (jenc (jlg 2))), (100, [], (jenc (jlg 3))), (100, [], (jenc (jlg 4))), (100, [], (jenc (jlg 5)))]) (c1 := 0) (s1 := 0) (c2 := 0) (s2 := 0) (by exact rfl) ?_ (by omega) (by omega)
  refine jT_lald (x := 0) (a := 7) (j := 0) (fs := []) (X := [0, r7, r8, 0, 0, 0]) jIQ_209_19 rfl rfl rfl rfl ?_
  refine jT_eq (LN := [(1, (1, q1)), (0, (4, 0))]) (stN := [(1, 0), (0, 0), (4, 7)]) (hsN := [jzQ_20, jgh, jgh, jgh, jgh, jgh, (130, [], [16, 17, 18, 19, 20, 21]), (101, [], [0, r7, r8, 0, 0, 0]), jgh, jgh, jgh, jgh, jgh, jgh, jgh, jgh, (100, [], (jenc (jlg 0))), (100, [], (jenc (jlg 1))), (100, [], (jenc (jlg 2))), (100, [], (jenc (jlg 3))), (100, [], (jenc (jlg 4))), (100, [], (jenc (jlg 5)))]) rfl rfl rfl ?_
  refine jT_xlload_n (v := (1, q1)) (pcN := 21) jIQ_209_20 rfl rfl rfl ?_
  refine jT_xaload_n (v := (4, 0)) (pcN := 22) jIQ_209_21 rfl rfl rfl ?_
  refine jT_xgetf (a := 0) (t := 1) (ci := 14) (fi := 10) (c := jzQ_20) (v := (1, 1)) (pcN := 25) jIQ_209_22 rfl rfl rfl rfl rfl rfl rfl ?_
  refine jT_xlmul (x := q1) (y := 1) (z := q1) (pcN := 26) jIQ_209_25 rfl (by omega) rfl ?_
  refine jT_xlsub (x := 0) (y := q1) (z := -q1) (pcN := 27) jIQ_209_26 rfl (by omega) rfl ?_
  refine jT_adv 1 (pcN := 28) (LN := [(1, (1, q1)), (0, (4, 0))]) (stN := []) (hsN := [jzQ_20, jgh, jgh, jgh, jgh, jgh, (130, [], [16, 17, 18, 19, 20, 21]), (101, [], [-q1, r7, r8, 0, 0, 0]), jgh, jgh, jgh, jgh, jgh, jgh, jgh, jgh, (100, [], (jenc (jlg 0))), (100, [], (jenc (jlg 1))), (100, [], (jenc (jlg 2))), (100, [], (jenc (jlg 3))), (100, [], (jenc (jlg 4))), (100, [], (jenc (jlg 5)))]) (c1 := 0) (s1 := 0) (c2 := 0) (s2 := 0) (by exact rfl) ?_ (by omega) (by omega)
  refine jT_xlload_n (v := (1, q1)) (pcN := 29) jIQ_209_28 rfl rfl rfl ?_
  subst hq_q1
  exact jT_ret rfl (by decide) (by show 22 ≤ 22; omega) (by omega) (by omega) ⟨rfl, rfl, rfl⟩
theorem jQ_240_177 {xs : List Int} {d : Nat} {o3 q1 r7 r8 : Int} (h_o3 : 0 ≤ o3 ∧ o3 ≤ 7) (h_q1 : (-60) ≤ q1 ∧ q1 ≤ 60) (h_r7 : (-20) ≤ r7 ∧ r7 ≤ 20) (h_r8 : (-10) ≤ r8 ∧ r8 ≤ 10) (g_0 : 0 ≤ r7) (g_1 : r7 ≤ 0) (g_2 : r8 < 0) (g_3 : 0 ≤ (jlz (-q1) r7 r8 0 0 0).sign) : jT xs (d + 4) 240 22 0 [(0, (4, 0)), (1, (4, 1)), (2, (0, 7 * o3))] [] [jzQ_20, (100, [], jS0), jgh, jgh, jgh, jgh, (130, [], [16, 17, 18, 19, 20, 21]), (101, [], [-q1, r7, r8, 0, 0, 0]), jgh, jgh, jgh, jgh, jgh, jgh, jgh, jgh, (100, [], (jenc (jlg 0))), (100, [], (jenc (jlg 1))), (100, [], (jenc (jlg 2))), (100, [], (jenc (jlg 3))), (100, [], (jenc (jlg 4))), (100, [], (jenc (jlg 5)))] 20 1070 (fun k v hsN => k = 0 ∧ v = (0, (jlz (-q1) r7 r8 0 0 0).sign) ∧ hsN = [jzQ_20, (100, [], jS0), jgh, jgh, jgh, jgh, (130, [], [16, 17, 18, 19, 20, 21]), (101, [], [-q1, r7, r8, 0, 0, 0]), jgh, jgh, jgh, jgh, jgh, jgh, jgh, jgh, (100, [], (jenc (jlg 0))), (100, [], (jenc (jlg 1))), (100, [], (jenc (jlg 2))), (100, [], (jenc (jlg 3))), (100, [], (jenc (jlg 4))), (100, [], (jenc (jlg 5)))] ++ [(101, [], [-q1, r7, r8, 0, 0, 0])]) := by
  refine jT_xbipush (k := 6) (pcN := 2) jIQ_240_0 (by decide) rfl ?_
  refine jT_adv 1 (pcN := 4) (LN := [(0, (4, 0)), (1, (4, 1)), (2, (0, 7 * o3))]) (stN := [(4, 22)]) (hsN := [jzQ_20, (100, [], jS0), jgh, jgh, jgh, jgh, (130, [], [16, 17, 18, 19, 20, 21]), (101, [], [-q1, r7, r8, 0, 0, 0]), jgh, jgh, jgh, jgh, jgh, jgh, jgh, jgh, (100, [], (jenc (jlg 0))), (100, [], (jenc (jlg 1))), (100, [], (jenc (jlg 2))), (100, [], (jenc (jlg 3))), (100, [], (jenc (jlg 4))), (100, [], (jenc (jlg 5))), (101, [], [0, 0, 0, 0, 0, 0])]) (c1 := 1) (s1 := 6) (c2 := 19) (s2 := 1064) (by exact rfl) ?_ (by omega) (by omega)
  refine jT_xastore_n (v := (4, 22)) (LN := [(3, (4, 22)), (0, (4, 0)), (1, (4, 1)), (2, (0, 7 * o3))]) (pcN := 5) jIQ_240_4 rfl rfl rfl rfl ?_
  refine jT_xiconst (k := 0) (pcN := 6) jIQ_240_5 rfl ?_
  refine jT_xistore (v := (0, 0)) (LN := [(4, (0, 0)), (3, (4, 22)), (0, (4, 0)), (1, (4, 1)), (2, (0, 7 * o3))]) (pcN := 8) jIQ_240_6 rfl rfl rfl rfl ?_
  refine jT_xiload (v := (0, 0)) (pcN := 10) jIQ_240_8 rfl rfl rfl ?_
  refine jT_xbipush (k := 6) (pcN := 12) jIQ_240_10 (by decide) rfl ?_
  refine jT_xicF (t := 53) (pcN := 15) jIQ_240_12 rfl (by decide +kernel) rfl rfl ?_
  refine jT_xaload_n (v := (4, 22)) (pcN := 16) jIQ_240_15 rfl rfl rfl ?_
  refine jT_xiload (v := (0, 0)) (pcN := 18) jIQ_240_16 rfl rfl rfl ?_
  refine jT_xaload_n (v := (4, 0)) (pcN := 19) jIQ_240_18 rfl rfl rfl ?_
  refine jT_xgetf (a := 0) (t := 1) (ci := 14) (fi := 9) (c := jzQ_20) (v := (4, 7)) (pcN := 22) jIQ_240_19 rfl rfl rfl rfl rfl rfl rfl ?_
  refine jT_xiload (v := (0, 0)) (pcN := 24) jIQ_240_22 rfl rfl rfl ?_
  refine jT_lald (x := -q1) (a := 7) (j := 0) (fs := []) (X := [-q1, r7, r8, 0, 0, 0]) jIQ_240_24 rfl rfl rfl rfl ?_
  refine jT_eq (LN := [(4, (0, 0)), (3, (4, 22)), (0, (4, 0)), (1, (4, 1)), (2, (0, 7 * o3))]) (stN := [(1, -q1), (0, 0), (4, 22)]) (hsN := [jzQ_20, (100, [], jS0), jgh, jgh, jgh, jgh, (130, [], [16, 17, 18, 19, 20, 21]), (101, [], [-q1, r7, r8, 0, 0, 0]), jgh, jgh, jgh, jgh, jgh, jgh, jgh, jgh, (100, [], (jenc (jlg 0))), (100, [], (jenc (jlg 1))), (100, [], (jenc (jlg 2))), (100, [], (jenc (jlg 3))), (100, [], (jenc (jlg 4))), (100, [], (jenc (jlg 5))), (101, [], [0, 0, 0, 0, 0, 0])]) rfl rfl rfl ?_
  refine jT_xaload_n (v := (4, 1)) (pcN := 26) jIQ_240_25 rfl rfl rfl ?_
  refine jT_xiload_n (v := (0, 7 * o3)) (pcN := 27) jIQ_240_26 rfl rfl rfl ?_
  refine jT_xbipush (k := 6) (pcN := 29) jIQ_240_27 (by decide) rfl ?_
  refine jT_xiadd (x := 7 * o3) (y := 6) (z := 7 * o3 + 6) (pcN := 30) jIQ_240_29 rfl (by omega) rfl ?_
  refine jT_iald (x := 1) (a := 1) (j := (7 * o3 + 6).toNat) (fs := []) (X := jS0) (by rfl) (by rfl) (by rfl) (jw_nn (by omega) (by omega)) (jS0_r6 (by omega) (by omega)) ?_
  refine jT_eq (LN := [(4, (0, 0)), (3, (4, 22)), (0, (4, 0)), (1, (4, 1)), (2, (0, 7 * o3))]) (stN := [(0, 1), (1, -q1), (0, 0), (4, 22)]) (hsN := [jzQ_20, (100, [], jS0), jgh, jgh, jgh, jgh, (130, [], [16, 17, 18, 19, 20, 21]), (101, [], [-q1, r7, r8, 0, 0, 0]), jgh, jgh, jgh, jgh, jgh, jgh, jgh, jgh, (100, [], (jenc (jlg 0))), (100, [], (jenc (jlg 1))), (100, [], (jenc (jlg 2))), (100, [], (jenc (jlg 3))), (100, [], (jenc (jlg 4))), (100, [], (jenc (jlg 5))), (101, [], [0, 0, 0, 0, 0, 0])]) rfl rfl rfl ?_
  refine jT_xi2l (x := 1) (z := 1) (pcN := 32) jIQ_240_31 rfl (by decide +kernel) rfl ?_
  refine jT_xlmul (x := -q1) (y := 1) (z := -q1) (pcN := 33) jIQ_240_32 rfl (by omega) rfl ?_
  refine jT_xaload_n (v := (4, 1)) (pcN := 34) jIQ_240_33 rfl rfl rfl ?_
  refine jT_xiload_n (v := (0, 7 * o3)) (pcN := 35) jIQ_240_34 rfl rfl rfl ?_
  refine jT_xiload (v := (0, 0)) (pcN := 37) jIQ_240_35 rfl rfl rfl ?_
  refine jT_xiadd (x := 7 * o3) (y := 0) (z := 7 * o3) (pcN := 38) jIQ_240_37 rfl (by omega) rfl ?_
  refine jT_iald (x := 0) (a := 1) (j := (7 * o3).toNat) (fs := []) (X := jS0) (by rfl) (by rfl) (by rfl) (jw_nn (by omega) (by omega)) (jS0_r0 (by omega) (by omega)) ?_
  refine jT_eq (LN := [(4, (0, 0)), (3, (4, 22)), (0, (4, 0)), (1, (4, 1)), (2, (0, 7 * o3))]) (stN := [(0, 0), (1, -q1), (0, 0), (4, 22)]) (hsN := [jzQ_20, (100, [], jS0), jgh, jgh, jgh, jgh, (130, [], [16, 17, 18, 19, 20, 21]), (101, [], [-q1, r7, r8, 0, 0, 0]), jgh, jgh, jgh, jgh, jgh, jgh, jgh, jgh, (100, [], (jenc (jlg 0))), (100, [], (jenc (jlg 1))), (100, [], (jenc (jlg 2))), (100, [], (jenc (jlg 3))), (100, [], (jenc (jlg 4))), (100, [], (jenc (jlg 5))), (101, [], [0, 0, 0, 0, 0, 0])]) rfl rfl rfl ?_
  refine jT_xi2l (x := 0) (z := 0) (pcN := 40) jIQ_240_39 rfl (by decide +kernel) rfl ?_
  refine jT_xaload_n (v := (4, 0)) (pcN := 41) jIQ_240_40 rfl rfl rfl ?_
  refine jT_xgetf (a := 0) (t := 1) (ci := 14) (fi := 10) (c := jzQ_20) (v := (1, 1)) (pcN := 44) jIQ_240_41 rfl rfl rfl rfl rfl rfl rfl ?_
  refine jT_xlmul (x := 0) (y := 1) (z := 0) (pcN := 45) jIQ_240_44 rfl (by decide) rfl ?_
  refine jT_xlsub (x := -q1) (y := 0) (z := -q1) (pcN := 46) jIQ_240_45 rfl (by omega) rfl ?_
  refine jT_adv 1 (pcN := 47) (LN := [(4, (0, 0)), (3, (4, 22)), (0, (4, 0)), (1, (4, 1)), (2, (0, 7 * o3))]) (stN := []) (hsN := [jzQ_20, (100, [], jS0), jgh, jgh, jgh, jgh, (130, [], [16, 17, 18, 19, 20, 21]), (101, [], [-q1, r7, r8, 0, 0, 0]), jgh, jgh, jgh, jgh, jgh, jgh, jgh, jgh, (100, [], (jenc (jlg 0))), (100, [], (jenc (jlg 1))), (100, [], (jenc (jlg 2))), (100, [], (jenc (jlg 3))), (100, [], (jenc (jlg 4))), (100, [], (jenc (jlg 5))), (101, [], [-q1, 0, 0, 0, 0, 0])]) (c1 := 0) (s1 := 0) (c2 := 19) (s2 := 1064) (by exact rfl) ?_ (by omega) (by omega)
  refine jT_xiinc (x := 0) (z := 1) (LN := [(4, (0, 1)), (3, (4, 22)), (0, (4, 0)), (1, (4, 1)), (2, (0, 7 * o3))]) (pcN := 50) jIQ_240_47 rfl rfl (by decide) rfl rfl ?_
  refine jT_xgoto (pcN := 8) jIQ_240_50 rfl ?_
  refine jT_xiload (v := (0, 1)) (pcN := 10) jIQ_240_8 rfl rfl rfl ?_
  refine jT_xbipush (k := 6) (pcN := 12) jIQ_240_10 (by decide) rfl ?_
  refine jT_xicF (t := 53) (pcN := 15) jIQ_240_12 rfl (by decide +kernel) rfl rfl ?_
  refine jT_xaload_n (v := (4, 22)) (pcN := 16) jIQ_240_15 rfl rfl rfl ?_
  refine jT_xiload (v := (0, 1)) (pcN := 18) jIQ_240_16 rfl rfl rfl ?_
  refine jT_xaload_n (v := (4, 0)) (pcN := 19) jIQ_240_18 rfl rfl rfl ?_
  refine jT_xgetf (a := 0) (t := 1) (ci := 14) (fi := 9) (c := jzQ_20) (v := (4, 7)) (pcN := 22) jIQ_240_19 rfl rfl rfl rfl rfl rfl rfl ?_
  refine jT_xiload (v := (0, 1)) (pcN := 24) jIQ_240_22 rfl rfl rfl ?_
  refine jT_lald (x := r7) (a := 7) (j := 1) (fs := []) (X := [-q1, r7, r8, 0, 0, 0]) jIQ_240_24 rfl rfl rfl rfl ?_
  refine jT_eq (LN := [(4, (0, 1)), (3, (4, 22)), (0, (4, 0)), (1, (4, 1)), (2, (0, 7 * o3))]) (stN := [(1, r7), (0, 1), (4, 22)]) (hsN := [jzQ_20, (100, [], jS0), jgh, jgh, jgh, jgh, (130, [], [16, 17, 18, 19, 20, 21]), (101, [], [-q1, r7, r8, 0, 0, 0]), jgh, jgh, jgh, jgh, jgh, jgh, jgh, jgh, (100, [], (jenc (jlg 0))), (100, [], (jenc (jlg 1))), (100, [], (jenc (jlg 2))), (100, [], (jenc (jlg 3))), (100, [], (jenc (jlg 4))), (100, [], (jenc (jlg 5))), (101, [], [-q1, 0, 0, 0, 0, 0])]) rfl rfl rfl ?_
  refine jT_xaload_n (v := (4, 1)) (pcN := 26) jIQ_240_25 rfl rfl rfl ?_
  refine jT_xiload_n (v := (0, 7 * o3)) (pcN := 27) jIQ_240_26 rfl rfl rfl ?_
  refine jT_xbipush (k := 6) (pcN := 29) jIQ_240_27 (by decide) rfl ?_
  refine jT_xiadd (x := 7 * o3) (y := 6) (z := 7 * o3 + 6) (pcN := 30) jIQ_240_29 rfl (by omega) rfl ?_
  refine jT_iald (x := 1) (a := 1) (j := (7 * o3 + 6).toNat) (fs := []) (X := jS0) (by rfl) (by rfl) (by rfl) (jw_nn (by omega) (by omega)) (jS0_r6 (by omega) (by omega)) ?_
  refine jT_eq (LN := [(4, (0, 1)), (3, (4, 22)), (0, (4, 0)), (1, (4, 1)), (2, (0, 7 * o3))]) (stN := [(0, 1), (1, r7), (0, 1), (4, 22)]) (hsN := [jzQ_20, (100, [], jS0), jgh, jgh, jgh, jgh, (130, [], [16, 17, 18, 19, 20, 21]), (101, [], [-q1, r7, r8, 0, 0, 0]), jgh, jgh, jgh, jgh, jgh, jgh, jgh, jgh, (100, [], (jenc (jlg 0))), (100, [], (jenc (jlg 1))), (100, [], (jenc (jlg 2))), (100, [], (jenc (jlg 3))), (100, [], (jenc (jlg 4))), (100, [], (jenc (jlg 5))), (101, [], [-q1, 0, 0, 0, 0, 0])]) rfl rfl rfl ?_
  refine jT_xi2l (x := 1) (z := 1) (pcN := 32) jIQ_240_31 rfl (by decide +kernel) rfl ?_
  refine jT_xlmul (x := r7) (y := 1) (z := r7) (pcN := 33) jIQ_240_32 rfl (by omega) rfl ?_
  refine jT_xaload_n (v := (4, 1)) (pcN := 34) jIQ_240_33 rfl rfl rfl ?_
  refine jT_xiload_n (v := (0, 7 * o3)) (pcN := 35) jIQ_240_34 rfl rfl rfl ?_
  refine jT_xiload (v := (0, 1)) (pcN := 37) jIQ_240_35 rfl rfl rfl ?_
  refine jT_xiadd (x := 7 * o3) (y := 1) (z := 7 * o3 + 1) (pcN := 38) jIQ_240_37 rfl (by omega) rfl ?_
  refine jT_iald (x := 0) (a := 1) (j := (7 * o3 + 1).toNat) (fs := []) (X := jS0) (by rfl) (by rfl) (by rfl) (jw_nn (by omega) (by omega)) (jS0_r1 (by omega) (by omega)) ?_
  refine jT_eq (LN := [(4, (0, 1)), (3, (4, 22)), (0, (4, 0)), (1, (4, 1)), (2, (0, 7 * o3))]) (stN := [(0, 0), (1, r7), (0, 1), (4, 22)]) (hsN := [jzQ_20, (100, [], jS0), jgh, jgh, jgh, jgh, (130, [], [16, 17, 18, 19, 20, 21]), (101, [], [-q1, r7, r8, 0, 0, 0]), jgh, jgh, jgh, jgh, jgh, jgh, jgh, jgh, (100, [], (jenc (jlg 0))), (100, [], (jenc (jlg 1))), (100, [], (jenc (jlg 2))), (100, [], (jenc (jlg 3))), (100, [], (jenc (jlg 4))), (100, [], (jenc (jlg 5))), (101, [], [-q1, 0, 0, 0, 0, 0])]) rfl rfl rfl ?_
  refine jT_xi2l (x := 0) (z := 0) (pcN := 40) jIQ_240_39 rfl (by decide +kernel) rfl ?_
  refine jT_xaload_n (v := (4, 0)) (pcN := 41) jIQ_240_40 rfl rfl rfl ?_
  refine jT_xgetf (a := 0) (t := 1) (ci := 14) (fi := 10) (c := jzQ_20) (v := (1, 1)) (pcN := 44) jIQ_240_41 rfl rfl rfl rfl rfl rfl rfl ?_
  refine jT_xlmul (x := 0) (y := 1) (z := 0) (pcN := 45) jIQ_240_44 rfl (by decide) rfl ?_
  refine jT_xlsub (x := r7) (y := 0) (z := r7) (pcN := 46) jIQ_240_45 rfl (by omega) rfl ?_
  refine jT_adv 1 (pcN := 47) (LN := [(4, (0, 1)), (3, (4, 22)), (0, (4, 0)), (1, (4, 1)), (2, (0, 7 * o3))]) (stN := []) (hsN := [jzQ_20, (100, [], jS0), jgh, jgh, jgh, jgh, (130, [], [16, 17, 18, 19, 20, 21]), (101, [], [-q1, r7, r8, 0, 0, 0]), jgh, jgh, jgh, jgh, jgh, jgh, jgh, jgh, (100, [], (jenc (jlg 0))), (100, [], (jenc (jlg 1))), (100, [], (jenc (jlg 2))), (100, [], (jenc (jlg 3))), (100, [], (jenc (jlg 4))), (100, [], (jenc (jlg 5))), (101, [], [-q1, r7, 0, 0, 0, 0])]) (c1 := 0) (s1 := 0) (c2 := 19) (s2 := 1064) (by exact rfl) ?_ (by omega) (by omega)
  refine jT_xiinc (x := 1) (z := 2) (LN := [(4, (0, 2)), (3, (4, 22)), (0, (4, 0)), (1, (4, 1)), (2, (0, 7 * o3))]) (pcN := 50) jIQ_240_47 rfl rfl (by decide) rfl rfl ?_
  refine jT_xgoto (pcN := 8) jIQ_240_50 rfl ?_
  refine jT_xiload (v := (0, 2)) (pcN := 10) jIQ_240_8 rfl rfl rfl ?_
  refine jT_xbipush (k := 6) (pcN := 12) jIQ_240_10 (by decide) rfl ?_
  refine jT_xicF (t := 53) (pcN := 15) jIQ_240_12 rfl (by decide +kernel) rfl rfl ?_
  refine jT_xaload_n (v := (4, 22)) (pcN := 16) jIQ_240_15 rfl rfl rfl ?_
  refine jT_xiload (v := (0, 2)) (pcN := 18) jIQ_240_16 rfl rfl rfl ?_
  refine jT_xaload_n (v := (4, 0)) (pcN := 19) jIQ_240_18 rfl rfl rfl ?_
  refine jT_xgetf (a := 0) (t := 1) (ci := 14) (fi := 9) (c := jzQ_20) (v := (4, 7)) (pcN := 22) jIQ_240_19 rfl rfl rfl rfl rfl rfl rfl ?_
  refine jT_xiload (v := (0, 2)) (pcN := 24) jIQ_240_22 rfl rfl rfl ?_
  refine jT_lald (x := r8) (a := 7) (j := 2) (fs := []) (X := [-q1, r7, r8, 0, 0, 0]) jIQ_240_24 rfl rfl rfl rfl ?_
  refine jT_eq (LN := [(4, (0, 2)), (3, (4, 22)), (0, (4, 0)), (1, (4, 1)), (2, (0, 7 * o3))]) (stN := [(1, r8), (0, 2), (4, 22)]) (hsN := [jzQ_20, (100, [], jS0), jgh, jgh, jgh, jgh, (130, [], [16, 17, 18, 19, 20, 21]), (101, [], [-q1, r7, r8, 0, 0, 0]), jgh, jgh, jgh, jgh, jgh, jgh, jgh, jgh, (100, [], (jenc (jlg 0))), (100, [], (jenc (jlg 1))), (100, [], (jenc (jlg 2))), (100, [], (jenc (jlg 3))), (100, [], (jenc (jlg 4))), (100, [], (jenc (jlg 5))), (101, [], [-q1, r7, 0, 0, 0, 0])]) rfl rfl rfl ?_
  refine jT_xaload_n (v := (4, 1)) (pcN := 26) jIQ_240_25 rfl rfl rfl ?_
  refine jT_xiload_n (v := (0, 7 * o3)) (pcN := 27) jIQ_240_26 rfl rfl rfl ?_
  refine jT_xbipush (k := 6) (pcN := 29) jIQ_240_27 (by decide) rfl ?_
  refine jT_xiadd (x := 7 * o3) (y := 6) (z := 7 * o3 + 6) (pcN := 30) jIQ_240_29 rfl (by omega) rfl ?_
  refine jT_iald (x := 1) (a := 1) (j := (7 * o3 + 6).toNat) (fs := []) (X := jS0) (by rfl) (by rfl) (by rfl) (jw_nn (by omega) (by omega)) (jS0_r6 (by omega) (by omega)) ?_
  refine jT_eq (LN := [(4, (0, 2)), (3, (4, 22)), (0, (4, 0)), (1, (4, 1)), (2, (0, 7 * o3))]) (stN := [(0, 1), (1, r8), (0, 2), (4, 22)]) (hsN := [jzQ_20, (100, [], jS0), jgh, jgh, jgh, jgh, (130, [], [16, 17, 18, 19, 20, 21]), (101, [], [-q1, r7, r8, 0, 0, 0]), jgh, jgh, jgh, jgh, jgh, jgh, jgh, jgh, (100, [], (jenc (jlg 0))), (100, [], (jenc (jlg 1))), (100, [], (jenc (jlg 2))), (100, [], (jenc (jlg 3))), (100, [], (jenc (jlg 4))), (100, [], (jenc (jlg 5))), (101, [], [-q1, r7, 0, 0, 0, 0])]) rfl rfl rfl ?_
  refine jT_xi2l (x := 1) (z := 1) (pcN := 32) jIQ_240_31 rfl (by decide +kernel) rfl ?_
  refine jT_xlmul (x := r8) (y := 1) (z := r8) (pcN := 33) jIQ_240_32 rfl (by omega) rfl ?_
  refine jT_xaload_n (v := (4, 1)) (pcN := 34) jIQ_240_33 rfl rfl rfl ?_
  refine jT_xiload_n (v := (0, 7 * o3)) (pcN := 35) jIQ_240_34 rfl rfl rfl ?_
  refine jT_xiload (v := (0, 2)) (pcN := 37) jIQ_240_35 rfl rfl rfl ?_
  refine jT_xiadd (x := 7 * o3) (y := 2) (z := 7 * o3 + 2) (pcN := 38) jIQ_240_37 rfl (by omega) rfl ?_
  refine jT_iald (x := 0) (a := 1) (j := (7 * o3 + 2).toNat) (fs := []) (X := jS0) (by rfl) (by rfl) (by rfl) (jw_nn (by omega) (by omega)) (jS0_r2 (by omega) (by omega)) ?_
  refine jT_eq (LN := [(4, (0, 2)), (3, (4, 22)), (0, (4, 0)), (1, (4, 1)), (2, (0, 7 * o3))]) (stN := [(0, 0), (1, r8), (0, 2), (4, 22)]) (hsN := [jzQ_20, (100, [], jS0), jgh, jgh, jgh, jgh, (130, [], [16, 17, 18, 19, 20, 21]), (101, [], [-q1, r7, r8, 0, 0, 0]), jgh, jgh, jgh, jgh, jgh, jgh, jgh, jgh, (100, [], (jenc (jlg 0))), (100, [], (jenc (jlg 1))), (100, [], (jenc (jlg 2))), (100, [], (jenc (jlg 3))), (100, [], (jenc (jlg 4))), (100, [], (jenc (jlg 5))), (101, [], [-q1, r7, 0, 0, 0, 0])]) rfl rfl rfl ?_
  refine jT_xi2l (x := 0) (z := 0) (pcN := 40) jIQ_240_39 rfl (by decide +kernel) rfl ?_
  refine jT_xaload_n (v := (4, 0)) (pcN := 41) jIQ_240_40 rfl rfl rfl ?_
  refine jT_xgetf (a := 0) (t := 1) (ci := 14) (fi := 10) (c := jzQ_20) (v := (1, 1)) (pcN := 44) jIQ_240_41 rfl rfl rfl rfl rfl rfl rfl ?_
  refine jT_xlmul (x := 0) (y := 1) (z := 0) (pcN := 45) jIQ_240_44 rfl (by decide) rfl ?_
  refine jT_xlsub (x := r8) (y := 0) (z := r8) (pcN := 46) jIQ_240_45 rfl (by omega) rfl ?_
  refine jT_adv 1 (pcN := 47) (LN := [(4, (0, 2)), (3, (4, 22)), (0, (4, 0)), (1, (4, 1)), (2, (0, 7 * o3))]) (stN := []) (hsN := [jzQ_20, (100, [], jS0), jgh, jgh, jgh, jgh, (130, [], [16, 17, 18, 19, 20, 21]), (101, [], [-q1, r7, r8, 0, 0, 0]), jgh, jgh, jgh, jgh, jgh, jgh, jgh, jgh, (100, [], (jenc (jlg 0))), (100, [], (jenc (jlg 1))), (100, [], (jenc (jlg 2))), (100, [], (jenc (jlg 3))), (100, [], (jenc (jlg 4))), (100, [], (jenc (jlg 5))), (101, [], [-q1, r7, r8, 0, 0, 0])]) (c1 := 0) (s1 := 0) (c2 := 19) (s2 := 1064) (by exact rfl) ?_ (by omega) (by omega)
  refine jT_xiinc (x := 2) (z := 3) (LN := [(4, (0, 3)), (3, (4, 22)), (0, (4, 0)), (1, (4, 1)), (2, (0, 7 * o3))]) (pcN := 50) jIQ_240_47 rfl rfl (by decide) rfl rfl ?_
  refine jT_xgoto (pcN := 8) jIQ_240_50 rfl ?_
  refine jT_xiload (v := (0, 3)) (pcN := 10) jIQ_240_8 rfl rfl rfl ?_
  refine jT_xbipush (k := 6) (pcN := 12) jIQ_240_10 (by decide) rfl ?_
  refine jT_xicF (t := 53) (pcN := 15) jIQ_240_12 rfl (by decide +kernel) rfl rfl ?_
  refine jT_xaload_n (v := (4, 22)) (pcN := 16) jIQ_240_15 rfl rfl rfl ?_
  refine jT_xiload (v := (0, 3)) (pcN := 18) jIQ_240_16 rfl rfl rfl ?_
  refine jT_xaload_n (v := (4, 0)) (pcN := 19) jIQ_240_18 rfl rfl rfl ?_
  refine jT_xgetf (a := 0) (t := 1) (ci := 14) (fi := 9) (c := jzQ_20) (v := (4, 7)) (pcN := 22) jIQ_240_19 rfl rfl rfl rfl rfl rfl rfl ?_
  refine jT_xiload (v := (0, 3)) (pcN := 24) jIQ_240_22 rfl rfl rfl ?_
  refine jT_lald (x := 0) (a := 7) (j := 3) (fs := []) (X := [-q1, r7, r8, 0, 0, 0]) jIQ_240_24 rfl rfl rfl rfl ?_
  refine jT_eq (LN := [(4, (0, 3)), (3, (4, 22)), (0, (4, 0)), (1, (4, 1)), (2, (0, 7 * o3))]) (stN := [(1, 0), (0, 3), (4, 22)]) (hsN := [jzQ_20, (100, [], jS0), jgh, jgh, jgh, jgh, (130, [], [16, 17, 18, 19, 20, 21]), (101, [], [-q1, r7, r8, 0, 0, 0]), jgh, jgh, jgh, jgh, jgh, jgh, jgh, jgh, (100, [], (jenc (jlg 0))), (100, [], (jenc (jlg 1))), (100, [], (jenc (jlg 2))), (100, [], (jenc (jlg 3))), (100, [], (jenc (jlg 4))), (100, [], (jenc (jlg 5))), (101, [], [-q1, r7, r8, 0, 0, 0])]) rfl rfl rfl ?_
  refine jT_xaload_n (v := (4, 1)) (pcN := 26) jIQ_240_25 rfl rfl rfl ?_
  refine jT_xiload_n (v := (0, 7 * o3)) (pcN := 27) jIQ_240_26 rfl rfl rfl ?_
  refine jT_xbipush (k := 6) (pcN := 29) jIQ_240_27 (by decide) rfl ?_
  refine jT_xiadd (x := 7 * o3) (y := 6) (z := 7 * o3 + 6) (pcN := 30) jIQ_240_29 rfl (by omega) rfl ?_
  refine jT_iald (x := 1) (a := 1) (j := (7 * o3 + 6).toNat) (fs := []) (X := jS0) (by rfl) (by rfl) (by rfl) (jw_nn (by omega) (by omega)) (jS0_r6 (by omega) (by omega)) ?_
  refine jT_eq (LN := [(4, (0, 3)), (3, (4, 22)), (0, (4, 0)), (1, (4, 1)), (2, (0, 7 * o3))]) (stN := [(0, 1), (1, 0), (0, 3), (4, 22)]) (hsN := [jzQ_20, (100, [], jS0), jgh, jgh, jgh, jgh, (130, [], [16, 17, 18, 19, 20, 21]), (101, [], [-q1, r7, r8, 0, 0, 0]), jgh, jgh, jgh, jgh, jgh, jgh, jgh, jgh, (100, [], (jenc (jlg 0))), (100, [], (jenc (jlg 1))), (100, [], (jenc (jlg 2))), (100, [], (jenc (jlg 3))), (100, [], (jenc (jlg 4))), (100, [], (jenc (jlg 5))), (101, [], [-q1, r7, r8, 0, 0, 0])]) rfl rfl rfl ?_
  refine jT_xi2l (x := 1) (z := 1) (pcN := 32) jIQ_240_31 rfl (by decide +kernel) rfl ?_
  refine jT_xlmul (x := 0) (y := 1) (z := 0) (pcN := 33) jIQ_240_32 rfl (by decide) rfl ?_
  refine jT_xaload_n (v := (4, 1)) (pcN := 34) jIQ_240_33 rfl rfl rfl ?_
  refine jT_xiload_n (v := (0, 7 * o3)) (pcN := 35) jIQ_240_34 rfl rfl rfl ?_
  refine jT_xiload (v := (0, 3)) (pcN := 37) jIQ_240_35 rfl rfl rfl ?_
  refine jT_xiadd (x := 7 * o3) (y := 3) (z := 7 * o3 + 3) (pcN := 38) jIQ_240_37 rfl (by omega) rfl ?_
  refine jT_iald (x := 0) (a := 1) (j := (7 * o3 + 3).toNat) (fs := []) (X := jS0) (by rfl) (by rfl) (by rfl) (jw_nn (by omega) (by omega)) (jS0_r3 (by omega) (by omega)) ?_
  refine jT_eq (LN := [(4, (0, 3)), (3, (4, 22)), (0, (4, 0)), (1, (4, 1)), (2, (0, 7 * o3))]) (stN := [(0, 0), (1, 0), (0, 3), (4, 22)]) (hsN := [jzQ_20, (100, [], jS0), jgh, jgh, jgh, jgh, (130, [], [16, 17, 18, 19, 20, 21]), (101, [], [-q1, r7, r8, 0, 0, 0]), jgh, jgh, jgh, jgh, jgh, jgh, jgh, jgh, (100, [], (jenc (jlg 0))), (100, [], (jenc (jlg 1))), (100, [], (jenc (jlg 2))), (100, [], (jenc (jlg 3))), (100, [], (jenc (jlg 4))), (100, [], (jenc (jlg 5))), (101, [], [-q1, r7, r8, 0, 0, 0])]) rfl rfl rfl ?_
  refine jT_xi2l (x := 0) (z := 0) (pcN := 40) jIQ_240_39 rfl (by decide +kernel) rfl ?_
  refine jT_xaload_n (v := (4, 0)) (pcN := 41) jIQ_240_40 rfl rfl rfl ?_
  refine jT_xgetf (a := 0) (t := 1) (ci := 14) (fi := 10) (c := jzQ_20) (v := (1, 1)) (pcN := 44) jIQ_240_41 rfl rfl rfl rfl rfl rfl rfl ?_
  refine jT_xlmul (x := 0) (y := 1) (z := 0) (pcN := 45) jIQ_240_44 rfl (by decide) rfl ?_
  refine jT_xlsub (x := 0) (y := 0) (z := 0) (pcN := 46) jIQ_240_45 rfl (by decide) rfl ?_
  refine jT_adv 1 (pcN := 47) (LN := [(4, (0, 3)), (3, (4, 22)), (0, (4, 0)), (1, (4, 1)), (2, (0, 7 * o3))]) (stN := []) (hsN := [jzQ_20, (100, [], jS0), jgh, jgh, jgh, jgh, (130, [], [16, 17, 18, 19, 20, 21]), (101, [], [-q1, r7, r8, 0, 0, 0]), jgh, jgh, jgh, jgh, jgh, jgh, jgh, jgh, (100, [], (jenc (jlg 0))), (100, [], (jenc (jlg 1))), (100, [], (jenc (jlg 2))), (100, [], (jenc (jlg 3))), (100, [], (jenc (jlg 4))), (100, [], (jenc (jlg 5))), (101, [], [-q1, r7, r8, 0, 0, 0])]) (c1 := 0) (s1 := 0) (c2 := 19) (s2 := 1064) (by exact rfl) ?_ (by omega) (by omega)
  refine jT_xiinc (x := 3) (z := 4) (LN := [(4, (0, 4)), (3, (4, 22)), (0, (4, 0)), (1, (4, 1)), (2, (0, 7 * o3))]) (pcN := 50) jIQ_240_47 rfl rfl (by decide) rfl rfl ?_
  refine jT_xgoto (pcN := 8) jIQ_240_50 rfl ?_
  refine jT_xiload (v := (0, 4)) (pcN := 10) jIQ_240_8 rfl rfl rfl ?_
  refine jT_xbipush (k := 6) (pcN := 12) jIQ_240_10 (by decide) rfl ?_
  refine jT_xicF (t := 53) (pcN := 15) jIQ_240_12 rfl (by decide +kernel) rfl rfl ?_
  refine jT_xaload_n (v := (4, 22)) (pcN := 16) jIQ_240_15 rfl rfl rfl ?_
  refine jT_xiload (v := (0, 4)) (pcN := 18) jIQ_240_16 rfl rfl rfl ?_
  refine jT_xaload_n (v := (4, 0)) (pcN := 19) jIQ_240_18 rfl rfl rfl ?_
  refine jT_xgetf (a := 0) (t := 1) (ci := 14) (fi := 9) (c := jzQ_20) (v := (4, 7)) (pcN := 22) jIQ_240_19 rfl rfl rfl rfl rfl rfl rfl ?_
  refine jT_xiload (v := (0, 4)) (pcN := 24) jIQ_240_22 rfl rfl rfl ?_
  refine jT_lald (x := 0) (a := 7) (j := 4) (fs := []) (X := [-q1, r7, r8, 0, 0, 0]) jIQ_240_24 rfl rfl rfl rfl ?_
  refine jT_eq (LN := [(4, (0, 4)), (3, (4, 22)), (0, (4, 0)), (1, (4, 1)), (2, (0, 7 * o3))]) (stN := [(1, 0), (0, 4), (4, 22)]) (hsN := [jzQ_20, (100, [], jS0), jgh, jgh, jgh, jgh, (130, [], [16, 17, 18, 19, 20, 21]), (101, [], [-q1, r7, r8, 0, 0, 0]), jgh, jgh, jgh, jgh, jgh, jgh, jgh, jgh, (100, [], (jenc (jlg 0))), (100, [], (jenc (jlg 1))), (100, [], (jenc (jlg 2))), (100, [], (jenc (jlg 3))), (100, [], (jenc (jlg 4))), (100, [], (jenc (jlg 5))), (101, [], [-q1, r7, r8, 0, 0, 0])]) rfl rfl rfl ?_
  refine jT_xaload_n (v := (4, 1)) (pcN := 26) jIQ_240_25 rfl rfl rfl ?_
  refine jT_xiload_n (v := (0, 7 * o3)) (pcN := 27) jIQ_240_26 rfl rfl rfl ?_
  refine jT_xbipush (k := 6) (pcN := 29) jIQ_240_27 (by decide) rfl ?_
  refine jT_xiadd (x := 7 * o3) (y := 6) (z := 7 * o3 + 6) (pcN := 30) jIQ_240_29 rfl (by omega) rfl ?_
  refine jT_iald (x := 1) (a := 1) (j := (7 * o3 + 6).toNat) (fs := []) (X := jS0) (by rfl) (by rfl) (by rfl) (jw_nn (by omega) (by omega)) (jS0_r6 (by omega) (by omega)) ?_
  refine jT_eq (LN := [(4, (0, 4)), (3, (4, 22)), (0, (4, 0)), (1, (4, 1)), (2, (0, 7 * o3))]) (stN := [(0, 1), (1, 0), (0, 4), (4, 22)]) (hsN := [jzQ_20, (100, [], jS0), jgh, jgh, jgh, jgh, (130, [], [16, 17, 18, 19, 20, 21]), (101, [], [-q1, r7, r8, 0, 0, 0]), jgh, jgh, jgh, jgh, jgh, jgh, jgh, jgh, (100, [], (jenc (jlg 0))), (100, [], (jenc (jlg 1))), (100, [], (jenc (jlg 2))), (100, [], (jenc (jlg 3))), (100, [], (jenc (jlg 4))), (100, [], (jenc (jlg 5))), (101, [], [-q1, r7, r8, 0, 0, 0])]) rfl rfl rfl ?_
  refine jT_xi2l (x := 1) (z := 1) (pcN := 32) jIQ_240_31 rfl (by decide +kernel) rfl ?_
  refine jT_xlmul (x := 0) (y := 1) (z := 0) (pcN := 33) jIQ_240_32 rfl (by decide) rfl ?_
  refine jT_xaload_n (v := (4, 1)) (pcN := 34) jIQ_240_33 rfl rfl rfl ?_
  refine jT_xiload_n (v := (0, 7 * o3)) (pcN := 35) jIQ_240_34 rfl rfl rfl ?_
  refine jT_xiload (v := (0, 4)) (pcN := 37) jIQ_240_35 rfl rfl rfl ?_
  refine jT_xiadd (x := 7 * o3) (y := 4) (z := 7 * o3 + 4) (pcN := 38) jIQ_240_37 rfl (by omega) rfl ?_
  refine jT_iald (x := 0) (a := 1) (j := (7 * o3 + 4).toNat) (fs := []) (X := jS0) (by rfl) (by rfl) (by rfl) (jw_nn (by omega) (by omega)) (jS0_r4 (by omega) (by omega)) ?_
  refine jT_eq (LN := [(4, (0, 4)), (3, (4, 22)), (0, (4, 0)), (1, (4, 1)), (2, (0, 7 * o3))]) (stN := [(0, 0), (1, 0), (0, 4), (4, 22)]) (hsN := [jzQ_20, (100, [], jS0), jgh, jgh, jgh, jgh, (130, [], [16, 17, 18, 19, 20, 21]), (101, [], [-q1, r7, r8, 0, 0, 0]), jgh, jgh, jgh, jgh, jgh, jgh, jgh, jgh, (100, [], (jenc (jlg 0))), (100, [], (jenc (jlg 1))), (100, [], (jenc (jlg 2))), (100, [], (jenc (jlg 3))), (100, [], (jenc (jlg 4))), (100, [], (jenc (jlg 5))), (101, [], [-q1, r7, r8, 0, 0, 0])]) rfl rfl rfl ?_
  refine jT_xi2l (x := 0) (z := 0) (pcN := 40) jIQ_240_39 rfl (by decide +kernel) rfl ?_
  refine jT_xaload_n (v := (4, 0)) (pcN := 41) jIQ_240_40 rfl rfl rfl ?_
  refine jT_xgetf (a := 0) (t := 1) (ci := 14) (fi := 10) (c := jzQ_20) (v := (1, 1)) (pcN := 44) jIQ_240_41 rfl rfl rfl rfl rfl rfl rfl ?_
  refine jT_xlmul (x := 0) (y := 1) (z := 0) (pcN := 45) jIQ_240_44 rfl (by decide) rfl ?_
  refine jT_xlsub (x := 0) (y := 0) (z := 0) (pcN := 46) jIQ_240_45 rfl (by decide) rfl ?_
  refine jT_adv 1 (pcN := 47) (LN := [(4, (0, 4)), (3, (4, 22)), (0, (4, 0)), (1, (4, 1)), (2, (0, 7 * o3))]) (stN := []) (hsN := [jzQ_20, (100, [], jS0), jgh, jgh, jgh, jgh, (130, [], [16, 17, 18, 19, 20, 21]), (101, [], [-q1, r7, r8, 0, 0, 0]), jgh, jgh, jgh, jgh, jgh, jgh, jgh, jgh, (100, [], (jenc (jlg 0))), (100, [], (jenc (jlg 1))), (100, [], (jenc (jlg 2))), (100, [], (jenc (jlg 3))), (100, [], (jenc (jlg 4))), (100, [], (jenc (jlg 5))), (101, [], [-q1, r7, r8, 0, 0, 0])]) (c1 := 0) (s1 := 0) (c2 := 19) (s2 := 1064) (by exact rfl) ?_ (by omega) (by omega)
  refine jT_xiinc (x := 4) (z := 5) (LN := [(4, (0, 5)), (3, (4, 22)), (0, (4, 0)), (1, (4, 1)), (2, (0, 7 * o3))]) (pcN := 50) jIQ_240_47 rfl rfl (by decide) rfl rfl ?_
  refine jT_xgoto (pcN := 8) jIQ_240_50 rfl ?_
  refine jT_xiload (v := (0, 5)) (pcN := 10) jIQ_240_8 rfl rfl rfl ?_
  refine jT_xbipush (k := 6) (pcN := 12) jIQ_240_10 (by decide) rfl ?_
  refine jT_xicF (t := 53) (pcN := 15) jIQ_240_12 rfl (by decide +kernel) rfl rfl ?_
  refine jT_xaload_n (v := (4, 22)) (pcN := 16) jIQ_240_15 rfl rfl rfl ?_
  refine jT_xiload (v := (0, 5)) (pcN := 18) jIQ_240_16 rfl rfl rfl ?_
  refine jT_xaload_n (v := (4, 0)) (pcN := 19) jIQ_240_18 rfl rfl rfl ?_
  refine jT_xgetf (a := 0) (t := 1) (ci := 14) (fi := 9) (c := jzQ_20) (v := (4, 7)) (pcN := 22) jIQ_240_19 rfl rfl rfl rfl rfl rfl rfl ?_
  refine jT_xiload (v := (0, 5)) (pcN := 24) jIQ_240_22 rfl rfl rfl ?_
  refine jT_lald (x := 0) (a := 7) (j := 5) (fs := []) (X := [-q1, r7, r8, 0, 0, 0]) jIQ_240_24 rfl rfl rfl rfl ?_
  refine jT_eq (LN := [(4, (0, 5)), (3, (4, 22)), (0, (4, 0)), (1, (4, 1)), (2, (0, 7 * o3))]) (stN := [(1, 0), (0, 5), (4, 22)]) (hsN := [jzQ_20, (100, [], jS0), jgh, jgh, jgh, jgh, (130, [], [16, 17, 18, 19, 20, 21]), (101, [], [-q1, r7, r8, 0, 0, 0]), jgh, jgh, jgh, jgh, jgh, jgh, jgh, jgh, (100, [], (jenc (jlg 0))), (100, [], (jenc (jlg 1))), (100, [], (jenc (jlg 2))), (100, [], (jenc (jlg 3))), (100, [], (jenc (jlg 4))), (100, [], (jenc (jlg 5))), (101, [], [-q1, r7, r8, 0, 0, 0])]) rfl rfl rfl ?_
  refine jT_xaload_n (v := (4, 1)) (pcN := 26) jIQ_240_25 rfl rfl rfl ?_
  refine jT_xiload_n (v := (0, 7 * o3)) (pcN := 27) jIQ_240_26 rfl rfl rfl ?_
  refine jT_xbipush (k := 6) (pcN := 29) jIQ_240_27 (by decide) rfl ?_
  refine jT_xiadd (x := 7 * o3) (y := 6) (z := 7 * o3 + 6) (pcN := 30) jIQ_240_29 rfl (by omega) rfl ?_
  refine jT_iald (x := 1) (a := 1) (j := (7 * o3 + 6).toNat) (fs := []) (X := jS0) (by rfl) (by rfl) (by rfl) (jw_nn (by omega) (by omega)) (jS0_r6 (by omega) (by omega)) ?_
  refine jT_eq (LN := [(4, (0, 5)), (3, (4, 22)), (0, (4, 0)), (1, (4, 1)), (2, (0, 7 * o3))]) (stN := [(0, 1), (1, 0), (0, 5), (4, 22)]) (hsN := [jzQ_20, (100, [], jS0), jgh, jgh, jgh, jgh, (130, [], [16, 17, 18, 19, 20, 21]), (101, [], [-q1, r7, r8, 0, 0, 0]), jgh, jgh, jgh, jgh, jgh, jgh, jgh, jgh, (100, [], (jenc (jlg 0))), (100, [], (jenc (jlg 1))), (100, [], (jenc (jlg 2))), (100, [], (jenc (jlg 3))), (100, [], (jenc (jlg 4))), (100, [], (jenc (jlg 5))), (101, [], [-q1, r7, r8, 0, 0, 0])]) rfl rfl rfl ?_
  refine jT_xi2l (x := 1) (z := 1) (pcN := 32) jIQ_240_31 rfl (by decide +kernel) rfl ?_
  refine jT_xlmul (x := 0) (y := 1) (z := 0) (pcN := 33) jIQ_240_32 rfl (by decide) rfl ?_
  refine jT_xaload_n (v := (4, 1)) (pcN := 34) jIQ_240_33 rfl rfl rfl ?_
  refine jT_xiload_n (v := (0, 7 * o3)) (pcN := 35) jIQ_240_34 rfl rfl rfl ?_
  refine jT_xiload (v := (0, 5)) (pcN := 37) jIQ_240_35 rfl rfl rfl ?_
  refine jT_xiadd (x := 7 * o3) (y := 5) (z := 7 * o3 + 5) (pcN := 38) jIQ_240_37 rfl (by omega) rfl ?_
  refine jT_iald (x := 0) (a := 1) (j := (7 * o3 + 5).toNat) (fs := []) (X := jS0) (by rfl) (by rfl) (by rfl) (jw_nn (by omega) (by omega)) (jS0_r5 (by omega) (by omega)) ?_
  refine jT_eq (LN := [(4, (0, 5)), (3, (4, 22)), (0, (4, 0)), (1, (4, 1)), (2, (0, 7 * o3))]) (stN := [(0, 0), (1, 0), (0, 5), (4, 22)]) (hsN := [jzQ_20, (100, [], jS0), jgh, jgh, jgh, jgh, (130, [], [16, 17, 18, 19, 20, 21]), (101, [], [-q1, r7, r8, 0, 0, 0]), jgh, jgh, jgh, jgh, jgh, jgh, jgh, jgh, (100, [], (jenc (jlg 0))), (100, [], (jenc (jlg 1))), (100, [], (jenc (jlg 2))), (100, [], (jenc (jlg 3))), (100, [], (jenc (jlg 4))), (100, [], (jenc (jlg 5))), (101, [], [-q1, r7, r8, 0, 0, 0])]) rfl rfl rfl ?_
  refine jT_xi2l (x := 0) (z := 0) (pcN := 40) jIQ_240_39 rfl (by decide +kernel) rfl ?_
  refine jT_xaload_n (v := (4, 0)) (pcN := 41) jIQ_240_40 rfl rfl rfl ?_
  refine jT_xgetf (a := 0) (t := 1) (ci := 14) (fi := 10) (c := jzQ_20) (v := (1, 1)) (pcN := 44) jIQ_240_41 rfl rfl rfl rfl rfl rfl rfl ?_
  refine jT_xlmul (x := 0) (y := 1) (z := 0) (pcN := 45) jIQ_240_44 rfl (by decide) rfl ?_
  refine jT_xlsub (x := 0) (y := 0) (z := 0) (pcN := 46) jIQ_240_45 rfl (by decide) rfl ?_
  refine jT_adv 1 (pcN := 47) (LN := [(4, (0, 5)), (3, (4, 22)), (0, (4, 0)), (1, (4, 1)), (2, (0, 7 * o3))]) (stN := []) (hsN := [jzQ_20, (100, [], jS0), jgh, jgh, jgh, jgh, (130, [], [16, 17, 18, 19, 20, 21]), (101, [], [-q1, r7, r8, 0, 0, 0]), jgh, jgh, jgh, jgh, jgh, jgh, jgh, jgh, (100, [], (jenc (jlg 0))), (100, [], (jenc (jlg 1))), (100, [], (jenc (jlg 2))), (100, [], (jenc (jlg 3))), (100, [], (jenc (jlg 4))), (100, [], (jenc (jlg 5))), (101, [], [-q1, r7, r8, 0, 0, 0])]) (c1 := 0) (s1 := 0) (c2 := 19) (s2 := 1064) (by exact rfl) ?_ (by omega) (by omega)
  refine jT_xiinc (x := 5) (z := 6) (LN := [(4, (0, 6)), (3, (4, 22)), (0, (4, 0)), (1, (4, 1)), (2, (0, 7 * o3))]) (pcN := 50) jIQ_240_47 rfl rfl (by decide) rfl rfl ?_
  refine jT_xgoto (pcN := 8) jIQ_240_50 rfl ?_
  refine jT_xiload (v := (0, 6)) (pcN := 10) jIQ_240_8 rfl rfl rfl ?_
  refine jT_xbipush (k := 6) (pcN := 12) jIQ_240_10 (by decide) rfl ?_
  refine jT_xicT (pcN := 53) jIQ_240_12 rfl (by decide +kernel) rfl ?_
  refine jT_xaload_n (v := (4, 0)) (pcN := 54) jIQ_240_53 rfl rfl rfl ?_
  refine jT_xaload_n (v := (4, 22)) (pcN := 55) jIQ_240_54 rfl rfl rfl ?_
  refine jT_callA [0, 22, 1, 2, 3, 4, 5, 6, 7, 8, 9, 10, 11, 12, 13, 14, 15, 16, 17, 18, 19, 20, 21] (y := 213) (pcN := 58) (dC := 3) (bc1 := 19) (bc2 := 1064) (c1 := 0) (c2 := 0) (as := [(4, 0), (4, 22)]) (asC := [(4, 0), (4, 1)]) (LN := [(4, (0, 6)), (3, (4, 22)), (0, (4, 0)), (1, (4, 1)), (2, (0, 7 * o3))]) (stN := []) (hsC := [jzQ_371, (101, [], [-q1, r7, r8, 0, 0, 0]), jgh, jgh, jgh, jgh, jgh, (130, [], [17, 18, 19, 20, 21, 22]), jgh, jgh, jgh, jgh, jgh, jgh, jgh, jgh, jgh, (100, [], (jenc (jlg 0))), (100, [], (jenc (jlg 1))), (100, [], (jenc (jlg 2))), (100, [], (jenc (jlg 3))), (100, [], (jenc (jlg 4))), (100, [], (jenc (jlg 5)))]) (ex := []) (v := (0, (jlz (-q1) r7 r8 0 0 0).sign)) (st2 := [(0, (jlz (-q1) r7 r8 0 0 0).sign)]) (hs2 := [jzQ_20, (100, [], jS0), jgh, jgh, jgh, jgh, (130, [], [16, 17, 18, 19, 20, 21]), (101, [], [-q1, r7, r8, 0, 0, 0]), jgh, jgh, jgh, jgh, jgh, jgh, jgh, jgh, (100, [], (jenc (jlg 0))), (100, [], (jenc (jlg 1))), (100, [], (jenc (jlg 2))), (100, [], (jenc (jlg 3))), (100, [], (jenc (jlg 4))), (100, [], (jenc (jlg 5))), (101, [], [-q1, r7, r8, 0, 0, 0])]) (jQl_sg_148 (d := 0) (e0 := -q1) (e1 := r7) (e2 := r8) (e3 := 0) (e4 := 0) (e5 := 0) (by omega) (by omega) (by omega) (by omega) (by omega) (by omega)) (by rfl) (by rfl) (by rfl) (by rfl) ⟨rfl, rfl, rfl, rfl, rfl, rfl, rfl, rfl, rfl, rfl, rfl, rfl, rfl, rfl, rfl, rfl, rfl, rfl, rfl, rfl, rfl, rfl, rfl, trivial⟩ (by rfl) (by rfl) (by omega) (by show 22 ≤ 23; omega) (by omega) (by omega) rfl rfl ?_
  have hb_q2 := jsgn_b (jlz (-q1) r7 r8 0 0 0)
  generalize hq_q2 : (jlz (-q1) r7 r8 0 0 0).sign = q2 at hb_q2 g_3 ⊢
  subst hq_q2
  exact jT_ret rfl (by decide) (by show 22 ≤ 23; omega) (by omega) (by omega) ⟨rfl, rfl, rfl⟩
theorem jQ_299_178 {xs : List Int} {d : Nat} {o3 r7 r8 u127_0 u127_1 u127_2 u127_3 u127_4 u127_5 : Int} (h_o3 : 0 ≤ o3 ∧ o3 ≤ 7) (h_r7 : (-20) ≤ r7 ∧ r7 ≤ 20) (h_r8 : (-10) ≤ r8 ∧ r8 ≤ 10) (g_0 : 0 ≤ r7) (g_1 : r7 ≤ 0) (g_2 : r8 < 0) : jT xs (d + 7) 299 23 0 [(0, (4, 0)), (1, (0, r7)), (2, (0, r8)), (3, (0, o3)), (4, (4, 1))] [] [jzQ_371, jgh, (100, [], jS0), jgh, jgh, jgh, jgh, (130, [], [17, 18, 19, 20, 21, 22]), (101, [], [u127_0, u127_1, u127_2, u127_3, u127_4, u127_5]), jgh, jgh, jgh, jgh, jgh, jgh, jgh, jgh, (100, [], (jenc (jlg 0))), (100, [], (jenc (jlg 1))), (100, [], (jenc (jlg 2))), (100, [], (jenc (jlg 3))), (100, [], (jenc (jlg 4))), (100, [], (jenc (jlg 5)))] 80 4280 (fun k v hsN => k = 0 ∧ v = (0, 0) ∧ hsN = [jzQ_371, jgh, (100, [], jS0), jgh, jgh, jgh, jgh, (130, [], [17, 18, 19, 20, 21, 22]), (101, [], [-(jkn r7 r8), r7, r8, 0, 0, 0]), jgh, jgh, jgh, jgh, jgh, jgh, jgh, jgh, (100, [], (jenc (jlg 0))), (100, [], (jenc (jlg 1))), (100, [], (jenc (jlg 2))), (100, [], (jenc (jlg 3))), (100, [], (jenc (jlg 4))), (100, [], (jenc (jlg 5))), (101, [], [-(jkn r7 r8), r7, r8, 0, 0, 0])]) := by
  refine jT_xaload_n (v := (4, 0)) (pcN := 1) jIQ_299_0 rfl rfl rfl ?_
  refine jT_callB [0, 2, 3, 4, 5, 6, 7, 8, 9, 10, 11, 12, 13, 14, 15, 16] (y := 193) (pcN := 4) (dC := 0) (bc1 := 0) (bc2 := 0) (c1 := 80) (c2 := 4280) (as := [(4, 0)]) (asC := [(4, 0)]) (LN := [(0, (4, 0)), (1, (0, r7)), (2, (0, r8)), (3, (0, o3)), (4, (4, 1))]) (stN := []) (hsC := [jzQ_20, jgh, jgh, jgh, jgh, jgh, jgh, (101, [], [u127_0, u127_1, u127_2, u127_3, u127_4, u127_5]), jgh, jgh, jgh, jgh, jgh, jgh, jgh, jgh]) (hsD := jpQ_394) (v := (9, 0)) (st2 := []) (hs2 := jpQ_546) (jQ_193_145 (d := 0)) (by rfl) (by rfl) (by rfl) (by rfl) ⟨rfl, rfl, rfl, rfl, rfl, rfl, rfl, rfl, rfl, rfl, rfl, rfl, rfl, rfl, rfl, rfl, trivial⟩ (by rfl) (by rfl) (by omega) (by show 23 ≤ 23; omega) (by omega) (by omega) rfl rfl ?_
  refine jT_xaload_n (v := (4, 0)) (pcN := 5) jIQ_299_4 rfl rfl rfl ?_
  refine jT_xgetf (a := 0) (t := 1) (ci := 14) (fi := 9) (c := jzQ_371) (v := (4, 8)) (pcN := 8) jIQ_299_5 rfl rfl rfl rfl rfl rfl rfl ?_
  refine jT_xiconst (k := 1) (pcN := 9) jIQ_299_8 rfl ?_
  refine jT_xiload_n (v := (0, r7)) (pcN := 10) jIQ_299_9 rfl rfl rfl ?_
  refine jT_xi2l (x := r7) (z := r7) (pcN := 11) jIQ_299_10 rfl (jw_idd (by omega) (by omega)) rfl ?_
  refine jT_adv 1 (pcN := 12) (LN := [(0, (4, 0)), (1, (0, r7)), (2, (0, r8)), (3, (0, o3)), (4, (4, 1))]) (stN := []) (hsN := [jzQ_371, jgh, (100, [], jS0), jgh, jgh, jgh, jgh, (130, [], [17, 18, 19, 20, 21, 22]), (101, [], [0, r7, 0, 0, 0, 0]), jgh, jgh, jgh, jgh, jgh, jgh, jgh, jgh, (100, [], (jenc (jlg 0))), (100, [], (jenc (jlg 1))), (100, [], (jenc (jlg 2))), (100, [], (jenc (jlg 3))), (100, [], (jenc (jlg 4))), (100, [], (jenc (jlg 5)))]) (c1 := 0) (s1 := 0) (c2 := 80) (s2 := 4280) (by exact rfl) ?_ (by omega) (by omega)
  refine jT_xaload_n (v := (4, 0)) (pcN := 13) jIQ_299_12 rfl rfl rfl ?_
  refine jT_xgetf (a := 0) (t := 1) (ci := 14) (fi := 9) (c := jzQ_371) (v := (4, 8)) (pcN := 16) jIQ_299_13 rfl rfl rfl rfl rfl rfl rfl ?_
  refine jT_xiconst (k := 2) (pcN := 17) jIQ_299_16 rfl ?_
  refine jT_xiload_n (v := (0, r8)) (pcN := 18) jIQ_299_17 rfl rfl rfl ?_
  refine jT_xi2l (x := r8) (z := r8) (pcN := 19) jIQ_299_18 rfl (jw_idd (by omega) (by omega)) rfl ?_
  refine jT_adv 1 (pcN := 20) (LN := [(0, (4, 0)), (1, (0, r7)), (2, (0, r8)), (3, (0, o3)), (4, (4, 1))]) (stN := []) (hsN := [jzQ_371, jgh, (100, [], jS0), jgh, jgh, jgh, jgh, (130, [], [17, 18, 19, 20, 21, 22]), (101, [], [0, r7, r8, 0, 0, 0]), jgh, jgh, jgh, jgh, jgh, jgh, jgh, jgh, (100, [], (jenc (jlg 0))), (100, [], (jenc (jlg 1))), (100, [], (jenc (jlg 2))), (100, [], (jenc (jlg 3))), (100, [], (jenc (jlg 4))), (100, [], (jenc (jlg 5)))]) (c1 := 0) (s1 := 0) (c2 := 80) (s2 := 4280) (by exact rfl) ?_ (by omega) (by omega)
  refine jT_xaload_n (v := (4, 0)) (pcN := 21) jIQ_299_20 rfl rfl rfl ?_
  refine jT_callB [0, 2, 3, 4, 5, 6, 7, 8, 9, 10, 11, 12, 13, 14, 15, 16, 17, 18, 19, 20, 21, 22] (y := 209) (pcN := 24) (dC := 6) (bc1 := 60) (bc2 := 3210) (c1 := 20) (c2 := 1070) (as := [(4, 0)]) (asC := [(4, 0)]) (LN := [(0, (4, 0)), (1, (0, r7)), (2, (0, r8)), (3, (0, o3)), (4, (4, 1))]) (stN := []) (hsC := [jzQ_20, jgh, jgh, jgh, jgh, jgh, (130, [], [16, 17, 18, 19, 20, 21]), (101, [], [0, r7, r8, 0, 0, 0]), jgh, jgh, jgh, jgh, jgh, jgh, jgh, jgh, (100, [], (jenc (jlg 0))), (100, [], (jenc (jlg 1))), (100, [], (jenc (jlg 2))), (100, [], (jenc (jlg 3))), (100, [], (jenc (jlg 4))), (100, [], (jenc (jlg 5)))]) (hsD := [jzQ_20, jgh, jgh, jgh, jgh, jgh, (130, [], [16, 17, 18, 19, 20, 21]), (101, [], [-(jkn r7 r8), r7, r8, 0, 0, 0]), jgh, jgh, jgh, jgh, jgh, jgh, jgh, jgh, (100, [], (jenc (jlg 0))), (100, [], (jenc (jlg 1))), (100, [], (jenc (jlg 2))), (100, [], (jenc (jlg 3))), (100, [], (jenc (jlg 4))), (100, [], (jenc (jlg 5)))]) (v := (1, jkn r7 r8)) (st2 := [(1, jkn r7 r8)]) (hs2 := [jzQ_371, jgh, (100, [], jS0), jgh, jgh, jgh, jgh, (130, [], [17, 18, 19, 20, 21, 22]), (101, [], [-(jkn r7 r8), r7, r8, 0, 0, 0]), jgh, jgh, jgh, jgh, jgh, jgh, jgh, jgh, (100, [], (jenc (jlg 0))), (100, [], (jenc (jlg 1))), (100, [], (jenc (jlg 2))), (100, [], (jenc (jlg 3))), (100, [], (jenc (jlg 4))), (100, [], (jenc (jlg 5)))]) (jQ_209_176 (d := 0) (by omega) (by omega) (by omega) (by omega) (by omega)) (by rfl) (by rfl) (by rfl) (by rfl) ⟨rfl, rfl, rfl, rfl, rfl, rfl, rfl, rfl, rfl, rfl, rfl, rfl, rfl, rfl, rfl, rfl, rfl, rfl, rfl, rfl, rfl, rfl, trivial⟩ (by rfl) (by rfl) (by omega) (by show 23 ≤ 23; omega) (by omega) (by omega) rfl rfl ?_
  have hb_q1 := jkn_b (b := r7) (c := r8) (by omega) (by omega)
  generalize hq_q1 : jkn r7 r8 = q1 at hb_q1 ⊢
  refine jT_eq (LN := [(0, (4, 0)), (1, (0, r7)), (2, (0, r8)), (3, (0, o3)), (4, (4, 1))]) (stN := [(1, q1)]) (hsN := [jzQ_371, jgh, (100, [], jS0), jgh, jgh, jgh, jgh, (130, [], [17, 18, 19, 20, 21, 22]), (101, [], [-q1, r7, r8, 0, 0, 0]), jgh, jgh, jgh, jgh, jgh, jgh, jgh, jgh, (100, [], (jenc (jlg 0))), (100, [], (jenc (jlg 1))), (100, [], (jenc (jlg 2))), (100, [], (jenc (jlg 3))), (100, [], (jenc (jlg 4))), (100, [], (jenc (jlg 5)))]) (rfl) (rfl) (by simp only [List.cons.injEq, Prod.mk.injEq, and_true, true_and] <;> ((try unfold jw); (try unfold jwl); omega)) ?_
  refine jT_xlstore (v := (1, q1)) (LN := [(5, (1, q1)), (0, (4, 0)), (1, (0, r7)), (2, (0, r8)), (3, (0, o3)), (4, (4, 1))]) (pcN := 26) jIQ_299_24 rfl rfl rfl rfl ?_
  have g_3 : 0 ≤ (jlz (-q1) r7 r8 0 0 0).sign := by rw [← hq_q1]; exact jkn_s (by omega) (by omega)
  refine jT_xlload (v := (1, q1)) (pcN := 28) jIQ_299_26 rfl rfl rfl ?_
  refine jT_xaload_n (v := (4, 0)) (pcN := 29) jIQ_299_28 rfl rfl rfl ?_
  refine jT_xgetf (a := 0) (t := 1) (ci := 14) (fi := 9) (c := jzQ_371) (v := (4, 8)) (pcN := 32) jIQ_299_29 rfl rfl rfl rfl rfl rfl rfl ?_
  refine jT_xiconst (k := 0) (pcN := 33) jIQ_299_32 rfl ?_
  refine jT_lald (x := -q1) (a := 8) (j := 0) (fs := []) (X := [-q1, r7, r8, 0, 0, 0]) jIQ_299_33 rfl rfl rfl rfl ?_
  refine jT_eq (LN := [(5, (1, q1)), (0, (4, 0)), (1, (0, r7)), (2, (0, r8)), (3, (0, o3)), (4, (4, 1))]) (stN := [(1, -q1), (1, q1)]) (hsN := [jzQ_371, jgh, (100, [], jS0), jgh, jgh, jgh, jgh, (130, [], [17, 18, 19, 20, 21, 22]), (101, [], [-q1, r7, r8, 0, 0, 0]), jgh, jgh, jgh, jgh, jgh, jgh, jgh, jgh, (100, [], (jenc (jlg 0))), (100, [], (jenc (jlg 1))), (100, [], (jenc (jlg 2))), (100, [], (jenc (jlg 3))), (100, [], (jenc (jlg 4))), (100, [], (jenc (jlg 5)))]) rfl rfl rfl ?_
  refine jT_adv 1 (pcN := 35) (LN := [(5, (1, q1)), (0, (4, 0)), (1, (0, r7)), (2, (0, r8)), (3, (0, o3)), (4, (4, 1))]) (stN := [(1, -(-q1)), (1, q1)]) (hsN := [jzQ_371, jgh, (100, [], jS0), jgh, jgh, jgh, jgh, (130, [], [17, 18, 19, 20, 21, 22]), (101, [], [-q1, r7, r8, 0, 0, 0]), jgh, jgh, jgh, jgh, jgh, jgh, jgh, jgh, (100, [], (jenc (jlg 0))), (100, [], (jenc (jlg 1))), (100, [], (jenc (jlg 2))), (100, [], (jenc (jlg 3))), (100, [], (jenc (jlg 4))), (100, [], (jenc (jlg 5)))]) (c1 := 0) (s1 := 0) (c2 := 20) (s2 := 1070) (by exact rfl) ?_ (by omega) (by omega)
  refine jT_eq (LN := [(5, (1, q1)), (0, (4, 0)), (1, (0, r7)), (2, (0, r8)), (3, (0, o3)), (4, (4, 1))]) (stN := [(1, q1), (1, q1)]) (hsN := [jzQ_371, jgh, (100, [], jS0), jgh, jgh, jgh, jgh, (130, [], [17, 18, 19, 20, 21, 22]), (101, [], [-q1, r7, r8, 0, 0, 0]), jgh, jgh, jgh, jgh, jgh, jgh, jgh, jgh, (100, [], (jenc (jlg 0))), (100, [], (jenc (jlg 1))), (100, [], (jenc (jlg 2))), (100, [], (jenc (jlg 3))), (100, [], (jenc (jlg 4))), (100, [], (jenc (jlg 5)))]) (rfl) (by simp only [List.cons.injEq, Prod.mk.injEq, and_true, true_and] <;> ((try unfold jw); (try unfold jwl); omega)) (rfl) ?_
  refine jT_lcmp (a := q1) (b := q1) (z := 0) (by rfl) (by rfl) (jwl_idd (by omega) (by omega)) (jwl_idd (by omega) (by omega)) (by rw [decide_eq_false (show ¬ ((q1 : Int) < q1) by omega), decide_eq_true (show (q1 : Int) = q1 by omega)]; rfl) ?_
  refine jT_xifF (t := 54) (pcN := 39) jIQ_299_36 rfl (by decide +kernel) rfl rfl ?_
  refine jT_xaload_n (v := (4, 0)) (pcN := 40) jIQ_299_39 rfl rfl rfl ?_
  refine jT_xaload_n (v := (4, 0)) (pcN := 41) jIQ_299_40 rfl rfl rfl ?_
  refine jT_xgetf (a := 0) (t := 1) (ci := 14) (fi := 1) (c := jzQ_371) (v := (4, 2)) (pcN := 44) jIQ_299_41 rfl rfl rfl rfl rfl rfl rfl ?_
  refine jT_xbipush (k := 7) (pcN := 46) jIQ_299_44 (by decide) rfl ?_
  refine jT_xiload_n (v := (0, o3)) (pcN := 47) jIQ_299_46 rfl rfl rfl ?_
  refine jT_ximul (x := 7) (y := o3) (z := 7 * o3) (pcN := 48) jIQ_299_47 rfl (rfl) rfl ?_
  refine jT_callA [0, 2, 3, 4, 5, 6, 7, 8, 9, 10, 11, 12, 13, 14, 15, 16, 17, 18, 19, 20, 21, 22] (y := 240) (pcN := 51) (dC := 4) (bc1 := 20) (bc2 := 1070) (c1 := 0) (c2 := 0) (as := [(4, 0), (4, 2), (0, 7 * o3)]) (asC := [(4, 0), (4, 1), (0, 7 * o3)]) (LN := [(5, (1, q1)), (0, (4, 0)), (1, (0, r7)), (2, (0, r8)), (3, (0, o3)), (4, (4, 1))]) (stN := []) (hsC := [jzQ_20, (100, [], jS0), jgh, jgh, jgh, jgh, (130, [], [16, 17, 18, 19, 20, 21]), (101, [], [-q1, r7, r8, 0, 0, 0]), jgh, jgh, jgh, jgh, jgh, jgh, jgh, jgh, (100, [], (jenc (jlg 0))), (100, [], (jenc (jlg 1))), (100, [], (jenc (jlg 2))), (100, [], (jenc (jlg 3))), (100, [], (jenc (jlg 4))), (100, [], (jenc (jlg 5)))]) (ex := [(101, [], [-q1, r7, r8, 0, 0, 0])]) (v := (0, (jlz (-q1) r7 r8 0 0 0).sign)) (st2 := [(0, (jlz (-q1) r7 r8 0 0 0).sign)]) (hs2 := [jzQ_371, jgh, (100, [], jS0), jgh, jgh, jgh, jgh, (130, [], [17, 18, 19, 20, 21, 22]), (101, [], [-q1, r7, r8, 0, 0, 0]), jgh, jgh, jgh, jgh, jgh, jgh, jgh, jgh, (100, [], (jenc (jlg 0))), (100, [], (jenc (jlg 1))), (100, [], (jenc (jlg 2))), (100, [], (jenc (jlg 3))), (100, [], (jenc (jlg 4))), (100, [], (jenc (jlg 5))), (101, [], [-q1, r7, r8, 0, 0, 0])]) (jQ_240_177 (d := 0) (by omega) (by omega) (by omega) (by omega) (by omega) (by omega) (by omega) (by omega)) (by rfl) (by rfl) (by rfl) (by rfl) ⟨rfl, rfl, rfl, rfl, rfl, rfl, rfl, rfl, rfl, rfl, rfl, rfl, rfl, rfl, rfl, rfl, rfl, rfl, rfl, rfl, rfl, rfl, trivial⟩ (by rfl) (by rfl) (by omega) (by show 23 ≤ 23; omega) (by omega) (by omega) rfl rfl ?_
  have hb_q2 := jsgn_b (jlz (-q1) r7 r8 0 0 0)
  generalize hq_q2 : (jlz (-q1) r7 r8 0 0 0).sign = q2 at hb_q2 g_3 ⊢
  refine jT_ifF (a := q2) (t := 56) (by rfl) (by rfl) (by rfl) (jw_idd (by omega) (by omega)) (by simp only [jcP] <;> omega) ?_
  refine jT_xiconst (k := 0) (pcN := 55) jIQ_299_54 rfl ?_
  subst hq_q2
  subst hq_q1
  exact jT_ret rfl (by decide) (by show 23 ≤ 24; omega) (by omega) (by omega) ⟨rfl, rfl, rfl⟩
theorem jQ_209_179 {xs : List Int} {d : Nat} {r7 r8 : Int} (h_r7 : (-20) ≤ r7 ∧ r7 ≤ 20) (h_r8 : (-10) ≤ r8 ∧ r8 ≤ 10) (g_0 : r7 < 0) : jT xs (d + 6) 209 22 0 [(0, (4, 0))] [] [jzQ_20, jgh, jgh, jgh, jgh, jgh, (130, [], [16, 17, 18, 19, 20, 21]), (101, [], [0, r7, r8, 0, 0, 0]), jgh, jgh, jgh, jgh, jgh, jgh, jgh, jgh, (100, [], (jenc (jlg 0))), (100, [], (jenc (jlg 1))), (100, [], (jenc (jlg 2))), (100, [], (jenc (jlg 3))), (100, [], (jenc (jlg 4))), (100, [], (jenc (jlg 5)))] 60 3210 (fun k v hsN => k = 0 ∧ v = (1, jkn r7 r8) ∧ hsN = [jzQ_20, jgh, jgh, jgh, jgh, jgh, (130, [], [16, 17, 18, 19, 20, 21]), (101, [], [-(jkn r7 r8), r7, r8, 0, 0, 0]), jgh, jgh, jgh, jgh, jgh, jgh, jgh, jgh, (100, [], (jenc (jlg 0))), (100, [], (jenc (jlg 1))), (100, [], (jenc (jlg 2))), (100, [], (jenc (jlg 3))), (100, [], (jenc (jlg 4))), (100, [], (jenc (jlg 5)))]) := by
  refine jT_xaload_n (v := (4, 0)) (pcN := 1) jIQ_209_0 rfl rfl rfl ?_
  refine jT_xaload_n (v := (4, 0)) (pcN := 2) jIQ_209_1 rfl rfl rfl ?_
  refine jT_xgetf (a := 0) (t := 1) (ci := 14) (fi := 9) (c := jzQ_20) (v := (4, 7)) (pcN := 5) jIQ_209_2 rfl rfl rfl rfl rfl rfl rfl ?_
  refine jT_xaload_n (v := (4, 0)) (pcN := 6) jIQ_209_5 rfl rfl rfl ?_
  refine jT_xgetf (a := 0) (t := 1) (ci := 14) (fi := 10) (c := jzQ_20) (v := (1, 1)) (pcN := 9) jIQ_209_6 rfl rfl rfl rfl rfl rfl rfl ?_
  refine jT_callA [0, 7, 1, 2, 3, 4, 5, 6, 8, 9, 10, 11, 12, 13, 14, 15, 16, 17, 18, 19, 20, 21] (y := 210) (pcN := 12) (dC := 5) (bc1 := 60) (bc2 := 3210) (c1 := 0) (c2 := 0) (as := [(4, 0), (4, 7), (1, 1)]) (asC := [(4, 0), (4, 1), (1, 1)]) (LN := [(0, (4, 0))]) (stN := []) (hsC := [jzQ_378, (101, [], [0, r7, r8, 0, 0, 0]), jgh, jgh, jgh, jgh, jgh, (130, [], [16, 17, 18, 19, 20, 21]), jgh, jgh, jgh, jgh, jgh, jgh, jgh, jgh, (100, [], (jenc (jlg 0))), (100, [], (jenc (jlg 1))), (100, [], (jenc (jlg 2))), (100, [], (jenc (jlg 3))), (100, [], (jenc (jlg 4))), (100, [], (jenc (jlg 5)))]) (ex := []) (v := (1, jkn r7 r8)) (st2 := [(1, jkn r7 r8)]) (hs2 := [jzQ_20, jgh, jgh, jgh, jgh, jgh, (130, [], [16, 17, 18, 19, 20, 21]), (101, [], [0, r7, r8, 0, 0, 0]), jgh, jgh, jgh, jgh, jgh, jgh, jgh, jgh, (100, [], (jenc (jlg 0))), (100, [], (jenc (jlg 1))), (100, [], (jenc (jlg 2))), (100, [], (jenc (jlg 3))), (100, [], (jenc (jlg 4))), (100, [], (jenc (jlg 5)))]) (jQl_ps_169 (d := 0) (by omega) (by omega)) (by rfl) (by rfl) (by rfl) (by rfl) ⟨rfl, rfl, rfl, rfl, rfl, rfl, rfl, rfl, rfl, rfl, rfl, rfl, rfl, rfl, rfl, rfl, rfl, rfl, rfl, rfl, rfl, rfl, trivial⟩ (by rfl) (by rfl) (by omega) (by show 22 ≤ 22; omega) (by omega) (by omega) rfl rfl ?_
  have hb_q1 := jkn_b (b := r7) (c := r8) (by omega) (by omega)
  generalize hq_q1 : jkn r7 r8 = q1 at hb_q1 ⊢
  refine jT_xlstore_n (v := (1, q1)) (LN := [(1, (1, q1)), (0, (4, 0))]) (pcN := 13) jIQ_209_12 rfl rfl rfl rfl ?_
  refine jT_xaload_n (v := (4, 0)) (pcN := 14) jIQ_209_13 rfl rfl rfl ?_
  refine jT_xgetf (a := 0) (t := 1) (ci := 14) (fi := 9) (c := jzQ_20) (v := (4, 7)) (pcN := 17) jIQ_209_14 rfl rfl rfl rfl rfl rfl rfl ?_
  refine jT_xiconst (k := 0) (pcN := 18) jIQ_209_17 rfl ?_
  refine jT_adv 1 (pcN := 19) (LN := [(1, (1, q1)), (0, (4, 0))]) (stN := [(0, 0), (4, 7), (0, 0), (4, 7)]) (hsN := [jzQ_20, jgh, jgh, jgh, jgh, jgh, (130, [], [16, 17, 18, 19, 20, 21]), (101, [], [0, r7, r8, 0, 0, 0]), jgh, jgh, jgh, jgh, jgh, jgh, jgh, jgh, (100, [], (jenc (jlg 0))), (100, [], (jenc (jlg 1))), (100, [], (jenc (jlg 2))), (100, [], (jenc (jlg 3))), (100, [], (jenc (jlg 4))), (100, [], (jenc (jlg 5)))]) (c1 := 0) (s1 := 0) (c2 := 0) (s2 := 0) (by exact rfl) ?_ (by omega) (by omega)
  refine jT_lald (x := 0) (a := 7) (j := 0) (fs := []) (X := [0, r7, r8, 0, 0, 0]) jIQ_209_19 rfl rfl rfl rfl ?_
  refine jT_eq (LN := [(1, (1, q1)), (0, (4, 0))]) (stN := [(1, 0), (0, 0), (4, 7)]) (hsN := [jzQ_20, jgh, jgh, jgh, jgh, jgh, (130, [], [16, 17, 18, 19, 20, 21]), (101, [], [0, r7, r8, 0, 0, 0]), jgh, jgh, jgh, jgh, jgh, jgh, jgh, jgh, (100, [], (jenc (jlg 0))), (100, [], (jenc (jlg 1))), (100, [], (jenc (jlg 2))), (100, [], (jenc (jlg 3))), (100, [], (jenc (jlg 4))), (100, [], (jenc (jlg 5)))]) rfl rfl rfl ?_
  refine jT_xlload_n (v := (1, q1)) (pcN := 21) jIQ_209_20 rfl rfl rfl ?_
  refine jT_xaload_n (v := (4, 0)) (pcN := 22) jIQ_209_21 rfl rfl rfl ?_
  refine jT_xgetf (a := 0) (t := 1) (ci := 14) (fi := 10) (c := jzQ_20) (v := (1, 1)) (pcN := 25) jIQ_209_22 rfl rfl rfl rfl rfl rfl rfl ?_
  refine jT_xlmul (x := q1) (y := 1) (z := q1) (pcN := 26) jIQ_209_25 rfl (by omega) rfl ?_
  refine jT_xlsub (x := 0) (y := q1) (z := -q1) (pcN := 27) jIQ_209_26 rfl (by omega) rfl ?_
  refine jT_adv 1 (pcN := 28) (LN := [(1, (1, q1)), (0, (4, 0))]) (stN := []) (hsN := [jzQ_20, jgh, jgh, jgh, jgh, jgh, (130, [], [16, 17, 18, 19, 20, 21]), (101, [], [-q1, r7, r8, 0, 0, 0]), jgh, jgh, jgh, jgh, jgh, jgh, jgh, jgh, (100, [], (jenc (jlg 0))), (100, [], (jenc (jlg 1))), (100, [], (jenc (jlg 2))), (100, [], (jenc (jlg 3))), (100, [], (jenc (jlg 4))), (100, [], (jenc (jlg 5)))]) (c1 := 0) (s1 := 0) (c2 := 0) (s2 := 0) (by exact rfl) ?_ (by omega) (by omega)
  refine jT_xlload_n (v := (1, q1)) (pcN := 29) jIQ_209_28 rfl rfl rfl ?_
  subst hq_q1
  exact jT_ret rfl (by decide) (by show 22 ≤ 22; omega) (by omega) (by omega) ⟨rfl, rfl, rfl⟩
theorem jQ_240_180 {xs : List Int} {d : Nat} {o3 q1 r7 r8 : Int} (h_o3 : 0 ≤ o3 ∧ o3 ≤ 7) (h_q1 : (-60) ≤ q1 ∧ q1 ≤ 60) (h_r7 : (-20) ≤ r7 ∧ r7 ≤ 20) (h_r8 : (-10) ≤ r8 ∧ r8 ≤ 10) (g_0 : r7 < 0) (g_1 : 0 ≤ (jlz (-q1) r7 r8 0 0 0).sign) : jT xs (d + 4) 240 22 0 [(0, (4, 0)), (1, (4, 1)), (2, (0, 7 * o3))] [] [jzQ_20, (100, [], jS0), jgh, jgh, jgh, jgh, (130, [], [16, 17, 18, 19, 20, 21]), (101, [], [-q1, r7, r8, 0, 0, 0]), jgh, jgh, jgh, jgh, jgh, jgh, jgh, jgh, (100, [], (jenc (jlg 0))), (100, [], (jenc (jlg 1))), (100, [], (jenc (jlg 2))), (100, [], (jenc (jlg 3))), (100, [], (jenc (jlg 4))), (100, [], (jenc (jlg 5)))] 20 1070 (fun k v hsN => k = 0 ∧ v = (0, (jlz (-q1) r7 r8 0 0 0).sign) ∧ hsN = [jzQ_20, (100, [], jS0), jgh, jgh, jgh, jgh, (130, [], [16, 17, 18, 19, 20, 21]), (101, [], [-q1, r7, r8, 0, 0, 0]), jgh, jgh, jgh, jgh, jgh, jgh, jgh, jgh, (100, [], (jenc (jlg 0))), (100, [], (jenc (jlg 1))), (100, [], (jenc (jlg 2))), (100, [], (jenc (jlg 3))), (100, [], (jenc (jlg 4))), (100, [], (jenc (jlg 5)))] ++ [(101, [], [-q1, r7, r8, 0, 0, 0])]) := by
  refine jT_xbipush (k := 6) (pcN := 2) jIQ_240_0 (by decide) rfl ?_
  refine jT_adv 1 (pcN := 4) (LN := [(0, (4, 0)), (1, (4, 1)), (2, (0, 7 * o3))]) (stN := [(4, 22)]) (hsN := [jzQ_20, (100, [], jS0), jgh, jgh, jgh, jgh, (130, [], [16, 17, 18, 19, 20, 21]), (101, [], [-q1, r7, r8, 0, 0, 0]), jgh, jgh, jgh, jgh, jgh, jgh, jgh, jgh, (100, [], (jenc (jlg 0))), (100, [], (jenc (jlg 1))), (100, [], (jenc (jlg 2))), (100, [], (jenc (jlg 3))), (100, [], (jenc (jlg 4))), (100, [], (jenc (jlg 5))), (101, [], [0, 0, 0, 0, 0, 0])]) (c1 := 1) (s1 := 6) (c2 := 19) (s2 := 1064) (by exact rfl) ?_ (by omega) (by omega)
  refine jT_xastore_n (v := (4, 22)) (LN := [(3, (4, 22)), (0, (4, 0)), (1, (4, 1)), (2, (0, 7 * o3))]) (pcN := 5) jIQ_240_4 rfl rfl rfl rfl ?_
  refine jT_xiconst (k := 0) (pcN := 6) jIQ_240_5 rfl ?_
  refine jT_xistore (v := (0, 0)) (LN := [(4, (0, 0)), (3, (4, 22)), (0, (4, 0)), (1, (4, 1)), (2, (0, 7 * o3))]) (pcN := 8) jIQ_240_6 rfl rfl rfl rfl ?_
  refine jT_xiload (v := (0, 0)) (pcN := 10) jIQ_240_8 rfl rfl rfl ?_
  refine jT_xbipush (k := 6) (pcN := 12) jIQ_240_10 (by decide) rfl ?_
  refine jT_xicF (t := 53) (pcN := 15) jIQ_240_12 rfl (by decide +kernel) rfl rfl ?_
  refine jT_xaload_n (v := (4, 22)) (pcN := 16) jIQ_240_15 rfl rfl rfl ?_
  refine jT_xiload (v := (0, 0)) (pcN := 18) jIQ_240_16 rfl rfl rfl ?_
  refine jT_xaload_n (v := (4, 0)) (pcN := 19) jIQ_240_18 rfl rfl rfl ?_
  refine jT_xgetf (a := 0) (t := 1) (ci := 14) (fi := 9) (c := jzQ_20) (v := (4, 7)) (pcN := 22) jIQ_240_19 rfl rfl rfl rfl rfl rfl rfl ?_
  refine jT_xiload (v := (0, 0)) (pcN := 24) jIQ_240_22 rfl rfl rfl ?_
  refine jT_lald (x := -q1) (a := 7) (j := 0) (fs := []) (X := [-q1, r7, r8, 0, 0, 0]) jIQ_240_24 rfl rfl rfl rfl ?_
  refine jT_eq (LN := [(4, (0, 0)), (3, (4, 22)), (0, (4, 0)), (1, (4, 1)), (2, (0, 7 * o3))]) (stN := [(1, -q1), (0, 0), (4, 22)]) (hsN := [jzQ_20, (100, [], jS0), jgh, jgh, jgh, jgh, (130, [], [16, 17, 18, 19, 20, 21]), (101, [], [-q1, r7, r8, 0, 0, 0]), jgh, jgh, jgh, jgh, jgh, jgh, jgh, jgh, (100, [], (jenc (jlg 0))), (100, [], (jenc (jlg 1))), (100, [], (jenc (jlg 2))), (100, [], (jenc (jlg 3))), (100, [], (jenc (jlg 4))), (100, [], (jenc (jlg 5))), (101, [], [0, 0, 0, 0, 0, 0])]) rfl rfl rfl ?_
  refine jT_xaload_n (v := (4, 1)) (pcN := 26) jIQ_240_25 rfl rfl rfl ?_
  refine jT_xiload_n (v := (0, 7 * o3)) (pcN := 27) jIQ_240_26 rfl rfl rfl ?_
  refine jT_xbipush (k := 6) (pcN := 29) jIQ_240_27 (by decide) rfl ?_
  refine jT_xiadd (x := 7 * o3) (y := 6) (z := 7 * o3 + 6) (pcN := 30) jIQ_240_29 rfl (by omega) rfl ?_
  refine jT_iald (x := 1) (a := 1) (j := (7 * o3 + 6).toNat) (fs := []) (X := jS0) (by rfl) (by rfl) (by rfl) (jw_nn (by omega) (by omega)) (jS0_r6 (by omega) (by omega)) ?_
  refine jT_eq (LN := [(4, (0, 0)), (3, (4, 22)), (0, (4, 0)), (1, (4, 1)), (2, (0, 7 * o3))]) (stN := [(0, 1), (1, -q1), (0, 0), (4, 22)]) (hsN := [jzQ_20, (100, [], jS0), jgh, jgh, jgh, jgh, (130, [], [16, 17, 18, 19, 20, 21]), (101, [], [-q1, r7, r8, 0, 0, 0]), jgh, jgh, jgh, jgh, jgh, jgh, jgh, jgh, (100, [], (jenc (jlg 0))), (100, [], (jenc (jlg 1))), (100, [], (jenc (jlg 2))), (100, [], (jenc (jlg 3))), (100, [], (jenc (jlg 4))), (100, [], (jenc (jlg 5))), (101, [], [0, 0, 0, 0, 0, 0])]) rfl rfl rfl ?_
  refine jT_xi2l (x := 1) (z := 1) (pcN := 32) jIQ_240_31 rfl (by decide +kernel) rfl ?_
  refine jT_xlmul (x := -q1) (y := 1) (z := -q1) (pcN := 33) jIQ_240_32 rfl (by omega) rfl ?_
  refine jT_xaload_n (v := (4, 1)) (pcN := 34) jIQ_240_33 rfl rfl rfl ?_
  refine jT_xiload_n (v := (0, 7 * o3)) (pcN := 35) jIQ_240_34 rfl rfl rfl ?_
  refine jT_xiload (v := (0, 0)) (pcN := 37) jIQ_240_35 rfl rfl rfl ?_
  refine jT_xiadd (x := 7 * o3) (y := 0) (z := 7 * o3) (pcN := 38) jIQ_240_37 rfl (by omega) rfl ?_
  refine jT_iald (x := 0) (a := 1) (j := (7 * o3).toNat) (fs := []) (X := jS0) (by rfl) (by rfl) (by rfl) (jw_nn (by omega) (by omega)) (jS0_r0 (by omega) (by omega)) ?_
  refine jT_eq (LN := [(4, (0, 0)), (3, (4, 22)), (0, (4, 0)), (1, (4, 1)), (2, (0, 7 * o3))]) (stN := [(0, 0), (1, -q1), (0, 0), (4, 22)]) (hsN := [jzQ_20, (100, [], jS0), jgh, jgh, jgh, jgh, (130, [], [16, 17, 18, 19, 20, 21]), (101, [], [-q1, r7, r8, 0, 0, 0]), jgh, jgh, jgh, jgh, jgh, jgh, jgh, jgh, (100, [], (jenc (jlg 0))), (100, [], (jenc (jlg 1))), (100, [], (jenc (jlg 2))), (100, [], (jenc (jlg 3))), (100, [], (jenc (jlg 4))), (100, [], (jenc (jlg 5))), (101, [], [0, 0, 0, 0, 0, 0])]) rfl rfl rfl ?_
  refine jT_xi2l (x := 0) (z := 0) (pcN := 40) jIQ_240_39 rfl (by decide +kernel) rfl ?_
  refine jT_xaload_n (v := (4, 0)) (pcN := 41) jIQ_240_40 rfl rfl rfl ?_
  refine jT_xgetf (a := 0) (t := 1) (ci := 14) (fi := 10) (c := jzQ_20) (v := (1, 1)) (pcN := 44) jIQ_240_41 rfl rfl rfl rfl rfl rfl rfl ?_
  refine jT_xlmul (x := 0) (y := 1) (z := 0) (pcN := 45) jIQ_240_44 rfl (by decide) rfl ?_
  refine jT_xlsub (x := -q1) (y := 0) (z := -q1) (pcN := 46) jIQ_240_45 rfl (by omega) rfl ?_
  refine jT_adv 1 (pcN := 47) (LN := [(4, (0, 0)), (3, (4, 22)), (0, (4, 0)), (1, (4, 1)), (2, (0, 7 * o3))]) (stN := []) (hsN := [jzQ_20, (100, [], jS0), jgh, jgh, jgh, jgh, (130, [], [16, 17, 18, 19, 20, 21]), (101, [], [-q1, r7, r8, 0, 0, 0]), jgh, jgh, jgh, jgh, jgh, jgh, jgh, jgh, (100, [], (jenc (jlg 0))), (100, [], (jenc (jlg 1))), (100, [], (jenc (jlg 2))), (100, [], (jenc (jlg 3))), (100, [], (jenc (jlg 4))), (100, [], (jenc (jlg 5))), (101, [], [-q1, 0, 0, 0, 0, 0])]) (c1 := 0) (s1 := 0) (c2 := 19) (s2 := 1064) (by exact rfl) ?_ (by omega) (by omega)
  refine jT_xiinc (x := 0) (z := 1) (LN := [(4, (0, 1)), (3, (4, 22)), (0, (4, 0)), (1, (4, 1)), (2, (0, 7 * o3))]) (pcN := 50) jIQ_240_47 rfl rfl (by decide) rfl rfl ?_
  refine jT_xgoto (pcN := 8) jIQ_240_50 rfl ?_
  refine jT_xiload (v := (0, 1)) (pcN := 10) jIQ_240_8 rfl rfl rfl ?_
  refine jT_xbipush (k := 6) (pcN := 12) jIQ_240_10 (by decide) rfl ?_
  refine jT_xicF (t := 53) (pcN := 15) jIQ_240_12 rfl (by decide +kernel) rfl rfl ?_
  refine jT_xaload_n (v := (4, 22)) (pcN := 16) jIQ_240_15 rfl rfl rfl ?_
  refine jT_xiload (v := (0, 1)) (pcN := 18) jIQ_240_16 rfl rfl rfl ?_
  refine jT_xaload_n (v := (4, 0)) (pcN := 19) jIQ_240_18 rfl rfl rfl ?_
  refine jT_xgetf (a := 0) (t := 1) (ci := 14) (fi := 9) (c := jzQ_20) (v := (4, 7)) (pcN := 22) jIQ_240_19 rfl rfl rfl rfl rfl rfl rfl ?_
  refine jT_xiload (v := (0, 1)) (pcN := 24) jIQ_240_22 rfl rfl rfl ?_
  refine jT_lald (x := r7) (a := 7) (j := 1) (fs := []) (X := [-q1, r7, r8, 0, 0, 0]) jIQ_240_24 rfl rfl rfl rfl ?_
  refine jT_eq (LN := [(4, (0, 1)), (3, (4, 22)), (0, (4, 0)), (1, (4, 1)), (2, (0, 7 * o3))]) (stN := [(1, r7), (0, 1), (4, 22)]) (hsN := [jzQ_20, (100, [], jS0), jgh, jgh, jgh, jgh, (130, [], [16, 17, 18, 19, 20, 21]), (101, [], [-q1, r7, r8, 0, 0, 0]), jgh, jgh, jgh, jgh, jgh, jgh, jgh, jgh, (100, [], (jenc (jlg 0))), (100, [], (jenc (jlg 1))), (100, [], (jenc (jlg 2))), (100, [], (jenc (jlg 3))), (100, [], (jenc (jlg 4))), (100, [], (jenc (jlg 5))), (101, [], [-q1, 0, 0, 0, 0, 0])]) rfl rfl rfl ?_
  refine jT_xaload_n (v := (4, 1)) (pcN := 26) jIQ_240_25 rfl rfl rfl ?_
  refine jT_xiload_n (v := (0, 7 * o3)) (pcN := 27) jIQ_240_26 rfl rfl rfl ?_
  refine jT_xbipush (k := 6) (pcN := 29) jIQ_240_27 (by decide) rfl ?_
  refine jT_xiadd (x := 7 * o3) (y := 6) (z := 7 * o3 + 6) (pcN := 30) jIQ_240_29 rfl (by omega) rfl ?_
  refine jT_iald (x := 1) (a := 1) (j := (7 * o3 + 6).toNat) (fs := []) (X := jS0) (by rfl) (by rfl) (by rfl) (jw_nn (by omega) (by omega)) (jS0_r6 (by omega) (by omega)) ?_
  refine jT_eq (LN := [(4, (0, 1)), (3, (4, 22)), (0, (4, 0)), (1, (4, 1)), (2, (0, 7 * o3))]) (stN := [(0, 1), (1, r7), (0, 1), (4, 22)]) (hsN := [jzQ_20, (100, [], jS0), jgh, jgh, jgh, jgh, (130, [], [16, 17, 18, 19, 20, 21]), (101, [], [-q1, r7, r8, 0, 0, 0]), jgh, jgh, jgh, jgh, jgh, jgh, jgh, jgh, (100, [], (jenc (jlg 0))), (100, [], (jenc (jlg 1))), (100, [], (jenc (jlg 2))), (100, [], (jenc (jlg 3))), (100, [], (jenc (jlg 4))), (100, [], (jenc (jlg 5))), (101, [], [-q1, 0, 0, 0, 0, 0])]) rfl rfl rfl ?_
  refine jT_xi2l (x := 1) (z := 1) (pcN := 32) jIQ_240_31 rfl (by decide +kernel) rfl ?_
  refine jT_xlmul (x := r7) (y := 1) (z := r7) (pcN := 33) jIQ_240_32 rfl (by omega) rfl ?_
  refine jT_xaload_n (v := (4, 1)) (pcN := 34) jIQ_240_33 rfl rfl rfl ?_
  refine jT_xiload_n (v := (0, 7 * o3)) (pcN := 35) jIQ_240_34 rfl rfl rfl ?_
  refine jT_xiload (v := (0, 1)) (pcN := 37) jIQ_240_35 rfl rfl rfl ?_
  refine jT_xiadd (x := 7 * o3) (y := 1) (z := 7 * o3 + 1) (pcN := 38) jIQ_240_37 rfl (by omega) rfl ?_
  refine jT_iald (x := 0) (a := 1) (j := (7 * o3 + 1).toNat) (fs := []) (X := jS0) (by rfl) (by rfl) (by rfl) (jw_nn (by omega) (by omega)) (jS0_r1 (by omega) (by omega)) ?_
  refine jT_eq (LN := [(4, (0, 1)), (3, (4, 22)), (0, (4, 0)), (1, (4, 1)), (2, (0, 7 * o3))]) (stN := [(0, 0), (1, r7), (0, 1), (4, 22)]) (hsN := [jzQ_20, (100, [], jS0), jgh, jgh, jgh, jgh, (130, [], [16, 17, 18, 19, 20, 21]), (101, [], [-q1, r7, r8, 0, 0, 0]), jgh, jgh, jgh, jgh, jgh, jgh, jgh, jgh, (100, [], (jenc (jlg 0))), (100, [], (jenc (jlg 1))), (100, [], (jenc (jlg 2))), (100, [], (jenc (jlg 3))), (100, [], (jenc (jlg 4))), (100, [], (jenc (jlg 5))), (101, [], [-q1, 0, 0, 0, 0, 0])]) rfl rfl rfl ?_
  refine jT_xi2l (x := 0) (z := 0) (pcN := 40) jIQ_240_39 rfl (by decide +kernel) rfl ?_
  refine jT_xaload_n (v := (4, 0)) (pcN := 41) jIQ_240_40 rfl rfl rfl ?_
  refine jT_xgetf (a := 0) (t := 1) (ci := 14) (fi := 10) (c := jzQ_20) (v := (1, 1)) (pcN := 44) jIQ_240_41 rfl rfl rfl rfl rfl rfl rfl ?_
  refine jT_xlmul (x := 0) (y := 1) (z := 0) (pcN := 45) jIQ_240_44 rfl (by decide) rfl ?_
  refine jT_xlsub (x := r7) (y := 0) (z := r7) (pcN := 46) jIQ_240_45 rfl (by omega) rfl ?_
  refine jT_adv 1 (pcN := 47) (LN := [(4, (0, 1)), (3, (4, 22)), (0, (4, 0)), (1, (4, 1)), (2, (0, 7 * o3))]) (stN := []) (hsN := [jzQ_20, (100, [], jS0), jgh, jgh, jgh, jgh, (130, [], [16, 17, 18, 19, 20, 21]), (101, [], [-q1, r7, r8, 0, 0, 0]), jgh, jgh, jgh, jgh, jgh, jgh, jgh, jgh, (100, [], (jenc (jlg 0))), (100, [], (jenc (jlg 1))), (100, [], (jenc (jlg 2))), (100, [], (jenc (jlg 3))), (100, [], (jenc (jlg 4))), (100, [], (jenc (jlg 5))), (101, [], [-q1, r7, 0, 0, 0, 0])]) (c1 := 0) (s1 := 0) (c2 := 19) (s2 := 1064) (by exact rfl) ?_ (by omega) (by omega)
  refine jT_xiinc (x := 1) (z := 2) (LN := [(4, (0, 2)), (3, (4, 22)), (0, (4, 0)), (1, (4, 1)), (2, (0, 7 * o3))]) (pcN := 50) jIQ_240_47 rfl rfl (by decide) rfl rfl ?_
  refine jT_xgoto (pcN := 8) jIQ_240_50 rfl ?_
  refine jT_xiload (v := (0, 2)) (pcN := 10) jIQ_240_8 rfl rfl rfl ?_
  refine jT_xbipush (k := 6) (pcN := 12) jIQ_240_10 (by decide) rfl ?_
  refine jT_xicF (t := 53) (pcN := 15) jIQ_240_12 rfl (by decide +kernel) rfl rfl ?_
  refine jT_xaload_n (v := (4, 22)) (pcN := 16) jIQ_240_15 rfl rfl rfl ?_
  refine jT_xiload (v := (0, 2)) (pcN := 18) jIQ_240_16 rfl rfl rfl ?_
  refine jT_xaload_n (v := (4, 0)) (pcN := 19) jIQ_240_18 rfl rfl rfl ?_
  refine jT_xgetf (a := 0) (t := 1) (ci := 14) (fi := 9) (c := jzQ_20) (v := (4, 7)) (pcN := 22) jIQ_240_19 rfl rfl rfl rfl rfl rfl rfl ?_
  refine jT_xiload (v := (0, 2)) (pcN := 24) jIQ_240_22 rfl rfl rfl ?_
  refine jT_lald (x := r8) (a := 7) (j := 2) (fs := []) (X := [-q1, r7, r8, 0, 0, 0]) jIQ_240_24 rfl rfl rfl rfl ?_
  refine jT_eq (LN := [(4, (0, 2)), (3, (4, 22)), (0, (4, 0)), (1, (4, 1)), (2, (0, 7 * o3))]) (stN := [(1, r8), (0, 2), (4, 22)]) (hsN := [jzQ_20, (100, [], jS0), jgh, jgh, jgh, jgh, (130, [], [16, 17, 18, 19, 20, 21]), (101, [], [-q1, r7, r8, 0, 0, 0]), jgh, jgh, jgh, jgh, jgh, jgh, jgh, jgh, (100, [], (jenc (jlg 0))), (100, [], (jenc (jlg 1))), (100, [], (jenc (jlg 2))), (100, [], (jenc (jlg 3))), (100, [], (jenc (jlg 4))), (100, [], (jenc (jlg 5))), (101, [], [-q1, r7, 0, 0, 0, 0])]) rfl rfl rfl ?_
  refine jT_xaload_n (v := (4, 1)) (pcN := 26) jIQ_240_25 rfl rfl rfl ?_
  refine jT_xiload_n (v := (0, 7 * o3)) (pcN := 27) jIQ_240_26 rfl rfl rfl ?_
  refine jT_xbipush (k := 6) (pcN := 29) jIQ_240_27 (by decide) rfl ?_
  refine jT_xiadd (x := 7 * o3) (y := 6) (z := 7 * o3 + 6) (pcN := 30) jIQ_240_29 rfl (by omega) rfl ?_
  refine jT_iald (x := 1) (a := 1) (j := (7 * o3 + 6).toNat) (fs := []) (X := jS0) (by rfl) (by rfl) (by rfl) (jw_nn (by omega) (by omega)) (jS0_r6 (by omega) (by omega)) ?_
  refine jT_eq (LN := [(4, (0, 2)), (3, (4, 22)), (0, (4, 0)), (1, (4, 1)), (2, (0, 7 * o3))]) (stN := [(0, 1), (1, r8), (0, 2), (4, 22)]) (hsN := [jzQ_20, (100, [], jS0), jgh, jgh, jgh, jgh, (130, [], [16, 17, 18, 19, 20, 21]), (101, [], [-q1, r7, r8, 0, 0, 0]), jgh, jgh, jgh, jgh, jgh, jgh, jgh, jgh, (100, [], (jenc (jlg 0))), (100, [], (jenc (jlg 1))), (100, [], (jenc (jlg 2))), (100, [], (jenc (jlg 3))), (100, [], (jenc (jlg 4))), (100, [], (jenc (jlg 5))), (101, [], [-q1, r7, 0, 0, 0, 0])]) rfl rfl rfl ?_
  refine jT_xi2l (x := 1) (z := 1) (pcN := 32) jIQ_240_31 rfl (by decide +kernel) rfl ?_
  refine jT_xlmul (x := r8) (y := 1) (z := r8) (pcN := 33) jIQ_240_32 rfl (by omega) rfl ?_
  refine jT_xaload_n (v := (4, 1)) (pcN := 34) jIQ_240_33 rfl rfl rfl ?_
  refine jT_xiload_n (v := (0, 7 * o3)) (pcN := 35) jIQ_240_34 rfl rfl rfl ?_
  refine jT_xiload (v := (0, 2)) (pcN := 37) jIQ_240_35 rfl rfl rfl ?_
  refine jT_xiadd (x := 7 * o3) (y := 2) (z := 7 * o3 + 2) (pcN := 38) jIQ_240_37 rfl (by omega) rfl ?_
  refine jT_iald (x := 0) (a := 1) (j := (7 * o3 + 2).toNat) (fs := []) (X := jS0) (by rfl) (by rfl) (by rfl) (jw_nn (by omega) (by omega)) (jS0_r2 (by omega) (by omega)) ?_
  refine jT_eq (LN := [(4, (0, 2)), (3, (4, 22)), (0, (4, 0)), (1, (4, 1)), (2, (0, 7 * o3))]) (stN := [(0, 0), (1, r8), (0, 2), (4, 22)]) (hsN := [jzQ_20, (100, [], jS0), jgh, jgh, jgh, jgh, (130, [], [16, 17, 18, 19, 20, 21]), (101, [], [-q1, r7, r8, 0, 0, 0]), jgh, jgh, jgh, jgh, jgh, jgh, jgh, jgh, (100, [], (jenc (jlg 0))), (100, [], (jenc (jlg 1))), (100, [], (jenc (jlg 2))), (100, [], (jenc (jlg 3))), (100, [], (jenc (jlg 4))), (100, [], (jenc (jlg 5))), (101, [], [-q1, r7, 0, 0, 0, 0])]) rfl rfl rfl ?_
  refine jT_xi2l (x := 0) (z := 0) (pcN := 40) jIQ_240_39 rfl (by decide +kernel) rfl ?_
  refine jT_xaload_n (v := (4, 0)) (pcN := 41) jIQ_240_40 rfl rfl rfl ?_
  refine jT_xgetf (a := 0) (t := 1) (ci := 14) (fi := 10) (c := jzQ_20) (v := (1, 1)) (pcN := 44) jIQ_240_41 rfl rfl rfl rfl rfl rfl rfl ?_
  refine jT_xlmul (x := 0) (y := 1) (z := 0) (pcN := 45) jIQ_240_44 rfl (by decide) rfl ?_
  refine jT_xlsub (x := r8) (y := 0) (z := r8) (pcN := 46) jIQ_240_45 rfl (by omega) rfl ?_
  refine jT_adv 1 (pcN := 47) (LN := [(4, (0, 2)), (3, (4, 22)), (0, (4, 0)), (1, (4, 1)), (2, (0, 7 * o3))]) (stN := []) (hsN := [jzQ_20, (100, [], jS0), jgh, jgh, jgh, jgh, (130, [], [16, 17, 18, 19, 20, 21]), (101, [], [-q1, r7, r8, 0, 0, 0]), jgh, jgh, jgh, jgh, jgh, jgh, jgh, jgh, (100, [], (jenc (jlg 0))), (100, [], (jenc (jlg 1))), (100, [], (jenc (jlg 2))), (100, [], (jenc (jlg 3))), (100, [], (jenc (jlg 4))), (100, [], (jenc (jlg 5))), (101, [], [-q1, r7, r8, 0, 0, 0])]) (c1 := 0) (s1 := 0) (c2 := 19) (s2 := 1064) (by exact rfl) ?_ (by omega) (by omega)
  refine jT_xiinc (x := 2) (z := 3) (LN := [(4, (0, 3)), (3, (4, 22)), (0, (4, 0)), (1, (4, 1)), (2, (0, 7 * o3))]) (pcN := 50) jIQ_240_47 rfl rfl (by decide) rfl rfl ?_
  refine jT_xgoto (pcN := 8) jIQ_240_50 rfl ?_
  refine jT_xiload (v := (0, 3)) (pcN := 10) jIQ_240_8 rfl rfl rfl ?_
  refine jT_xbipush (k := 6) (pcN := 12) jIQ_240_10 (by decide) rfl ?_
  refine jT_xicF (t := 53) (pcN := 15) jIQ_240_12 rfl (by decide +kernel) rfl rfl ?_
  refine jT_xaload_n (v := (4, 22)) (pcN := 16) jIQ_240_15 rfl rfl rfl ?_
  refine jT_xiload (v := (0, 3)) (pcN := 18) jIQ_240_16 rfl rfl rfl ?_
  refine jT_xaload_n (v := (4, 0)) (pcN := 19) jIQ_240_18 rfl rfl rfl ?_
  refine jT_xgetf (a := 0) (t := 1) (ci := 14) (fi := 9) (c := jzQ_20) (v := (4, 7)) (pcN := 22) jIQ_240_19 rfl rfl rfl rfl rfl rfl rfl ?_
  refine jT_xiload (v := (0, 3)) (pcN := 24) jIQ_240_22 rfl rfl rfl ?_
  refine jT_lald (x := 0) (a := 7) (j := 3) (fs := []) (X := [-q1, r7, r8, 0, 0, 0]) jIQ_240_24 rfl rfl rfl rfl ?_
  refine jT_eq (LN := [(4, (0, 3)), (3, (4, 22)), (0, (4, 0)), (1, (4, 1)), (2, (0, 7 * o3))]) (stN := [(1, 0), (0, 3), (4, 22)]) (hsN := [jzQ_20, (100, [], jS0), jgh, jgh, jgh, jgh, (130, [], [16, 17, 18, 19, 20, 21]), (101, [], [-q1, r7, r8, 0, 0, 0]), jgh, jgh, jgh, jgh, jgh, jgh, jgh, jgh, (100, [], (jenc (jlg 0))), (100, [], (jenc (jlg 1))), (100, [], (jenc (jlg 2))), (100, [], (jenc (jlg 3))), (100, [], (jenc (jlg 4))), (100, [], (jenc (jlg 5))), (101, [], [-q1, r7, r8, 0, 0, 0])]) rfl rfl rfl ?_
  refine jT_xaload_n (v := (4, 1)) (pcN := 26) jIQ_240_25 rfl rfl rfl ?_
  refine jT_xiload_n (v := (0, 7 * o3)) (pcN := 27) jIQ_240_26 rfl rfl rfl ?_
  refine jT_xbipush (k := 6) (pcN := 29) jIQ_240_27 (by decide) rfl ?_
  refine jT_xiadd (x := 7 * o3) (y := 6) (z := 7 * o3 + 6) (pcN := 30) jIQ_240_29 rfl (by omega) rfl ?_
  refine jT_iald (x := 1) (a := 1) (j := (7 * o3 + 6).toNat) (fs := []) (X := jS0) (by rfl) (by rfl) (by rfl) (jw_nn (by omega) (by omega)) (jS0_r6 (by omega) (by omega)) ?_
  refine jT_eq (LN := [(4, (0, 3)), (3, (4, 22)), (0, (4, 0)), (1, (4, 1)), (2, (0, 7 * o3))]) (stN := [(0, 1), (1, 0), (0, 3), (4, 22)]) (hsN := [jzQ_20, (100, [], jS0), jgh, jgh, jgh, jgh, (130, [], [16, 17, 18, 19, 20, 21]), (101, [], [-q1, r7, r8, 0, 0, 0]), jgh, jgh, jgh, jgh, jgh, jgh, jgh, jgh, (100, [], (jenc (jlg 0))), (100, [], (jenc (jlg 1))), (100, [], (jenc (jlg 2))), (100, [], (jenc (jlg 3))), (100, [], (jenc (jlg 4))), (100, [], (jenc (jlg 5))), (101, [], [-q1, r7, r8, 0, 0, 0])]) rfl rfl rfl ?_
  refine jT_xi2l (x := 1) (z := 1) (pcN := 32) jIQ_240_31 rfl (by decide +kernel) rfl ?_
  refine jT_xlmul (x := 0) (y := 1) (z := 0) (pcN := 33) jIQ_240_32 rfl (by decide) rfl ?_
  refine jT_xaload_n (v := (4, 1)) (pcN := 34) jIQ_240_33 rfl rfl rfl ?_
  refine jT_xiload_n (v := (0, 7 * o3)) (pcN := 35) jIQ_240_34 rfl rfl rfl ?_
  refine jT_xiload (v := (0, 3)) (pcN := 37) jIQ_240_35 rfl rfl rfl ?_
  refine jT_xiadd (x := 7 * o3) (y := 3) (z := 7 * o3 + 3) (pcN := 38) jIQ_240_37 rfl (by omega) rfl ?_
  refine jT_iald (x := 0) (a := 1) (j := (7 * o3 + 3).toNat) (fs := []) (X := jS0) (by rfl) (by rfl) (by rfl) (jw_nn (by omega) (by omega)) (jS0_r3 (by omega) (by omega)) ?_
  refine jT_eq (LN := [(4, (0, 3)), (3, (4, 22)), (0, (4, 0)), (1, (4, 1)), (2, (0, 7 * o3))]) (stN := [(0, 0), (1, 0), (0, 3), (4, 22)]) (hsN := [jzQ_20, (100, [], jS0), jgh, jgh, jgh, jgh, (130, [], [16, 17, 18, 19, 20, 21]), (101, [], [-q1, r7, r8, 0, 0, 0]), jgh, jgh, jgh, jgh, jgh, jgh, jgh, jgh, (100, [], (jenc (jlg 0))), (100, [], (jenc (jlg 1))), (100, [], (jenc (jlg 2))), (100, [], (jenc (jlg 3))), (100, [], (jenc (jlg 4))), (100, [], (jenc (jlg 5))), (101, [], [-q1, r7, r8, 0, 0, 0])]) rfl rfl rfl ?_
  refine jT_xi2l (x := 0) (z := 0) (pcN := 40) jIQ_240_39 rfl (by decide +kernel) rfl ?_
  refine jT_xaload_n (v := (4, 0)) (pcN := 41) jIQ_240_40 rfl rfl rfl ?_
  refine jT_xgetf (a := 0) (t := 1) (ci := 14) (fi := 10) (c := jzQ_20) (v := (1, 1)) (pcN := 44) jIQ_240_41 rfl rfl rfl rfl rfl rfl rfl ?_
  refine jT_xlmul (x := 0) (y := 1) (z := 0) (pcN := 45) jIQ_240_44 rfl (by decide) rfl ?_
  refine jT_xlsub (x := 0) (y := 0) (z := 0) (pcN := 46) jIQ_240_45 rfl (by decide) rfl ?_
  refine jT_adv 1 (pcN := 47) (LN := [(4, (0, 3)), (3, (4, 22)), (0, (4, 0)), (1, (4, 1)), (2, (0, 7 * o3))]) (stN := []) (hsN := [jzQ_20, (100, [], jS0), jgh, jgh, jgh, jgh, (130, [], [16, 17, 18, 19, 20, 21]), (101, [], [-q1, r7, r8, 0, 0, 0]), jgh, jgh, jgh, jgh, jgh, jgh, jgh, jgh, (100, [], (jenc (jlg 0))), (100, [], (jenc (jlg 1))), (100, [], (jenc (jlg 2))), (100, [], (jenc (jlg 3))), (100, [], (jenc (jlg 4))), (100, [], (jenc (jlg 5))), (101, [], [-q1, r7, r8, 0, 0, 0])]) (c1 := 0) (s1 := 0) (c2 := 19) (s2 := 1064) (by exact rfl) ?_ (by omega) (by omega)
  refine jT_xiinc (x := 3) (z := 4) (LN := [(4, (0, 4)), (3, (4, 22)), (0, (4, 0)), (1, (4, 1)), (2, (0, 7 * o3))]) (pcN := 50) jIQ_240_47 rfl rfl (by decide) rfl rfl ?_
  refine jT_xgoto (pcN := 8) jIQ_240_50 rfl ?_
  refine jT_xiload (v := (0, 4)) (pcN := 10) jIQ_240_8 rfl rfl rfl ?_
  refine jT_xbipush (k := 6) (pcN := 12) jIQ_240_10 (by decide) rfl ?_
  refine jT_xicF (t := 53) (pcN := 15) jIQ_240_12 rfl (by decide +kernel) rfl rfl ?_
  refine jT_xaload_n (v := (4, 22)) (pcN := 16) jIQ_240_15 rfl rfl rfl ?_
  refine jT_xiload (v := (0, 4)) (pcN := 18) jIQ_240_16 rfl rfl rfl ?_
  refine jT_xaload_n (v := (4, 0)) (pcN := 19) jIQ_240_18 rfl rfl rfl ?_
  refine jT_xgetf (a := 0) (t := 1) (ci := 14) (fi := 9) (c := jzQ_20) (v := (4, 7)) (pcN := 22) jIQ_240_19 rfl rfl rfl rfl rfl rfl rfl ?_
  refine jT_xiload (v := (0, 4)) (pcN := 24) jIQ_240_22 rfl rfl rfl ?_
  refine jT_lald (x := 0) (a := 7) (j := 4) (fs := []) (X := [-q1, r7, r8, 0, 0, 0]) jIQ_240_24 rfl rfl rfl rfl ?_
  refine jT_eq (LN := [(4, (0, 4)), (3, (4, 22)), (0, (4, 0)), (1, (4, 1)), (2, (0, 7 * o3))]) (stN := [(1, 0), (0, 4), (4, 22)]) (hsN := [jzQ_20, (100, [], jS0), jgh, jgh, jgh, jgh, (130, [], [16, 17, 18, 19, 20, 21]), (101, [], [-q1, r7, r8, 0, 0, 0]), jgh, jgh, jgh, jgh, jgh, jgh, jgh, jgh, (100, [], (jenc (jlg 0))), (100, [], (jenc (jlg 1))), (100, [], (jenc (jlg 2))), (100, [], (jenc (jlg 3))), (100, [], (jenc (jlg 4))), (100, [], (jenc (jlg 5))), (101, [], [-q1, r7, r8, 0, 0, 0])]) rfl rfl rfl ?_
  refine jT_xaload_n (v := (4, 1)) (pcN := 26) jIQ_240_25 rfl rfl rfl ?_
  refine jT_xiload_n (v := (0, 7 * o3)) (pcN := 27) jIQ_240_26 rfl rfl rfl ?_
  refine jT_xbipush (k := 6) (pcN := 29) jIQ_240_27 (by decide) rfl ?_
  refine jT_xiadd (x := 7 * o3) (y := 6) (z := 7 * o3 + 6) (pcN := 30) jIQ_240_29 rfl (by omega) rfl ?_
  refine jT_iald (x := 1) (a := 1) (j := (7 * o3 + 6).toNat) (fs := []) (X := jS0) (by rfl) (by rfl) (by rfl) (jw_nn (by omega) (by omega)) (jS0_r6 (by omega) (by omega)) ?_
  refine jT_eq (LN := [(4, (0, 4)), (3, (4, 22)), (0, (4, 0)), (1, (4, 1)), (2, (0, 7 * o3))]) (stN := [(0, 1), (1, 0), (0, 4), (4, 22)]) (hsN := [jzQ_20, (100, [], jS0), jgh, jgh, jgh, jgh, (130, [], [16, 17, 18, 19, 20, 21]), (101, [], [-q1, r7, r8, 0, 0, 0]), jgh, jgh, jgh, jgh, jgh, jgh, jgh, jgh, (100, [], (jenc (jlg 0))), (100, [], (jenc (jlg 1))), (100, [], (jenc (jlg 2))), (100, [], (jenc (jlg 3))), (100, [], (jenc (jlg 4))), (100, [], (jenc (jlg 5))), (101, [], [-q1, r7, r8, 0, 0, 0])]) rfl rfl rfl ?_
  refine jT_xi2l (x := 1) (z := 1) (pcN := 32) jIQ_240_31 rfl (by decide +kernel) rfl ?_
  refine jT_xlmul (x := 0) (y := 1) (z := 0) (pcN := 33) jIQ_240_32 rfl (by decide) rfl ?_
  refine jT_xaload_n (v := (4, 1)) (pcN := 34) jIQ_240_33 rfl rfl rfl ?_
  refine jT_xiload_n (v := (0, 7 * o3)) (pcN := 35) jIQ_240_34 rfl rfl rfl ?_
  refine jT_xiload (v := (0, 4)) (pcN := 37) jIQ_240_35 rfl rfl rfl ?_
  refine jT_xiadd (x := 7 * o3) (y := 4) (z := 7 * o3 + 4) (pcN := 38) jIQ_240_37 rfl (by omega) rfl ?_
  refine jT_iald (x := 0) (a := 1) (j := (7 * o3 + 4).toNat) (fs := []) (X := jS0) (by rfl) (by rfl) (by rfl) (jw_nn (by omega) (by omega)) (jS0_r4 (by omega) (by omega)) ?_
  refine jT_eq (LN := [(4, (0, 4)), (3, (4, 22)), (0, (4, 0)), (1, (4, 1)), (2, (0, 7 * o3))]) (stN := [(0, 0), (1, 0), (0, 4), (4, 22)]) (hsN := [jzQ_20, (100, [], jS0), jgh, jgh, jgh, jgh, (130, [], [16, 17, 18, 19, 20, 21]), (101, [], [-q1, r7, r8, 0, 0, 0]), jgh, jgh, jgh, jgh, jgh, jgh, jgh, jgh, (100, [], (jenc (jlg 0))), (100, [], (jenc (jlg 1))), (100, [], (jenc (jlg 2))), (100, [], (jenc (jlg 3))), (100, [], (jenc (jlg 4))), (100, [], (jenc (jlg 5))), (101, [], [-q1, r7, r8, 0, 0, 0])]) rfl rfl rfl ?_
  refine jT_xi2l (x := 0) (z := 0) (pcN := 40) jIQ_240_39 rfl (by decide +kernel) rfl ?_
  refine jT_xaload_n (v := (4, 0)) (pcN := 41) jIQ_240_40 rfl rfl rfl ?_
  refine jT_xgetf (a := 0) (t := 1) (ci := 14) (fi := 10) (c := jzQ_20) (v := (1, 1)) (pcN := 44) jIQ_240_41 rfl rfl rfl rfl rfl rfl rfl ?_
  refine jT_xlmul (x := 0) (y := 1) (z := 0) (pcN := 45) jIQ_240_44 rfl (by decide) rfl ?_
  refine jT_xlsub (x := 0) (y := 0) (z := 0) (pcN := 46) jIQ_240_45 rfl (by decide) rfl ?_
  refine jT_adv 1 (pcN := 47) (LN := [(4, (0, 4)), (3, (4, 22)), (0, (4, 0)), (1, (4, 1)), (2, (0, 7 * o3))]) (stN := []) (hsN := [jzQ_20, (100, [], jS0), jgh, jgh, jgh, jgh, (130, [], [16, 17, 18, 19, 20, 21]), (101, [], [-q1, r7, r8, 0, 0, 0]), jgh, jgh, jgh, jgh, jgh, jgh, jgh, jgh, (100, [], (jenc (jlg 0))), (100, [], (jenc (jlg 1))), (100, [], (jenc (jlg 2))), (100, [], (jenc (jlg 3))), (100, [], (jenc (jlg 4))), (100, [], (jenc (jlg 5))), (101, [], [-q1, r7, r8, 0, 0, 0])]) (c1 := 0) (s1 := 0) (c2 := 19) (s2 := 1064) (by exact rfl) ?_ (by omega) (by omega)
  refine jT_xiinc (x := 4) (z := 5) (LN := [(4, (0, 5)), (3, (4, 22)), (0, (4, 0)), (1, (4, 1)), (2, (0, 7 * o3))]) (pcN := 50) jIQ_240_47 rfl rfl (by decide) rfl rfl ?_
  refine jT_xgoto (pcN := 8) jIQ_240_50 rfl ?_
  refine jT_xiload (v := (0, 5)) (pcN := 10) jIQ_240_8 rfl rfl rfl ?_
  refine jT_xbipush (k := 6) (pcN := 12) jIQ_240_10 (by decide) rfl ?_
  refine jT_xicF (t := 53) (pcN := 15) jIQ_240_12 rfl (by decide +kernel) rfl rfl ?_
  refine jT_xaload_n (v := (4, 22)) (pcN := 16) jIQ_240_15 rfl rfl rfl ?_
  refine jT_xiload (v := (0, 5)) (pcN := 18) jIQ_240_16 rfl rfl rfl ?_
  refine jT_xaload_n (v := (4, 0)) (pcN := 19) jIQ_240_18 rfl rfl rfl ?_
  refine jT_xgetf (a := 0) (t := 1) (ci := 14) (fi := 9) (c := jzQ_20) (v := (4, 7)) (pcN := 22) jIQ_240_19 rfl rfl rfl rfl rfl rfl rfl ?_
  refine jT_xiload (v := (0, 5)) (pcN := 24) jIQ_240_22 rfl rfl rfl ?_
  refine jT_lald (x := 0) (a := 7) (j := 5) (fs := []) (X := [-q1, r7, r8, 0, 0, 0]) jIQ_240_24 rfl rfl rfl rfl ?_
  refine jT_eq (LN := [(4, (0, 5)), (3, (4, 22)), (0, (4, 0)), (1, (4, 1)), (2, (0, 7 * o3))]) (stN := [(1, 0), (0, 5), (4, 22)]) (hsN := [jzQ_20, (100, [], jS0), jgh, jgh, jgh, jgh, (130, [], [16, 17, 18, 19, 20, 21]), (101, [], [-q1, r7, r8, 0, 0, 0]), jgh, jgh, jgh, jgh, jgh, jgh, jgh, jgh, (100, [], (jenc (jlg 0))), (100, [], (jenc (jlg 1))), (100, [], (jenc (jlg 2))), (100, [], (jenc (jlg 3))), (100, [], (jenc (jlg 4))), (100, [], (jenc (jlg 5))), (101, [], [-q1, r7, r8, 0, 0, 0])]) rfl rfl rfl ?_
  refine jT_xaload_n (v := (4, 1)) (pcN := 26) jIQ_240_25 rfl rfl rfl ?_
  refine jT_xiload_n (v := (0, 7 * o3)) (pcN := 27) jIQ_240_26 rfl rfl rfl ?_
  refine jT_xbipush (k := 6) (pcN := 29) jIQ_240_27 (by decide) rfl ?_
  refine jT_xiadd (x := 7 * o3) (y := 6) (z := 7 * o3 + 6) (pcN := 30) jIQ_240_29 rfl (by omega) rfl ?_
  refine jT_iald (x := 1) (a := 1) (j := (7 * o3 + 6).toNat) (fs := []) (X := jS0) (by rfl) (by rfl) (by rfl) (jw_nn (by omega) (by omega)) (jS0_r6 (by omega) (by omega)) ?_
  refine jT_eq (LN := [(4, (0, 5)), (3, (4, 22)), (0, (4, 0)), (1, (4, 1)), (2, (0, 7 * o3))]) (stN := [(0, 1), (1, 0), (0, 5), (4, 22)]) (hsN := [jzQ_20, (100, [], jS0), jgh, jgh, jgh, jgh, (130, [], [16, 17, 18, 19, 20, 21]), (101, [], [-q1, r7, r8, 0, 0, 0]), jgh, jgh, jgh, jgh, jgh, jgh, jgh, jgh, (100, [], (jenc (jlg 0))), (100, [], (jenc (jlg 1))), (100, [], (jenc (jlg 2))), (100, [], (jenc (jlg 3))), (100, [], (jenc (jlg 4))), (100, [], (jenc (jlg 5))), (101, [], [-q1, r7, r8, 0, 0, 0])]) rfl rfl rfl ?_
  refine jT_xi2l (x := 1) (z := 1) (pcN := 32) jIQ_240_31 rfl (by decide +kernel) rfl ?_
  refine jT_xlmul (x := 0) (y := 1) (z := 0) (pcN := 33) jIQ_240_32 rfl (by decide) rfl ?_
  refine jT_xaload_n (v := (4, 1)) (pcN := 34) jIQ_240_33 rfl rfl rfl ?_
  refine jT_xiload_n (v := (0, 7 * o3)) (pcN := 35) jIQ_240_34 rfl rfl rfl ?_
  refine jT_xiload (v := (0, 5)) (pcN := 37) jIQ_240_35 rfl rfl rfl ?_
  refine jT_xiadd (x := 7 * o3) (y := 5) (z := 7 * o3 + 5) (pcN := 38) jIQ_240_37 rfl (by omega) rfl ?_
  refine jT_iald (x := 0) (a := 1) (j := (7 * o3 + 5).toNat) (fs := []) (X := jS0) (by rfl) (by rfl) (by rfl) (jw_nn (by omega) (by omega)) (jS0_r5 (by omega) (by omega)) ?_
  refine jT_eq (LN := [(4, (0, 5)), (3, (4, 22)), (0, (4, 0)), (1, (4, 1)), (2, (0, 7 * o3))]) (stN := [(0, 0), (1, 0), (0, 5), (4, 22)]) (hsN := [jzQ_20, (100, [], jS0), jgh, jgh, jgh, jgh, (130, [], [16, 17, 18, 19, 20, 21]), (101, [], [-q1, r7, r8, 0, 0, 0]), jgh, jgh, jgh, jgh, jgh, jgh, jgh, jgh, (100, [], (jenc (jlg 0))), (100, [], (jenc (jlg 1))), (100, [], (jenc (jlg 2))), (100, [], (jenc (jlg 3))), (100, [], (jenc (jlg 4))), (100, [], (jenc (jlg 5))), (101, [], [-q1, r7, r8, 0, 0, 0])]) rfl rfl rfl ?_
  refine jT_xi2l (x := 0) (z := 0) (pcN := 40) jIQ_240_39 rfl (by decide +kernel) rfl ?_
  refine jT_xaload_n (v := (4, 0)) (pcN := 41) jIQ_240_40 rfl rfl rfl ?_
  refine jT_xgetf (a := 0) (t := 1) (ci := 14) (fi := 10) (c := jzQ_20) (v := (1, 1)) (pcN := 44) jIQ_240_41 rfl rfl rfl rfl rfl rfl rfl ?_
  refine jT_xlmul (x := 0) (y := 1) (z := 0) (pcN := 45) jIQ_240_44 rfl (by decide) rfl ?_
  refine jT_xlsub (x := 0) (y := 0) (z := 0) (pcN := 46) jIQ_240_45 rfl (by decide) rfl ?_
  refine jT_adv 1 (pcN := 47) (LN := [(4, (0, 5)), (3, (4, 22)), (0, (4, 0)), (1, (4, 1)), (2, (0, 7 * o3))]) (stN := []) (hsN := [jzQ_20, (100, [], jS0), jgh, jgh, jgh, jgh, (130, [], [16, 17, 18, 19, 20, 21]), (101, [], [-q1, r7, r8, 0, 0, 0]), jgh, jgh, jgh, jgh, jgh, jgh, jgh, jgh, (100, [], (jenc (jlg 0))), (100, [], (jenc (jlg 1))), (100, [], (jenc (jlg 2))), (100, [], (jenc (jlg 3))), (100, [], (jenc (jlg 4))), (100, [], (jenc (jlg 5))), (101, [], [-q1, r7, r8, 0, 0, 0])]) (c1 := 0) (s1 := 0) (c2 := 19) (s2 := 1064) (by exact rfl) ?_ (by omega) (by omega)
  refine jT_xiinc (x := 5) (z := 6) (LN := [(4, (0, 6)), (3, (4, 22)), (0, (4, 0)), (1, (4, 1)), (2, (0, 7 * o3))]) (pcN := 50) jIQ_240_47 rfl rfl (by decide) rfl rfl ?_
  refine jT_xgoto (pcN := 8) jIQ_240_50 rfl ?_
  refine jT_xiload (v := (0, 6)) (pcN := 10) jIQ_240_8 rfl rfl rfl ?_
  refine jT_xbipush (k := 6) (pcN := 12) jIQ_240_10 (by decide) rfl ?_
  refine jT_xicT (pcN := 53) jIQ_240_12 rfl (by decide +kernel) rfl ?_
  refine jT_xaload_n (v := (4, 0)) (pcN := 54) jIQ_240_53 rfl rfl rfl ?_
  refine jT_xaload_n (v := (4, 22)) (pcN := 55) jIQ_240_54 rfl rfl rfl ?_
  refine jT_callA [0, 22, 1, 2, 3, 4, 5, 6, 7, 8, 9, 10, 11, 12, 13, 14, 15, 16, 17, 18, 19, 20, 21] (y := 213) (pcN := 58) (dC := 3) (bc1 := 19) (bc2 := 1064) (c1 := 0) (c2 := 0) (as := [(4, 0), (4, 22)]) (asC := [(4, 0), (4, 1)]) (LN := [(4, (0, 6)), (3, (4, 22)), (0, (4, 0)), (1, (4, 1)), (2, (0, 7 * o3))]) (stN := []) (hsC := [jzQ_371, (101, [], [-q1, r7, r8, 0, 0, 0]), jgh, jgh, jgh, jgh, jgh, (130, [], [17, 18, 19, 20, 21, 22]), jgh, jgh, jgh, jgh, jgh, jgh, jgh, jgh, jgh, (100, [], (jenc (jlg 0))), (100, [], (jenc (jlg 1))), (100, [], (jenc (jlg 2))), (100, [], (jenc (jlg 3))), (100, [], (jenc (jlg 4))), (100, [], (jenc (jlg 5)))]) (ex := []) (v := (0, (jlz (-q1) r7 r8 0 0 0).sign)) (st2 := [(0, (jlz (-q1) r7 r8 0 0 0).sign)]) (hs2 := [jzQ_20, (100, [], jS0), jgh, jgh, jgh, jgh, (130, [], [16, 17, 18, 19, 20, 21]), (101, [], [-q1, r7, r8, 0, 0, 0]), jgh, jgh, jgh, jgh, jgh, jgh, jgh, jgh, (100, [], (jenc (jlg 0))), (100, [], (jenc (jlg 1))), (100, [], (jenc (jlg 2))), (100, [], (jenc (jlg 3))), (100, [], (jenc (jlg 4))), (100, [], (jenc (jlg 5))), (101, [], [-q1, r7, r8, 0, 0, 0])]) (jQl_sg_148 (d := 0) (e0 := -q1) (e1 := r7) (e2 := r8) (e3 := 0) (e4 := 0) (e5 := 0) (by omega) (by omega) (by omega) (by omega) (by omega) (by omega)) (by rfl) (by rfl) (by rfl) (by rfl) ⟨rfl, rfl, rfl, rfl, rfl, rfl, rfl, rfl, rfl, rfl, rfl, rfl, rfl, rfl, rfl, rfl, rfl, rfl, rfl, rfl, rfl, rfl, rfl, trivial⟩ (by rfl) (by rfl) (by omega) (by show 22 ≤ 23; omega) (by omega) (by omega) rfl rfl ?_
  have hb_q2 := jsgn_b (jlz (-q1) r7 r8 0 0 0)
  generalize hq_q2 : (jlz (-q1) r7 r8 0 0 0).sign = q2 at hb_q2 g_1 ⊢
  subst hq_q2
  exact jT_ret rfl (by decide) (by show 22 ≤ 23; omega) (by omega) (by omega) ⟨rfl, rfl, rfl⟩
theorem jQ_299_181 {xs : List Int} {d : Nat} {o3 r7 r8 u127_0 u127_1 u127_2 u127_3 u127_4 u127_5 : Int} (h_o3 : 0 ≤ o3 ∧ o3 ≤ 7) (h_r7 : (-20) ≤ r7 ∧ r7 ≤ 20) (h_r8 : (-10) ≤ r8 ∧ r8 ≤ 10) (g_0 : r7 < 0) : jT xs (d + 7) 299 23 0 [(0, (4, 0)), (1, (0, r7)), (2, (0, r8)), (3, (0, o3)), (4, (4, 1))] [] [jzQ_371, jgh, (100, [], jS0), jgh, jgh, jgh, jgh, (130, [], [17, 18, 19, 20, 21, 22]), (101, [], [u127_0, u127_1, u127_2, u127_3, u127_4, u127_5]), jgh, jgh, jgh, jgh, jgh, jgh, jgh, jgh, (100, [], (jenc (jlg 0))), (100, [], (jenc (jlg 1))), (100, [], (jenc (jlg 2))), (100, [], (jenc (jlg 3))), (100, [], (jenc (jlg 4))), (100, [], (jenc (jlg 5)))] 80 4280 (fun k v hsN => k = 0 ∧ v = (0, 0) ∧ hsN = [jzQ_371, jgh, (100, [], jS0), jgh, jgh, jgh, jgh, (130, [], [17, 18, 19, 20, 21, 22]), (101, [], [-(jkn r7 r8), r7, r8, 0, 0, 0]), jgh, jgh, jgh, jgh, jgh, jgh, jgh, jgh, (100, [], (jenc (jlg 0))), (100, [], (jenc (jlg 1))), (100, [], (jenc (jlg 2))), (100, [], (jenc (jlg 3))), (100, [], (jenc (jlg 4))), (100, [], (jenc (jlg 5))), (101, [], [-(jkn r7 r8), r7, r8, 0, 0, 0])]) := by
  refine jT_xaload_n (v := (4, 0)) (pcN := 1) jIQ_299_0 rfl rfl rfl ?_
  refine jT_callB [0, 2, 3, 4, 5, 6, 7, 8, 9, 10, 11, 12, 13, 14, 15, 16] (y := 193) (pcN := 4) (dC := 0) (bc1 := 0) (bc2 := 0) (c1 := 80) (c2 := 4280) (as := [(4, 0)]) (asC := [(4, 0)]) (LN := [(0, (4, 0)), (1, (0, r7)), (2, (0, r8)), (3, (0, o3)), (4, (4, 1))]) (stN := []) (hsC := [jzQ_20, jgh, jgh, jgh, jgh, jgh, jgh, (101, [], [u127_0, u127_1, u127_2, u127_3, u127_4, u127_5]), jgh, jgh, jgh, jgh, jgh, jgh, jgh, jgh]) (hsD := jpQ_394) (v := (9, 0)) (st2 := []) (hs2 := jpQ_546) (jQ_193_145 (d := 0)) (by rfl) (by rfl) (by rfl) (by rfl) ⟨rfl, rfl, rfl, rfl, rfl, rfl, rfl, rfl, rfl, rfl, rfl, rfl, rfl, rfl, rfl, rfl, trivial⟩ (by rfl) (by rfl) (by omega) (by show 23 ≤ 23; omega) (by omega) (by omega) rfl rfl ?_
  refine jT_xaload_n (v := (4, 0)) (pcN := 5) jIQ_299_4 rfl rfl rfl ?_
  refine jT_xgetf (a := 0) (t := 1) (ci := 14) (fi := 9) (c := jzQ_371) (v := (4, 8)) (pcN := 8) jIQ_299_5 rfl rfl rfl rfl rfl rfl rfl ?_
  refine jT_xiconst (k := 1) (pcN := 9) jIQ_299_8 rfl ?_
  refine jT_xiload_n (v := (0, r7)) (pcN := 10) jIQ_299_9 rfl rfl rfl ?_
  refine jT_xi2l (x := r7) (z := r7) (pcN := 11) jIQ_299_10 rfl (jw_idd (by omega) (by omega)) rfl ?_
  refine jT_adv 1 (pcN := 12) (LN := [(0, (4, 0)), (1, (0, r7)), (2, (0, r8)), (3, (0, o3)), (4, (4, 1))]) (stN := []) (hsN := [jzQ_371, jgh, (100, [], jS0), jgh, jgh, jgh, jgh, (130, [], [17, 18, 19, 20, 21, 22]), (101, [], [0, r7, 0, 0, 0, 0]), jgh, jgh, jgh, jgh, jgh, jgh, jgh, jgh, (100, [], (jenc (jlg 0))), (100, [], (jenc (jlg 1))), (100, [], (jenc (jlg 2))), (100, [], (jenc (jlg 3))), (100, [], (jenc (jlg 4))), (100, [], (jenc (jlg 5)))]) (c1 := 0) (s1 := 0) (c2 := 80) (s2 := 4280) (by exact rfl) ?_ (by omega) (by omega)
  refine jT_xaload_n (v := (4, 0)) (pcN := 13) jIQ_299_12 rfl rfl rfl ?_
  refine jT_xgetf (a := 0) (t := 1) (ci := 14) (fi := 9) (c := jzQ_371) (v := (4, 8)) (pcN := 16) jIQ_299_13 rfl rfl rfl rfl rfl rfl rfl ?_
  refine jT_xiconst (k := 2) (pcN := 17) jIQ_299_16 rfl ?_
  refine jT_xiload_n (v := (0, r8)) (pcN := 18) jIQ_299_17 rfl rfl rfl ?_
  refine jT_xi2l (x := r8) (z := r8) (pcN := 19) jIQ_299_18 rfl (jw_idd (by omega) (by omega)) rfl ?_
  refine jT_adv 1 (pcN := 20) (LN := [(0, (4, 0)), (1, (0, r7)), (2, (0, r8)), (3, (0, o3)), (4, (4, 1))]) (stN := []) (hsN := [jzQ_371, jgh, (100, [], jS0), jgh, jgh, jgh, jgh, (130, [], [17, 18, 19, 20, 21, 22]), (101, [], [0, r7, r8, 0, 0, 0]), jgh, jgh, jgh, jgh, jgh, jgh, jgh, jgh, (100, [], (jenc (jlg 0))), (100, [], (jenc (jlg 1))), (100, [], (jenc (jlg 2))), (100, [], (jenc (jlg 3))), (100, [], (jenc (jlg 4))), (100, [], (jenc (jlg 5)))]) (c1 := 0) (s1 := 0) (c2 := 80) (s2 := 4280) (by exact rfl) ?_ (by omega) (by omega)
  refine jT_xaload_n (v := (4, 0)) (pcN := 21) jIQ_299_20 rfl rfl rfl ?_
  refine jT_callB [0, 2, 3, 4, 5, 6, 7, 8, 9, 10, 11, 12, 13, 14, 15, 16, 17, 18, 19, 20, 21, 22] (y := 209) (pcN := 24) (dC := 6) (bc1 := 60) (bc2 := 3210) (c1 := 20) (c2 := 1070) (as := [(4, 0)]) (asC := [(4, 0)]) (LN := [(0, (4, 0)), (1, (0, r7)), (2, (0, r8)), (3, (0, o3)), (4, (4, 1))]) (stN := []) (hsC := [jzQ_20, jgh, jgh, jgh, jgh, jgh, (130, [], [16, 17, 18, 19, 20, 21]), (101, [], [0, r7, r8, 0, 0, 0]), jgh, jgh, jgh, jgh, jgh, jgh, jgh, jgh, (100, [], (jenc (jlg 0))), (100, [], (jenc (jlg 1))), (100, [], (jenc (jlg 2))), (100, [], (jenc (jlg 3))), (100, [], (jenc (jlg 4))), (100, [], (jenc (jlg 5)))]) (hsD := [jzQ_20, jgh, jgh, jgh, jgh, jgh, (130, [], [16, 17, 18, 19, 20, 21]), (101, [], [-(jkn r7 r8), r7, r8, 0, 0, 0]), jgh, jgh, jgh, jgh, jgh, jgh, jgh, jgh, (100, [], (jenc (jlg 0))), (100, [], (jenc (jlg 1))), (100, [], (jenc (jlg 2))), (100, [], (jenc (jlg 3))), (100, [], (jenc (jlg 4))), (100, [], (jenc (jlg 5)))]) (v := (1, jkn r7 r8)) (st2 := [(1, jkn r7 r8)]) (hs2 := [jzQ_371, jgh, (100, [], jS0), jgh, jgh, jgh, jgh, (130, [], [17, 18, 19, 20, 21, 22]), (101, [], [-(jkn r7 r8), r7, r8, 0, 0, 0]), jgh, jgh, jgh, jgh, jgh, jgh, jgh, jgh, (100, [], (jenc (jlg 0))), (100, [], (jenc (jlg 1))), (100, [], (jenc (jlg 2))), (100, [], (jenc (jlg 3))), (100, [], (jenc (jlg 4))), (100, [], (jenc (jlg 5)))]) (jQ_209_179 (d := 0) (by omega) (by omega) (by omega)) (by rfl) (by rfl) (by rfl) (by rfl) ⟨rfl, rfl, rfl, rfl, rfl, rfl, rfl, rfl, rfl, rfl, rfl, rfl, rfl, rfl, rfl, rfl, rfl, rfl, rfl, rfl, rfl, rfl, trivial⟩ (by rfl) (by rfl) (by omega) (by show 23 ≤ 23; omega) (by omega) (by omega) rfl rfl ?_
  have hb_q1 := jkn_b (b := r7) (c := r8) (by omega) (by omega)
  generalize hq_q1 : jkn r7 r8 = q1 at hb_q1 ⊢
  refine jT_eq (LN := [(0, (4, 0)), (1, (0, r7)), (2, (0, r8)), (3, (0, o3)), (4, (4, 1))]) (stN := [(1, q1)]) (hsN := [jzQ_371, jgh, (100, [], jS0), jgh, jgh, jgh, jgh, (130, [], [17, 18, 19, 20, 21, 22]), (101, [], [-q1, r7, r8, 0, 0, 0]), jgh, jgh, jgh, jgh, jgh, jgh, jgh, jgh, (100, [], (jenc (jlg 0))), (100, [], (jenc (jlg 1))), (100, [], (jenc (jlg 2))), (100, [], (jenc (jlg 3))), (100, [], (jenc (jlg 4))), (100, [], (jenc (jlg 5)))]) (rfl) (rfl) (by simp only [List.cons.injEq, Prod.mk.injEq, and_true, true_and] <;> ((try unfold jw); (try unfold jwl); omega)) ?_
  refine jT_xlstore (v := (1, q1)) (LN := [(5, (1, q1)), (0, (4, 0)), (1, (0, r7)), (2, (0, r8)), (3, (0, o3)), (4, (4, 1))]) (pcN := 26) jIQ_299_24 rfl rfl rfl rfl ?_
  have g_1 : 0 ≤ (jlz (-q1) r7 r8 0 0 0).sign := by rw [← hq_q1]; exact jkn_s (by omega) (by omega)
  refine jT_xlload (v := (1, q1)) (pcN := 28) jIQ_299_26 rfl rfl rfl ?_
  refine jT_xaload_n (v := (4, 0)) (pcN := 29) jIQ_299_28 rfl rfl rfl ?_
  refine jT_xgetf (a := 0) (t := 1) (ci := 14) (fi := 9) (c := jzQ_371) (v := (4, 8)) (pcN := 32) jIQ_299_29 rfl rfl rfl rfl rfl rfl rfl ?_
  refine jT_xiconst (k := 0) (pcN := 33) jIQ_299_32 rfl ?_
  refine jT_lald (x := -q1) (a := 8) (j := 0) (fs := []) (X := [-q1, r7, r8, 0, 0, 0]) jIQ_299_33 rfl rfl rfl rfl ?_
  refine jT_eq (LN := [(5, (1, q1)), (0, (4, 0)), (1, (0, r7)), (2, (0, r8)), (3, (0, o3)), (4, (4, 1))]) (stN := [(1, -q1), (1, q1)]) (hsN := [jzQ_371, jgh, (100, [], jS0), jgh, jgh, jgh, jgh, (130, [], [17, 18, 19, 20, 21, 22]), (101, [], [-q1, r7, r8, 0, 0, 0]), jgh, jgh, jgh, jgh, jgh, jgh, jgh, jgh, (100, [], (jenc (jlg 0))), (100, [], (jenc (jlg 1))), (100, [], (jenc (jlg 2))), (100, [], (jenc (jlg 3))), (100, [], (jenc (jlg 4))), (100, [], (jenc (jlg 5)))]) rfl rfl rfl ?_
  refine jT_adv 1 (pcN := 35) (LN := [(5, (1, q1)), (0, (4, 0)), (1, (0, r7)), (2, (0, r8)), (3, (0, o3)), (4, (4, 1))]) (stN := [(1, -(-q1)), (1, q1)]) (hsN := [jzQ_371, jgh, (100, [], jS0), jgh, jgh, jgh, jgh, (130, [], [17, 18, 19, 20, 21, 22]), (101, [], [-q1, r7, r8, 0, 0, 0]), jgh, jgh, jgh, jgh, jgh, jgh, jgh, jgh, (100, [], (jenc (jlg 0))), (100, [], (jenc (jlg 1))), (100, [], (jenc (jlg 2))), (100, [], (jenc (jlg 3))), (100, [], (jenc (jlg 4))), (100, [], (jenc (jlg 5)))]) (c1 := 0) (s1 := 0) (c2 := 20) (s2 := 1070) (by exact rfl) ?_ (by omega) (by omega)
  refine jT_eq (LN := [(5, (1, q1)), (0, (4, 0)), (1, (0, r7)), (2, (0, r8)), (3, (0, o3)), (4, (4, 1))]) (stN := [(1, q1), (1, q1)]) (hsN := [jzQ_371, jgh, (100, [], jS0), jgh, jgh, jgh, jgh, (130, [], [17, 18, 19, 20, 21, 22]), (101, [], [-q1, r7, r8, 0, 0, 0]), jgh, jgh, jgh, jgh, jgh, jgh, jgh, jgh, (100, [], (jenc (jlg 0))), (100, [], (jenc (jlg 1))), (100, [], (jenc (jlg 2))), (100, [], (jenc (jlg 3))), (100, [], (jenc (jlg 4))), (100, [], (jenc (jlg 5)))]) (rfl) (by simp only [List.cons.injEq, Prod.mk.injEq, and_true, true_and] <;> ((try unfold jw); (try unfold jwl); omega)) (rfl) ?_
  refine jT_lcmp (a := q1) (b := q1) (z := 0) (by rfl) (by rfl) (jwl_idd (by omega) (by omega)) (jwl_idd (by omega) (by omega)) (by rw [decide_eq_false (show ¬ ((q1 : Int) < q1) by omega), decide_eq_true (show (q1 : Int) = q1 by omega)]; rfl) ?_
  refine jT_xifF (t := 54) (pcN := 39) jIQ_299_36 rfl (by decide +kernel) rfl rfl ?_
  refine jT_xaload_n (v := (4, 0)) (pcN := 40) jIQ_299_39 rfl rfl rfl ?_
  refine jT_xaload_n (v := (4, 0)) (pcN := 41) jIQ_299_40 rfl rfl rfl ?_
  refine jT_xgetf (a := 0) (t := 1) (ci := 14) (fi := 1) (c := jzQ_371) (v := (4, 2)) (pcN := 44) jIQ_299_41 rfl rfl rfl rfl rfl rfl rfl ?_
  refine jT_xbipush (k := 7) (pcN := 46) jIQ_299_44 (by decide) rfl ?_
  refine jT_xiload_n (v := (0, o3)) (pcN := 47) jIQ_299_46 rfl rfl rfl ?_
  refine jT_ximul (x := 7) (y := o3) (z := 7 * o3) (pcN := 48) jIQ_299_47 rfl (rfl) rfl ?_
  refine jT_callA [0, 2, 3, 4, 5, 6, 7, 8, 9, 10, 11, 12, 13, 14, 15, 16, 17, 18, 19, 20, 21, 22] (y := 240) (pcN := 51) (dC := 4) (bc1 := 20) (bc2 := 1070) (c1 := 0) (c2 := 0) (as := [(4, 0), (4, 2), (0, 7 * o3)]) (asC := [(4, 0), (4, 1), (0, 7 * o3)]) (LN := [(5, (1, q1)), (0, (4, 0)), (1, (0, r7)), (2, (0, r8)), (3, (0, o3)), (4, (4, 1))]) (stN := []) (hsC := [jzQ_20, (100, [], jS0), jgh, jgh, jgh, jgh, (130, [], [16, 17, 18, 19, 20, 21]), (101, [], [-q1, r7, r8, 0, 0, 0]), jgh, jgh, jgh, jgh, jgh, jgh, jgh, jgh, (100, [], (jenc (jlg 0))), (100, [], (jenc (jlg 1))), (100, [], (jenc (jlg 2))), (100, [], (jenc (jlg 3))), (100, [], (jenc (jlg 4))), (100, [], (jenc (jlg 5)))]) (ex := [(101, [], [-q1, r7, r8, 0, 0, 0])]) (v := (0, (jlz (-q1) r7 r8 0 0 0).sign)) (st2 := [(0, (jlz (-q1) r7 r8 0 0 0).sign)]) (hs2 := [jzQ_371, jgh, (100, [], jS0), jgh, jgh, jgh, jgh, (130, [], [17, 18, 19, 20, 21, 22]), (101, [], [-q1, r7, r8, 0, 0, 0]), jgh, jgh, jgh, jgh, jgh, jgh, jgh, jgh, (100, [], (jenc (jlg 0))), (100, [], (jenc (jlg 1))), (100, [], (jenc (jlg 2))), (100, [], (jenc (jlg 3))), (100, [], (jenc (jlg 4))), (100, [], (jenc (jlg 5))), (101, [], [-q1, r7, r8, 0, 0, 0])]) (jQ_240_180 (d := 0) (by omega) (by omega) (by omega) (by omega) (by omega) (by omega)) (by rfl) (by rfl) (by rfl) (by rfl) ⟨rfl, rfl, rfl, rfl, rfl, rfl, rfl, rfl, rfl, rfl, rfl, rfl, rfl, rfl, rfl, rfl, rfl, rfl, rfl, rfl, rfl, rfl, trivial⟩ (by rfl) (by rfl) (by omega) (by show 23 ≤ 23; omega) (by omega) (by omega) rfl rfl ?_
  have hb_q2 := jsgn_b (jlz (-q1) r7 r8 0 0 0)
  generalize hq_q2 : (jlz (-q1) r7 r8 0 0 0).sign = q2 at hb_q2 g_1 ⊢
  refine jT_ifF (a := q2) (t := 56) (by rfl) (by rfl) (by rfl) (jw_idd (by omega) (by omega)) (by simp only [jcP] <;> omega) ?_
  refine jT_xiconst (k := 0) (pcN := 55) jIQ_299_54 rfl ?_
  subst hq_q2
  subst hq_q1
  exact jT_ret rfl (by decide) (by show 23 ≤ 24; omega) (by omega) (by omega) ⟨rfl, rfl, rfl⟩
theorem jQ_193_182 {xs : List Int} {d : Nat} {u7_0 u7_1 u7_2 u7_3 u7_4 u7_5 : Int} : jT xs d 193 16 0 [(0, (4, 0))] [] [jzQ_20, jgh, jgh, jgh, jgh, jgh, jgh, (101, [], [u7_0, u7_1, u7_2, u7_3, u7_4, u7_5]), jgh, jgh, jgh, jgh, jgh, jgh, jgh, jgh] 0 0 (fun k v hsN => k = 0 ∧ v = (9, 0) ∧ hsN = jpQ_394) := by
  refine jT_xiconst (k := 0) (pcN := 1) jIQ_193_0 rfl ?_
  refine jT_xistore_n (v := (0, 0)) (LN := [(1, (0, 0)), (0, (4, 0))]) (pcN := 2) jIQ_193_1 rfl rfl rfl rfl ?_
  refine jT_xiload_n (v := (0, 0)) (pcN := 3) jIQ_193_2 rfl rfl rfl ?_
  refine jT_xbipush (k := 6) (pcN := 5) jIQ_193_3 (by decide) rfl ?_
  refine jT_xicF (t := 21) (pcN := 8) jIQ_193_5 rfl (by decide +kernel) rfl rfl ?_
  refine jT_xaload_n (v := (4, 0)) (pcN := 9) jIQ_193_8 rfl rfl rfl ?_
  refine jT_xgetf (a := 0) (t := 1) (ci := 14) (fi := 9) (c := jzQ_20) (v := (4, 7)) (pcN := 12) jIQ_193_9 rfl rfl rfl rfl rfl rfl rfl ?_
  refine jT_xiload_n (v := (0, 0)) (pcN := 13) jIQ_193_12 rfl rfl rfl ?_
  refine jT_xlconst (z := 0) (pcN := 14) jIQ_193_13 rfl rfl ?_
  refine jT_adv 1 (pcN := 15) (LN := [(1, (0, 0)), (0, (4, 0))]) (stN := []) (hsN := [jzQ_20, jgh, jgh, jgh, jgh, jgh, jgh, (101, [], [0, u7_1, u7_2, u7_3, u7_4, u7_5]), jgh, jgh, jgh, jgh, jgh, jgh, jgh, jgh]) (c1 := 0) (s1 := 0) (c2 := 0) (s2 := 0) (by exact rfl) ?_ (by omega) (by omega)
  refine jT_xiinc (x := 0) (z := 1) (LN := [(1, (0, 1)), (0, (4, 0))]) (pcN := 18) jIQ_193_15 rfl rfl (by decide) rfl rfl ?_
  refine jT_xgoto (pcN := 2) jIQ_193_18 rfl ?_
  refine jT_xiload_n (v := (0, 1)) (pcN := 3) jIQ_193_2 rfl rfl rfl ?_
  refine jT_xbipush (k := 6) (pcN := 5) jIQ_193_3 (by decide) rfl ?_
  refine jT_xicF (t := 21) (pcN := 8) jIQ_193_5 rfl (by decide +kernel) rfl rfl ?_
  refine jT_xaload_n (v := (4, 0)) (pcN := 9) jIQ_193_8 rfl rfl rfl ?_
  refine jT_xgetf (a := 0) (t := 1) (ci := 14) (fi := 9) (c := jzQ_20) (v := (4, 7)) (pcN := 12) jIQ_193_9 rfl rfl rfl rfl rfl rfl rfl ?_
  refine jT_xiload_n (v := (0, 1)) (pcN := 13) jIQ_193_12 rfl rfl rfl ?_
  refine jT_xlconst (z := 0) (pcN := 14) jIQ_193_13 rfl rfl ?_
  refine jT_adv 1 (pcN := 15) (LN := [(1, (0, 1)), (0, (4, 0))]) (stN := []) (hsN := [jzQ_20, jgh, jgh, jgh, jgh, jgh, jgh, (101, [], [0, 0, u7_2, u7_3, u7_4, u7_5]), jgh, jgh, jgh, jgh, jgh, jgh, jgh, jgh]) (c1 := 0) (s1 := 0) (c2 := 0) (s2 := 0) (by exact rfl) ?_ (by omega) (by omega)
  refine jT_xiinc (x := 1) (z := 2) (LN := [(1, (0, 2)), (0, (4, 0))]) (pcN := 18) jIQ_193_15 rfl rfl (by decide) rfl rfl ?_
  refine jT_xgoto (pcN := 2) jIQ_193_18 rfl ?_
  refine jT_xiload_n (v := (0, 2)) (pcN := 3) jIQ_193_2 rfl rfl rfl ?_
  refine jT_xbipush (k := 6) (pcN := 5) jIQ_193_3 (by decide) rfl ?_
  refine jT_xicF (t := 21) (pcN := 8) jIQ_193_5 rfl (by decide +kernel) rfl rfl ?_
  refine jT_xaload_n (v := (4, 0)) (pcN := 9) jIQ_193_8 rfl rfl rfl ?_
  refine jT_xgetf (a := 0) (t := 1) (ci := 14) (fi := 9) (c := jzQ_20) (v := (4, 7)) (pcN := 12) jIQ_193_9 rfl rfl rfl rfl rfl rfl rfl ?_
  refine jT_xiload_n (v := (0, 2)) (pcN := 13) jIQ_193_12 rfl rfl rfl ?_
  refine jT_xlconst (z := 0) (pcN := 14) jIQ_193_13 rfl rfl ?_
  refine jT_adv 1 (pcN := 15) (LN := [(1, (0, 2)), (0, (4, 0))]) (stN := []) (hsN := [jzQ_20, jgh, jgh, jgh, jgh, jgh, jgh, (101, [], [0, 0, 0, u7_3, u7_4, u7_5]), jgh, jgh, jgh, jgh, jgh, jgh, jgh, jgh]) (c1 := 0) (s1 := 0) (c2 := 0) (s2 := 0) (by exact rfl) ?_ (by omega) (by omega)
  refine jT_xiinc (x := 2) (z := 3) (LN := [(1, (0, 3)), (0, (4, 0))]) (pcN := 18) jIQ_193_15 rfl rfl (by decide) rfl rfl ?_
  refine jT_xgoto (pcN := 2) jIQ_193_18 rfl ?_
  refine jT_xiload_n (v := (0, 3)) (pcN := 3) jIQ_193_2 rfl rfl rfl ?_
  refine jT_xbipush (k := 6) (pcN := 5) jIQ_193_3 (by decide) rfl ?_
  refine jT_xicF (t := 21) (pcN := 8) jIQ_193_5 rfl (by decide +kernel) rfl rfl ?_
  refine jT_xaload_n (v := (4, 0)) (pcN := 9) jIQ_193_8 rfl rfl rfl ?_
  refine jT_xgetf (a := 0) (t := 1) (ci := 14) (fi := 9) (c := jzQ_20) (v := (4, 7)) (pcN := 12) jIQ_193_9 rfl rfl rfl rfl rfl rfl rfl ?_
  refine jT_xiload_n (v := (0, 3)) (pcN := 13) jIQ_193_12 rfl rfl rfl ?_
  refine jT_xlconst (z := 0) (pcN := 14) jIQ_193_13 rfl rfl ?_
  refine jT_adv 1 (pcN := 15) (LN := [(1, (0, 3)), (0, (4, 0))]) (stN := []) (hsN := [jzQ_20, jgh, jgh, jgh, jgh, jgh, jgh, (101, [], [0, 0, 0, 0, u7_4, u7_5]), jgh, jgh, jgh, jgh, jgh, jgh, jgh, jgh]) (c1 := 0) (s1 := 0) (c2 := 0) (s2 := 0) (by exact rfl) ?_ (by omega) (by omega)
  refine jT_xiinc (x := 3) (z := 4) (LN := [(1, (0, 4)), (0, (4, 0))]) (pcN := 18) jIQ_193_15 rfl rfl (by decide) rfl rfl ?_
  refine jT_xgoto (pcN := 2) jIQ_193_18 rfl ?_
  refine jT_xiload_n (v := (0, 4)) (pcN := 3) jIQ_193_2 rfl rfl rfl ?_
  refine jT_xbipush (k := 6) (pcN := 5) jIQ_193_3 (by decide) rfl ?_
  refine jT_xicF (t := 21) (pcN := 8) jIQ_193_5 rfl (by decide +kernel) rfl rfl ?_
  refine jT_xaload_n (v := (4, 0)) (pcN := 9) jIQ_193_8 rfl rfl rfl ?_
  refine jT_xgetf (a := 0) (t := 1) (ci := 14) (fi := 9) (c := jzQ_20) (v := (4, 7)) (pcN := 12) jIQ_193_9 rfl rfl rfl rfl rfl rfl rfl ?_
  refine jT_xiload_n (v := (0, 4)) (pcN := 13) jIQ_193_12 rfl rfl rfl ?_
  refine jT_xlconst (z := 0) (pcN := 14) jIQ_193_13 rfl rfl ?_
  refine jT_adv 1 (pcN := 15) (LN := [(1, (0, 4)), (0, (4, 0))]) (stN := []) (hsN := [jzQ_20, jgh, jgh, jgh, jgh, jgh, jgh, (101, [], [0, 0, 0, 0, 0, u7_5]), jgh, jgh, jgh, jgh, jgh, jgh, jgh, jgh]) (c1 := 0) (s1 := 0) (c2 := 0) (s2 := 0) (by exact rfl) ?_ (by omega) (by omega)
  refine jT_xiinc (x := 4) (z := 5) (LN := [(1, (0, 5)), (0, (4, 0))]) (pcN := 18) jIQ_193_15 rfl rfl (by decide) rfl rfl ?_
  refine jT_xgoto (pcN := 2) jIQ_193_18 rfl ?_
  refine jT_xiload_n (v := (0, 5)) (pcN := 3) jIQ_193_2 rfl rfl rfl ?_
  refine jT_xbipush (k := 6) (pcN := 5) jIQ_193_3 (by decide) rfl ?_
  refine jT_xicF (t := 21) (pcN := 8) jIQ_193_5 rfl (by decide +kernel) rfl rfl ?_
  refine jT_xaload_n (v := (4, 0)) (pcN := 9) jIQ_193_8 rfl rfl rfl ?_
  refine jT_xgetf (a := 0) (t := 1) (ci := 14) (fi := 9) (c := jzQ_20) (v := (4, 7)) (pcN := 12) jIQ_193_9 rfl rfl rfl rfl rfl rfl rfl ?_
  refine jT_xiload_n (v := (0, 5)) (pcN := 13) jIQ_193_12 rfl rfl rfl ?_
  refine jT_xlconst (z := 0) (pcN := 14) jIQ_193_13 rfl rfl ?_
  refine jT_adv 1 (pcN := 15) (LN := [(1, (0, 5)), (0, (4, 0))]) (stN := []) (hsN := jpQ_394) (c1 := 0) (s1 := 0) (c2 := 0) (s2 := 0) (by exact rfl) ?_ (by omega) (by omega)
  refine jT_advK 8 (pcN := 26) (LN := [(1, (0, 6)), (0, (4, 0))]) (stN := []) (hsN := jpQ_394) (c1 := 0) (s1 := 0) (c2 := 0) (s2 := 0) (by decide +kernel) ?_ (by omega) (by omega)
  exact jT_ret rfl (by decide) (by show 16 ≤ 16; omega) (by omega) (by omega) ⟨rfl, rfl, rfl⟩
theorem jQ_299_183 {xs : List Int} {d : Nat} {o3 r7 r8 u7_0 u7_1 u7_2 u7_3 u7_4 u7_5 : Int} (h_o3 : 0 ≤ o3 ∧ o3 ≤ 7) (h_r7 : (-20) ≤ r7 ∧ r7 ≤ 20) (h_r8 : (-10) ≤ r8 ∧ r8 ≤ 10) (g_0 : 0 < r7) : jT xs (d + 7) 299 23 0 [(0, (4, 0)), (1, (0, r7)), (2, (0, r8)), (3, (0, o3)), (4, (4, 1))] [] [jzQ_371, jgh, (100, [], jS0), jgh, jgh, jgh, jgh, (130, [], [17, 18, 19, 20, 21, 22]), (101, [], [u7_0, u7_1, u7_2, u7_3, u7_4, u7_5]), jgh, jgh, jgh, jgh, jgh, jgh, jgh, jgh, (100, [], (jenc (jlg 0))), (100, [], (jenc (jlg 1))), (100, [], (jenc (jlg 2))), (100, [], (jenc (jlg 3))), (100, [], (jenc (jlg 4))), (100, [], (jenc (jlg 5)))] 80 4280 (fun k v hsN => k = 0 ∧ v = (0, 0) ∧ hsN = [jzQ_371, jgh, (100, [], jS0), jgh, jgh, jgh, jgh, (130, [], [17, 18, 19, 20, 21, 22]), (101, [], [-(jkn r7 r8), r7, r8, 0, 0, 0]), jgh, jgh, jgh, jgh, jgh, jgh, jgh, jgh, (100, [], (jenc (jlg 0))), (100, [], (jenc (jlg 1))), (100, [], (jenc (jlg 2))), (100, [], (jenc (jlg 3))), (100, [], (jenc (jlg 4))), (100, [], (jenc (jlg 5))), (101, [], [-(jkn r7 r8), r7, r8, 0, 0, 0])]) := by
  refine jT_xaload_n (v := (4, 0)) (pcN := 1) jIQ_299_0 rfl rfl rfl ?_
  refine jT_callB [0, 2, 3, 4, 5, 6, 7, 8, 9, 10, 11, 12, 13, 14, 15, 16] (y := 193) (pcN := 4) (dC := 0) (bc1 := 0) (bc2 := 0) (c1 := 80) (c2 := 4280) (as := [(4, 0)]) (asC := [(4, 0)]) (LN := [(0, (4, 0)), (1, (0, r7)), (2, (0, r8)), (3, (0, o3)), (4, (4, 1))]) (stN := []) (hsC := [jzQ_20, jgh, jgh, jgh, jgh, jgh, jgh, (101, [], [u7_0, u7_1, u7_2, u7_3, u7_4, u7_5]), jgh, jgh, jgh, jgh, jgh, jgh, jgh, jgh]) (hsD := jpQ_394) (v := (9, 0)) (st2 := []) (hs2 := jpQ_546) (jQ_193_182 (d := 0)) (by rfl) (by rfl) (by rfl) (by rfl) ⟨rfl, rfl, rfl, rfl, rfl, rfl, rfl, rfl, rfl, rfl, rfl, rfl, rfl, rfl, rfl, rfl, trivial⟩ (by rfl) (by rfl) (by omega) (by show 23 ≤ 23; omega) (by omega) (by omega) rfl rfl ?_
  refine jT_xaload_n (v := (4, 0)) (pcN := 5) jIQ_299_4 rfl rfl rfl ?_
  refine jT_xgetf (a := 0) (t := 1) (ci := 14) (fi := 9) (c := jzQ_371) (v := (4, 8)) (pcN := 8) jIQ_299_5 rfl rfl rfl rfl rfl rfl rfl ?_
  refine jT_xiconst (k := 1) (pcN := 9) jIQ_299_8 rfl ?_
  refine jT_xiload_n (v := (0, r7)) (pcN := 10) jIQ_299_9 rfl rfl rfl ?_
  refine jT_xi2l (x := r7) (z := r7) (pcN := 11) jIQ_299_10 rfl (jw_idd (by omega) (by omega)) rfl ?_
  refine jT_adv 1 (pcN := 12) (LN := [(0, (4, 0)), (1, (0, r7)), (2, (0, r8)), (3, (0, o3)), (4, (4, 1))]) (stN := []) (hsN := [jzQ_371, jgh, (100, [], jS0), jgh, jgh, jgh, jgh, (130, [], [17, 18, 19, 20, 21, 22]), (101, [], [0, r7, 0, 0, 0, 0]), jgh, jgh, jgh, jgh, jgh, jgh, jgh, jgh, (100, [], (jenc (jlg 0))), (100, [], (jenc (jlg 1))), (100, [], (jenc (jlg 2))), (100, [], (jenc (jlg 3))), (100, [], (jenc (jlg 4))), (100, [], (jenc (jlg 5)))]) (c1 := 0) (s1 := 0) (c2 := 80) (s2 := 4280) (by exact rfl) ?_ (by omega) (by omega)
  refine jT_xaload_n (v := (4, 0)) (pcN := 13) jIQ_299_12 rfl rfl rfl ?_
  refine jT_xgetf (a := 0) (t := 1) (ci := 14) (fi := 9) (c := jzQ_371) (v := (4, 8)) (pcN := 16) jIQ_299_13 rfl rfl rfl rfl rfl rfl rfl ?_
  refine jT_xiconst (k := 2) (pcN := 17) jIQ_299_16 rfl ?_
  refine jT_xiload_n (v := (0, r8)) (pcN := 18) jIQ_299_17 rfl rfl rfl ?_
  refine jT_xi2l (x := r8) (z := r8) (pcN := 19) jIQ_299_18 rfl (jw_idd (by omega) (by omega)) rfl ?_
  refine jT_adv 1 (pcN := 20) (LN := [(0, (4, 0)), (1, (0, r7)), (2, (0, r8)), (3, (0, o3)), (4, (4, 1))]) (stN := []) (hsN := [jzQ_371, jgh, (100, [], jS0), jgh, jgh, jgh, jgh, (130, [], [17, 18, 19, 20, 21, 22]), (101, [], [0, r7, r8, 0, 0, 0]), jgh, jgh, jgh, jgh, jgh, jgh, jgh, jgh, (100, [], (jenc (jlg 0))), (100, [], (jenc (jlg 1))), (100, [], (jenc (jlg 2))), (100, [], (jenc (jlg 3))), (100, [], (jenc (jlg 4))), (100, [], (jenc (jlg 5)))]) (c1 := 0) (s1 := 0) (c2 := 80) (s2 := 4280) (by exact rfl) ?_ (by omega) (by omega)
  refine jT_xaload_n (v := (4, 0)) (pcN := 21) jIQ_299_20 rfl rfl rfl ?_
  refine jT_callB [0, 2, 3, 4, 5, 6, 7, 8, 9, 10, 11, 12, 13, 14, 15, 16, 17, 18, 19, 20, 21, 22] (y := 209) (pcN := 24) (dC := 6) (bc1 := 60) (bc2 := 3210) (c1 := 20) (c2 := 1070) (as := [(4, 0)]) (asC := [(4, 0)]) (LN := [(0, (4, 0)), (1, (0, r7)), (2, (0, r8)), (3, (0, o3)), (4, (4, 1))]) (stN := []) (hsC := [jzQ_20, jgh, jgh, jgh, jgh, jgh, (130, [], [16, 17, 18, 19, 20, 21]), (101, [], [0, r7, r8, 0, 0, 0]), jgh, jgh, jgh, jgh, jgh, jgh, jgh, jgh, (100, [], (jenc (jlg 0))), (100, [], (jenc (jlg 1))), (100, [], (jenc (jlg 2))), (100, [], (jenc (jlg 3))), (100, [], (jenc (jlg 4))), (100, [], (jenc (jlg 5)))]) (hsD := [jzQ_20, jgh, jgh, jgh, jgh, jgh, (130, [], [16, 17, 18, 19, 20, 21]), (101, [], [-(jkn r7 r8), r7, r8, 0, 0, 0]), jgh, jgh, jgh, jgh, jgh, jgh, jgh, jgh, (100, [], (jenc (jlg 0))), (100, [], (jenc (jlg 1))), (100, [], (jenc (jlg 2))), (100, [], (jenc (jlg 3))), (100, [], (jenc (jlg 4))), (100, [], (jenc (jlg 5)))]) (v := (1, jkn r7 r8)) (st2 := [(1, jkn r7 r8)]) (hs2 := [jzQ_371, jgh, (100, [], jS0), jgh, jgh, jgh, jgh, (130, [], [17, 18, 19, 20, 21, 22]), (101, [], [-(jkn r7 r8), r7, r8, 0, 0, 0]), jgh, jgh, jgh, jgh, jgh, jgh, jgh, jgh, (100, [], (jenc (jlg 0))), (100, [], (jenc (jlg 1))), (100, [], (jenc (jlg 2))), (100, [], (jenc (jlg 3))), (100, [], (jenc (jlg 4))), (100, [], (jenc (jlg 5)))]) (jQ_209_170 (d := 0) (by omega) (by omega) (by omega)) (by rfl) (by rfl) (by rfl) (by rfl) ⟨rfl, rfl, rfl, rfl, rfl, rfl, rfl, rfl, rfl, rfl, rfl, rfl, rfl, rfl, rfl, rfl, rfl, rfl, rfl, rfl, rfl, rfl, trivial⟩ (by rfl) (by rfl) (by omega) (by show 23 ≤ 23; omega) (by omega) (by omega) rfl rfl ?_
  have hb_q1 := jkn_b (b := r7) (c := r8) (by omega) (by omega)
  generalize hq_q1 : jkn r7 r8 = q1 at hb_q1 ⊢
  refine jT_eq (LN := [(0, (4, 0)), (1, (0, r7)), (2, (0, r8)), (3, (0, o3)), (4, (4, 1))]) (stN := [(1, q1)]) (hsN := [jzQ_371, jgh, (100, [], jS0), jgh, jgh, jgh, jgh, (130, [], [17, 18, 19, 20, 21, 22]), (101, [], [-q1, r7, r8, 0, 0, 0]), jgh, jgh, jgh, jgh, jgh, jgh, jgh, jgh, (100, [], (jenc (jlg 0))), (100, [], (jenc (jlg 1))), (100, [], (jenc (jlg 2))), (100, [], (jenc (jlg 3))), (100, [], (jenc (jlg 4))), (100, [], (jenc (jlg 5)))]) (rfl) (rfl) (by simp only [List.cons.injEq, Prod.mk.injEq, and_true, true_and] <;> ((try unfold jw); (try unfold jwl); omega)) ?_
  refine jT_xlstore (v := (1, q1)) (LN := [(5, (1, q1)), (0, (4, 0)), (1, (0, r7)), (2, (0, r8)), (3, (0, o3)), (4, (4, 1))]) (pcN := 26) jIQ_299_24 rfl rfl rfl rfl ?_
  have g_1 : 0 ≤ (jlz (-q1) r7 r8 0 0 0).sign := by rw [← hq_q1]; exact jkn_s (by omega) (by omega)
  refine jT_xlload (v := (1, q1)) (pcN := 28) jIQ_299_26 rfl rfl rfl ?_
  refine jT_xaload_n (v := (4, 0)) (pcN := 29) jIQ_299_28 rfl rfl rfl ?_
  refine jT_xgetf (a := 0) (t := 1) (ci := 14) (fi := 9) (c := jzQ_371) (v := (4, 8)) (pcN := 32) jIQ_299_29 rfl rfl rfl rfl rfl rfl rfl ?_
  refine jT_xiconst (k := 0) (pcN := 33) jIQ_299_32 rfl ?_
  refine jT_lald (x := -q1) (a := 8) (j := 0) (fs := []) (X := [-q1, r7, r8, 0, 0, 0]) jIQ_299_33 rfl rfl rfl rfl ?_
  refine jT_eq (LN := [(5, (1, q1)), (0, (4, 0)), (1, (0, r7)), (2, (0, r8)), (3, (0, o3)), (4, (4, 1))]) (stN := [(1, -q1), (1, q1)]) (hsN := [jzQ_371, jgh, (100, [], jS0), jgh, jgh, jgh, jgh, (130, [], [17, 18, 19, 20, 21, 22]), (101, [], [-q1, r7, r8, 0, 0, 0]), jgh, jgh, jgh, jgh, jgh, jgh, jgh, jgh, (100, [], (jenc (jlg 0))), (100, [], (jenc (jlg 1))), (100, [], (jenc (jlg 2))), (100, [], (jenc (jlg 3))), (100, [], (jenc (jlg 4))), (100, [], (jenc (jlg 5)))]) rfl rfl rfl ?_
  refine jT_adv 1 (pcN := 35) (LN := [(5, (1, q1)), (0, (4, 0)), (1, (0, r7)), (2, (0, r8)), (3, (0, o3)), (4, (4, 1))]) (stN := [(1, -(-q1)), (1, q1)]) (hsN := [jzQ_371, jgh, (100, [], jS0), jgh, jgh, jgh, jgh, (130, [], [17, 18, 19, 20, 21, 22]), (101, [], [-q1, r7, r8, 0, 0, 0]), jgh, jgh, jgh, jgh, jgh, jgh, jgh, jgh, (100, [], (jenc (jlg 0))), (100, [], (jenc (jlg 1))), (100, [], (jenc (jlg 2))), (100, [], (jenc (jlg 3))), (100, [], (jenc (jlg 4))), (100, [], (jenc (jlg 5)))]) (c1 := 0) (s1 := 0) (c2 := 20) (s2 := 1070) (by exact rfl) ?_ (by omega) (by omega)
  refine jT_eq (LN := [(5, (1, q1)), (0, (4, 0)), (1, (0, r7)), (2, (0, r8)), (3, (0, o3)), (4, (4, 1))]) (stN := [(1, q1), (1, q1)]) (hsN := [jzQ_371, jgh, (100, [], jS0), jgh, jgh, jgh, jgh, (130, [], [17, 18, 19, 20, 21, 22]), (101, [], [-q1, r7, r8, 0, 0, 0]), jgh, jgh, jgh, jgh, jgh, jgh, jgh, jgh, (100, [], (jenc (jlg 0))), (100, [], (jenc (jlg 1))), (100, [], (jenc (jlg 2))), (100, [], (jenc (jlg 3))), (100, [], (jenc (jlg 4))), (100, [], (jenc (jlg 5)))]) (rfl) (by simp only [List.cons.injEq, Prod.mk.injEq, and_true, true_and] <;> ((try unfold jw); (try unfold jwl); omega)) (rfl) ?_
  refine jT_lcmp (a := q1) (b := q1) (z := 0) (by rfl) (by rfl) (jwl_idd (by omega) (by omega)) (jwl_idd (by omega) (by omega)) (by rw [decide_eq_false (show ¬ ((q1 : Int) < q1) by omega), decide_eq_true (show (q1 : Int) = q1 by omega)]; rfl) ?_
  refine jT_xifF (t := 54) (pcN := 39) jIQ_299_36 rfl (by decide +kernel) rfl rfl ?_
  refine jT_xaload_n (v := (4, 0)) (pcN := 40) jIQ_299_39 rfl rfl rfl ?_
  refine jT_xaload_n (v := (4, 0)) (pcN := 41) jIQ_299_40 rfl rfl rfl ?_
  refine jT_xgetf (a := 0) (t := 1) (ci := 14) (fi := 1) (c := jzQ_371) (v := (4, 2)) (pcN := 44) jIQ_299_41 rfl rfl rfl rfl rfl rfl rfl ?_
  refine jT_xbipush (k := 7) (pcN := 46) jIQ_299_44 (by decide) rfl ?_
  refine jT_xiload_n (v := (0, o3)) (pcN := 47) jIQ_299_46 rfl rfl rfl ?_
  refine jT_ximul (x := 7) (y := o3) (z := 7 * o3) (pcN := 48) jIQ_299_47 rfl (rfl) rfl ?_
  refine jT_callA [0, 2, 3, 4, 5, 6, 7, 8, 9, 10, 11, 12, 13, 14, 15, 16, 17, 18, 19, 20, 21, 22] (y := 240) (pcN := 51) (dC := 4) (bc1 := 20) (bc2 := 1070) (c1 := 0) (c2 := 0) (as := [(4, 0), (4, 2), (0, 7 * o3)]) (asC := [(4, 0), (4, 1), (0, 7 * o3)]) (LN := [(5, (1, q1)), (0, (4, 0)), (1, (0, r7)), (2, (0, r8)), (3, (0, o3)), (4, (4, 1))]) (stN := []) (hsC := [jzQ_20, (100, [], jS0), jgh, jgh, jgh, jgh, (130, [], [16, 17, 18, 19, 20, 21]), (101, [], [-q1, r7, r8, 0, 0, 0]), jgh, jgh, jgh, jgh, jgh, jgh, jgh, jgh, (100, [], (jenc (jlg 0))), (100, [], (jenc (jlg 1))), (100, [], (jenc (jlg 2))), (100, [], (jenc (jlg 3))), (100, [], (jenc (jlg 4))), (100, [], (jenc (jlg 5)))]) (ex := [(101, [], [-q1, r7, r8, 0, 0, 0])]) (v := (0, (jlz (-q1) r7 r8 0 0 0).sign)) (st2 := [(0, (jlz (-q1) r7 r8 0 0 0).sign)]) (hs2 := [jzQ_371, jgh, (100, [], jS0), jgh, jgh, jgh, jgh, (130, [], [17, 18, 19, 20, 21, 22]), (101, [], [-q1, r7, r8, 0, 0, 0]), jgh, jgh, jgh, jgh, jgh, jgh, jgh, jgh, (100, [], (jenc (jlg 0))), (100, [], (jenc (jlg 1))), (100, [], (jenc (jlg 2))), (100, [], (jenc (jlg 3))), (100, [], (jenc (jlg 4))), (100, [], (jenc (jlg 5))), (101, [], [-q1, r7, r8, 0, 0, 0])]) (jQ_240_171 (d := 0) (by omega) (by omega) (by omega) (by omega) (by omega) (by omega)) (by rfl) (by rfl) (by rfl) (by rfl) ⟨rfl, rfl, rfl, rfl, rfl, rfl, rfl, rfl, rfl, rfl, rfl, rfl, rfl, rfl, rfl, rfl, rfl, rfl, rfl, rfl, rfl, rfl, trivial⟩ (by rfl) (by rfl) (by omega) (by show 23 ≤ 23; omega) (by omega) (by omega) rfl rfl ?_
  have hb_q2 := jsgn_b (jlz (-q1) r7 r8 0 0 0)
  generalize hq_q2 : (jlz (-q1) r7 r8 0 0 0).sign = q2 at hb_q2 g_1 ⊢
  refine jT_ifF (a := q2) (t := 56) (by rfl) (by rfl) (by rfl) (jw_idd (by omega) (by omega)) (by simp only [jcP] <;> omega) ?_
  refine jT_xiconst (k := 0) (pcN := 55) jIQ_299_54 rfl ?_
  subst hq_q2
  subst hq_q1
  exact jT_ret rfl (by decide) (by show 23 ≤ 24; omega) (by omega) (by omega) ⟨rfl, rfl, rfl⟩
theorem jQ_299_184 {xs : List Int} {d : Nat} {o3 r7 r8 u7_0 u7_1 u7_2 u7_3 u7_4 u7_5 : Int} (h_o3 : 0 ≤ o3 ∧ o3 ≤ 7) (h_r7 : (-20) ≤ r7 ∧ r7 ≤ 20) (h_r8 : (-10) ≤ r8 ∧ r8 ≤ 10) (g_0 : 0 ≤ r7) (g_1 : r7 ≤ 0) (g_2 : 0 < r8) : jT xs (d + 7) 299 23 0 [(0, (4, 0)), (1, (0, r7)), (2, (0, r8)), (3, (0, o3)), (4, (4, 1))] [] [jzQ_371, jgh, (100, [], jS0), jgh, jgh, jgh, jgh, (130, [], [17, 18, 19, 20, 21, 22]), (101, [], [u7_0, u7_1, u7_2, u7_3, u7_4, u7_5]), jgh, jgh, jgh, jgh, jgh, jgh, jgh, jgh, (100, [], (jenc (jlg 0))), (100, [], (jenc (jlg 1))), (100, [], (jenc (jlg 2))), (100, [], (jenc (jlg 3))), (100, [], (jenc (jlg 4))), (100, [], (jenc (jlg 5)))] 80 4280 (fun k v hsN => k = 0 ∧ v = (0, 0) ∧ hsN = [jzQ_371, jgh, (100, [], jS0), jgh, jgh, jgh, jgh, (130, [], [17, 18, 19, 20, 21, 22]), (101, [], [-(jkn r7 r8), r7, r8, 0, 0, 0]), jgh, jgh, jgh, jgh, jgh, jgh, jgh, jgh, (100, [], (jenc (jlg 0))), (100, [], (jenc (jlg 1))), (100, [], (jenc (jlg 2))), (100, [], (jenc (jlg 3))), (100, [], (jenc (jlg 4))), (100, [], (jenc (jlg 5))), (101, [], [-(jkn r7 r8), r7, r8, 0, 0, 0])]) := by
  refine jT_xaload_n (v := (4, 0)) (pcN := 1) jIQ_299_0 rfl rfl rfl ?_
  refine jT_callB [0, 2, 3, 4, 5, 6, 7, 8, 9, 10, 11, 12, 13, 14, 15, 16] (y := 193) (pcN := 4) (dC := 0) (bc1 := 0) (bc2 := 0) (c1 := 80) (c2 := 4280) (as := [(4, 0)]) (asC := [(4, 0)]) (LN := [(0, (4, 0)), (1, (0, r7)), (2, (0, r8)), (3, (0, o3)), (4, (4, 1))]) (stN := []) (hsC := [jzQ_20, jgh, jgh, jgh, jgh, jgh, jgh, (101, [], [u7_0, u7_1, u7_2, u7_3, u7_4, u7_5]), jgh, jgh, jgh, jgh, jgh, jgh, jgh, jgh]) (hsD := jpQ_394) (v := (9, 0)) (st2 := []) (hs2 := jpQ_546) (jQ_193_182 (d := 0)) (by rfl) (by rfl) (by rfl) (by rfl) ⟨rfl, rfl, rfl, rfl, rfl, rfl, rfl, rfl, rfl, rfl, rfl, rfl, rfl, rfl, rfl, rfl, trivial⟩ (by rfl) (by rfl) (by omega) (by show 23 ≤ 23; omega) (by omega) (by omega) rfl rfl ?_
  refine jT_xaload_n (v := (4, 0)) (pcN := 5) jIQ_299_4 rfl rfl rfl ?_
  refine jT_xgetf (a := 0) (t := 1) (ci := 14) (fi := 9) (c := jzQ_371) (v := (4, 8)) (pcN := 8) jIQ_299_5 rfl rfl rfl rfl rfl rfl rfl ?_
  refine jT_xiconst (k := 1) (pcN := 9) jIQ_299_8 rfl ?_
  refine jT_xiload_n (v := (0, r7)) (pcN := 10) jIQ_299_9 rfl rfl rfl ?_
  refine jT_xi2l (x := r7) (z := r7) (pcN := 11) jIQ_299_10 rfl (jw_idd (by omega) (by omega)) rfl ?_
  refine jT_adv 1 (pcN := 12) (LN := [(0, (4, 0)), (1, (0, r7)), (2, (0, r8)), (3, (0, o3)), (4, (4, 1))]) (stN := []) (hsN := [jzQ_371, jgh, (100, [], jS0), jgh, jgh, jgh, jgh, (130, [], [17, 18, 19, 20, 21, 22]), (101, [], [0, r7, 0, 0, 0, 0]), jgh, jgh, jgh, jgh, jgh, jgh, jgh, jgh, (100, [], (jenc (jlg 0))), (100, [], (jenc (jlg 1))), (100, [], (jenc (jlg 2))), (100, [], (jenc (jlg 3))), (100, [], (jenc (jlg 4))), (100, [], (jenc (jlg 5)))]) (c1 := 0) (s1 := 0) (c2 := 80) (s2 := 4280) (by exact rfl) ?_ (by omega) (by omega)
  refine jT_xaload_n (v := (4, 0)) (pcN := 13) jIQ_299_12 rfl rfl rfl ?_
  refine jT_xgetf (a := 0) (t := 1) (ci := 14) (fi := 9) (c := jzQ_371) (v := (4, 8)) (pcN := 16) jIQ_299_13 rfl rfl rfl rfl rfl rfl rfl ?_
  refine jT_xiconst (k := 2) (pcN := 17) jIQ_299_16 rfl ?_
  refine jT_xiload_n (v := (0, r8)) (pcN := 18) jIQ_299_17 rfl rfl rfl ?_
  refine jT_xi2l (x := r8) (z := r8) (pcN := 19) jIQ_299_18 rfl (jw_idd (by omega) (by omega)) rfl ?_
  refine jT_adv 1 (pcN := 20) (LN := [(0, (4, 0)), (1, (0, r7)), (2, (0, r8)), (3, (0, o3)), (4, (4, 1))]) (stN := []) (hsN := [jzQ_371, jgh, (100, [], jS0), jgh, jgh, jgh, jgh, (130, [], [17, 18, 19, 20, 21, 22]), (101, [], [0, r7, r8, 0, 0, 0]), jgh, jgh, jgh, jgh, jgh, jgh, jgh, jgh, (100, [], (jenc (jlg 0))), (100, [], (jenc (jlg 1))), (100, [], (jenc (jlg 2))), (100, [], (jenc (jlg 3))), (100, [], (jenc (jlg 4))), (100, [], (jenc (jlg 5)))]) (c1 := 0) (s1 := 0) (c2 := 80) (s2 := 4280) (by exact rfl) ?_ (by omega) (by omega)
  refine jT_xaload_n (v := (4, 0)) (pcN := 21) jIQ_299_20 rfl rfl rfl ?_
  refine jT_callB [0, 2, 3, 4, 5, 6, 7, 8, 9, 10, 11, 12, 13, 14, 15, 16, 17, 18, 19, 20, 21, 22] (y := 209) (pcN := 24) (dC := 6) (bc1 := 60) (bc2 := 3210) (c1 := 20) (c2 := 1070) (as := [(4, 0)]) (asC := [(4, 0)]) (LN := [(0, (4, 0)), (1, (0, r7)), (2, (0, r8)), (3, (0, o3)), (4, (4, 1))]) (stN := []) (hsC := [jzQ_20, jgh, jgh, jgh, jgh, jgh, (130, [], [16, 17, 18, 19, 20, 21]), (101, [], [0, r7, r8, 0, 0, 0]), jgh, jgh, jgh, jgh, jgh, jgh, jgh, jgh, (100, [], (jenc (jlg 0))), (100, [], (jenc (jlg 1))), (100, [], (jenc (jlg 2))), (100, [], (jenc (jlg 3))), (100, [], (jenc (jlg 4))), (100, [], (jenc (jlg 5)))]) (hsD := [jzQ_20, jgh, jgh, jgh, jgh, jgh, (130, [], [16, 17, 18, 19, 20, 21]), (101, [], [-(jkn r7 r8), r7, r8, 0, 0, 0]), jgh, jgh, jgh, jgh, jgh, jgh, jgh, jgh, (100, [], (jenc (jlg 0))), (100, [], (jenc (jlg 1))), (100, [], (jenc (jlg 2))), (100, [], (jenc (jlg 3))), (100, [], (jenc (jlg 4))), (100, [], (jenc (jlg 5)))]) (v := (1, jkn r7 r8)) (st2 := [(1, jkn r7 r8)]) (hs2 := [jzQ_371, jgh, (100, [], jS0), jgh, jgh, jgh, jgh, (130, [], [17, 18, 19, 20, 21, 22]), (101, [], [-(jkn r7 r8), r7, r8, 0, 0, 0]), jgh, jgh, jgh, jgh, jgh, jgh, jgh, jgh, (100, [], (jenc (jlg 0))), (100, [], (jenc (jlg 1))), (100, [], (jenc (jlg 2))), (100, [], (jenc (jlg 3))), (100, [], (jenc (jlg 4))), (100, [], (jenc (jlg 5)))]) (jQ_209_173 (d := 0) (by omega) (by omega) (by omega) (by omega) (by omega)) (by rfl) (by rfl) (by rfl) (by rfl) ⟨rfl, rfl, rfl, rfl, rfl, rfl, rfl, rfl, rfl, rfl, rfl, rfl, rfl, rfl, rfl, rfl, rfl, rfl, rfl, rfl, rfl, rfl, trivial⟩ (by rfl) (by rfl) (by omega) (by show 23 ≤ 23; omega) (by omega) (by omega) rfl rfl ?_
  have hb_q1 := jkn_b (b := r7) (c := r8) (by omega) (by omega)
  generalize hq_q1 : jkn r7 r8 = q1 at hb_q1 ⊢
  refine jT_eq (LN := [(0, (4, 0)), (1, (0, r7)), (2, (0, r8)), (3, (0, o3)), (4, (4, 1))]) (stN := [(1, q1)]) (hsN := [jzQ_371, jgh, (100, [], jS0), jgh, jgh, jgh, jgh, (130, [], [17, 18, 19, 20, 21, 22]), (101, [], [-q1, r7, r8, 0, 0, 0]), jgh, jgh, jgh, jgh, jgh, jgh, jgh, jgh, (100, [], (jenc (jlg 0))), (100, [], (jenc (jlg 1))), (100, [], (jenc (jlg 2))), (100, [], (jenc (jlg 3))), (100, [], (jenc (jlg 4))), (100, [], (jenc (jlg 5)))]) (rfl) (rfl) (by simp only [List.cons.injEq, Prod.mk.injEq, and_true, true_and] <;> ((try unfold jw); (try unfold jwl); omega)) ?_
  refine jT_xlstore (v := (1, q1)) (LN := [(5, (1, q1)), (0, (4, 0)), (1, (0, r7)), (2, (0, r8)), (3, (0, o3)), (4, (4, 1))]) (pcN := 26) jIQ_299_24 rfl rfl rfl rfl ?_
  have g_3 : 0 ≤ (jlz (-q1) r7 r8 0 0 0).sign := by rw [← hq_q1]; exact jkn_s (by omega) (by omega)
  refine jT_xlload (v := (1, q1)) (pcN := 28) jIQ_299_26 rfl rfl rfl ?_
  refine jT_xaload_n (v := (4, 0)) (pcN := 29) jIQ_299_28 rfl rfl rfl ?_
  refine jT_xgetf (a := 0) (t := 1) (ci := 14) (fi := 9) (c := jzQ_371) (v := (4, 8)) (pcN := 32) jIQ_299_29 rfl rfl rfl rfl rfl rfl rfl ?_
  refine jT_xiconst (k := 0) (pcN := 33) jIQ_299_32 rfl ?_
  refine jT_lald (x := -q1) (a := 8) (j := 0) (fs := []) (X := [-q1, r7, r8, 0, 0, 0]) jIQ_299_33 rfl rfl rfl rfl ?_
  refine jT_eq (LN := [(5, (1, q1)), (0, (4, 0)), (1, (0, r7)), (2, (0, r8)), (3, (0, o3)), (4, (4, 1))]) (stN := [(1, -q1), (1, q1)]) (hsN := [jzQ_371, jgh, (100, [], jS0), jgh, jgh, jgh, jgh, (130, [], [17, 18, 19, 20, 21, 22]), (101, [], [-q1, r7, r8, 0, 0, 0]), jgh, jgh, jgh, jgh, jgh, jgh, jgh, jgh, (100, [], (jenc (jlg 0))), (100, [], (jenc (jlg 1))), (100, [], (jenc (jlg 2))), (100, [], (jenc (jlg 3))), (100, [], (jenc (jlg 4))), (100, [], (jenc (jlg 5)))]) rfl rfl rfl ?_
  refine jT_adv 1 (pcN := 35) (LN := [(5, (1, q1)), (0, (4, 0)), (1, (0, r7)), (2, (0, r8)), (3, (0, o3)), (4, (4, 1))]) (stN := [(1, -(-q1)), (1, q1)]) (hsN := [jzQ_371, jgh, (100, [], jS0), jgh, jgh, jgh, jgh, (130, [], [17, 18, 19, 20, 21, 22]), (101, [], [-q1, r7, r8, 0, 0, 0]), jgh, jgh, jgh, jgh, jgh, jgh, jgh, jgh, (100, [], (jenc (jlg 0))), (100, [], (jenc (jlg 1))), (100, [], (jenc (jlg 2))), (100, [], (jenc (jlg 3))), (100, [], (jenc (jlg 4))), (100, [], (jenc (jlg 5)))]) (c1 := 0) (s1 := 0) (c2 := 20) (s2 := 1070) (by exact rfl) ?_ (by omega) (by omega)
  refine jT_eq (LN := [(5, (1, q1)), (0, (4, 0)), (1, (0, r7)), (2, (0, r8)), (3, (0, o3)), (4, (4, 1))]) (stN := [(1, q1), (1, q1)]) (hsN := [jzQ_371, jgh, (100, [], jS0), jgh, jgh, jgh, jgh, (130, [], [17, 18, 19, 20, 21, 22]), (101, [], [-q1, r7, r8, 0, 0, 0]), jgh, jgh, jgh, jgh, jgh, jgh, jgh, jgh, (100, [], (jenc (jlg 0))), (100, [], (jenc (jlg 1))), (100, [], (jenc (jlg 2))), (100, [], (jenc (jlg 3))), (100, [], (jenc (jlg 4))), (100, [], (jenc (jlg 5)))]) (rfl) (by simp only [List.cons.injEq, Prod.mk.injEq, and_true, true_and] <;> ((try unfold jw); (try unfold jwl); omega)) (rfl) ?_
  refine jT_lcmp (a := q1) (b := q1) (z := 0) (by rfl) (by rfl) (jwl_idd (by omega) (by omega)) (jwl_idd (by omega) (by omega)) (by rw [decide_eq_false (show ¬ ((q1 : Int) < q1) by omega), decide_eq_true (show (q1 : Int) = q1 by omega)]; rfl) ?_
  refine jT_xifF (t := 54) (pcN := 39) jIQ_299_36 rfl (by decide +kernel) rfl rfl ?_
  refine jT_xaload_n (v := (4, 0)) (pcN := 40) jIQ_299_39 rfl rfl rfl ?_
  refine jT_xaload_n (v := (4, 0)) (pcN := 41) jIQ_299_40 rfl rfl rfl ?_
  refine jT_xgetf (a := 0) (t := 1) (ci := 14) (fi := 1) (c := jzQ_371) (v := (4, 2)) (pcN := 44) jIQ_299_41 rfl rfl rfl rfl rfl rfl rfl ?_
  refine jT_xbipush (k := 7) (pcN := 46) jIQ_299_44 (by decide) rfl ?_
  refine jT_xiload_n (v := (0, o3)) (pcN := 47) jIQ_299_46 rfl rfl rfl ?_
  refine jT_ximul (x := 7) (y := o3) (z := 7 * o3) (pcN := 48) jIQ_299_47 rfl (rfl) rfl ?_
  refine jT_callA [0, 2, 3, 4, 5, 6, 7, 8, 9, 10, 11, 12, 13, 14, 15, 16, 17, 18, 19, 20, 21, 22] (y := 240) (pcN := 51) (dC := 4) (bc1 := 20) (bc2 := 1070) (c1 := 0) (c2 := 0) (as := [(4, 0), (4, 2), (0, 7 * o3)]) (asC := [(4, 0), (4, 1), (0, 7 * o3)]) (LN := [(5, (1, q1)), (0, (4, 0)), (1, (0, r7)), (2, (0, r8)), (3, (0, o3)), (4, (4, 1))]) (stN := []) (hsC := [jzQ_20, (100, [], jS0), jgh, jgh, jgh, jgh, (130, [], [16, 17, 18, 19, 20, 21]), (101, [], [-q1, r7, r8, 0, 0, 0]), jgh, jgh, jgh, jgh, jgh, jgh, jgh, jgh, (100, [], (jenc (jlg 0))), (100, [], (jenc (jlg 1))), (100, [], (jenc (jlg 2))), (100, [], (jenc (jlg 3))), (100, [], (jenc (jlg 4))), (100, [], (jenc (jlg 5)))]) (ex := [(101, [], [-q1, r7, r8, 0, 0, 0])]) (v := (0, (jlz (-q1) r7 r8 0 0 0).sign)) (st2 := [(0, (jlz (-q1) r7 r8 0 0 0).sign)]) (hs2 := [jzQ_371, jgh, (100, [], jS0), jgh, jgh, jgh, jgh, (130, [], [17, 18, 19, 20, 21, 22]), (101, [], [-q1, r7, r8, 0, 0, 0]), jgh, jgh, jgh, jgh, jgh, jgh, jgh, jgh, (100, [], (jenc (jlg 0))), (100, [], (jenc (jlg 1))), (100, [], (jenc (jlg 2))), (100, [], (jenc (jlg 3))), (100, [], (jenc (jlg 4))), (100, [], (jenc (jlg 5))), (101, [], [-q1, r7, r8, 0, 0, 0])]) (jQ_240_174 (d := 0) (by omega) (by omega) (by omega) (by omega) (by omega) (by omega) (by omega) (by omega)) (by rfl) (by rfl) (by rfl) (by rfl) ⟨rfl, rfl, rfl, rfl, rfl, rfl, rfl, rfl, rfl, rfl, rfl, rfl, rfl, rfl, rfl, rfl, rfl, rfl, rfl, rfl, rfl, rfl, trivial⟩ (by rfl) (by rfl) (by omega) (by show 23 ≤ 23; omega) (by omega) (by omega) rfl rfl ?_
  have hb_q2 := jsgn_b (jlz (-q1) r7 r8 0 0 0)
  generalize hq_q2 : (jlz (-q1) r7 r8 0 0 0).sign = q2 at hb_q2 g_3 ⊢
  refine jT_ifF (a := q2) (t := 56) (by rfl) (by rfl) (by rfl) (jw_idd (by omega) (by omega)) (by simp only [jcP] <;> omega) ?_
  refine jT_xiconst (k := 0) (pcN := 55) jIQ_299_54 rfl ?_
  subst hq_q2
  subst hq_q1
  exact jT_ret rfl (by decide) (by show 23 ≤ 24; omega) (by omega) (by omega) ⟨rfl, rfl, rfl⟩
theorem jQ_299_185 {xs : List Int} {d : Nat} {o3 r7 r8 u7_0 u7_1 u7_2 u7_3 u7_4 u7_5 : Int} (h_o3 : 0 ≤ o3 ∧ o3 ≤ 7) (h_r7 : (-20) ≤ r7 ∧ r7 ≤ 20) (h_r8 : (-10) ≤ r8 ∧ r8 ≤ 10) (g_0 : 0 ≤ r7) (g_1 : r7 ≤ 0) (g_2 : r8 < 0) : jT xs (d + 7) 299 23 0 [(0, (4, 0)), (1, (0, r7)), (2, (0, r8)), (3, (0, o3)), (4, (4, 1))] [] [jzQ_371, jgh, (100, [], jS0), jgh, jgh, jgh, jgh, (130, [], [17, 18, 19, 20, 21, 22]), (101, [], [u7_0, u7_1, u7_2, u7_3, u7_4, u7_5]), jgh, jgh, jgh, jgh, jgh, jgh, jgh, jgh, (100, [], (jenc (jlg 0))), (100, [], (jenc (jlg 1))), (100, [], (jenc (jlg 2))), (100, [], (jenc (jlg 3))), (100, [], (jenc (jlg 4))), (100, [], (jenc (jlg 5)))] 80 4280 (fun k v hsN => k = 0 ∧ v = (0, 0) ∧ hsN = [jzQ_371, jgh, (100, [], jS0), jgh, jgh, jgh, jgh, (130, [], [17, 18, 19, 20, 21, 22]), (101, [], [-(jkn r7 r8), r7, r8, 0, 0, 0]), jgh, jgh, jgh, jgh, jgh, jgh, jgh, jgh, (100, [], (jenc (jlg 0))), (100, [], (jenc (jlg 1))), (100, [], (jenc (jlg 2))), (100, [], (jenc (jlg 3))), (100, [], (jenc (jlg 4))), (100, [], (jenc (jlg 5))), (101, [], [-(jkn r7 r8), r7, r8, 0, 0, 0])]) := by
  refine jT_xaload_n (v := (4, 0)) (pcN := 1) jIQ_299_0 rfl rfl rfl ?_
  refine jT_callB [0, 2, 3, 4, 5, 6, 7, 8, 9, 10, 11, 12, 13, 14, 15, 16] (y := 193) (pcN := 4) (dC := 0) (bc1 := 0) (bc2 := 0) (c1 := 80) (c2 := 4280) (as := [(4, 0)]) (asC := [(4, 0)]) (LN := [(0, (4, 0)), (1, (0, r7)), (2, (0, r8)), (3, (0, o3)), (4, (4, 1))]) (stN := []) (hsC := [jzQ_20, jgh, jgh, jgh, jgh, jgh, jgh, (101, [], [u7_0, u7_1, u7_2, u7_3, u7_4, u7_5]), jgh, jgh, jgh, jgh, jgh, jgh, jgh, jgh]) (hsD := jpQ_394) (v := (9, 0)) (st2 := []) (hs2 := jpQ_546) (jQ_193_182 (d := 0)) (by rfl) (by rfl) (by rfl) (by rfl) ⟨rfl, rfl, rfl, rfl, rfl, rfl, rfl, rfl, rfl, rfl, rfl, rfl, rfl, rfl, rfl, rfl, trivial⟩ (by rfl) (by rfl) (by omega) (by show 23 ≤ 23; omega) (by omega) (by omega) rfl rfl ?_
  refine jT_xaload_n (v := (4, 0)) (pcN := 5) jIQ_299_4 rfl rfl rfl ?_
  refine jT_xgetf (a := 0) (t := 1) (ci := 14) (fi := 9) (c := jzQ_371) (v := (4, 8)) (pcN := 8) jIQ_299_5 rfl rfl rfl rfl rfl rfl rfl ?_
  refine jT_xiconst (k := 1) (pcN := 9) jIQ_299_8 rfl ?_
  refine jT_xiload_n (v := (0, r7)) (pcN := 10) jIQ_299_9 rfl rfl rfl ?_
  refine jT_xi2l (x := r7) (z := r7) (pcN := 11) jIQ_299_10 rfl (jw_idd (by omega) (by omega)) rfl ?_
  refine jT_adv 1 (pcN := 12) (LN := [(0, (4, 0)), (1, (0, r7)), (2, (0, r8)), (3, (0, o3)), (4, (4, 1))]) (stN := []) (hsN := [jzQ_371, jgh, (100, [], jS0), jgh, jgh, jgh, jgh, (130, [], [17, 18, 19, 20, 21, 22]), (101, [], [0, r7, 0, 0, 0, 0]), jgh, jgh, jgh, jgh, jgh, jgh, jgh, jgh, (100, [], (jenc (jlg 0))), (100, [], (jenc (jlg 1))), (100, [], (jenc (jlg 2))), (100, [], (jenc (jlg 3))), (100, [], (jenc (jlg 4))), (100, [], (jenc (jlg 5)))]) (c1 := 0) (s1 := 0) (c2 := 80) (s2 := 4280) (by exact rfl) ?_ (by omega) (by omega)
  refine jT_xaload_n (v := (4, 0)) (pcN := 13) jIQ_299_12 rfl rfl rfl ?_
  refine jT_xgetf (a := 0) (t := 1) (ci := 14) (fi := 9) (c := jzQ_371) (v := (4, 8)) (pcN := 16) jIQ_299_13 rfl rfl rfl rfl rfl rfl rfl ?_
  refine jT_xiconst (k := 2) (pcN := 17) jIQ_299_16 rfl ?_
  refine jT_xiload_n (v := (0, r8)) (pcN := 18) jIQ_299_17 rfl rfl rfl ?_
  refine jT_xi2l (x := r8) (z := r8) (pcN := 19) jIQ_299_18 rfl (jw_idd (by omega) (by omega)) rfl ?_
  refine jT_adv 1 (pcN := 20) (LN := [(0, (4, 0)), (1, (0, r7)), (2, (0, r8)), (3, (0, o3)), (4, (4, 1))]) (stN := []) (hsN := [jzQ_371, jgh, (100, [], jS0), jgh, jgh, jgh, jgh, (130, [], [17, 18, 19, 20, 21, 22]), (101, [], [0, r7, r8, 0, 0, 0]), jgh, jgh, jgh, jgh, jgh, jgh, jgh, jgh, (100, [], (jenc (jlg 0))), (100, [], (jenc (jlg 1))), (100, [], (jenc (jlg 2))), (100, [], (jenc (jlg 3))), (100, [], (jenc (jlg 4))), (100, [], (jenc (jlg 5)))]) (c1 := 0) (s1 := 0) (c2 := 80) (s2 := 4280) (by exact rfl) ?_ (by omega) (by omega)
  refine jT_xaload_n (v := (4, 0)) (pcN := 21) jIQ_299_20 rfl rfl rfl ?_
  refine jT_callB [0, 2, 3, 4, 5, 6, 7, 8, 9, 10, 11, 12, 13, 14, 15, 16, 17, 18, 19, 20, 21, 22] (y := 209) (pcN := 24) (dC := 6) (bc1 := 60) (bc2 := 3210) (c1 := 20) (c2 := 1070) (as := [(4, 0)]) (asC := [(4, 0)]) (LN := [(0, (4, 0)), (1, (0, r7)), (2, (0, r8)), (3, (0, o3)), (4, (4, 1))]) (stN := []) (hsC := [jzQ_20, jgh, jgh, jgh, jgh, jgh, (130, [], [16, 17, 18, 19, 20, 21]), (101, [], [0, r7, r8, 0, 0, 0]), jgh, jgh, jgh, jgh, jgh, jgh, jgh, jgh, (100, [], (jenc (jlg 0))), (100, [], (jenc (jlg 1))), (100, [], (jenc (jlg 2))), (100, [], (jenc (jlg 3))), (100, [], (jenc (jlg 4))), (100, [], (jenc (jlg 5)))]) (hsD := [jzQ_20, jgh, jgh, jgh, jgh, jgh, (130, [], [16, 17, 18, 19, 20, 21]), (101, [], [-(jkn r7 r8), r7, r8, 0, 0, 0]), jgh, jgh, jgh, jgh, jgh, jgh, jgh, jgh, (100, [], (jenc (jlg 0))), (100, [], (jenc (jlg 1))), (100, [], (jenc (jlg 2))), (100, [], (jenc (jlg 3))), (100, [], (jenc (jlg 4))), (100, [], (jenc (jlg 5)))]) (v := (1, jkn r7 r8)) (st2 := [(1, jkn r7 r8)]) (hs2 := [jzQ_371, jgh, (100, [], jS0), jgh, jgh, jgh, jgh, (130, [], [17, 18, 19, 20, 21, 22]), (101, [], [-(jkn r7 r8), r7, r8, 0, 0, 0]), jgh, jgh, jgh, jgh, jgh, jgh, jgh, jgh, (100, [], (jenc (jlg 0))), (100, [], (jenc (jlg 1))), (100, [], (jenc (jlg 2))), (100, [], (jenc (jlg 3))), (100, [], (jenc (jlg 4))), (100, [], (jenc (jlg 5)))]) (jQ_209_176 (d := 0) (by omega) (by omega) (by omega) (by omega) (by omega)) (by rfl) (by rfl) (by rfl) (by rfl) ⟨rfl, rfl, rfl, rfl, rfl, rfl, rfl, rfl, rfl, rfl, rfl, rfl, rfl, rfl, rfl, rfl, rfl, rfl, rfl, rfl, rfl, rfl, trivial⟩ (by rfl) (by rfl) (by omega) (by show 23 ≤ 23; omega) (by omega) (by omega) rfl rfl ?_
  have hb_q1 := jkn_b (b := r7) (c := r8) (by omega) (by omega)
  generalize hq_q1 : jkn r7 r8 = q1 at hb_q1 ⊢
  refine jT_eq (LN := [(0, (4, 0)), (1, (0, r7)), (2, (0, r8)), (3, (0, o3)), (4, (4, 1))]) (stN := [(1, q1)]) (hsN := [jzQ_371, jgh, (100, [], jS0), jgh, jgh, jgh, jgh, (130, [], [17, 18, 19, 20, 21, 22]), (101, [], [-q1, r7, r8, 0, 0, 0]), jgh, jgh, jgh, jgh, jgh, jgh, jgh, jgh, (100, [], (jenc (jlg 0))), (100, [], (jenc (jlg 1))), (100, [], (jenc (jlg 2))), (100, [], (jenc (jlg 3))), (100, [], (jenc (jlg 4))), (100, [], (jenc (jlg 5)))]) (rfl) (rfl) (by simp only [List.cons.injEq, Prod.mk.injEq, and_true, true_and] <;> ((try unfold jw); (try unfold jwl); omega)) ?_
  refine jT_xlstore (v := (1, q1)) (LN := [(5, (1, q1)), (0, (4, 0)), (1, (0, r7)), (2, (0, r8)), (3, (0, o3)), (4, (4, 1))]) (pcN := 26) jIQ_299_24 rfl rfl rfl rfl ?_
  have g_3 : 0 ≤ (jlz (-q1) r7 r8 0 0 0).sign := by rw [← hq_q1]; exact jkn_s (by omega) (by omega)
  refine jT_xlload (v := (1, q1)) (pcN := 28) jIQ_299_26 rfl rfl rfl ?_
  refine jT_xaload_n (v := (4, 0)) (pcN := 29) jIQ_299_28 rfl rfl rfl ?_
  refine jT_xgetf (a := 0) (t := 1) (ci := 14) (fi := 9) (c := jzQ_371) (v := (4, 8)) (pcN := 32) jIQ_299_29 rfl rfl rfl rfl rfl rfl rfl ?_
  refine jT_xiconst (k := 0) (pcN := 33) jIQ_299_32 rfl ?_
  refine jT_lald (x := -q1) (a := 8) (j := 0) (fs := []) (X := [-q1, r7, r8, 0, 0, 0]) jIQ_299_33 rfl rfl rfl rfl ?_
  refine jT_eq (LN := [(5, (1, q1)), (0, (4, 0)), (1, (0, r7)), (2, (0, r8)), (3, (0, o3)), (4, (4, 1))]) (stN := [(1, -q1), (1, q1)]) (hsN := [jzQ_371, jgh, (100, [], jS0), jgh, jgh, jgh, jgh, (130, [], [17, 18, 19, 20, 21, 22]), (101, [], [-q1, r7, r8, 0, 0, 0]), jgh, jgh, jgh, jgh, jgh, jgh, jgh, jgh, (100, [], (jenc (jlg 0))), (100, [], (jenc (jlg 1))), (100, [], (jenc (jlg 2))), (100, [], (jenc (jlg 3))), (100, [], (jenc (jlg 4))), (100, [], (jenc (jlg 5)))]) rfl rfl rfl ?_
  refine jT_adv 1 (pcN := 35) (LN := [(5, (1, q1)), (0, (4, 0)), (1, (0, r7)), (2, (0, r8)), (3, (0, o3)), (4, (4, 1))]) (stN := [(1, -(-q1)), (1, q1)]) (hsN := [jzQ_371, jgh, (100, [], jS0), jgh, jgh, jgh, jgh, (130, [], [17, 18, 19, 20, 21, 22]), (101, [], [-q1, r7, r8, 0, 0, 0]), jgh, jgh, jgh, jgh, jgh, jgh, jgh, jgh, (100, [], (jenc (jlg 0))), (100, [], (jenc (jlg 1))), (100, [], (jenc (jlg 2))), (100, [], (jenc (jlg 3))), (100, [], (jenc (jlg 4))), (100, [], (jenc (jlg 5)))]) (c1 := 0) (s1 := 0) (c2 := 20) (s2 := 1070) (by exact rfl) ?_ (by omega) (by omega)
  refine jT_eq (LN := [(5, (1, q1)), (0, (4, 0)), (1, (0, r7)), (2, (0, r8)), (3, (0, o3)), (4, (4, 1))]) (stN := [(1, q1), (1, q1)]) (hsN := [jzQ_371, jgh, (100, [], jS0), jgh, jgh, jgh, jgh, (130, [], [17, 18, 19, 20, 21, 22]), (101, [], [-q1, r7, r8, 0, 0, 0]), jgh, jgh, jgh, jgh, jgh, jgh, jgh, jgh, (100, [], (jenc (jlg 0))), (100, [], (jenc (jlg 1))), (100, [], (jenc (jlg 2))), (100, [], (jenc (jlg 3))), (100, [], (jenc (jlg 4))), (100, [], (jenc (jlg 5)))]) (rfl) (by simp only [List.cons.injEq, Prod.mk.injEq, and_true, true_and] <;> ((try unfold jw); (try unfold jwl); omega)) (rfl) ?_
  refine jT_lcmp (a := q1) (b := q1) (z := 0) (by rfl) (by rfl) (jwl_idd (by omega) (by omega)) (jwl_idd (by omega) (by omega)) (by rw [decide_eq_false (show ¬ ((q1 : Int) < q1) by omega), decide_eq_true (show (q1 : Int) = q1 by omega)]; rfl) ?_
  refine jT_xifF (t := 54) (pcN := 39) jIQ_299_36 rfl (by decide +kernel) rfl rfl ?_
  refine jT_xaload_n (v := (4, 0)) (pcN := 40) jIQ_299_39 rfl rfl rfl ?_
  refine jT_xaload_n (v := (4, 0)) (pcN := 41) jIQ_299_40 rfl rfl rfl ?_
  refine jT_xgetf (a := 0) (t := 1) (ci := 14) (fi := 1) (c := jzQ_371) (v := (4, 2)) (pcN := 44) jIQ_299_41 rfl rfl rfl rfl rfl rfl rfl ?_
  refine jT_xbipush (k := 7) (pcN := 46) jIQ_299_44 (by decide) rfl ?_
  refine jT_xiload_n (v := (0, o3)) (pcN := 47) jIQ_299_46 rfl rfl rfl ?_
  refine jT_ximul (x := 7) (y := o3) (z := 7 * o3) (pcN := 48) jIQ_299_47 rfl (rfl) rfl ?_
  refine jT_callA [0, 2, 3, 4, 5, 6, 7, 8, 9, 10, 11, 12, 13, 14, 15, 16, 17, 18, 19, 20, 21, 22] (y := 240) (pcN := 51) (dC := 4) (bc1 := 20) (bc2 := 1070) (c1 := 0) (c2 := 0) (as := [(4, 0), (4, 2), (0, 7 * o3)]) (asC := [(4, 0), (4, 1), (0, 7 * o3)]) (LN := [(5, (1, q1)), (0, (4, 0)), (1, (0, r7)), (2, (0, r8)), (3, (0, o3)), (4, (4, 1))]) (stN := []) (hsC := [jzQ_20, (100, [], jS0), jgh, jgh, jgh, jgh, (130, [], [16, 17, 18, 19, 20, 21]), (101, [], [-q1, r7, r8, 0, 0, 0]), jgh, jgh, jgh, jgh, jgh, jgh, jgh, jgh, (100, [], (jenc (jlg 0))), (100, [], (jenc (jlg 1))), (100, [], (jenc (jlg 2))), (100, [], (jenc (jlg 3))), (100, [], (jenc (jlg 4))), (100, [], (jenc (jlg 5)))]) (ex := [(101, [], [-q1, r7, r8, 0, 0, 0])]) (v := (0, (jlz (-q1) r7 r8 0 0 0).sign)) (st2 := [(0, (jlz (-q1) r7 r8 0 0 0).sign)]) (hs2 := [jzQ_371, jgh, (100, [], jS0), jgh, jgh, jgh, jgh, (130, [], [17, 18, 19, 20, 21, 22]), (101, [], [-q1, r7, r8, 0, 0, 0]), jgh, jgh, jgh, jgh, jgh, jgh, jgh, jgh, (100, [], (jenc (jlg 0))), (100, [], (jenc (jlg 1))), (100, [], (jenc (jlg 2))), (100, [], (jenc (jlg 3))), (100, [], (jenc (jlg 4))), (100, [], (jenc (jlg 5))), (101, [], [-q1, r7, r8, 0, 0, 0])]) (jQ_240_177 (d := 0) (by omega) (by omega) (by omega) (by omega) (by omega) (by omega) (by omega) (by omega)) (by rfl) (by rfl) (by rfl) (by rfl) ⟨rfl, rfl, rfl, rfl, rfl, rfl, rfl, rfl, rfl, rfl, rfl, rfl, rfl, rfl, rfl, rfl, rfl, rfl, rfl, rfl, rfl, rfl, trivial⟩ (by rfl) (by rfl) (by omega) (by show 23 ≤ 23; omega) (by omega) (by omega) rfl rfl ?_
  have hb_q2 := jsgn_b (jlz (-q1) r7 r8 0 0 0)
  generalize hq_q2 : (jlz (-q1) r7 r8 0 0 0).sign = q2 at hb_q2 g_3 ⊢
  refine jT_ifF (a := q2) (t := 56) (by rfl) (by rfl) (by rfl) (jw_idd (by omega) (by omega)) (by simp only [jcP] <;> omega) ?_
  refine jT_xiconst (k := 0) (pcN := 55) jIQ_299_54 rfl ?_
  subst hq_q2
  subst hq_q1
  exact jT_ret rfl (by decide) (by show 23 ≤ 24; omega) (by omega) (by omega) ⟨rfl, rfl, rfl⟩
theorem jQ_299_186 {xs : List Int} {d : Nat} {o3 r7 r8 u7_0 u7_1 u7_2 u7_3 u7_4 u7_5 : Int} (h_o3 : 0 ≤ o3 ∧ o3 ≤ 7) (h_r7 : (-20) ≤ r7 ∧ r7 ≤ 20) (h_r8 : (-10) ≤ r8 ∧ r8 ≤ 10) (g_0 : r7 < 0) : jT xs (d + 7) 299 23 0 [(0, (4, 0)), (1, (0, r7)), (2, (0, r8)), (3, (0, o3)), (4, (4, 1))] [] [jzQ_371, jgh, (100, [], jS0), jgh, jgh, jgh, jgh, (130, [], [17, 18, 19, 20, 21, 22]), (101, [], [u7_0, u7_1, u7_2, u7_3, u7_4, u7_5]), jgh, jgh, jgh, jgh, jgh, jgh, jgh, jgh, (100, [], (jenc (jlg 0))), (100, [], (jenc (jlg 1))), (100, [], (jenc (jlg 2))), (100, [], (jenc (jlg 3))), (100, [], (jenc (jlg 4))), (100, [], (jenc (jlg 5)))] 80 4280 (fun k v hsN => k = 0 ∧ v = (0, 0) ∧ hsN = [jzQ_371, jgh, (100, [], jS0), jgh, jgh, jgh, jgh, (130, [], [17, 18, 19, 20, 21, 22]), (101, [], [-(jkn r7 r8), r7, r8, 0, 0, 0]), jgh, jgh, jgh, jgh, jgh, jgh, jgh, jgh, (100, [], (jenc (jlg 0))), (100, [], (jenc (jlg 1))), (100, [], (jenc (jlg 2))), (100, [], (jenc (jlg 3))), (100, [], (jenc (jlg 4))), (100, [], (jenc (jlg 5))), (101, [], [-(jkn r7 r8), r7, r8, 0, 0, 0])]) := by
  refine jT_xaload_n (v := (4, 0)) (pcN := 1) jIQ_299_0 rfl rfl rfl ?_
  refine jT_callB [0, 2, 3, 4, 5, 6, 7, 8, 9, 10, 11, 12, 13, 14, 15, 16] (y := 193) (pcN := 4) (dC := 0) (bc1 := 0) (bc2 := 0) (c1 := 80) (c2 := 4280) (as := [(4, 0)]) (asC := [(4, 0)]) (LN := [(0, (4, 0)), (1, (0, r7)), (2, (0, r8)), (3, (0, o3)), (4, (4, 1))]) (stN := []) (hsC := [jzQ_20, jgh, jgh, jgh, jgh, jgh, jgh, (101, [], [u7_0, u7_1, u7_2, u7_3, u7_4, u7_5]), jgh, jgh, jgh, jgh, jgh, jgh, jgh, jgh]) (hsD := jpQ_394) (v := (9, 0)) (st2 := []) (hs2 := jpQ_546) (jQ_193_182 (d := 0)) (by rfl) (by rfl) (by rfl) (by rfl) ⟨rfl, rfl, rfl, rfl, rfl, rfl, rfl, rfl, rfl, rfl, rfl, rfl, rfl, rfl, rfl, rfl, trivial⟩ (by rfl) (by rfl) (by omega) (by show 23 ≤ 23; omega) (by omega) (by omega) rfl rfl ?_
  refine jT_xaload_n (v := (4, 0)) (pcN := 5) jIQ_299_4 rfl rfl rfl ?_
  refine jT_xgetf (a := 0) (t := 1) (ci := 14) (fi := 9) (c := jzQ_371) (v := (4, 8)) (pcN := 8) jIQ_299_5 rfl rfl rfl rfl rfl rfl rfl ?_
  refine jT_xiconst (k := 1) (pcN := 9) jIQ_299_8 rfl ?_
  refine jT_xiload_n (v := (0, r7)) (pcN := 10) jIQ_299_9 rfl rfl rfl ?_
  refine jT_xi2l (x := r7) (z := r7) (pcN := 11) jIQ_299_10 rfl (jw_idd (by omega) (by omega)) rfl ?_
  refine jT_adv 1 (pcN := 12) (LN := [(0, (4, 0)), (1, (0, r7)), (2, (0, r8)), (3, (0, o3)), (4, (4, 1))]) (stN := []) (hsN := [jzQ_371, jgh, (100, [], jS0), jgh, jgh, jgh, jgh, (130, [], [17, 18, 19, 20, 21, 22]), (101, [], [0, r7, 0, 0, 0, 0]), jgh, jgh, jgh, jgh, jgh, jgh, jgh, jgh, (100, [], (jenc (jlg 0))), (100, [], (jenc (jlg 1))), (100, [], (jenc (jlg 2))), (100, [], (jenc (jlg 3))), (100, [], (jenc (jlg 4))), (100, [], (jenc (jlg 5)))]) (c1 := 0) (s1 := 0) (c2 := 80) (s2 := 4280) (by exact rfl) ?_ (by omega) (by omega)
  refine jT_xaload_n (v := (4, 0)) (pcN := 13) jIQ_299_12 rfl rfl rfl ?_
  refine jT_xgetf (a := 0) (t := 1) (ci := 14) (fi := 9) (c := jzQ_371) (v := (4, 8)) (pcN := 16) jIQ_299_13 rfl rfl rfl rfl rfl rfl rfl ?_
  refine jT_xiconst (k := 2) (pcN := 17) jIQ_299_16 rfl ?_
  refine jT_xiload_n (v := (0, r8)) (pcN := 18) jIQ_299_17 rfl rfl rfl ?_
  refine jT_xi2l (x := r8) (z := r8) (pcN := 19) jIQ_299_18 rfl (jw_idd (by omega) (by omega)) rfl ?_
  refine jT_adv 1 (pcN := 20) (LN := [(0, (4, 0)), (1, (0, r7)), (2, (0, r8)), (3, (0, o3)), (4, (4, 1))]) (stN := []) (hsN := [jzQ_371, jgh, (100, [], jS0), jgh, jgh, jgh, jgh, (130, [], [17, 18, 19, 20, 21, 22]), (101, [], [0, r7, r8, 0, 0, 0]), jgh, jgh, jgh, jgh, jgh, jgh, jgh, jgh, (100, [], (jenc (jlg 0))), (100, [], (jenc (jlg 1))), (100, [], (jenc (jlg 2))), (100, [], (jenc (jlg 3))), (100, [], (jenc (jlg 4))), (100, [], (jenc (jlg 5)))]) (c1 := 0) (s1 := 0) (c2 := 80) (s2 := 4280) (by exact rfl) ?_ (by omega) (by omega)
  refine jT_xaload_n (v := (4, 0)) (pcN := 21) jIQ_299_20 rfl rfl rfl ?_
  refine jT_callB [0, 2, 3, 4, 5, 6, 7, 8, 9, 10, 11, 12, 13, 14, 15, 16, 17, 18, 19, 20, 21, 22] (y := 209) (pcN := 24) (dC := 6) (bc1 := 60) (bc2 := 3210) (c1 := 20) (c2 := 1070) (as := [(4, 0)]) (asC := [(4, 0)]) (LN := [(0, (4, 0)), (1, (0, r7)), (2, (0, r8)), (3, (0, o3)), (4, (4, 1))]) (stN := []) (hsC := [jzQ_20, jgh, jgh, jgh, jgh, jgh, (130, [], [16, 17, 18, 19, 20, 21]), (101, [], [0, r7, r8, 0, 0, 0]), jgh, jgh, jgh, jgh, jgh, jgh, jgh, jgh, (100, [], (jenc (jlg 0))), (100, [], (jenc (jlg 1))), (100, [], (jenc (jlg 2))), (100, [], (jenc (jlg 3))), (100, [], (jenc (jlg 4))), (100, [], (jenc (jlg 5)))]) (hsD := [jzQ_20, jgh, jgh, jgh, jgh, jgh, (130, [], [16, 17, 18, 19, 20, 21]), (101, [], [-(jkn r7 r8), r7, r8, 0, 0, 0]), jgh, jgh, jgh, jgh, jgh, jgh, jgh, jgh, (100, [], (jenc (jlg 0))), (100, [], (jenc (jlg 1))), (100, [], (jenc (jlg 2))), (100, [], (jenc (jlg 3))), (100, [], (jenc (jlg 4))), (100, [], (jenc (jlg 5)))]) (v := (1, jkn r7 r8)) (st2 := [(1, jkn r7 r8)]) (hs2 := [jzQ_371, jgh, (100, [], jS0), jgh, jgh, jgh, jgh, (130, [], [17, 18, 19, 20, 21, 22]), (101, [], [-(jkn r7 r8), r7, r8, 0, 0, 0]), jgh, jgh, jgh, jgh, jgh, jgh, jgh, jgh, (100, [], (jenc (jlg 0))), (100, [], (jenc (jlg 1))), (100, [], (jenc (jlg 2))), (100, [], (jenc (jlg 3))), (100, [], (jenc (jlg 4))), (100, [], (jenc (jlg 5)))]) (jQ_209_179 (d := 0) (by omega) (by omega) (by omega)) (by rfl) (by rfl) (by rfl) (by rfl) ⟨rfl, rfl, rfl, rfl, rfl, rfl, rfl, rfl, rfl, rfl, rfl, rfl, rfl, rfl, rfl, rfl, rfl, rfl, rfl, rfl, rfl, rfl, trivial⟩ (by rfl) (by rfl) (by omega) (by show 23 ≤ 23; omega) (by omega) (by omega) rfl rfl ?_
  have hb_q1 := jkn_b (b := r7) (c := r8) (by omega) (by omega)
  generalize hq_q1 : jkn r7 r8 = q1 at hb_q1 ⊢
  refine jT_eq (LN := [(0, (4, 0)), (1, (0, r7)), (2, (0, r8)), (3, (0, o3)), (4, (4, 1))]) (stN := [(1, q1)]) (hsN := [jzQ_371, jgh, (100, [], jS0), jgh, jgh, jgh, jgh, (130, [], [17, 18, 19, 20, 21, 22]), (101, [], [-q1, r7, r8, 0, 0, 0]), jgh, jgh, jgh, jgh, jgh, jgh, jgh, jgh, (100, [], (jenc (jlg 0))), (100, [], (jenc (jlg 1))), (100, [], (jenc (jlg 2))), (100, [], (jenc (jlg 3))), (100, [], (jenc (jlg 4))), (100, [], (jenc (jlg 5)))]) (rfl) (rfl) (by simp only [List.cons.injEq, Prod.mk.injEq, and_true, true_and] <;> ((try unfold jw); (try unfold jwl); omega)) ?_
  refine jT_xlstore (v := (1, q1)) (LN := [(5, (1, q1)), (0, (4, 0)), (1, (0, r7)), (2, (0, r8)), (3, (0, o3)), (4, (4, 1))]) (pcN := 26) jIQ_299_24 rfl rfl rfl rfl ?_
  have g_1 : 0 ≤ (jlz (-q1) r7 r8 0 0 0).sign := by rw [← hq_q1]; exact jkn_s (by omega) (by omega)
  refine jT_xlload (v := (1, q1)) (pcN := 28) jIQ_299_26 rfl rfl rfl ?_
  refine jT_xaload_n (v := (4, 0)) (pcN := 29) jIQ_299_28 rfl rfl rfl ?_
  refine jT_xgetf (a := 0) (t := 1) (ci := 14) (fi := 9) (c := jzQ_371) (v := (4, 8)) (pcN := 32) jIQ_299_29 rfl rfl rfl rfl rfl rfl rfl ?_
  refine jT_xiconst (k := 0) (pcN := 33) jIQ_299_32 rfl ?_
  refine jT_lald (x := -q1) (a := 8) (j := 0) (fs := []) (X := [-q1, r7, r8, 0, 0, 0]) jIQ_299_33 rfl rfl rfl rfl ?_
  refine jT_eq (LN := [(5, (1, q1)), (0, (4, 0)), (1, (0, r7)), (2, (0, r8)), (3, (0, o3)), (4, (4, 1))]) (stN := [(1, -q1), (1, q1)]) (hsN := [jzQ_371, jgh, (100, [], jS0), jgh, jgh, jgh, jgh, (130, [], [17, 18, 19, 20, 21, 22]), (101, [], [-q1, r7, r8, 0, 0, 0]), jgh, jgh, jgh, jgh, jgh, jgh, jgh, jgh, (100, [], (jenc (jlg 0))), (100, [], (jenc (jlg 1))), (100, [], (jenc (jlg 2))), (100, [], (jenc (jlg 3))), (100, [], (jenc (jlg 4))), (100, [], (jenc (jlg 5)))]) rfl rfl rfl ?_
  refine jT_adv 1 (pcN := 35) (LN := [(5, (1, q1)), (0, (4, 0)), (1, (0, r7)), (2, (0, r8)), (3, (0, o3)), (4, (4, 1))]) (stN := [(1, -(-q1)), (1, q1)]) (hsN := [jzQ_371, jgh, (100, [], jS0), jgh, jgh, jgh, jgh, (130, [], [17, 18, 19, 20, 21, 22]), (101, [], [-q1, r7, r8, 0, 0, 0]), jgh, jgh, jgh, jgh, jgh, jgh, jgh, jgh, (100, [], (jenc (jlg 0))), (100, [], (jenc (jlg 1))), (100, [], (jenc (jlg 2))), (100, [], (jenc (jlg 3))), (100, [], (jenc (jlg 4))), (100, [], (jenc (jlg 5)))]) (c1 := 0) (s1 := 0) (c2 := 20) (s2 := 1070) (by exact rfl) ?_ (by omega) (by omega)
  refine jT_eq (LN := [(5, (1, q1)), (0, (4, 0)), (1, (0, r7)), (2, (0, r8)), (3, (0, o3)), (4, (4, 1))]) (stN := [(1, q1), (1, q1)]) (hsN := [jzQ_371, jgh, (100, [], jS0), jgh, jgh, jgh, jgh, (130, [], [17, 18, 19, 20, 21, 22]), (101, [], [-q1, r7, r8, 0, 0, 0]), jgh, jgh, jgh, jgh, jgh, jgh, jgh, jgh, (100, [], (jenc (jlg 0))), (100, [], (jenc (jlg 1))), (100, [], (jenc (jlg 2))), (100, [], (jenc (jlg 3))), (100, [], (jenc (jlg 4))), (100, [], (jenc (jlg 5)))]) (rfl) (by simp only [List.cons.injEq, Prod.mk.injEq, and_true, true_and] <;> ((try unfold jw); (try unfold jwl); omega)) (rfl) ?_
  refine jT_lcmp (a := q1) (b := q1) (z := 0) (by rfl) (by rfl) (jwl_idd (by omega) (by omega)) (jwl_idd (by omega) (by omega)) (by rw [decide_eq_false (show ¬ ((q1 : Int) < q1) by omega), decide_eq_true (show (q1 : Int) = q1 by omega)]; rfl) ?_
  refine jT_xifF (t := 54) (pcN := 39) jIQ_299_36 rfl (by decide +kernel) rfl rfl ?_
  refine jT_xaload_n (v := (4, 0)) (pcN := 40) jIQ_299_39 rfl rfl rfl ?_
  refine jT_xaload_n (v := (4, 0)) (pcN := 41) jIQ_299_40 rfl rfl rfl ?_
  refine jT_xgetf (a := 0) (t := 1) (ci := 14) (fi := 1) (c := jzQ_371) (v := (4, 2)) (pcN := 44) jIQ_299_41 rfl rfl rfl rfl rfl rfl rfl ?_
  refine jT_xbipush (k := 7) (pcN := 46) jIQ_299_44 (by decide) rfl ?_
  refine jT_xiload_n (v := (0, o3)) (pcN := 47) jIQ_299_46 rfl rfl rfl ?_
  refine jT_ximul (x := 7) (y := o3) (z := 7 * o3) (pcN := 48) jIQ_299_47 rfl (rfl) rfl ?_
  refine jT_callA [0, 2, 3, 4, 5, 6, 7, 8, 9, 10, 11, 12, 13, 14, 15, 16, 17, 18, 19, 20, 21, 22] (y := 240) (pcN := 51) (dC := 4) (bc1 := 20) (bc2 := 1070) (c1 := 0) (c2 := 0) (as := [(4, 0), (4, 2), (0, 7 * o3)]) (asC := [(4, 0), (4, 1), (0, 7 * o3)]) (LN := [(5, (1, q1)), (0, (4, 0)), (1, (0, r7)), (2, (0, r8)), (3, (0, o3)), (4, (4, 1))]) (stN := []) (hsC := [jzQ_20, (100, [], jS0), jgh, jgh, jgh, jgh, (130, [], [16, 17, 18, 19, 20, 21]), (101, [], [-q1, r7, r8, 0, 0, 0]), jgh, jgh, jgh, jgh, jgh, jgh, jgh, jgh, (100, [], (jenc (jlg 0))), (100, [], (jenc (jlg 1))), (100, [], (jenc (jlg 2))), (100, [], (jenc (jlg 3))), (100, [], (jenc (jlg 4))), (100, [], (jenc (jlg 5)))]) (ex := [(101, [], [-q1, r7, r8, 0, 0, 0])]) (v := (0, (jlz (-q1) r7 r8 0 0 0).sign)) (st2 := [(0, (jlz (-q1) r7 r8 0 0 0).sign)]) (hs2 := [jzQ_371, jgh, (100, [], jS0), jgh, jgh, jgh, jgh, (130, [], [17, 18, 19, 20, 21, 22]), (101, [], [-q1, r7, r8, 0, 0, 0]), jgh, jgh, jgh, jgh, jgh, jgh, jgh, jgh, (100, [], (jenc (jlg 0))), (100, [], (jenc (jlg 1))), (100, [], (jenc (jlg 2))), (100, [], (jenc (jlg 3))), (100, [], (jenc (jlg 4))), (100, [], (jenc (jlg 5))), (101, [], [-q1, r7, r8, 0, 0, 0])]) (jQ_240_180 (d := 0) (by omega) (by omega) (by omega) (by omega) (by omega) (by omega)) (by rfl) (by rfl) (by rfl) (by rfl) ⟨rfl, rfl, rfl, rfl, rfl, rfl, rfl, rfl, rfl, rfl, rfl, rfl, rfl, rfl, rfl, rfl, rfl, rfl, rfl, rfl, rfl, rfl, trivial⟩ (by rfl) (by rfl) (by omega) (by show 23 ≤ 23; omega) (by omega) (by omega) rfl rfl ?_
  have hb_q2 := jsgn_b (jlz (-q1) r7 r8 0 0 0)
  generalize hq_q2 : (jlz (-q1) r7 r8 0 0 0).sign = q2 at hb_q2 g_1 ⊢
  refine jT_ifF (a := q2) (t := 56) (by rfl) (by rfl) (by rfl) (jw_idd (by omega) (by omega)) (by simp only [jcP] <;> omega) ?_
  refine jT_xiconst (k := 0) (pcN := 55) jIQ_299_54 rfl ?_
  subst hq_q2
  subst hq_q1
  exact jT_ret rfl (by decide) (by show 23 ≤ 24; omega) (by omega) (by omega) ⟨rfl, rfl, rfl⟩
def jpQ_573 : List JC := [jzQ_20, (100, [], jS0), jgh, jgh, jgh, jgh, (130, [], [16, 17, 18, 19, 20, 21]), (101, [], [0, 0, 0, 0, 0, 0]), jgh, jgh, jgh, jgh, jgh, jgh, jgh, jgh, (100, [], (jenc (jlg 0))), (100, [], (jenc (jlg 1))), (100, [], (jenc (jlg 2))), (100, [], (jenc (jlg 3))), (100, [], (jenc (jlg 4))), (100, [], (jenc (jlg 5)))]
theorem jIQ_298_69 : jmI (jm 298) 69 = (.aload_n 0, 1) := by rfl
theorem jIQ_298_70 : jmI (jm 298) 70 = (.iload_n 3, 1) := by rfl
theorem jIQ_298_74 : jmI (jm 298) 74 = (.aload_n 0, 1) := by rfl
theorem jIQ_298_75 : jmI (jm 298) 75 = (.aload_n 0, 1) := by rfl
theorem jIQ_298_76 : jmI (jm 298) 76 = (.aload_n 0, 1) := by rfl
theorem jIQ_298_77 : jmI (jm 298) 77 = (.getfield 31, 3) := by rfl
theorem jIQ_298_80 : jmI (jm 298) 80 = (.aload_n 0, 1) := by rfl
theorem jIQ_298_81 : jmI (jm 298) 81 = (.getfield 35, 3) := by rfl
def jpQ_582 : List JC := [jzQ_20, (100, [], jS0), jgh, jgh, jgh, jgh, (130, [], [16, 17, 18, 19, 20, 21]), (101, [], [0, 0, 0, 0, 0, 0]), jgh, jgh, jgh, jgh, jgh, jgh, jgh, jgh, (100, [], (jenc (jlg 0))), (100, [], (jenc (jlg 1))), (100, [], (jenc (jlg 2))), (100, [], (jenc (jlg 3))), (100, [], (jenc (jlg 4))), (100, [], (jenc (jlg 5))), (101, [], [(-1), 0, 0, 0, 0, 0]), (100, [], (jenc 0)), (100, [], (jenc (-1))), (100, [], (jenc ((-1) * (jlg 0))))]
theorem jIQ_298_87 : jmI (jm 298) 87 = (.ifCond .gt 7, 3) := by rfl
theorem jIQ_298_90 : jmI (jm 298) 90 = (.iconst 1, 1) := by rfl
theorem jIQ_298_91 : jmI (jm 298) 91 = (.goto 4, 3) := by rfl
theorem jIQ_298_95 : jmI (jm 298) 95 = (.iconst 3, 1) := by rfl
theorem jIQ_298_99 : jmI (jm 298) 99 = (.ifCond .eq 5, 3) := by rfl
theorem jIQ_298_104 : jmI (jm 298) 104 = (.iconst 3, 1) := by rfl
def jpQ_589 : List JC := [jzQ_20, (100, [], jS0), jgh, jgh, jgh, jgh, (130, [], [16, 17, 18, 19, 20, 21]), (101, [], [0, 0, 0, 0, 0, 0]), jgh, jgh, jgh, jgh, jgh, jgh, jgh, jgh, (100, [], (jenc (jlg 0))), (100, [], (jenc (jlg 1))), (100, [], (jenc (jlg 2))), (100, [], (jenc (jlg 3))), (100, [], (jenc (jlg 4))), (100, [], (jenc (jlg 5))), (101, [], [(-1), 0, 0, 0, 0, 0]), (100, [], (jenc 0)), (100, [], (jenc (-1))), (100, [], (jenc ((-1) * (jlg 0)))), (100, [], [0, 0, 0])]
theorem jIQ_298_107 : jmI (jm 298) 107 = (.astore 5, 2) := by rfl
theorem jIQ_298_109 : jmI (jm 298) 109 = (.iconst 0, 1) := by rfl
theorem jIQ_298_110 : jmI (jm 298) 110 = (.istore 6, 2) := by rfl
theorem jIQ_298_112 : jmI (jm 298) 112 = (.iload 6, 2) := by rfl
theorem jIQ_298_114 : jmI (jm 298) 114 = (.iconst 3, 1) := by rfl
theorem jIQ_298_115 : jmI (jm 298) 115 = (.if_icmp .ge 27, 3) := by rfl
theorem jIQ_298_118 : jmI (jm 298) 118 = (.iload 4, 2) := by rfl
theorem jIQ_298_120 : jmI (jm 298) 120 = (.ifCond .le 22, 3) := by rfl
theorem jIQ_298_142 : jmI (jm 298) 142 = (.iconst 0, 1) := by rfl
theorem jIQ_298_143 : jmI (jm 298) 143 = (.istore 6, 2) := by rfl
theorem jIQ_298_145 : jmI (jm 298) 145 = (.iload_n 1, 1) := by rfl
theorem jIQ_298_147 : jmI (jm 298) 147 = (.istore 7, 2) := by rfl
theorem jIQ_298_149 : jmI (jm 298) 149 = (.iload 7, 2) := by rfl
theorem jIQ_298_151 : jmI (jm 298) 151 = (.iload_n 1, 1) := by rfl
theorem jIQ_298_152 : jmI (jm 298) 152 = (.if_icmp .gt 59, 3) := by rfl
theorem jIQ_298_155 : jmI (jm 298) 155 = (.iload_n 2, 1) := by rfl
theorem jIQ_298_157 : jmI (jm 298) 157 = (.istore 8, 2) := by rfl
theorem jIQ_298_159 : jmI (jm 298) 159 = (.iload 8, 2) := by rfl
theorem jIQ_298_161 : jmI (jm 298) 161 = (.iload_n 2, 1) := by rfl
theorem jIQ_298_162 : jmI (jm 298) 162 = (.if_icmp .gt 43, 3) := by rfl
theorem jIQ_298_165 : jmI (jm 298) 165 = (.iload 6, 2) := by rfl
theorem jIQ_298_167 : jmI (jm 298) 167 = (.iload 7, 2) := by rfl
theorem jIQ_298_169 : jmI (jm 298) 169 = (.ifCond .ne 8, 3) := by rfl
theorem jIQ_298_177 : jmI (jm 298) 177 = (.aload_n 0, 1) := by rfl
theorem jIQ_298_178 : jmI (jm 298) 178 = (.iload 7, 2) := by rfl
theorem jIQ_298_180 : jmI (jm 298) 180 = (.iload 8, 2) := by rfl
theorem jIQ_298_182 : jmI (jm 298) 182 = (.iload_n 3, 1) := by rfl
theorem jIQ_298_183 : jmI (jm 298) 183 = (.aload 5, 2) := by rfl
theorem jIQ_298_188 : jmI (jm 298) 188 = (.ifCond .eq 7, 3) := by rfl
theorem jIQ_298_195 : jmI (jm 298) 195 = (.iconst 0, 1) := by rfl
theorem jIQ_298_196 : jmI (jm 298) 196 = (.iadd, 1) := by rfl
theorem jIQ_298_197 : jmI (jm 298) 197 = (.istore 6, 2) := by rfl
theorem jIQ_298_199 : jmI (jm 298) 199 = (.iinc 8 1, 3) := by rfl
theorem jIQ_298_202 : jmI (jm 298) 202 = (.goto (-43), 3) := by rfl
theorem jIQ_298_172 : jmI (jm 298) 172 = (.iload 8, 2) := by rfl
theorem jIQ_298_174 : jmI (jm 298) 174 = (.ifCond .eq 21, 3) := by rfl
theorem jQl_gc_188 {xs : List Int} {d b1 b2 : Nat} {Q : Nat → JV → List JC → Prop} (hd : 8 < d) {y1 y2 r7 o3 : Int} (h_y1 : 0 ≤ y1 ∧ y1 ≤ 20) (h_y2 : 0 ≤ y2 ∧ y2 ≤ 10) (h_r7 : (-20) ≤ r7 ∧ r7 ≤ 20) (h_o3 : 0 ≤ o3 ∧ o3 ≤ 7) (h : ∀ (u7_0 u7_1 u7_2 u7_3 u7_4 u7_5 : Int), jT xs d 298 22 205 [(7, (0, r7)), (6, (0, 0)), (5, (4, 26)), (0, (4, 0)), (1, (0, y1)), (2, (0, y2)), (3, (0, o3))] [] [jzQ_20, (100, [], jS0), jgh, jgh, jgh, jgh, (130, [], [16, 17, 18, 19, 20, 21]), (101, [], [u7_0, u7_1, u7_2, u7_3, u7_4, u7_5]), jgh, jgh, jgh, jgh, jgh, jgh, jgh, jgh, (100, [], (jenc (jlg 0))), (100, [], (jenc (jlg 1))), (100, [], (jenc (jlg 2))), (100, [], (jenc (jlg 3))), (100, [], (jenc (jlg 4))), (100, [], (jenc (jlg 5))), (101, [], [(-1), 0, 0, 0, 0, 0]), (100, [], (jenc 0)), (100, [], (jenc (-1))), (100, [], (jenc ((-1) * (jlg 0)))), (100, [], [0, 0, 0])] b1 b2 Q) : ∀ (q : Nat) (r8 u7_0 u7_1 u7_2 u7_3 u7_4 u7_5 : Int), -y2 ≤ r8 → r8 + (q : Int) = y2 + 1 → jT xs d 298 22 159 [(8, (0, r8)), (7, (0, r7)), (6, (0, 0)), (5, (4, 26)), (0, (4, 0)), (1, (0, y1)), (2, (0, y2)), (3, (0, o3))] [] [jzQ_20, (100, [], jS0), jgh, jgh, jgh, jgh, (130, [], [16, 17, 18, 19, 20, 21]), (101, [], [u7_0, u7_1, u7_2, u7_3, u7_4, u7_5]), jgh, jgh, jgh, jgh, jgh, jgh, jgh, jgh, (100, [], (jenc (jlg 0))), (100, [], (jenc (jlg 1))), (100, [], (jenc (jlg 2))), (100, [], (jenc (jlg 3))), (100, [], (jenc (jlg 4))), (100, [], (jenc (jlg 5))), (101, [], [(-1), 0, 0, 0, 0, 0]), (100, [], (jenc 0)), (100, [], (jenc (-1))), (100, [], (jenc ((-1) * (jlg 0)))), (100, [], [0, 0, 0])] (b1 + 80 * q) (b2 + 4280 * q) Q := by
  intro q
  induction q with
  | zero =>
    intro r8 u7_0 u7_1 u7_2 u7_3 u7_4 u7_5 h0 ht
    have e : r8 = y2 + 1 := by omega
    subst r8
    refine jT.mono (b1 := b1) (b2 := b2) ?_ (Nat.le_refl _) (by omega) (by omega) (fun _ _ _ z => z)
    refine jT_xiload (v := (0, y2 + 1)) (pcN := 161) jIQ_298_159 rfl rfl rfl ?_
    refine jT_xiload_n (v := (0, y2)) (pcN := 162) jIQ_298_161 rfl rfl rfl ?_
    refine jT_icT (a := y2 + 1) (b := y2) (t := 205) (by rfl) (by rfl) (by rfl) (jw_idd (by omega) (by omega)) (jw_idd (by omega) (by omega)) (by simp only [jcP] <;> omega) ?_
    refine jT_loc (LN := [(7, (0, r7)), (6, (0, 0)), (5, (4, 26)), (0, (4, 0)), (1, (0, y1)), (2, (0, y2)), (3, (0, o3))]) (by show List.Nodup [7, 6, 5, 0, 1, 2, 3]; decide) (by intro q hq; simp only [List.mem_cons, List.not_mem_nil, or_false] at hq; rcases hq with rfl | rfl | rfl | rfl | rfl | rfl | rfl <;> rfl) ?_
    exact h u7_0 u7_1 u7_2 u7_3 u7_4 u7_5
  | succ q ih =>
    intro r8 u7_0 u7_1 u7_2 u7_3 u7_4 u7_5 h0 ht
    have h_r8 : (-10) ≤ r8 ∧ r8 ≤ 10 := by omega
    have g_0 : r8 - y2 ≤ 0 := by omega
    refine jT.mono (b1 := b1 + 80 * q + 80) (b2 := b2 + 4280 * q + 4280) ?_ (Nat.le_refl _) (by omega) (by omega) (fun _ _ _ z => z)
    rcases (show (r7 < 0) ∨ (0 ≤ r7 ∧ r7 ≤ 0) ∨ (0 < r7) by omega) with g_1 | ⟨g_1, g_2⟩ | g_1
    · refine jT_xiload (v := (0, r8)) (pcN := 161) jIQ_298_159 rfl rfl rfl ?_
      refine jT_xiload_n (v := (0, y2)) (pcN := 162) jIQ_298_161 rfl rfl rfl ?_
      refine jT_icF (a := r8) (b := y2) (t := 205) (by rfl) (by rfl) (by rfl) (jw_idd (by omega) (by omega)) (jw_idd (by omega) (by omega)) (by simp only [jcP] <;> omega) ?_
      refine jT_xiload (v := (0, 0)) (pcN := 167) jIQ_298_165 rfl rfl rfl ?_
      refine jT_xiload (v := (0, r7)) (pcN := 169) jIQ_298_167 rfl rfl rfl ?_
      refine jT_ifT (a := r7) (t := 177) (by rfl) (by rfl) (by rfl) (jw_idd (by omega) (by omega)) (by simp only [jcP] <;> omega) ?_
      refine jT_xaload_n (v := (4, 0)) (pcN := 178) jIQ_298_177 rfl rfl rfl ?_
      refine jT_xiload (v := (0, r7)) (pcN := 180) jIQ_298_178 rfl rfl rfl ?_
      refine jT_xiload (v := (0, r8)) (pcN := 182) jIQ_298_180 rfl rfl rfl ?_
      refine jT_xiload_n (v := (0, o3)) (pcN := 183) jIQ_298_182 rfl rfl rfl ?_
      refine jT_xaload (v := (4, 26)) (pcN := 185) jIQ_298_183 rfl rfl rfl ?_
      refine jT_callB [0, 26, 1, 2, 3, 4, 5, 6, 7, 8, 9, 10, 11, 12, 13, 14, 15, 16, 17, 18, 19, 20, 21] (y := 299) (pcN := 188) (dC := 7) (bc1 := 80) (bc2 := 4280) (c1 := (b1 + 80 * q + 0)) (c2 := (b2 + 4280 * q + 0)) (as := [(4, 0), (0, r7), (0, r8), (0, o3), (4, 26)]) (asC := [(4, 0), (0, r7), (0, r8), (0, o3), (4, 1)]) (LN := [(8, (0, r8)), (7, (0, r7)), (6, (0, 0)), (5, (4, 26)), (0, (4, 0)), (1, (0, y1)), (2, (0, y2)), (3, (0, o3))]) (stN := [(0, 0)]) (hsC := [jzQ_371, jgh, (100, [], jS0), jgh, jgh, jgh, jgh, (130, [], [17, 18, 19, 20, 21, 22]), (101, [], [u7_0, u7_1, u7_2, u7_3, u7_4, u7_5]), jgh, jgh, jgh, jgh, jgh, jgh, jgh, jgh, (100, [], (jenc (jlg 0))), (100, [], (jenc (jlg 1))), (100, [], (jenc (jlg 2))), (100, [], (jenc (jlg 3))), (100, [], (jenc (jlg 4))), (100, [], (jenc (jlg 5)))]) (hsD := [jzQ_371, jgh, (100, [], jS0), jgh, jgh, jgh, jgh, (130, [], [17, 18, 19, 20, 21, 22]), (101, [], [-(jkn r7 r8), r7, r8, 0, 0, 0]), jgh, jgh, jgh, jgh, jgh, jgh, jgh, jgh, (100, [], (jenc (jlg 0))), (100, [], (jenc (jlg 1))), (100, [], (jenc (jlg 2))), (100, [], (jenc (jlg 3))), (100, [], (jenc (jlg 4))), (100, [], (jenc (jlg 5))), (101, [], [-(jkn r7 r8), r7, r8, 0, 0, 0])]) (v := (0, 0)) (st2 := [(0, 0), (0, 0)]) (hs2 := [jzQ_20, (100, [], jS0), jgh, jgh, jgh, jgh, (130, [], [16, 17, 18, 19, 20, 21]), (101, [], [-(jkn r7 r8), r7, r8, 0, 0, 0]), jgh, jgh, jgh, jgh, jgh, jgh, jgh, jgh, (100, [], (jenc (jlg 0))), (100, [], (jenc (jlg 1))), (100, [], (jenc (jlg 2))), (100, [], (jenc (jlg 3))), (100, [], (jenc (jlg 4))), (100, [], (jenc (jlg 5))), (101, [], [(-1), 0, 0, 0, 0, 0]), (100, [], (jenc 0)), (100, [], (jenc (-1))), (100, [], (jenc ((-1) * (jlg 0)))), (100, [], [0, 0, 0]), (101, [], [-(jkn r7 r8), r7, r8, 0, 0, 0])]) (jQ_299_186 (d := 0) (by omega) (by omega) (by omega) (by omega)) (by rfl) (by rfl) (by rfl) (by rfl) ⟨rfl, rfl, rfl, rfl, rfl, rfl, rfl, rfl, rfl, rfl, rfl, rfl, rfl, rfl, rfl, rfl, rfl, rfl, rfl, rfl, rfl, rfl, rfl, trivial⟩ (by rfl) (by rfl) (by omega) (by show 22 ≤ 27; omega) (by omega) (by omega) rfl rfl ?_
      have hb_q1 := jkn_b (b := r7) (c := r8) (by omega) (by omega)
      generalize hq_q1 : jkn r7 r8 = q1 at hb_q1 ⊢
      refine jT_eq (LN := [(8, (0, r8)), (7, (0, r7)), (6, (0, 0)), (5, (4, 26)), (0, (4, 0)), (1, (0, y1)), (2, (0, y2)), (3, (0, o3))]) (stN := [(0, 0), (0, 0)]) (hsN := [jzQ_20, (100, [], jS0), jgh, jgh, jgh, jgh, (130, [], [16, 17, 18, 19, 20, 21]), (101, [], [-q1, r7, r8, 0, 0, 0]), jgh, jgh, jgh, jgh, jgh, jgh, jgh, jgh, (100, [], (jenc (jlg 0))), (100, [], (jenc (jlg 1))), (100, [], (jenc (jlg 2))), (100, [], (jenc (jlg 3))), (100, [], (jenc (jlg 4))), (100, [], (jenc (jlg 5))), (101, [], [(-1), 0, 0, 0, 0, 0]), (100, [], (jenc 0)), (100, [], (jenc (-1))), (100, [], (jenc ((-1) * (jlg 0)))), (100, [], [0, 0, 0]), (101, [], [-q1, r7, r8, 0, 0, 0])]) (rfl) (rfl) (by simp only [List.cons.injEq, Prod.mk.injEq, and_true, true_and] <;> ((try unfold jw); (try unfold jwl); omega)) ?_
      refine jT_xifT (pcN := 195) jIQ_298_188 rfl (by decide +kernel) rfl ?_
      refine jT_xiconst (k := 0) (pcN := 196) jIQ_298_195 rfl ?_
      refine jT_xiadd (x := 0) (y := 0) (z := 0) (pcN := 197) jIQ_298_196 rfl (by decide) rfl ?_
      refine jT_xistore (v := (0, 0)) (LN := [(6, (0, 0)), (8, (0, r8)), (7, (0, r7)), (5, (4, 26)), (0, (4, 0)), (1, (0, y1)), (2, (0, y2)), (3, (0, o3))]) (pcN := 199) jIQ_298_197 rfl rfl rfl rfl ?_
      refine jT_xiinc (x := r8) (z := r8 + 1) (LN := [(8, (0, r8 + 1)), (6, (0, 0)), (7, (0, r7)), (5, (4, 26)), (0, (4, 0)), (1, (0, y1)), (2, (0, y2)), (3, (0, o3))]) (pcN := 202) jIQ_298_199 rfl rfl (rfl) rfl rfl ?_
      refine jT_xgoto (pcN := 159) jIQ_298_202 rfl ?_
      refine jT_loc (LN := [(8, (0, r8 + 1)), (7, (0, r7)), (6, (0, 0)), (5, (4, 26)), (0, (4, 0)), (1, (0, y1)), (2, (0, y2)), (3, (0, o3))]) (by show List.Nodup [8, 7, 6, 5, 0, 1, 2, 3]; decide) (by intro q hq; simp only [List.mem_cons, List.not_mem_nil, or_false] at hq; rcases hq with rfl | rfl | rfl | rfl | rfl | rfl | rfl | rfl <;> rfl) ?_
      refine jT_drop 27 (hs0 := [jzQ_20, (100, [], jS0), jgh, jgh, jgh, jgh, (130, [], [16, 17, 18, 19, 20, 21]), (101, [], [-q1, r7, r8, 0, 0, 0]), jgh, jgh, jgh, jgh, jgh, jgh, jgh, jgh, (100, [], (jenc (jlg 0))), (100, [], (jenc (jlg 1))), (100, [], (jenc (jlg 2))), (100, [], (jenc (jlg 3))), (100, [], (jenc (jlg 4))), (100, [], (jenc (jlg 5))), (101, [], [(-1), 0, 0, 0, 0, 0]), (100, [], (jenc 0)), (100, [], (jenc (-1))), (100, [], (jenc ((-1) * (jlg 0)))), (100, [], [0, 0, 0])]) (ex := [(101, [], [-q1, r7, r8, 0, 0, 0])]) rfl rfl rfl (by decide) ?_
      exact ih (r8 + 1) (-q1) r7 r8 0 0 0 (by omega) (by omega)
    · rcases (show (r8 < 0) ∨ (0 ≤ r8 ∧ r8 ≤ 0) ∨ (0 < r8) by omega) with g_3 | ⟨g_3, g_4⟩ | g_3
      · refine jT_xiload (v := (0, r8)) (pcN := 161) jIQ_298_159 rfl rfl rfl ?_
        refine jT_xiload_n (v := (0, y2)) (pcN := 162) jIQ_298_161 rfl rfl rfl ?_
        refine jT_icF (a := r8) (b := y2) (t := 205) (by rfl) (by rfl) (by rfl) (jw_idd (by omega) (by omega)) (jw_idd (by omega) (by omega)) (by simp only [jcP] <;> omega) ?_
        refine jT_xiload (v := (0, 0)) (pcN := 167) jIQ_298_165 rfl rfl rfl ?_
        refine jT_xiload (v := (0, r7)) (pcN := 169) jIQ_298_167 rfl rfl rfl ?_
        refine jT_ifF (a := r7) (t := 177) (by rfl) (by rfl) (by rfl) (jw_idd (by omega) (by omega)) (by simp only [jcP] <;> omega) ?_
        refine jT_xiload (v := (0, r8)) (pcN := 174) jIQ_298_172 rfl rfl rfl ?_
        refine jT_ifF (a := r8) (t := 195) (by rfl) (by rfl) (by rfl) (jw_idd (by omega) (by omega)) (by simp only [jcP] <;> omega) ?_
        refine jT_xaload_n (v := (4, 0)) (pcN := 178) jIQ_298_177 rfl rfl rfl ?_
        refine jT_xiload (v := (0, r7)) (pcN := 180) jIQ_298_178 rfl rfl rfl ?_
        refine jT_xiload (v := (0, r8)) (pcN := 182) jIQ_298_180 rfl rfl rfl ?_
        refine jT_xiload_n (v := (0, o3)) (pcN := 183) jIQ_298_182 rfl rfl rfl ?_
        refine jT_xaload (v := (4, 26)) (pcN := 185) jIQ_298_183 rfl rfl rfl ?_
        refine jT_callB [0, 26, 1, 2, 3, 4, 5, 6, 7, 8, 9, 10, 11, 12, 13, 14, 15, 16, 17, 18, 19, 20, 21] (y := 299) (pcN := 188) (dC := 7) (bc1 := 80) (bc2 := 4280) (c1 := (b1 + 80 * q + 0)) (c2 := (b2 + 4280 * q + 0)) (as := [(4, 0), (0, r7), (0, r8), (0, o3), (4, 26)]) (asC := [(4, 0), (0, r7), (0, r8), (0, o3), (4, 1)]) (LN := [(8, (0, r8)), (7, (0, r7)), (6, (0, 0)), (5, (4, 26)), (0, (4, 0)), (1, (0, y1)), (2, (0, y2)), (3, (0, o3))]) (stN := [(0, 0)]) (hsC := [jzQ_371, jgh, (100, [], jS0), jgh, jgh, jgh, jgh, (130, [], [17, 18, 19, 20, 21, 22]), (101, [], [u7_0, u7_1, u7_2, u7_3, u7_4, u7_5]), jgh, jgh, jgh, jgh, jgh, jgh, jgh, jgh, (100, [], (jenc (jlg 0))), (100, [], (jenc (jlg 1))), (100, [], (jenc (jlg 2))), (100, [], (jenc (jlg 3))), (100, [], (jenc (jlg 4))), (100, [], (jenc (jlg 5)))]) (hsD := [jzQ_371, jgh, (100, [], jS0), jgh, jgh, jgh, jgh, (130, [], [17, 18, 19, 20, 21, 22]), (101, [], [-(jkn r7 r8), r7, r8, 0, 0, 0]), jgh, jgh, jgh, jgh, jgh, jgh, jgh, jgh, (100, [], (jenc (jlg 0))), (100, [], (jenc (jlg 1))), (100, [], (jenc (jlg 2))), (100, [], (jenc (jlg 3))), (100, [], (jenc (jlg 4))), (100, [], (jenc (jlg 5))), (101, [], [-(jkn r7 r8), r7, r8, 0, 0, 0])]) (v := (0, 0)) (st2 := [(0, 0), (0, 0)]) (hs2 := [jzQ_20, (100, [], jS0), jgh, jgh, jgh, jgh, (130, [], [16, 17, 18, 19, 20, 21]), (101, [], [-(jkn r7 r8), r7, r8, 0, 0, 0]), jgh, jgh, jgh, jgh, jgh, jgh, jgh, jgh, (100, [], (jenc (jlg 0))), (100, [], (jenc (jlg 1))), (100, [], (jenc (jlg 2))), (100, [], (jenc (jlg 3))), (100, [], (jenc (jlg 4))), (100, [], (jenc (jlg 5))), (101, [], [(-1), 0, 0, 0, 0, 0]), (100, [], (jenc 0)), (100, [], (jenc (-1))), (100, [], (jenc ((-1) * (jlg 0)))), (100, [], [0, 0, 0]), (101, [], [-(jkn r7 r8), r7, r8, 0, 0, 0])]) (jQ_299_185 (d := 0) (by omega) (by omega) (by omega) (by omega) (by omega) (by omega)) (by rfl) (by rfl) (by rfl) (by rfl) ⟨rfl, rfl, rfl, rfl, rfl, rfl, rfl, rfl, rfl, rfl, rfl, rfl, rfl, rfl, rfl, rfl, rfl, rfl, rfl, rfl, rfl, rfl, rfl, trivial⟩ (by rfl) (by rfl) (by omega) (by show 22 ≤ 27; omega) (by omega) (by omega) rfl rfl ?_
        have hb_q1 := jkn_b (b := r7) (c := r8) (by omega) (by omega)
        generalize hq_q1 : jkn r7 r8 = q1 at hb_q1 ⊢
        refine jT_eq (LN := [(8, (0, r8)), (7, (0, r7)), (6, (0, 0)), (5, (4, 26)), (0, (4, 0)), (1, (0, y1)), (2, (0, y2)), (3, (0, o3))]) (stN := [(0, 0), (0, 0)]) (hsN := [jzQ_20, (100, [], jS0), jgh, jgh, jgh, jgh, (130, [], [16, 17, 18, 19, 20, 21]), (101, [], [-q1, r7, r8, 0, 0, 0]), jgh, jgh, jgh, jgh, jgh, jgh, jgh, jgh, (100, [], (jenc (jlg 0))), (100, [], (jenc (jlg 1))), (100, [], (jenc (jlg 2))), (100, [], (jenc (jlg 3))), (100, [], (jenc (jlg 4))), (100, [], (jenc (jlg 5))), (101, [], [(-1), 0, 0, 0, 0, 0]), (100, [], (jenc 0)), (100, [], (jenc (-1))), (100, [], (jenc ((-1) * (jlg 0)))), (100, [], [0, 0, 0]), (101, [], [-q1, r7, r8, 0, 0, 0])]) (rfl) (rfl) (by simp only [List.cons.injEq, Prod.mk.injEq, and_true, true_and] <;> ((try unfold jw); (try unfold jwl); omega)) ?_
        refine jT_xifT (pcN := 195) jIQ_298_188 rfl (by decide +kernel) rfl ?_
        refine jT_xiconst (k := 0) (pcN := 196) jIQ_298_195 rfl ?_
        refine jT_xiadd (x := 0) (y := 0) (z := 0) (pcN := 197) jIQ_298_196 rfl (by decide) rfl ?_
        refine jT_xistore (v := (0, 0)) (LN := [(6, (0, 0)), (8, (0, r8)), (7, (0, r7)), (5, (4, 26)), (0, (4, 0)), (1, (0, y1)), (2, (0, y2)), (3, (0, o3))]) (pcN := 199) jIQ_298_197 rfl rfl rfl rfl ?_
        refine jT_xiinc (x := r8) (z := r8 + 1) (LN := [(8, (0, r8 + 1)), (6, (0, 0)), (7, (0, r7)), (5, (4, 26)), (0, (4, 0)), (1, (0, y1)), (2, (0, y2)), (3, (0, o3))]) (pcN := 202) jIQ_298_199 rfl rfl (rfl) rfl rfl ?_
        refine jT_xgoto (pcN := 159) jIQ_298_202 rfl ?_
        refine jT_loc (LN := [(8, (0, r8 + 1)), (7, (0, r7)), (6, (0, 0)), (5, (4, 26)), (0, (4, 0)), (1, (0, y1)), (2, (0, y2)), (3, (0, o3))]) (by show List.Nodup [8, 7, 6, 5, 0, 1, 2, 3]; decide) (by intro q hq; simp only [List.mem_cons, List.not_mem_nil, or_false] at hq; rcases hq with rfl | rfl | rfl | rfl | rfl | rfl | rfl | rfl <;> rfl) ?_
        refine jT_drop 27 (hs0 := [jzQ_20, (100, [], jS0), jgh, jgh, jgh, jgh, (130, [], [16, 17, 18, 19, 20, 21]), (101, [], [-q1, r7, r8, 0, 0, 0]), jgh, jgh, jgh, jgh, jgh, jgh, jgh, jgh, (100, [], (jenc (jlg 0))), (100, [], (jenc (jlg 1))), (100, [], (jenc (jlg 2))), (100, [], (jenc (jlg 3))), (100, [], (jenc (jlg 4))), (100, [], (jenc (jlg 5))), (101, [], [(-1), 0, 0, 0, 0, 0]), (100, [], (jenc 0)), (100, [], (jenc (-1))), (100, [], (jenc ((-1) * (jlg 0)))), (100, [], [0, 0, 0])]) (ex := [(101, [], [-q1, r7, r8, 0, 0, 0])]) rfl rfl rfl (by decide) ?_
        exact ih (r8 + 1) (-q1) r7 r8 0 0 0 (by omega) (by omega)
      · refine jT_xiload (v := (0, r8)) (pcN := 161) jIQ_298_159 rfl rfl rfl ?_
        refine jT_xiload_n (v := (0, y2)) (pcN := 162) jIQ_298_161 rfl rfl rfl ?_
        refine jT_icF (a := r8) (b := y2) (t := 205) (by rfl) (by rfl) (by rfl) (jw_idd (by omega) (by omega)) (jw_idd (by omega) (by omega)) (by simp only [jcP] <;> omega) ?_
        refine jT_xiload (v := (0, 0)) (pcN := 167) jIQ_298_165 rfl rfl rfl ?_
        refine jT_xiload (v := (0, r7)) (pcN := 169) jIQ_298_167 rfl rfl rfl ?_
        refine jT_ifF (a := r7) (t := 177) (by rfl) (by rfl) (by rfl) (jw_idd (by omega) (by omega)) (by simp only [jcP] <;> omega) ?_
        refine jT_xiload (v := (0, r8)) (pcN := 174) jIQ_298_172 rfl rfl rfl ?_
        refine jT_ifT (a := r8) (t := 195) (by rfl) (by rfl) (by rfl) (jw_idd (by omega) (by omega)) (by simp only [jcP] <;> omega) ?_
        refine jT_xiconst (k := 0) (pcN := 196) jIQ_298_195 rfl ?_
        refine jT_xiadd (x := 0) (y := 0) (z := 0) (pcN := 197) jIQ_298_196 rfl (by decide) rfl ?_
        refine jT_xistore (v := (0, 0)) (LN := [(6, (0, 0)), (8, (0, r8)), (7, (0, r7)), (5, (4, 26)), (0, (4, 0)), (1, (0, y1)), (2, (0, y2)), (3, (0, o3))]) (pcN := 199) jIQ_298_197 rfl rfl rfl rfl ?_
        refine jT_xiinc (x := r8) (z := r8 + 1) (LN := [(8, (0, r8 + 1)), (6, (0, 0)), (7, (0, r7)), (5, (4, 26)), (0, (4, 0)), (1, (0, y1)), (2, (0, y2)), (3, (0, o3))]) (pcN := 202) jIQ_298_199 rfl rfl (rfl) rfl rfl ?_
        refine jT_xgoto (pcN := 159) jIQ_298_202 rfl ?_
        refine jT_loc (LN := [(8, (0, r8 + 1)), (7, (0, r7)), (6, (0, 0)), (5, (4, 26)), (0, (4, 0)), (1, (0, y1)), (2, (0, y2)), (3, (0, o3))]) (by show List.Nodup [8, 7, 6, 5, 0, 1, 2, 3]; decide) (by intro q hq; simp only [List.mem_cons, List.not_mem_nil, or_false] at hq; rcases hq with rfl | rfl | rfl | rfl | rfl | rfl | rfl | rfl <;> rfl) ?_
        exact jT.mono (ih (r8 + 1) u7_0 u7_1 u7_2 u7_3 u7_4 u7_5 (by omega) (by omega)) (Nat.le_refl _) (by omega) (by omega) (fun _ _ _ z => z)
      · refine jT_xiload (v := (0, r8)) (pcN := 161) jIQ_298_159 rfl rfl rfl ?_
        refine jT_xiload_n (v := (0, y2)) (pcN := 162) jIQ_298_161 rfl rfl rfl ?_
        refine jT_icF (a := r8) (b := y2) (t := 205) (by rfl) (by rfl) (by rfl) (jw_idd (by omega) (by omega)) (jw_idd (by omega) (by omega)) (by simp only [jcP] <;> omega) ?_
        refine jT_xiload (v := (0, 0)) (pcN := 167) jIQ_298_165 rfl rfl rfl ?_
        refine jT_xiload (v := (0, r7)) (pcN := 169) jIQ_298_167 rfl rfl rfl ?_
        refine jT_ifF (a := r7) (t := 177) (by rfl) (by rfl) (by rfl) (jw_idd (by omega) (by omega)) (by simp only [jcP] <;> omega) ?_
        refine jT_xiload (v := (0, r8)) (pcN := 174) jIQ_298_172 rfl rfl rfl ?_
        refine jT_ifF (a := r8) (t := 195) (by rfl) (by rfl) (by rfl) (jw_idd (by omega) (by omega)) (by simp only [jcP] <;> omega) ?_
        refine jT_xaload_n (v := (4, 0)) (pcN := 178) jIQ_298_177 rfl rfl rfl ?_
        refine jT_xiload (v := (0, r7)) (pcN := 180) jIQ_298_178 rfl rfl rfl ?_
        refine jT_xiload (v := (0, r8)) (pcN := 182) jIQ_298_180 rfl rfl rfl ?_
        refine jT_xiload_n (v := (0, o3)) (pcN := 183) jIQ_298_182 rfl rfl rfl ?_
        refine jT_xaload (v := (4, 26)) (pcN := 185) jIQ_298_183 rfl rfl rfl ?_
        refine jT_callB [0, 26, 1, 2, 3, 4, 5, 6, 7, 8, 9, 10, 11, 12, 13, 14, 15, 16, 17, 18, 19, 20, 21] (y := 299) (pcN := 188) (dC := 7) (bc1 := 80) (bc2 := 4280) (c1 := (b1 + 80 * q + 0)) (c2 := (b2 + 4280 * q + 0)) (as := [(4, 0), (0, r7), (0, r8), (0, o3), (4, 26)]) (asC := [(4, 0), (0, r7), (0, r8), (0, o3), (4, 1)]) (LN := [(8, (0, r8)), (7, (0, r7)), (6, (0, 0)), (5, (4, 26)), (0, (4, 0)), (1, (0, y1)), (2, (0, y2)), (3, (0, o3))]) (stN := [(0, 0)]) (hsC := [jzQ_371, jgh, (100, [], jS0), jgh, jgh, jgh, jgh, (130, [], [17, 18, 19, 20, 21, 22]), (101, [], [u7_0, u7_1, u7_2, u7_3, u7_4, u7_5]), jgh, jgh, jgh, jgh, jgh, jgh, jgh, jgh, (100, [], (jenc (jlg 0))), (100, [], (jenc (jlg 1))), (100, [], (jenc (jlg 2))), (100, [], (jenc (jlg 3))), (100, [], (jenc (jlg 4))), (100, [], (jenc (jlg 5)))]) (hsD := [jzQ_371, jgh, (100, [], jS0), jgh, jgh, jgh, jgh, (130, [], [17, 18, 19, 20, 21, 22]), (101, [], [-(jkn r7 r8), r7, r8, 0, 0, 0]), jgh, jgh, jgh, jgh, jgh, jgh, jgh, jgh, (100, [], (jenc (jlg 0))), (100, [], (jenc (jlg 1))), (100, [], (jenc (jlg 2))), (100, [], (jenc (jlg 3))), (100, [], (jenc (jlg 4))), (100, [], (jenc (jlg 5))), (101, [], [-(jkn r7 r8), r7, r8, 0, 0, 0])]) (v := (0, 0)) (st2 := [(0, 0), (0, 0)]) (hs2 := [jzQ_20, (100, [], jS0), jgh, jgh, jgh, jgh, (130, [], [16, 17, 18, 19, 20, 21]), (101, [], [-(jkn r7 r8), r7, r8, 0, 0, 0]), jgh, jgh, jgh, jgh, jgh, jgh, jgh, jgh, (100, [], (jenc (jlg 0))), (100, [], (jenc (jlg 1))), (100, [], (jenc (jlg 2))), (100, [], (jenc (jlg 3))), (100, [], (jenc (jlg 4))), (100, [], (jenc (jlg 5))), (101, [], [(-1), 0, 0, 0, 0, 0]), (100, [], (jenc 0)), (100, [], (jenc (-1))), (100, [], (jenc ((-1) * (jlg 0)))), (100, [], [0, 0, 0]), (101, [], [-(jkn r7 r8), r7, r8, 0, 0, 0])]) (jQ_299_184 (d := 0) (by omega) (by omega) (by omega) (by omega) (by omega) (by omega)) (by rfl) (by rfl) (by rfl) (by rfl) ⟨rfl, rfl, rfl, rfl, rfl, rfl, rfl, rfl, rfl, rfl, rfl, rfl, rfl, rfl, rfl, rfl, rfl, rfl, rfl, rfl, rfl, rfl, rfl, trivial⟩ (by rfl) (by rfl) (by omega) (by show 22 ≤ 27; omega) (by omega) (by omega) rfl rfl ?_
        have hb_q1 := jkn_b (b := r7) (c := r8) (by omega) (by omega)
        generalize hq_q1 : jkn r7 r8 = q1 at hb_q1 ⊢
        refine jT_eq (LN := [(8, (0, r8)), (7, (0, r7)), (6, (0, 0)), (5, (4, 26)), (0, (4, 0)), (1, (0, y1)), (2, (0, y2)), (3, (0, o3))]) (stN := [(0, 0), (0, 0)]) (hsN := [jzQ_20, (100, [], jS0), jgh, jgh, jgh, jgh, (130, [], [16, 17, 18, 19, 20, 21]), (101, [], [-q1, r7, r8, 0, 0, 0]), jgh, jgh, jgh, jgh, jgh, jgh, jgh, jgh, (100, [], (jenc (jlg 0))), (100, [], (jenc (jlg 1))), (100, [], (jenc (jlg 2))), (100, [], (jenc (jlg 3))), (100, [], (jenc (jlg 4))), (100, [], (jenc (jlg 5))), (101, [], [(-1), 0, 0, 0, 0, 0]), (100, [], (jenc 0)), (100, [], (jenc (-1))), (100, [], (jenc ((-1) * (jlg 0)))), (100, [], [0, 0, 0]), (101, [], [-q1, r7, r8, 0, 0, 0])]) (rfl) (rfl) (by simp only [List.cons.injEq, Prod.mk.injEq, and_true, true_and] <;> ((try unfold jw); (try unfold jwl); omega)) ?_
        refine jT_xifT (pcN := 195) jIQ_298_188 rfl (by decide +kernel) rfl ?_
        refine jT_xiconst (k := 0) (pcN := 196) jIQ_298_195 rfl ?_
        refine jT_xiadd (x := 0) (y := 0) (z := 0) (pcN := 197) jIQ_298_196 rfl (by decide) rfl ?_
        refine jT_xistore (v := (0, 0)) (LN := [(6, (0, 0)), (8, (0, r8)), (7, (0, r7)), (5, (4, 26)), (0, (4, 0)), (1, (0, y1)), (2, (0, y2)), (3, (0, o3))]) (pcN := 199) jIQ_298_197 rfl rfl rfl rfl ?_
        refine jT_xiinc (x := r8) (z := r8 + 1) (LN := [(8, (0, r8 + 1)), (6, (0, 0)), (7, (0, r7)), (5, (4, 26)), (0, (4, 0)), (1, (0, y1)), (2, (0, y2)), (3, (0, o3))]) (pcN := 202) jIQ_298_199 rfl rfl (rfl) rfl rfl ?_
        refine jT_xgoto (pcN := 159) jIQ_298_202 rfl ?_
        refine jT_loc (LN := [(8, (0, r8 + 1)), (7, (0, r7)), (6, (0, 0)), (5, (4, 26)), (0, (4, 0)), (1, (0, y1)), (2, (0, y2)), (3, (0, o3))]) (by show List.Nodup [8, 7, 6, 5, 0, 1, 2, 3]; decide) (by intro q hq; simp only [List.mem_cons, List.not_mem_nil, or_false] at hq; rcases hq with rfl | rfl | rfl | rfl | rfl | rfl | rfl | rfl <;> rfl) ?_
        refine jT_drop 27 (hs0 := [jzQ_20, (100, [], jS0), jgh, jgh, jgh, jgh, (130, [], [16, 17, 18, 19, 20, 21]), (101, [], [-q1, r7, r8, 0, 0, 0]), jgh, jgh, jgh, jgh, jgh, jgh, jgh, jgh, (100, [], (jenc (jlg 0))), (100, [], (jenc (jlg 1))), (100, [], (jenc (jlg 2))), (100, [], (jenc (jlg 3))), (100, [], (jenc (jlg 4))), (100, [], (jenc (jlg 5))), (101, [], [(-1), 0, 0, 0, 0, 0]), (100, [], (jenc 0)), (100, [], (jenc (-1))), (100, [], (jenc ((-1) * (jlg 0)))), (100, [], [0, 0, 0])]) (ex := [(101, [], [-q1, r7, r8, 0, 0, 0])]) rfl rfl rfl (by decide) ?_
        exact ih (r8 + 1) (-q1) r7 r8 0 0 0 (by omega) (by omega)
    · refine jT_xiload (v := (0, r8)) (pcN := 161) jIQ_298_159 rfl rfl rfl ?_
      refine jT_xiload_n (v := (0, y2)) (pcN := 162) jIQ_298_161 rfl rfl rfl ?_
      refine jT_icF (a := r8) (b := y2) (t := 205) (by rfl) (by rfl) (by rfl) (jw_idd (by omega) (by omega)) (jw_idd (by omega) (by omega)) (by simp only [jcP] <;> omega) ?_
      refine jT_xiload (v := (0, 0)) (pcN := 167) jIQ_298_165 rfl rfl rfl ?_
      refine jT_xiload (v := (0, r7)) (pcN := 169) jIQ_298_167 rfl rfl rfl ?_
      refine jT_ifT (a := r7) (t := 177) (by rfl) (by rfl) (by rfl) (jw_idd (by omega) (by omega)) (by simp only [jcP] <;> omega) ?_
      refine jT_xaload_n (v := (4, 0)) (pcN := 178) jIQ_298_177 rfl rfl rfl ?_
      refine jT_xiload (v := (0, r7)) (pcN := 180) jIQ_298_178 rfl rfl rfl ?_
      refine jT_xiload (v := (0, r8)) (pcN := 182) jIQ_298_180 rfl rfl rfl ?_
      refine jT_xiload_n (v := (0, o3)) (pcN := 183) jIQ_298_182 rfl rfl rfl ?_
      refine jT_xaload (v := (4, 26)) (pcN := 185) jIQ_298_183 rfl rfl rfl ?_
      refine jT_callB [0, 26, 1, 2, 3, 4, 5, 6, 7, 8, 9, 10, 11, 12, 13, 14, 15, 16, 17, 18, 19, 20, 21] (y := 299) (pcN := 188) (dC := 7) (bc1 := 80) (bc2 := 4280) (c1 := (b1 + 80 * q + 0)) (c2 := (b2 + 4280 * q + 0)) (as := [(4, 0), (0, r7), (0, r8), (0, o3), (4, 26)]) (asC := [(4, 0), (0, r7), (0, r8), (0, o3), (4, 1)]) (LN := [(8, (0, r8)), (7, (0, r7)), (6, (0, 0)), (5, (4, 26)), (0, (4, 0)), (1, (0, y1)), (2, (0, y2)), (3, (0, o3))]) (stN := [(0, 0)]) (hsC := [jzQ_371, jgh, (100, [], jS0), jgh, jgh, jgh, jgh, (130, [], [17, 18, 19, 20, 21, 22]), (101, [], [u7_0, u7_1, u7_2, u7_3, u7_4, u7_5]), jgh, jgh, jgh, jgh, jgh, jgh, jgh, jgh, (100, [], (jenc (jlg 0))), (100, [], (jenc (jlg 1))), (100, [], (jenc (jlg 2))), (100, [], (jenc (jlg 3))), (100, [], (jenc (jlg 4))), (100, [], (jenc (jlg 5)))]) (hsD := [jzQ_371, jgh, (100, [], jS0), jgh, jgh, jgh, jgh, (130, [], [17, 18, 19, 20, 21, 22]), (101, [], [-(jkn r7 r8), r7, r8, 0, 0, 0]), jgh, jgh, jgh, jgh, jgh, jgh, jgh, jgh, (100, [], (jenc (jlg 0))), (100, [], (jenc (jlg 1))), (100, [], (jenc (jlg 2))), (100, [], (jenc (jlg 3))), (100, [], (jenc (jlg 4))), (100, [], (jenc (jlg 5))), (101, [], [-(jkn r7 r8), r7, r8, 0, 0, 0])]) (v := (0, 0)) (st2 := [(0, 0), (0, 0)]) (hs2 := [jzQ_20, (100, [], jS0), jgh, jgh, jgh, jgh, (130, [], [16, 17, 18, 19, 20, 21]), (101, [], [-(jkn r7 r8), r7, r8, 0, 0, 0]), jgh, jgh, jgh, jgh, jgh, jgh, jgh, jgh, (100, [], (jenc (jlg 0))), (100, [], (jenc (jlg 1))), (100, [], (jenc (jlg 2))), (100, [], (jenc (jlg 3))), (100, [], (jenc (jlg 4))), (100, [], (jenc (jlg 5))), (101, [], [(-1), 0, 0, 0, 0, 0]), (100, [], (jenc 0)), (100, [], (jenc (-1))), (100, [], (jenc ((-1) * (jlg 0)))), (100, [], [0, 0, 0]), (101, [], [-(jkn r7 r8), r7, r8, 0, 0, 0])]) (jQ_299_183 (d := 0) (by omega) (by omega) (by omega) (by omega)) (by rfl) (by rfl) (by rfl) (by rfl) ⟨rfl, rfl, rfl, rfl, rfl, rfl, rfl, rfl, rfl, rfl, rfl, rfl, rfl, rfl, rfl, rfl, rfl, rfl, rfl, rfl, rfl, rfl, rfl, trivial⟩ (by rfl) (by rfl) (by omega) (by show 22 ≤ 27; omega) (by omega) (by omega) rfl rfl ?_
      have hb_q1 := jkn_b (b := r7) (c := r8) (by omega) (by omega)
      generalize hq_q1 : jkn r7 r8 = q1 at hb_q1 ⊢
      refine jT_eq (LN := [(8, (0, r8)), (7, (0, r7)), (6, (0, 0)), (5, (4, 26)), (0, (4, 0)), (1, (0, y1)), (2, (0, y2)), (3, (0, o3))]) (stN := [(0, 0), (0, 0)]) (hsN := [jzQ_20, (100, [], jS0), jgh, jgh, jgh, jgh, (130, [], [16, 17, 18, 19, 20, 21]), (101, [], [-q1, r7, r8, 0, 0, 0]), jgh, jgh, jgh, jgh, jgh, jgh, jgh, jgh, (100, [], (jenc (jlg 0))), (100, [], (jenc (jlg 1))), (100, [], (jenc (jlg 2))), (100, [], (jenc (jlg 3))), (100, [], (jenc (jlg 4))), (100, [], (jenc (jlg 5))), (101, [], [(-1), 0, 0, 0, 0, 0]), (100, [], (jenc 0)), (100, [], (jenc (-1))), (100, [], (jenc ((-1) * (jlg 0)))), (100, [], [0, 0, 0]), (101, [], [-q1, r7, r8, 0, 0, 0])]) (rfl) (rfl) (by simp only [List.cons.injEq, Prod.mk.injEq, and_true, true_and] <;> ((try unfold jw); (try unfold jwl); omega)) ?_
      refine jT_xifT (pcN := 195) jIQ_298_188 rfl (by decide +kernel) rfl ?_
      refine jT_xiconst (k := 0) (pcN := 196) jIQ_298_195 rfl ?_
      refine jT_xiadd (x := 0) (y := 0) (z := 0) (pcN := 197) jIQ_298_196 rfl (by decide) rfl ?_
      refine jT_xistore (v := (0, 0)) (LN := [(6, (0, 0)), (8, (0, r8)), (7, (0, r7)), (5, (4, 26)), (0, (4, 0)), (1, (0, y1)), (2, (0, y2)), (3, (0, o3))]) (pcN := 199) jIQ_298_197 rfl rfl rfl rfl ?_
      refine jT_xiinc (x := r8) (z := r8 + 1) (LN := [(8, (0, r8 + 1)), (6, (0, 0)), (7, (0, r7)), (5, (4, 26)), (0, (4, 0)), (1, (0, y1)), (2, (0, y2)), (3, (0, o3))]) (pcN := 202) jIQ_298_199 rfl rfl (rfl) rfl rfl ?_
      refine jT_xgoto (pcN := 159) jIQ_298_202 rfl ?_
      refine jT_loc (LN := [(8, (0, r8 + 1)), (7, (0, r7)), (6, (0, 0)), (5, (4, 26)), (0, (4, 0)), (1, (0, y1)), (2, (0, y2)), (3, (0, o3))]) (by show List.Nodup [8, 7, 6, 5, 0, 1, 2, 3]; decide) (by intro q hq; simp only [List.mem_cons, List.not_mem_nil, or_false] at hq; rcases hq with rfl | rfl | rfl | rfl | rfl | rfl | rfl | rfl <;> rfl) ?_
      refine jT_drop 27 (hs0 := [jzQ_20, (100, [], jS0), jgh, jgh, jgh, jgh, (130, [], [16, 17, 18, 19, 20, 21]), (101, [], [-q1, r7, r8, 0, 0, 0]), jgh, jgh, jgh, jgh, jgh, jgh, jgh, jgh, (100, [], (jenc (jlg 0))), (100, [], (jenc (jlg 1))), (100, [], (jenc (jlg 2))), (100, [], (jenc (jlg 3))), (100, [], (jenc (jlg 4))), (100, [], (jenc (jlg 5))), (101, [], [(-1), 0, 0, 0, 0, 0]), (100, [], (jenc 0)), (100, [], (jenc (-1))), (100, [], (jenc ((-1) * (jlg 0)))), (100, [], [0, 0, 0])]) (ex := [(101, [], [-q1, r7, r8, 0, 0, 0])]) rfl rfl rfl (by decide) ?_
      exact ih (r8 + 1) (-q1) r7 r8 0 0 0 (by omega) (by omega)
theorem jIQ_298_205 : jmI (jm 298) 205 = (.iinc 7 1, 3) := by rfl
theorem jIQ_298_208 : jmI (jm 298) 208 = (.goto (-59), 3) := by rfl
theorem jQl_gc_187 {xs : List Int} {d b1 b2 : Nat} {Q : Nat → JV → List JC → Prop} (hd : 9 < d) {y1 y2 o3 : Int} (h_y1 : 0 ≤ y1 ∧ y1 ≤ 20) (h_y2 : 0 ≤ y2 ∧ y2 ≤ 10) (h_o3 : 0 ≤ o3 ∧ o3 ≤ 7) (h : ∀ (u7_0 u7_1 u7_2 u7_3 u7_4 u7_5 : Int), jT xs d 298 22 211 [(6, (0, 0))] [] [jzQ_20, (100, [], jS0), jgh, jgh, jgh, jgh, (130, [], [16, 17, 18, 19, 20, 21]), (101, [], [u7_0, u7_1, u7_2, u7_3, u7_4, u7_5]), jgh, jgh, jgh, jgh, jgh, jgh, jgh, jgh, (100, [], (jenc (jlg 0))), (100, [], (jenc (jlg 1))), (100, [], (jenc (jlg 2))), (100, [], (jenc (jlg 3))), (100, [], (jenc (jlg 4))), (100, [], (jenc (jlg 5))), (101, [], [(-1), 0, 0, 0, 0, 0]), (100, [], (jenc 0)), (100, [], (jenc (-1))), (100, [], (jenc ((-1) * (jlg 0)))), (100, [], [0, 0, 0])] b1 b2 Q) : ∀ (q : Nat) (r7 u7_0 u7_1 u7_2 u7_3 u7_4 u7_5 : Int), -y1 ≤ r7 → r7 + (q : Int) = y1 + 1 → jT xs d 298 22 149 [(7, (0, r7)), (6, (0, 0)), (5, (4, 26)), (0, (4, 0)), (1, (0, y1)), (2, (0, y2)), (3, (0, o3))] [] [jzQ_20, (100, [], jS0), jgh, jgh, jgh, jgh, (130, [], [16, 17, 18, 19, 20, 21]), (101, [], [u7_0, u7_1, u7_2, u7_3, u7_4, u7_5]), jgh, jgh, jgh, jgh, jgh, jgh, jgh, jgh, (100, [], (jenc (jlg 0))), (100, [], (jenc (jlg 1))), (100, [], (jenc (jlg 2))), (100, [], (jenc (jlg 3))), (100, [], (jenc (jlg 4))), (100, [], (jenc (jlg 5))), (101, [], [(-1), 0, 0, 0, 0, 0]), (100, [], (jenc 0)), (100, [], (jenc (-1))), (100, [], (jenc ((-1) * (jlg 0)))), (100, [], [0, 0, 0])] (b1 + 1680 * q) (b2 + 89880 * q) Q := by
  intro q
  induction q with
  | zero =>
    intro r7 u7_0 u7_1 u7_2 u7_3 u7_4 u7_5 h0 ht
    have e : r7 = y1 + 1 := by omega
    subst r7
    refine jT.mono (b1 := b1) (b2 := b2) ?_ (Nat.le_refl _) (by omega) (by omega) (fun _ _ _ z => z)
    refine jT_xiload (v := (0, y1 + 1)) (pcN := 151) jIQ_298_149 rfl rfl rfl ?_
    refine jT_xiload_n (v := (0, y1)) (pcN := 152) jIQ_298_151 rfl rfl rfl ?_
    refine jT_icT (a := y1 + 1) (b := y1) (t := 211) (by rfl) (by rfl) (by rfl) (jw_idd (by omega) (by omega)) (jw_idd (by omega) (by omega)) (by simp only [jcP] <;> omega) ?_
    refine jT_loc (LN := [(6, (0, 0))]) (by show List.Nodup [6]; decide) (by intro q hq; simp only [List.mem_cons, List.not_mem_nil, or_false] at hq; rcases hq with rfl <;> rfl) ?_
    exact h u7_0 u7_1 u7_2 u7_3 u7_4 u7_5
  | succ q ih =>
    intro r7 u7_0 u7_1 u7_2 u7_3 u7_4 u7_5 h0 ht
    have h_r7 : (-20) ≤ r7 ∧ r7 ≤ 20 := by omega
    have g_0 : r7 - y1 ≤ 0 := by omega
    refine jT.mono (b1 := b1 + 1680 * q + 1680) (b2 := b2 + 89880 * q + 89880) ?_ (Nat.le_refl _) (by omega) (by omega) (fun _ _ _ z => z)
    refine jT_xiload (v := (0, r7)) (pcN := 151) jIQ_298_149 rfl rfl rfl ?_
    refine jT_xiload_n (v := (0, y1)) (pcN := 152) jIQ_298_151 rfl rfl rfl ?_
    refine jT_icF (a := r7) (b := y1) (t := 211) (by rfl) (by rfl) (by rfl) (jw_idd (by omega) (by omega)) (jw_idd (by omega) (by omega)) (by simp only [jcP] <;> omega) ?_
    refine jT_xiload_n (v := (0, y2)) (pcN := 156) jIQ_298_155 rfl rfl rfl ?_
    refine jT_adv 1 (pcN := 157) (LN := [(7, (0, r7)), (6, (0, 0)), (5, (4, 26)), (0, (4, 0)), (1, (0, y1)), (2, (0, y2)), (3, (0, o3))]) (stN := [(0, -y2)]) (hsN := [jzQ_20, (100, [], jS0), jgh, jgh, jgh, jgh, (130, [], [16, 17, 18, 19, 20, 21]), (101, [], [u7_0, u7_1, u7_2, u7_3, u7_4, u7_5]), jgh, jgh, jgh, jgh, jgh, jgh, jgh, jgh, (100, [], (jenc (jlg 0))), (100, [], (jenc (jlg 1))), (100, [], (jenc (jlg 2))), (100, [], (jenc (jlg 3))), (100, [], (jenc (jlg 4))), (100, [], (jenc (jlg 5))), (101, [], [(-1), 0, 0, 0, 0, 0]), (100, [], (jenc 0)), (100, [], (jenc (-1))), (100, [], (jenc ((-1) * (jlg 0)))), (100, [], [0, 0, 0])]) (c1 := 0) (s1 := 0) (c2 := (b1 + 1680 * q + 1680)) (s2 := (b2 + 89880 * q + 89880)) (by exact rfl) ?_ (by omega) (by omega)
    refine jT_xistore (v := (0, -y2)) (LN := [(8, (0, -y2)), (7, (0, r7)), (6, (0, 0)), (5, (4, 26)), (0, (4, 0)), (1, (0, y1)), (2, (0, y2)), (3, (0, o3))]) (pcN := 159) jIQ_298_157 rfl rfl rfl rfl ?_
    refine jT_loc (LN := [(8, (0, -y2)), (7, (0, r7)), (6, (0, 0)), (5, (4, 26)), (0, (4, 0)), (1, (0, y1)), (2, (0, y2)), (3, (0, o3))]) (by show List.Nodup [8, 7, 6, 5, 0, 1, 2, 3]; decide) (by intro q hq; simp only [List.mem_cons, List.not_mem_nil, or_false] at hq; rcases hq with rfl | rfl | rfl | rfl | rfl | rfl | rfl | rfl <;> rfl) ?_
    refine jT.mono (jQl_gc_188 (b1 := (b1 + 1680 * q + 0)) (b2 := (b2 + 89880 * q + 0)) (by omega) (y1 := y1) (y2 := y2) (r7 := r7) (o3 := o3) (by omega) (by omega) (by omega) (by omega) (fun u7_0 u7_1 u7_2 u7_3 u7_4 u7_5 => ?_) ((y2 + 1 : Int) - (-y2)).toNat (-y2) u7_0 u7_1 u7_2 u7_3 u7_4 u7_5 (by omega) (by omega)) (Nat.le_refl _) (by omega) (by omega) (fun _ _ _ z => z)
    refine jT_xiinc (x := r7) (z := r7 + 1) (LN := [(7, (0, r7 + 1)), (6, (0, 0)), (5, (4, 26)), (0, (4, 0)), (1, (0, y1)), (2, (0, y2)), (3, (0, o3))]) (pcN := 208) jIQ_298_205 rfl rfl (rfl) rfl rfl ?_
    refine jT_xgoto (pcN := 149) jIQ_298_208 rfl ?_
    refine jT_loc (LN := [(7, (0, r7 + 1)), (6, (0, 0)), (5, (4, 26)), (0, (4, 0)), (1, (0, y1)), (2, (0, y2)), (3, (0, o3))]) (by show List.Nodup [7, 6, 5, 0, 1, 2, 3]; decide) (by intro q hq; simp only [List.mem_cons, List.not_mem_nil, or_false] at hq; rcases hq with rfl | rfl | rfl | rfl | rfl | rfl | rfl <;> rfl) ?_
    exact ih (r7 + 1) u7_0 u7_1 u7_2 u7_3 u7_4 u7_5 (by omega) (by omega)
def jpQ_628 : List JC := [jzQ_20, (100, [], jS0), jgh, jgh, jgh, jgh, (130, [], [16, 17, 18, 19, 20, 21]), jgh, jgh, jgh, jgh, jgh, jgh, jgh, jgh, jgh, (100, [], (jenc (jlg 0))), (100, [], (jenc (jlg 1))), (100, [], (jenc (jlg 2))), (100, [], (jenc (jlg 3))), (100, [], (jenc (jlg 4))), (100, [], (jenc (jlg 5))), (101, [], [(-1), 0, 0, 0, 0, 0]), (100, [], (jenc 0)), (100, [], (jenc (-1))), (100, [], (jenc ((-1) * (jlg 0)))), (100, [], [0, 0, 0])]
theorem jQ_298_189 {xs : List Int} {d : Nat} {x1 x2 x3 : Int} (h_x1 : 0 ≤ x1 ∧ x1 ≤ 20) (h_x2 : 0 ≤ x2 ∧ x2 ≤ 10) (h_x3 : 0 ≤ x3 ∧ x3 ≤ 7) : jT xs (d + 10) 298 22 0 [(0, (4, 0)), (1, (0, x1)), (2, (0, x2)), (3, (0, x3)), (4, (0, 0))] [] jpQ_573 68885 3685257 (fun k v hsN => k = 0 ∧ v = (0, 0) ∧ hsN = jpQ_628) := by
  refine jT_xaload_n (v := (4, 0)) (pcN := 1) jIQ_298_0 rfl rfl rfl ?_
  refine jT_xiconst (k := 0) (pcN := 2) jIQ_298_1 rfl ?_
  refine jT_adv 1 (pcN := 5) (LN := [(0, (4, 0)), (1, (0, x1)), (2, (0, x2)), (3, (0, x3)), (4, (0, 0))]) (stN := []) (hsN := jpQ_573) (c1 := 0) (s1 := 0) (c2 := 68885) (s2 := 3685257) (by exact rfl) ?_ (by omega) (by omega)
  refine jT_xaload_n (v := (4, 0)) (pcN := 6) jIQ_298_5 rfl rfl rfl ?_
  refine jT_xiload_n (v := (0, x1)) (pcN := 7) jIQ_298_6 rfl rfl rfl ?_
  refine jT_xi2l (x := x1) (z := x1) (pcN := 8) jIQ_298_7 rfl (jw_idd (by omega) (by omega)) rfl ?_
  refine jT_xlconst (z := 0) (pcN := 9) jIQ_298_8 rfl rfl ?_
  refine jT_adv 1 (pcN := 12) (LN := [(0, (4, 0)), (1, (0, x1)), (2, (0, x2)), (3, (0, x3)), (4, (0, 0))]) (stN := [(1, 20), (1, 0), (1, x1), (4, 0)]) (hsN := jpQ_573) (c1 := 0) (s1 := 0) (c2 := 68885) (s2 := 3685257) (by exact rfl) ?_ (by omega) (by omega)
  refine jT_fR [] 22 (y := 189) (pcN := 15) (dC := 0) (bc1 := 0) (bc2 := 0) (c1 := 68885) (c2 := 3685257) (as := [(1, x1), (1, 0), (1, 20)]) (asC := [(1, x1), (1, 0), (1, 20)]) (LN := [(0, (4, 0)), (1, (0, x1)), (2, (0, x2)), (3, (0, x3)), (4, (0, 0))]) (stN := [(4, 0)]) (hsC := []) (v := (0, 1)) (st2 := [(0, 1), (4, 0)]) (jT_in_ok (d := 0) (v := x1) (lo := 0) (hi := 20) (by omega) (by omega) (by omega) (by omega) (by omega)) (by rfl) (by rfl) (by decide +kernel) (by rfl) (by rfl) (by omega) (by omega) (by omega) (by omega) rfl ?_
  refine jT_xifF (t := 47) (pcN := 18) jIQ_298_15 rfl (by decide +kernel) rfl rfl ?_
  refine jT_xiload_n (v := (0, x2)) (pcN := 19) jIQ_298_18 rfl rfl rfl ?_
  refine jT_xi2l (x := x2) (z := x2) (pcN := 20) jIQ_298_19 rfl (jw_idd (by omega) (by omega)) rfl ?_
  refine jT_xlconst (z := 0) (pcN := 21) jIQ_298_20 rfl rfl ?_
  refine jT_adv 1 (pcN := 24) (LN := [(0, (4, 0)), (1, (0, x1)), (2, (0, x2)), (3, (0, x3)), (4, (0, 0))]) (stN := [(1, 10), (1, 0), (1, x2), (4, 0)]) (hsN := jpQ_573) (c1 := 0) (s1 := 0) (c2 := 68885) (s2 := 3685257) (by exact rfl) ?_ (by omega) (by omega)
  refine jT_fR [] 22 (y := 189) (pcN := 27) (dC := 0) (bc1 := 0) (bc2 := 0) (c1 := 68885) (c2 := 3685257) (as := [(1, x2), (1, 0), (1, 10)]) (asC := [(1, x2), (1, 0), (1, 10)]) (LN := [(0, (4, 0)), (1, (0, x1)), (2, (0, x2)), (3, (0, x3)), (4, (0, 0))]) (stN := [(4, 0)]) (hsC := []) (v := (0, 1)) (st2 := [(0, 1), (4, 0)]) (jT_in_ok (d := 0) (v := x2) (lo := 0) (hi := 10) (by omega) (by omega) (by omega) (by omega) (by omega)) (by rfl) (by rfl) (by decide +kernel) (by rfl) (by rfl) (by omega) (by omega) (by omega) (by omega) rfl ?_
  refine jT_xifF (t := 47) (pcN := 30) jIQ_298_27 rfl (by decide +kernel) rfl rfl ?_
  refine jT_xiload (v := (0, 0)) (pcN := 32) jIQ_298_30 rfl rfl rfl ?_
  refine jT_xi2l (x := 0) (z := 0) (pcN := 33) jIQ_298_32 rfl (by decide +kernel) rfl ?_
  refine jT_xlconst (z := 0) (pcN := 34) jIQ_298_33 rfl rfl ?_
  refine jT_adv 1 (pcN := 37) (LN := [(0, (4, 0)), (1, (0, x1)), (2, (0, x2)), (3, (0, x3)), (4, (0, 0))]) (stN := [(1, 100), (1, 0), (1, 0), (4, 0)]) (hsN := jpQ_573) (c1 := 0) (s1 := 0) (c2 := 68885) (s2 := 3685257) (by exact rfl) ?_ (by omega) (by omega)
  refine jT_fR [] 22 (y := 189) (pcN := 40) (dC := 0) (bc1 := 0) (bc2 := 0) (c1 := 68885) (c2 := 3685257) (as := [(1, 0), (1, 0), (1, 100)]) (asC := [(1, 0), (1, 0), (1, 100)]) (LN := [(0, (4, 0)), (1, (0, x1)), (2, (0, x2)), (3, (0, x3)), (4, (0, 0))]) (stN := [(4, 0)]) (hsC := []) (v := (0, 1)) (st2 := [(0, 1), (4, 0)]) (jQ_189_135 (d := 0)) (by rfl) (by rfl) (by decide +kernel) (by rfl) (by rfl) (by omega) (by omega) (by omega) (by omega) rfl ?_
  refine jT_xifF (t := 47) (pcN := 43) jIQ_298_40 rfl (by decide +kernel) rfl rfl ?_
  refine jT_xiconst (k := 1) (pcN := 44) jIQ_298_43 rfl ?_
  refine jT_xgoto (pcN := 48) jIQ_298_44 rfl ?_
  refine jT_xiconst (k := 1) (pcN := 49) jIQ_298_48 rfl ?_
  refine jT_fR [0] 22 (y := 191) (pcN := 52) (dC := 0) (bc1 := 0) (bc2 := 0) (c1 := 68885) (c2 := 3685257) (as := [(4, 0), (0, 1), (0, 1)]) (asC := [(4, 0), (0, 1), (0, 1)]) (LN := [(0, (4, 0)), (1, (0, x1)), (2, (0, x2)), (3, (0, x3)), (4, (0, 0))]) (stN := []) (hsC := [jgh]) (v := (0, 0)) (st2 := [(0, 0)]) (jQ_191_21 (d := 0)) (by rfl) (by rfl) (by decide +kernel) (by rfl) (by rfl) (by omega) (by omega) (by omega) (by omega) rfl ?_
  refine jT_xifF (t := 67) (pcN := 55) jIQ_298_52 rfl (by decide +kernel) rfl rfl ?_
  refine jT_xaload_n (v := (4, 0)) (pcN := 56) jIQ_298_55 rfl rfl rfl ?_
  refine jT_xiload_n (v := (0, x3)) (pcN := 57) jIQ_298_56 rfl rfl rfl ?_
  refine jT_fR [] 22 (y := 188) (pcN := 60) (dC := 1) (bc1 := 0) (bc2 := 0) (c1 := 68885) (c2 := 3685257) (as := [(0, x3)]) (asC := [(0, x3)]) (LN := [(0, (4, 0)), (1, (0, x1)), (2, (0, x2)), (3, (0, x3)), (4, (0, 0))]) (stN := [(4, 0)]) (hsC := []) (v := (0, 1)) (st2 := [(0, 1), (4, 0)]) (jQ_188_136 (d := 0) (by omega)) (by rfl) (by rfl) (by decide +kernel) (by rfl) (by rfl) (by omega) (by omega) (by omega) (by omega) rfl ?_
  refine jT_xiconst (k := 2) (pcN := 61) jIQ_298_60 rfl ?_
  refine jT_fR [0] 22 (y := 191) (pcN := 64) (dC := 0) (bc1 := 0) (bc2 := 0) (c1 := 68885) (c2 := 3685257) (as := [(4, 0), (0, 1), (0, 2)]) (asC := [(4, 0), (0, 1), (0, 2)]) (LN := [(0, (4, 0)), (1, (0, x1)), (2, (0, x2)), (3, (0, x3)), (4, (0, 0))]) (stN := []) (hsC := [jgh]) (v := (0, 0)) (st2 := [(0, 0)]) (jQ_191_137 (d := 0)) (by rfl) (by rfl) (by decide +kernel) (by rfl) (by rfl) (by omega) (by omega) (by omega) (by omega) rfl ?_
  refine jT_xifT (pcN := 69) jIQ_298_64 rfl (by decide +kernel) rfl ?_
  refine jT_xaload_n (v := (4, 0)) (pcN := 70) jIQ_298_69 rfl rfl rfl ?_
  refine jT_xiload_n (v := (0, x3)) (pcN := 71) jIQ_298_70 rfl rfl rfl ?_
  refine jT_fR [0, 1, 2, 3, 4, 5, 6, 7, 8, 9, 10, 11, 12, 13, 14, 15] 22 (y := 202) (pcN := 74) (dC := 1) (bc1 := 0) (bc2 := 0) (c1 := 68885) (c2 := 3685257) (as := [(4, 0), (0, x3)]) (asC := [(4, 0), (0, x3)]) (LN := [(0, (4, 0)), (1, (0, x1)), (2, (0, x2)), (3, (0, x3)), (4, (0, 0))]) (stN := []) (hsC := jpQ_354) (v := (9, 0)) (st2 := []) (jQ_202_139 (d := 0) (by omega)) (by rfl) (by rfl) (by decide +kernel) (by rfl) (by rfl) (by omega) (by omega) (by omega) (by omega) rfl ?_
  refine jT_xaload_n (v := (4, 0)) (pcN := 75) jIQ_298_74 rfl rfl rfl ?_
  refine jT_xaload_n (v := (4, 0)) (pcN := 76) jIQ_298_75 rfl rfl rfl ?_
  refine jT_xaload_n (v := (4, 0)) (pcN := 77) jIQ_298_76 rfl rfl rfl ?_
  refine jT_xgetf (a := 0) (t := 1) (ci := 14) (fi := 9) (c := jzQ_20) (v := (4, 7)) (pcN := 80) jIQ_298_77 rfl rfl rfl rfl rfl rfl rfl ?_
  refine jT_xaload_n (v := (4, 0)) (pcN := 81) jIQ_298_80 rfl rfl rfl ?_
  refine jT_xgetf (a := 0) (t := 1) (ci := 14) (fi := 10) (c := jzQ_20) (v := (1, 1)) (pcN := 84) jIQ_298_81 rfl rfl rfl rfl rfl rfl rfl ?_
  refine jT_fA [0, 7, 1, 2, 3, 4, 5, 6, 8, 9, 10, 11, 12, 13, 14, 15, 16, 17, 18, 19, 20, 21] 22 (y := 212) (pcN := 87) (dC := 4) (bc1 := 4) (bc2 := 174) (c1 := 68881) (c2 := 3685083) (as := [(4, 0), (4, 7), (1, 1)]) (asC := [(4, 0), (4, 1), (1, 1)]) (LN := [(0, (4, 0)), (1, (0, x1)), (2, (0, x2)), (3, (0, x3)), (4, (0, 0))]) (stN := [(4, 0)]) (hsC := jpQ_381) (ex := jpQ_382) (v := (0, (-1))) (st2 := [(0, (-1)), (4, 0)]) (hs2 := jpQ_582) (jQ_212_143 (d := 0)) (by rfl) (by rfl) (by decide +kernel) (by rfl) (by rfl) (by omega) (by omega) (by omega) (by omega) rfl (by decide +kernel) ?_
  refine jT_xifF (t := 94) (pcN := 90) jIQ_298_87 rfl (by decide +kernel) rfl rfl ?_
  refine jT_xiconst (k := 1) (pcN := 91) jIQ_298_90 rfl ?_
  refine jT_xgoto (pcN := 95) jIQ_298_91 rfl ?_
  refine jT_xiconst (k := 3) (pcN := 96) jIQ_298_95 rfl ?_
  refine jT_fR [0] 26 (y := 191) (pcN := 99) (dC := 0) (bc1 := 0) (bc2 := 0) (c1 := 68881) (c2 := 3685083) (as := [(4, 0), (0, 1), (0, 3)]) (asC := [(4, 0), (0, 1), (0, 3)]) (LN := [(0, (4, 0)), (1, (0, x1)), (2, (0, x2)), (3, (0, x3)), (4, (0, 0))]) (stN := []) (hsC := [jgh]) (v := (0, 0)) (st2 := [(0, 0)]) (jQ_191_144 (d := 0)) (by rfl) (by rfl) (by decide +kernel) (by rfl) (by rfl) (by omega) (by omega) (by omega) (by omega) rfl ?_
  refine jT_xifT (pcN := 104) jIQ_298_99 rfl (by decide +kernel) rfl ?_
  refine jT_xiconst (k := 3) (pcN := 105) jIQ_298_104 rfl ?_
  refine jT_adv 1 (pcN := 107) (LN := [(0, (4, 0)), (1, (0, x1)), (2, (0, x2)), (3, (0, x3)), (4, (0, 0))]) (stN := [(4, 26)]) (hsN := jpQ_589) (c1 := 1) (s1 := 3) (c2 := 68880) (s2 := 3685080) (by exact rfl) ?_ (by omega) (by omega)
  refine jT_xastore (v := (4, 26)) (LN := [(5, (4, 26)), (0, (4, 0)), (1, (0, x1)), (2, (0, x2)), (3, (0, x3)), (4, (0, 0))]) (pcN := 109) jIQ_298_107 rfl rfl rfl rfl ?_
  refine jT_xiconst (k := 0) (pcN := 110) jIQ_298_109 rfl ?_
  refine jT_xistore (v := (0, 0)) (LN := [(6, (0, 0)), (5, (4, 26)), (0, (4, 0)), (1, (0, x1)), (2, (0, x2)), (3, (0, x3)), (4, (0, 0))]) (pcN := 112) jIQ_298_110 rfl rfl rfl rfl ?_
  refine jT_xiload (v := (0, 0)) (pcN := 114) jIQ_298_112 rfl rfl rfl ?_
  refine jT_xiconst (k := 3) (pcN := 115) jIQ_298_114 rfl ?_
  refine jT_xicF (t := 142) (pcN := 118) jIQ_298_115 rfl (by decide +kernel) rfl rfl ?_
  refine jT_xiload (v := (0, 0)) (pcN := 120) jIQ_298_118 rfl rfl rfl ?_
  refine jT_xifT (pcN := 142) jIQ_298_120 rfl (by decide +kernel) rfl ?_
  refine jT_xiconst (k := 0) (pcN := 143) jIQ_298_142 rfl ?_
  refine jT_xistore (v := (0, 0)) (LN := [(6, (0, 0)), (5, (4, 26)), (0, (4, 0)), (1, (0, x1)), (2, (0, x2)), (3, (0, x3)), (4, (0, 0))]) (pcN := 145) jIQ_298_143 rfl rfl rfl rfl ?_
  refine jT_xiload_n (v := (0, x1)) (pcN := 146) jIQ_298_145 rfl rfl rfl ?_
  refine jT_adv 1 (pcN := 147) (LN := [(6, (0, 0)), (5, (4, 26)), (0, (4, 0)), (1, (0, x1)), (2, (0, x2)), (3, (0, x3)), (4, (0, 0))]) (stN := [(0, -x1)]) (hsN := jpQ_589) (c1 := 0) (s1 := 0) (c2 := 68880) (s2 := 3685080) (by exact rfl) ?_ (by omega) (by omega)
  refine jT_xistore (v := (0, -x1)) (LN := [(7, (0, -x1)), (6, (0, 0)), (5, (4, 26)), (0, (4, 0)), (1, (0, x1)), (2, (0, x2)), (3, (0, x3)), (4, (0, 0))]) (pcN := 149) jIQ_298_147 rfl rfl rfl rfl ?_
  refine jT_loc (LN := [(7, (0, -x1)), (6, (0, 0)), (5, (4, 26)), (0, (4, 0)), (1, (0, x1)), (2, (0, x2)), (3, (0, x3))]) (by show List.Nodup [7, 6, 5, 0, 1, 2, 3]; decide) (by intro q hq; simp only [List.mem_cons, List.not_mem_nil, or_false] at hq; rcases hq with rfl | rfl | rfl | rfl | rfl | rfl | rfl <;> rfl) ?_
  refine jT.mono (jQl_gc_187 (b1 := 0) (b2 := 0) (by omega) (y1 := x1) (y2 := x2) (o3 := x3) (by omega) (by omega) (by omega) (fun u7_0 u7_1 u7_2 u7_3 u7_4 u7_5 => ?_) ((x1 + 1 : Int) - (-x1)).toNat (-x1) 0 0 0 0 0 0 (by omega) (by omega)) (Nat.le_refl _) (by omega) (by omega) (fun _ _ _ z => z)
  refine jT_forget (a := 7) (c := (101, [], [u7_0, u7_1, u7_2, u7_3, u7_4, u7_5])) rfl rfl ?_
  refine jT_eq (LN := [(6, (0, 0))]) (stN := []) (hsN := jpQ_628) rfl rfl rfl ?_
  refine jT_advK 1 (pcN := 213) (LN := [(6, (0, 0))]) (stN := [(0, 0)]) (hsN := jpQ_628) (c1 := 0) (s1 := 0) (c2 := 0) (s2 := 0) (by decide +kernel) ?_ (by omega) (by omega)
  exact jT_ret rfl (by decide) (by show 22 ≤ 27; omega) (by omega) (by omega) ⟨rfl, rfl, rfl⟩
theorem jQ_186_190 {xs : List Int} {d : Nat} : jT xs d 186 16 0 [(0, (4, 0))] [] jpQ_21 0 0 (fun k v hsN => k = 0 ∧ v = (0, 0) ∧ hsN = jpQ_21 ++ []) := by
  refine jT_advK 2 (pcN := 4) (LN := [(0, (4, 0))]) (stN := [(0, 0)]) (hsN := jpQ_21) (c1 := 0) (s1 := 0) (c2 := 0) (s2 := 0) (by decide +kernel) ?_ (by omega) (by omega)
  exact jT_ret rfl (by decide) (by show 16 ≤ 16; omega) (by omega) (by omega) ⟨rfl, rfl, rfl⟩
theorem jQ_116_191 {xs : List Int} {d : Nat} {x4 : Int} (h_x4 : 1 ≤ x4 ∧ x4 ≤ 100) : jT xs d 116 1 0 [(0, (4, 0)), (1, (0, x4)), (2, (0, 0)), (3, (0, 100))] [] [jgh] 0 0 (fun k v hsN => k = 0 ∧ v = (9, 0) ∧ hsN = [jgh] ++ []) := by
  refine jT_xiload_n (v := (0, x4)) (pcN := 1) jIQ_116_0 rfl rfl rfl ?_
  refine jT_xiload_n (v := (0, 0)) (pcN := 2) jIQ_116_1 rfl rfl rfl ?_
  refine jT_icF (a := x4) (b := 0) (t := 10) (by rfl) (by rfl) (by rfl) (jw_idd (by omega) (by omega)) (jw_idd (by omega) (by omega)) (by simp only [jcP] <;> omega) ?_
  refine jT_xiload_n (v := (0, x4)) (pcN := 6) jIQ_116_5 rfl rfl rfl ?_
  refine jT_xiload_n (v := (0, 100)) (pcN := 7) jIQ_116_6 rfl rfl rfl ?_
  refine jT_icT (a := x4) (b := 100) (t := 21) (by rfl) (by rfl) (by rfl) (jw_idd (by omega) (by omega)) (jw_idd (by omega) (by omega)) (by simp only [jcP] <;> omega) ?_
  exact jT_ret rfl (by decide) (by show 1 ≤ 1; omega) (by omega) (by omega) ⟨rfl, rfl, rfl⟩
theorem jQ_39_192 {xs : List Int} {d : Nat} : jT xs d 39 2 0 [(0, (4, 0)), (1, (4, 1))] [] [jgh, (101, [], [1, 0, 0, 0, 0, 0])] 0 0 (fun k v hsN => k = 0 ∧ v = (1, 0) ∧ hsN = [jgh, (101, [], [1, 0, 0, 0, 0, 0])] ++ []) := by
  refine jT_advK 68 (pcN := 29) (LN := [(4, (0, 6)), (2, (1, 0)), (0, (4, 0)), (1, (4, 1))]) (stN := [(1, 0)]) (hsN := [jgh, (101, [], [1, 0, 0, 0, 0, 0])]) (c1 := 0) (s1 := 0) (c2 := 0) (s2 := 0) (by decide +kernel) ?_ (by omega) (by omega)
  exact jT_ret rfl (by decide) (by show 2 ≤ 2; omega) (by omega) (by omega) ⟨rfl, rfl, rfl⟩
theorem jQ_45_193 {xs : List Int} {d : Nat} {x4 : Int} (h_x4 : 1 ≤ x4 ∧ x4 ≤ 100) : jT xs (d + 1) 45 3 0 [(0, (4, 0)), (1, (4, 1)), (2, (1, 1)), (4, (1, 2 * x4))] [] [(8, [(4, 2), (4, 1)], []), (101, [], [1, 0, 0, 0, 0, 0]), jgh] 0 0 (fun k v hsN => k = 0 ∧ v = (1, 2 * x4) ∧ hsN = [(8, [(4, 2), (4, 1)], []), (101, [], [1, 0, 0, 0, 0, 0]), jgh] ++ []) := by
  refine jT_xlload_n (v := (1, 1)) (pcN := 1) jIQ_45_0 rfl rfl rfl ?_
  refine jT_xlconst (z := 1) (pcN := 2) jIQ_45_1 rfl rfl ?_
  refine jT_lcmp (a := 1) (b := 1) (z := 0) (by rfl) (by rfl) (by decide +kernel) (by decide +kernel) (by decide) ?_
  refine jT_xifF (t := 13) (pcN := 6) jIQ_45_3 rfl (by decide +kernel) rfl rfl ?_
  refine jT_xlload (v := (1, 2 * x4)) (pcN := 8) jIQ_45_6 rfl rfl rfl ?_
  refine jT_xlconst (z := 1) (pcN := 9) jIQ_45_8 rfl rfl ?_
  refine jT_lcmp (a := 2 * x4) (b := 1) (z := 1) (by rfl) (by rfl) (jwl_idd (by omega) (by omega)) (jwl_idd (by omega) (by omega)) (by rw [decide_eq_true (show (1 : Int) < 2 * x4 by omega)]; rfl) ?_
  refine jT_xifT (pcN := 15) jIQ_45_10 rfl (by decide +kernel) rfl ?_
  refine jT_xaload_n (v := (4, 0)) (pcN := 16) jIQ_45_15 rfl rfl rfl ?_
  refine jT_xaload_n (v := (4, 1)) (pcN := 17) jIQ_45_16 rfl rfl rfl ?_
  refine jT_fR [0, 1] 3 (y := 39) (pcN := 20) (dC := 0) (bc1 := 0) (bc2 := 0) (c1 := 0) (c2 := 0) (as := [(4, 0), (4, 1)]) (asC := [(4, 0), (4, 1)]) (LN := [(0, (4, 0)), (1, (4, 1)), (2, (1, 1)), (4, (1, 2 * x4))]) (stN := []) (hsC := [jgh, (101, [], [1, 0, 0, 0, 0, 0])]) (v := (1, 0)) (st2 := [(1, 0)]) (jQ_39_192 (d := 0)) (by rfl) (by rfl) (by decide +kernel) (by rfl) (by rfl) (by omega) (by omega) (by omega) (by omega) rfl ?_
  refine jT_xlstore (v := (1, 0)) (LN := [(6, (1, 0)), (0, (4, 0)), (1, (4, 1)), (2, (1, 1)), (4, (1, 2 * x4))]) (pcN := 22) jIQ_45_20 rfl rfl rfl rfl ?_
  refine jT_xlload (v := (1, 0)) (pcN := 24) jIQ_45_22 rfl rfl rfl ?_
  refine jT_xlconst (z := 0) (pcN := 25) jIQ_45_24 rfl rfl ?_
  refine jT_lcmp (a := 0) (b := 0) (z := 0) (by rfl) (by rfl) (by decide +kernel) (by decide +kernel) (by decide) ?_
  refine jT_xifF (t := 40) (pcN := 29) jIQ_45_26 rfl (by decide +kernel) rfl rfl ?_
  refine jT_xaload_n (v := (4, 1)) (pcN := 30) jIQ_45_29 rfl rfl rfl ?_
  refine jT_xiconst (k := 0) (pcN := 31) jIQ_45_30 rfl ?_
  refine jT_lald (x := 1) (a := 1) (j := 0) (fs := []) (X := [1, 0, 0, 0, 0, 0]) jIQ_45_31 rfl rfl rfl rfl ?_
  refine jT_eq (LN := [(6, (1, 0)), (0, (4, 0)), (1, (4, 1)), (2, (1, 1)), (4, (1, 2 * x4))]) (stN := [(1, 1)]) (hsN := [(8, [(4, 2), (4, 1)], []), (101, [], [1, 0, 0, 0, 0, 0]), jgh]) rfl rfl rfl ?_
  refine jT_xlload (v := (1, 2 * x4)) (pcN := 34) jIQ_45_32 rfl rfl rfl ?_
  refine jT_xlmul (x := 1) (y := 2 * x4) (z := 2 * x4) (pcN := 35) jIQ_45_34 rfl (by omega) rfl ?_
  refine jT_xlload_n (v := (1, 1)) (pcN := 36) jIQ_45_35 rfl rfl rfl ?_
  refine jT_fR [] 3 (y := 373) (pcN := 39) (dC := 0) (bc1 := 0) (bc2 := 0) (c1 := 0) (c2 := 0) (as := [(1, 2 * x4), (1, 1)]) (asC := [(1, 2 * x4), (1, 1)]) (LN := [(6, (1, 0)), (0, (4, 0)), (1, (4, 1)), (2, (1, 1)), (4, (1, 2 * x4))]) (stN := []) (hsC := []) (v := (1, (2 * x4) / 1)) (st2 := [(1, (2 * x4) / 1)]) (jT_fdJ1 (d := 0) (x := 2 * x4) (by omega)) (by rfl) (by rfl) (by decide +kernel) (by rfl) (by rfl) (by omega) (by omega) (by omega) (by omega) rfl ?_
  refine jT_eq (LN := [(6, (1, 0)), (0, (4, 0)), (1, (4, 1)), (2, (1, 1)), (4, (1, 2 * x4))]) (stN := [(1, 2 * x4)]) (hsN := [(8, [(4, 2), (4, 1)], []), (101, [], [1, 0, 0, 0, 0, 0]), jgh]) (rfl) (by simp only [List.cons.injEq, Prod.mk.injEq, and_true, true_and] <;> ((try unfold jw); (try unfold jwl); omega)) (rfl) ?_
  exact jT_ret rfl (by decide) (by show 3 ≤ 3; omega) (by omega) (by omega) ⟨rfl, rfl, rfl⟩
theorem jIQ_374_0 : jmI (jm 374) 0 = (.lload_n 0, 1) := by rfl
theorem jIQ_374_1 : jmI (jm 374) 1 = (.iload_n 2, 1) := by rfl
theorem jIQ_374_2 : jmI (jm 374) 2 = (.i2l, 1) := by rfl
theorem jQ_374_194 {xs : List Int} {d : Nat} {x4 : Int} (h_x4 : 1 ≤ x4 ∧ x4 ≤ 100) : jT xs (d + 1) 374 0 0 [(0, (1, 2 * x4 + 1)), (2, (0, 2))] [] [] 0 0 (fun k v hsN => k = 0 ∧ v = (1, (2 * x4 + 1) / 2) ∧ hsN = [] ++ []) := by
  refine jT_xlload_n (v := (1, 2 * x4 + 1)) (pcN := 1) jIQ_374_0 rfl rfl rfl ?_
  refine jT_xiload_n (v := (0, 2)) (pcN := 2) jIQ_374_1 rfl rfl rfl ?_
  refine jT_xi2l (x := 2) (z := 2) (pcN := 3) jIQ_374_2 rfl (by decide +kernel) rfl ?_
  refine jT_fR [] 0 (y := 373) (pcN := 6) (dC := 0) (bc1 := 0) (bc2 := 0) (c1 := 0) (c2 := 0) (as := [(1, 2 * x4 + 1), (1, 2)]) (asC := [(1, 2 * x4 + 1), (1, 2)]) (LN := [(0, (1, 2 * x4 + 1)), (2, (0, 2))]) (stN := []) (hsC := []) (v := (1, (2 * x4 + 1) / 2)) (st2 := [(1, (2 * x4 + 1) / 2)]) (jT_fdJ2 (d := 0) (x := 2 * x4 + 1) (by omega)) (by rfl) (by rfl) (by decide +kernel) (by rfl) (by rfl) (by omega) (by omega) (by omega) (by omega) rfl ?_
  have hb_q1 : 1 ≤ (2 * x4 + 1) / 2 ∧ (2 * x4 + 1) / 2 ≤ 100 := ⟨by omega, by omega⟩
  generalize hq_q1 : (2 * x4 + 1) / 2 = q1 at hb_q1 ⊢
  subst hq_q1
  exact jT_ret rfl (by decide) (by show 0 ≤ 0; omega) (by omega) (by omega) ⟨rfl, rfl, rfl⟩
theorem jQ_39_195 {xs : List Int} {d : Nat} : jT xs d 39 2 0 [(0, (4, 0)), (1, (4, 1))] [] [jgh, (101, [], [0, 1, 0, 0, 0, 0])] 0 0 (fun k v hsN => k = 0 ∧ v = (1, 1) ∧ hsN = [jgh, (101, [], [0, 1, 0, 0, 0, 0])] ++ []) := by
  refine jT_advK 68 (pcN := 29) (LN := [(4, (0, 6)), (2, (1, 1)), (0, (4, 0)), (1, (4, 1))]) (stN := [(1, 1)]) (hsN := [jgh, (101, [], [0, 1, 0, 0, 0, 0])]) (c1 := 0) (s1 := 0) (c2 := 0) (s2 := 0) (by decide +kernel) ?_ (by omega) (by omega)
  exact jT_ret rfl (by decide) (by show 2 ≤ 2; omega) (by omega) (by omega) ⟨rfl, rfl, rfl⟩
theorem jQ_40_196 {xs : List Int} {d : Nat} : jT xs d 40 2 0 [(0, (4, 0)), (1, (4, 1)), (2, (1, 1))] [] [jgh, (101, [], [0, 1, 0, 0, 0, 0])] 0 0 (fun k v hsN => k = 0 ∧ v = (0, 1) ∧ hsN = [jgh, (101, [], [0, 1, 0, 0, 0, 0])] ++ []) := by
  refine jT_advK 13 (pcN := 26) (LN := [(0, (4, 0)), (1, (4, 1)), (2, (1, 1))]) (stN := [(0, 1)]) (hsN := [jgh, (101, [], [0, 1, 0, 0, 0, 0])]) (c1 := 0) (s1 := 0) (c2 := 0) (s2 := 0) (by decide +kernel) ?_ (by omega) (by omega)
  exact jT_ret rfl (by decide) (by show 2 ≤ 2; omega) (by omega) (by omega) ⟨rfl, rfl, rfl⟩
theorem jQ_41_197 {xs : List Int} {d : Nat} : jT xs d 41 2 0 [(0, (4, 0)), (1, (4, 1))] [] [jgh, (101, [], [0, 1, 0, 0, 0, 0])] 0 0 (fun k v hsN => k = 0 ∧ v = (1, 108917793695) ∧ hsN = [jgh, (101, [], [0, 1, 0, 0, 0, 0])] ++ []) := by
  refine jT_advK 98 (pcN := 33) (LN := [(4, (0, 6)), (2, (1, 108917793695)), (0, (4, 0)), (1, (4, 1))]) (stN := [(1, 108917793695)]) (hsN := [jgh, (101, [], [0, 1, 0, 0, 0, 0])]) (c1 := 0) (s1 := 0) (c2 := 0) (s2 := 0) (by decide +kernel) ?_ (by omega) (by omega)
  exact jT_ret rfl (by decide) (by show 2 ≤ 2; omega) (by omega) (by omega) ⟨rfl, rfl, rfl⟩
theorem jQ_45_198 {xs : List Int} {d : Nat} {x4 : Int} (h_x4 : 1 ≤ x4 ∧ x4 ≤ 100) : jT xs (d + 1) 45 3 0 [(0, (4, 0)), (1, (4, 1)), (2, (1, 1)), (4, (1, 2 * x4))] [] [(8, [(4, 2), (4, 1)], []), (101, [], [0, 1, 0, 0, 0, 0]), jgh] 0 0 (fun k v hsN => k = 0 ∧ v = (1, (217835587388 * x4) / 68719476736) ∧ hsN = [(8, [(4, 2), (4, 1)], []), (101, [], [0, 1, 0, 0, 0, 0]), jgh] ++ []) := by
  refine jT_xlload_n (v := (1, 1)) (pcN := 1) jIQ_45_0 rfl rfl rfl ?_
  refine jT_xlconst (z := 1) (pcN := 2) jIQ_45_1 rfl rfl ?_
  refine jT_lcmp (a := 1) (b := 1) (z := 0) (by rfl) (by rfl) (by decide +kernel) (by decide +kernel) (by decide) ?_
  refine jT_xifF (t := 13) (pcN := 6) jIQ_45_3 rfl (by decide +kernel) rfl rfl ?_
  refine jT_xlload (v := (1, 2 * x4)) (pcN := 8) jIQ_45_6 rfl rfl rfl ?_
  refine jT_xlconst (z := 1) (pcN := 9) jIQ_45_8 rfl rfl ?_
  refine jT_lcmp (a := 2 * x4) (b := 1) (z := 1) (by rfl) (by rfl) (jwl_idd (by omega) (by omega)) (jwl_idd (by omega) (by omega)) (by rw [decide_eq_true (show (1 : Int) < 2 * x4 by omega)]; rfl) ?_
  refine jT_xifT (pcN := 15) jIQ_45_10 rfl (by decide +kernel) rfl ?_
  refine jT_xaload_n (v := (4, 0)) (pcN := 16) jIQ_45_15 rfl rfl rfl ?_
  refine jT_xaload_n (v := (4, 1)) (pcN := 17) jIQ_45_16 rfl rfl rfl ?_
  refine jT_fR [0, 1] 3 (y := 39) (pcN := 20) (dC := 0) (bc1 := 0) (bc2 := 0) (c1 := 0) (c2 := 0) (as := [(4, 0), (4, 1)]) (asC := [(4, 0), (4, 1)]) (LN := [(0, (4, 0)), (1, (4, 1)), (2, (1, 1)), (4, (1, 2 * x4))]) (stN := []) (hsC := [jgh, (101, [], [0, 1, 0, 0, 0, 0])]) (v := (1, 1)) (st2 := [(1, 1)]) (jQ_39_195 (d := 0)) (by rfl) (by rfl) (by decide +kernel) (by rfl) (by rfl) (by omega) (by omega) (by omega) (by omega) rfl ?_
  refine jT_xlstore (v := (1, 1)) (LN := [(6, (1, 1)), (0, (4, 0)), (1, (4, 1)), (2, (1, 1)), (4, (1, 2 * x4))]) (pcN := 22) jIQ_45_20 rfl rfl rfl rfl ?_
  refine jT_xlload (v := (1, 1)) (pcN := 24) jIQ_45_22 rfl rfl rfl ?_
  refine jT_xlconst (z := 0) (pcN := 25) jIQ_45_24 rfl rfl ?_
  refine jT_lcmp (a := 1) (b := 0) (z := 1) (by rfl) (by rfl) (by decide +kernel) (by decide +kernel) (by decide) ?_
  refine jT_xifT (pcN := 40) jIQ_45_26 rfl (by decide +kernel) rfl ?_
  refine jT_xaload_n (v := (4, 0)) (pcN := 41) jIQ_45_40 rfl rfl rfl ?_
  refine jT_xaload_n (v := (4, 1)) (pcN := 42) jIQ_45_41 rfl rfl rfl ?_
  refine jT_xlload (v := (1, 1)) (pcN := 44) jIQ_45_42 rfl rfl rfl ?_
  refine jT_fR [0, 1] 3 (y := 40) (pcN := 47) (dC := 0) (bc1 := 0) (bc2 := 0) (c1 := 0) (c2 := 0) (as := [(4, 0), (4, 1), (1, 1)]) (asC := [(4, 0), (4, 1), (1, 1)]) (LN := [(6, (1, 1)), (0, (4, 0)), (1, (4, 1)), (2, (1, 1)), (4, (1, 2 * x4))]) (stN := []) (hsC := [jgh, (101, [], [0, 1, 0, 0, 0, 0])]) (v := (0, 1)) (st2 := [(0, 1)]) (jQ_40_196 (d := 0)) (by rfl) (by rfl) (by decide +kernel) (by rfl) (by rfl) (by omega) (by omega) (by omega) (by omega) rfl ?_
  refine jT_xifF (t := 120) (pcN := 50) jIQ_45_47 rfl (by decide +kernel) rfl rfl ?_
  refine jT_xaload_n (v := (4, 0)) (pcN := 51) jIQ_45_50 rfl rfl rfl ?_
  refine jT_xaload_n (v := (4, 1)) (pcN := 52) jIQ_45_51 rfl rfl rfl ?_
  refine jT_fR [0, 1] 3 (y := 41) (pcN := 55) (dC := 0) (bc1 := 0) (bc2 := 0) (c1 := 0) (c2 := 0) (as := [(4, 0), (4, 1)]) (asC := [(4, 0), (4, 1)]) (LN := [(6, (1, 1)), (0, (4, 0)), (1, (4, 1)), (2, (1, 1)), (4, (1, 2 * x4))]) (stN := []) (hsC := [jgh, (101, [], [0, 1, 0, 0, 0, 0])]) (v := (1, 108917793695)) (st2 := [(1, 108917793695)]) (jQ_41_197 (d := 0)) (by rfl) (by rfl) (by decide +kernel) (by rfl) (by rfl) (by omega) (by omega) (by omega) (by omega) rfl ?_
  refine jT_xlstore (v := (1, 108917793695)) (LN := [(8, (1, 108917793695)), (6, (1, 1)), (0, (4, 0)), (1, (4, 1)), (2, (1, 1)), (4, (1, 2 * x4))]) (pcN := 57) jIQ_45_55 rfl rfl rfl rfl ?_
  refine jT_xlload (v := (1, 108917793695)) (pcN := 59) jIQ_45_57 rfl rfl rfl ?_
  refine jT_labs (z := 108917793695) (by rfl) (by rfl) (by rfl) (by rfl) (by decide +kernel) ?_
  refine jT_xlload (v := (1, 1)) (pcN := 64) jIQ_45_62 rfl rfl rfl ?_
  refine jT_xladd (x := 108917793695) (y := 1) (z := 108917793696) (pcN := 65) jIQ_45_64 rfl (by decide) rfl ?_
  refine jT_adv 1 (pcN := 68) (LN := [(8, (1, 108917793695)), (6, (1, 1)), (0, (4, 0)), (1, (4, 1)), (2, (1, 1)), (4, (1, 2 * x4))]) (stN := [(1, 9223372036854775807), (1, 108917793696)]) (hsN := [(8, [(4, 2), (4, 1)], []), (101, [], [0, 1, 0, 0, 0, 0]), jgh]) (c1 := 0) (s1 := 0) (c2 := 0) (s2 := 0) (by exact rfl) ?_ (by omega) (by omega)
  refine jT_xlload (v := (1, 2 * x4)) (pcN := 70) jIQ_45_68 rfl rfl rfl ?_
  refine jT_ldiv (a := 9223372036854775807) (b := 2 * x4) (by rfl) (by rfl) (jwl_idd (by omega) (by omega)) (jwl_idd (by omega) (by omega)) (by omega) ?_
  have hb_q1 := jdv_b (y := 2 * x4) (by omega) (by omega)
  generalize hq_q1 : (9223372036854775807 : Int).tdiv (2 * x4) = q1 at hb_q1 ⊢
  refine jT_lcmp (a := 108917793696) (b := q1) (z := (-1)) (by rfl) (by rfl) (jwl_idd (by omega) (by omega)) (jwl_idd (by omega) (by omega)) (by rw [decide_eq_false (show ¬ ((q1 : Int) < 108917793696) by omega), decide_eq_false (show ¬ ((108917793696 : Int) = q1) by omega)]; rfl) ?_
  refine jT_xifF (t := 120) (pcN := 75) jIQ_45_72 rfl (by decide +kernel) rfl rfl ?_
  refine jT_xlload (v := (1, 108917793695)) (pcN := 77) jIQ_45_75 rfl rfl rfl ?_
  refine jT_xlload (v := (1, 1)) (pcN := 79) jIQ_45_77 rfl rfl rfl ?_
  refine jT_xlsub (x := 108917793695) (y := 1) (z := 108917793694) (pcN := 80) jIQ_45_79 rfl (by decide) rfl ?_
  refine jT_xlload (v := (1, 2 * x4)) (pcN := 82) jIQ_45_80 rfl rfl rfl ?_
  refine jT_xlmul (x := 108917793694) (y := 2 * x4) (z := 217835587388 * x4) (pcN := 83) jIQ_45_82 rfl (by omega) rfl ?_
  refine jT_xlload_n (v := (1, 1)) (pcN := 84) jIQ_45_83 rfl rfl rfl ?_
  refine jT_xbipush (k := 36) (pcN := 86) jIQ_45_84 (by decide) rfl ?_
  refine jT_lshl (x := 1) (y := 36) (z := 68719476736) (by rfl) (by rfl) (by decide +kernel) ?_
  refine jT_fR [] 3 (y := 373) (pcN := 90) (dC := 0) (bc1 := 0) (bc2 := 0) (c1 := 0) (c2 := 0) (as := [(1, 217835587388 * x4), (1, 68719476736)]) (asC := [(1, 217835587388 * x4), (1, 68719476736)]) (LN := [(8, (1, 108917793695)), (6, (1, 1)), (0, (4, 0)), (1, (4, 1)), (2, (1, 1)), (4, (1, 2 * x4))]) (stN := []) (hsC := []) (v := (1, (217835587388 * x4) / 68719476736)) (st2 := [(1, (217835587388 * x4) / 68719476736)]) (jT_fdJK (d := 0) (x := 217835587388 * x4) (by omega)) (by rfl) (by rfl) (by decide +kernel) (by rfl) (by rfl) (by omega) (by omega) (by omega) (by omega) rfl ?_
  have hb_q2 : 3 ≤ (217835587388 * x4) / 68719476736 ∧ (217835587388 * x4) / 68719476736 ≤ 316 := ⟨by omega, by omega⟩
  generalize hq_q2 : (217835587388 * x4) / 68719476736 = q2 at hb_q2 ⊢
  refine jT_xlstore (v := (1, q2)) (LN := [(10, (1, q2)), (8, (1, 108917793695)), (6, (1, 1)), (0, (4, 0)), (1, (4, 1)), (2, (1, 1)), (4, (1, 2 * x4))]) (pcN := 92) jIQ_45_90 rfl rfl rfl rfl ?_
  refine jT_xlload (v := (1, 108917793695)) (pcN := 94) jIQ_45_92 rfl rfl rfl ?_
  refine jT_xlload (v := (1, 1)) (pcN := 96) jIQ_45_94 rfl rfl rfl ?_
  refine jT_xladd (x := 108917793695) (y := 1) (z := 108917793696) (pcN := 97) jIQ_45_96 rfl (by decide) rfl ?_
  refine jT_xlload (v := (1, 2 * x4)) (pcN := 99) jIQ_45_97 rfl rfl rfl ?_
  refine jT_xlmul (x := 108917793696) (y := 2 * x4) (z := 217835587392 * x4) (pcN := 100) jIQ_45_99 rfl (by omega) rfl ?_
  refine jT_xlload_n (v := (1, 1)) (pcN := 101) jIQ_45_100 rfl rfl rfl ?_
  refine jT_xbipush (k := 36) (pcN := 103) jIQ_45_101 (by decide) rfl ?_
  refine jT_lshl (x := 1) (y := 36) (z := 68719476736) (by rfl) (by rfl) (by decide +kernel) ?_
  refine jT_fR [] 3 (y := 373) (pcN := 107) (dC := 0) (bc1 := 0) (bc2 := 0) (c1 := 0) (c2 := 0) (as := [(1, 217835587392 * x4), (1, 68719476736)]) (asC := [(1, 217835587392 * x4), (1, 68719476736)]) (LN := [(10, (1, q2)), (8, (1, 108917793695)), (6, (1, 1)), (0, (4, 0)), (1, (4, 1)), (2, (1, 1)), (4, (1, 2 * x4))]) (stN := []) (hsC := []) (v := (1, (217835587388 * x4) / 68719476736)) (st2 := [(1, (217835587388 * x4) / 68719476736)]) (jT_fdJK2 (d := 0) (x := 217835587392 * x4) (y := 217835587388 * x4) (by omega) (jnr_1 (by omega))) (by rfl) (by rfl) (by decide +kernel) (by rfl) (by rfl) (by omega) (by omega) (by omega) (by omega) rfl ?_
  rw [hq_q2]
  refine jT_xlstore (v := (1, q2)) (LN := [(12, (1, q2)), (10, (1, q2)), (8, (1, 108917793695)), (6, (1, 1)), (0, (4, 0)), (1, (4, 1)), (2, (1, 1)), (4, (1, 2 * x4))]) (pcN := 109) jIQ_45_107 rfl rfl rfl rfl ?_
  refine jT_xlload (v := (1, q2)) (pcN := 111) jIQ_45_109 rfl rfl rfl ?_
  refine jT_xlload (v := (1, q2)) (pcN := 113) jIQ_45_111 rfl rfl rfl ?_
  refine jT_lcmp (a := q2) (b := q2) (z := 0) (by rfl) (by rfl) (jwl_idd (by omega) (by omega)) (jwl_idd (by omega) (by omega)) (by rw [decide_eq_false (show ¬ ((q2 : Int) < q2) by omega), decide_eq_true (show (q2 : Int) = q2 by omega)]; rfl) ?_
  refine jT_xifF (t := 120) (pcN := 117) jIQ_45_114 rfl (by decide +kernel) rfl rfl ?_
  refine jT_xlload (v := (1, q2)) (pcN := 119) jIQ_45_117 rfl rfl rfl ?_
  subst hq_q2
  subst hq_q1
  exact jT_ret rfl (by decide) (by show 3 ≤ 3; omega) (by omega) (by omega) ⟨rfl, rfl, rfl⟩
theorem jQ_374_199 {xs : List Int} {d : Nat} {q2 : Int} (h_q2 : 3 ≤ q2 ∧ q2 ≤ 316) : jT xs (d + 1) 374 0 0 [(0, (1, q2 + 1)), (2, (0, 2))] [] [] 0 0 (fun k v hsN => k = 0 ∧ v = (1, (q2 + 1) / 2) ∧ hsN = [] ++ []) := by
  refine jT_xlload_n (v := (1, q2 + 1)) (pcN := 1) jIQ_374_0 rfl rfl rfl ?_
  refine jT_xiload_n (v := (0, 2)) (pcN := 2) jIQ_374_1 rfl rfl rfl ?_
  refine jT_xi2l (x := 2) (z := 2) (pcN := 3) jIQ_374_2 rfl (by decide +kernel) rfl ?_
  refine jT_fR [] 0 (y := 373) (pcN := 6) (dC := 0) (bc1 := 0) (bc2 := 0) (c1 := 0) (c2 := 0) (as := [(1, q2 + 1), (1, 2)]) (asC := [(1, q2 + 1), (1, 2)]) (LN := [(0, (1, q2 + 1)), (2, (0, 2))]) (stN := []) (hsC := []) (v := (1, (q2 + 1) / 2)) (st2 := [(1, (q2 + 1) / 2)]) (jT_fdJ2 (d := 0) (x := q2 + 1) (by omega)) (by rfl) (by rfl) (by decide +kernel) (by rfl) (by rfl) (by omega) (by omega) (by omega) (by omega) rfl ?_
  have hb_q1 : 2 ≤ (q2 + 1) / 2 ∧ (q2 + 1) / 2 ≤ 158 := ⟨by omega, by omega⟩
  generalize hq_q1 : (q2 + 1) / 2 = q1 at hb_q1 ⊢
  subst hq_q1
  exact jT_ret rfl (by decide) (by show 0 ≤ 0; omega) (by omega) (by omega) ⟨rfl, rfl, rfl⟩
theorem jQ_39_200 {xs : List Int} {d : Nat} : jT xs d 39 2 0 [(0, (4, 0)), (1, (4, 1))] [] [jgh, (101, [], [0, 0, 1, 0, 0, 0])] 0 0 (fun k v hsN => k = 0 ∧ v = (1, 1) ∧ hsN = [jgh, (101, [], [0, 0, 1, 0, 0, 0])] ++ []) := by
  refine jT_advK 68 (pcN := 29) (LN := [(4, (0, 6)), (2, (1, 1)), (0, (4, 0)), (1, (4, 1))]) (stN := [(1, 1)]) (hsN := [jgh, (101, [], [0, 0, 1, 0, 0, 0])]) (c1 := 0) (s1 := 0) (c2 := 0) (s2 := 0) (by decide +kernel) ?_ (by omega) (by omega)
  exact jT_ret rfl (by decide) (by show 2 ≤ 2; omega) (by omega) (by omega) ⟨rfl, rfl, rfl⟩
theorem jQ_40_201 {xs : List Int} {d : Nat} : jT xs d 40 2 0 [(0, (4, 0)), (1, (4, 1)), (2, (1, 1))] [] [jgh, (101, [], [0, 0, 1, 0, 0, 0])] 0 0 (fun k v hsN => k = 0 ∧ v = (0, 1) ∧ hsN = [jgh, (101, [], [0, 0, 1, 0, 0, 0])] ++ []) := by
  refine jT_advK 13 (pcN := 26) (LN := [(0, (4, 0)), (1, (4, 1)), (2, (1, 1))]) (stN := [(0, 1)]) (hsN := [jgh, (101, [], [0, 0, 1, 0, 0, 0])]) (c1 := 0) (s1 := 0) (c2 := 0) (s2 := 0) (by decide +kernel) ?_ (by omega) (by omega)
  exact jT_ret rfl (by decide) (by show 2 ≤ 2; omega) (by omega) (by omega) ⟨rfl, rfl, rfl⟩
theorem jQ_41_202 {xs : List Int} {d : Nat} : jT xs d 41 2 0 [(0, (4, 0)), (1, (4, 1))] [] [jgh, (101, [], [0, 0, 1, 0, 0, 0])] 0 0 (fun k v hsN => k = 0 ∧ v = (1, 159561683699) ∧ hsN = [jgh, (101, [], [0, 0, 1, 0, 0, 0])] ++ []) := by
  refine jT_advK 98 (pcN := 33) (LN := [(4, (0, 6)), (2, (1, 159561683699)), (0, (4, 0)), (1, (4, 1))]) (stN := [(1, 159561683699)]) (hsN := [jgh, (101, [], [0, 0, 1, 0, 0, 0])]) (c1 := 0) (s1 := 0) (c2 := 0) (s2 := 0) (by decide +kernel) ?_ (by omega) (by omega)
  exact jT_ret rfl (by decide) (by show 2 ≤ 2; omega) (by omega) (by omega) ⟨rfl, rfl, rfl⟩
theorem jQ_45_203 {xs : List Int} {d : Nat} {x4 : Int} (h_x4 : 1 ≤ x4 ∧ x4 ≤ 100) : jT xs (d + 1) 45 3 0 [(0, (4, 0)), (1, (4, 1)), (2, (1, 1)), (4, (1, 2 * x4))] [] [(8, [(4, 2), (4, 1)], []), (101, [], [0, 0, 1, 0, 0, 0]), jgh] 0 0 (fun k v hsN => k = 0 ∧ v = (1, (319123367396 * x4) / 68719476736) ∧ hsN = [(8, [(4, 2), (4, 1)], []), (101, [], [0, 0, 1, 0, 0, 0]), jgh] ++ []) := by
  refine jT_xlload_n (v := (1, 1)) (pcN := 1) jIQ_45_0 rfl rfl rfl ?_
  refine jT_xlconst (z := 1) (pcN := 2) jIQ_45_1 rfl rfl ?_
  refine jT_lcmp (a := 1) (b := 1) (z := 0) (by rfl) (by rfl) (by decide +kernel) (by decide +kernel) (by decide) ?_
  refine jT_xifF (t := 13) (pcN := 6) jIQ_45_3 rfl (by decide +kernel) rfl rfl ?_
  refine jT_xlload (v := (1, 2 * x4)) (pcN := 8) jIQ_45_6 rfl rfl rfl ?_
  refine jT_xlconst (z := 1) (pcN := 9) jIQ_45_8 rfl rfl ?_
  refine jT_lcmp (a := 2 * x4) (b := 1) (z := 1) (by rfl) (by rfl) (jwl_idd (by omega) (by omega)) (jwl_idd (by omega) (by omega)) (by rw [decide_eq_true (show (1 : Int) < 2 * x4 by omega)]; rfl) ?_
  refine jT_xifT (pcN := 15) jIQ_45_10 rfl (by decide +kernel) rfl ?_
  refine jT_xaload_n (v := (4, 0)) (pcN := 16) jIQ_45_15 rfl rfl rfl ?_
  refine jT_xaload_n (v := (4, 1)) (pcN := 17) jIQ_45_16 rfl rfl rfl ?_
  refine jT_fR [0, 1] 3 (y := 39) (pcN := 20) (dC := 0) (bc1 := 0) (bc2 := 0) (c1 := 0) (c2 := 0) (as := [(4, 0), (4, 1)]) (asC := [(4, 0), (4, 1)]) (LN := [(0, (4, 0)), (1, (4, 1)), (2, (1, 1)), (4, (1, 2 * x4))]) (stN := []) (hsC := [jgh, (101, [], [0, 0, 1, 0, 0, 0])]) (v := (1, 1)) (st2 := [(1, 1)]) (jQ_39_200 (d := 0)) (by rfl) (by rfl) (by decide +kernel) (by rfl) (by rfl) (by omega) (by omega) (by omega) (by omega) rfl ?_
  refine jT_xlstore (v := (1, 1)) (LN := [(6, (1, 1)), (0, (4, 0)), (1, (4, 1)), (2, (1, 1)), (4, (1, 2 * x4))]) (pcN := 22) jIQ_45_20 rfl rfl rfl rfl ?_
  refine jT_xlload (v := (1, 1)) (pcN := 24) jIQ_45_22 rfl rfl rfl ?_
  refine jT_xlconst (z := 0) (pcN := 25) jIQ_45_24 rfl rfl ?_
  refine jT_lcmp (a := 1) (b := 0) (z := 1) (by rfl) (by rfl) (by decide +kernel) (by decide +kernel) (by decide) ?_
  refine jT_xifT (pcN := 40) jIQ_45_26 rfl (by decide +kernel) rfl ?_
  refine jT_xaload_n (v := (4, 0)) (pcN := 41) jIQ_45_40 rfl rfl rfl ?_
  refine jT_xaload_n (v := (4, 1)) (pcN := 42) jIQ_45_41 rfl rfl rfl ?_
  refine jT_xlload (v := (1, 1)) (pcN := 44) jIQ_45_42 rfl rfl rfl ?_
  refine jT_fR [0, 1] 3 (y := 40) (pcN := 47) (dC := 0) (bc1 := 0) (bc2 := 0) (c1 := 0) (c2 := 0) (as := [(4, 0), (4, 1), (1, 1)]) (asC := [(4, 0), (4, 1), (1, 1)]) (LN := [(6, (1, 1)), (0, (4, 0)), (1, (4, 1)), (2, (1, 1)), (4, (1, 2 * x4))]) (stN := []) (hsC := [jgh, (101, [], [0, 0, 1, 0, 0, 0])]) (v := (0, 1)) (st2 := [(0, 1)]) (jQ_40_201 (d := 0)) (by rfl) (by rfl) (by decide +kernel) (by rfl) (by rfl) (by omega) (by omega) (by omega) (by omega) rfl ?_
  refine jT_xifF (t := 120) (pcN := 50) jIQ_45_47 rfl (by decide +kernel) rfl rfl ?_
  refine jT_xaload_n (v := (4, 0)) (pcN := 51) jIQ_45_50 rfl rfl rfl ?_
  refine jT_xaload_n (v := (4, 1)) (pcN := 52) jIQ_45_51 rfl rfl rfl ?_
  refine jT_fR [0, 1] 3 (y := 41) (pcN := 55) (dC := 0) (bc1 := 0) (bc2 := 0) (c1 := 0) (c2 := 0) (as := [(4, 0), (4, 1)]) (asC := [(4, 0), (4, 1)]) (LN := [(6, (1, 1)), (0, (4, 0)), (1, (4, 1)), (2, (1, 1)), (4, (1, 2 * x4))]) (stN := []) (hsC := [jgh, (101, [], [0, 0, 1, 0, 0, 0])]) (v := (1, 159561683699)) (st2 := [(1, 159561683699)]) (jQ_41_202 (d := 0)) (by rfl) (by rfl) (by decide +kernel) (by rfl) (by rfl) (by omega) (by omega) (by omega) (by omega) rfl ?_
  refine jT_xlstore (v := (1, 159561683699)) (LN := [(8, (1, 159561683699)), (6, (1, 1)), (0, (4, 0)), (1, (4, 1)), (2, (1, 1)), (4, (1, 2 * x4))]) (pcN := 57) jIQ_45_55 rfl rfl rfl rfl ?_
  refine jT_xlload (v := (1, 159561683699)) (pcN := 59) jIQ_45_57 rfl rfl rfl ?_
  refine jT_labs (z := 159561683699) (by rfl) (by rfl) (by rfl) (by rfl) (by decide +kernel) ?_
  refine jT_xlload (v := (1, 1)) (pcN := 64) jIQ_45_62 rfl rfl rfl ?_
  refine jT_xladd (x := 159561683699) (y := 1) (z := 159561683700) (pcN := 65) jIQ_45_64 rfl (by decide) rfl ?_
  refine jT_adv 1 (pcN := 68) (LN := [(8, (1, 159561683699)), (6, (1, 1)), (0, (4, 0)), (1, (4, 1)), (2, (1, 1)), (4, (1, 2 * x4))]) (stN := [(1, 9223372036854775807), (1, 159561683700)]) (hsN := [(8, [(4, 2), (4, 1)], []), (101, [], [0, 0, 1, 0, 0, 0]), jgh]) (c1 := 0) (s1 := 0) (c2 := 0) (s2 := 0) (by exact rfl) ?_ (by omega) (by omega)
  refine jT_xlload (v := (1, 2 * x4)) (pcN := 70) jIQ_45_68 rfl rfl rfl ?_
  refine jT_ldiv (a := 9223372036854775807) (b := 2 * x4) (by rfl) (by rfl) (jwl_idd (by omega) (by omega)) (jwl_idd (by omega) (by omega)) (by omega) ?_
  have hb_q1 := jdv_b (y := 2 * x4) (by omega) (by omega)
  generalize hq_q1 : (9223372036854775807 : Int).tdiv (2 * x4) = q1 at hb_q1 ⊢
  refine jT_lcmp (a := 159561683700) (b := q1) (z := (-1)) (by rfl) (by rfl) (jwl_idd (by omega) (by omega)) (jwl_idd (by omega) (by omega)) (by rw [decide_eq_false (show ¬ ((q1 : Int) < 159561683700) by omega), decide_eq_false (show ¬ ((159561683700 : Int) = q1) by omega)]; rfl) ?_
  refine jT_xifF (t := 120) (pcN := 75) jIQ_45_72 rfl (by decide +kernel) rfl rfl ?_
  refine jT_xlload (v := (1, 159561683699)) (pcN := 77) jIQ_45_75 rfl rfl rfl ?_
  refine jT_xlload (v := (1, 1)) (pcN := 79) jIQ_45_77 rfl rfl rfl ?_
  refine jT_xlsub (x := 159561683699) (y := 1) (z := 159561683698) (pcN := 80) jIQ_45_79 rfl (by decide) rfl ?_
  refine jT_xlload (v := (1, 2 * x4)) (pcN := 82) jIQ_45_80 rfl rfl rfl ?_
  refine jT_xlmul (x := 159561683698) (y := 2 * x4) (z := 319123367396 * x4) (pcN := 83) jIQ_45_82 rfl (by omega) rfl ?_
  refine jT_xlload_n (v := (1, 1)) (pcN := 84) jIQ_45_83 rfl rfl rfl ?_
  refine jT_xbipush (k := 36) (pcN := 86) jIQ_45_84 (by decide) rfl ?_
  refine jT_lshl (x := 1) (y := 36) (z := 68719476736) (by rfl) (by rfl) (by decide +kernel) ?_
  refine jT_fR [] 3 (y := 373) (pcN := 90) (dC := 0) (bc1 := 0) (bc2 := 0) (c1 := 0) (c2 := 0) (as := [(1, 319123367396 * x4), (1, 68719476736)]) (asC := [(1, 319123367396 * x4), (1, 68719476736)]) (LN := [(8, (1, 159561683699)), (6, (1, 1)), (0, (4, 0)), (1, (4, 1)), (2, (1, 1)), (4, (1, 2 * x4))]) (stN := []) (hsC := []) (v := (1, (319123367396 * x4) / 68719476736)) (st2 := [(1, (319123367396 * x4) / 68719476736)]) (jT_fdJK (d := 0) (x := 319123367396 * x4) (by omega)) (by rfl) (by rfl) (by decide +kernel) (by rfl) (by rfl) (by omega) (by omega) (by omega) (by omega) rfl ?_
  have hb_q2 : 4 ≤ (319123367396 * x4) / 68719476736 ∧ (319123367396 * x4) / 68719476736 ≤ 464 := ⟨by omega, by omega⟩
  generalize hq_q2 : (319123367396 * x4) / 68719476736 = q2 at hb_q2 ⊢
  refine jT_xlstore (v := (1, q2)) (LN := [(10, (1, q2)), (8, (1, 159561683699)), (6, (1, 1)), (0, (4, 0)), (1, (4, 1)), (2, (1, 1)), (4, (1, 2 * x4))]) (pcN := 92) jIQ_45_90 rfl rfl rfl rfl ?_
  refine jT_xlload (v := (1, 159561683699)) (pcN := 94) jIQ_45_92 rfl rfl rfl ?_
  refine jT_xlload (v := (1, 1)) (pcN := 96) jIQ_45_94 rfl rfl rfl ?_
  refine jT_xladd (x := 159561683699) (y := 1) (z := 159561683700) (pcN := 97) jIQ_45_96 rfl (by decide) rfl ?_
  refine jT_xlload (v := (1, 2 * x4)) (pcN := 99) jIQ_45_97 rfl rfl rfl ?_
  refine jT_xlmul (x := 159561683700) (y := 2 * x4) (z := 319123367400 * x4) (pcN := 100) jIQ_45_99 rfl (by omega) rfl ?_
  refine jT_xlload_n (v := (1, 1)) (pcN := 101) jIQ_45_100 rfl rfl rfl ?_
  refine jT_xbipush (k := 36) (pcN := 103) jIQ_45_101 (by decide) rfl ?_
  refine jT_lshl (x := 1) (y := 36) (z := 68719476736) (by rfl) (by rfl) (by decide +kernel) ?_
  refine jT_fR [] 3 (y := 373) (pcN := 107) (dC := 0) (bc1 := 0) (bc2 := 0) (c1 := 0) (c2 := 0) (as := [(1, 319123367400 * x4), (1, 68719476736)]) (asC := [(1, 319123367400 * x4), (1, 68719476736)]) (LN := [(10, (1, q2)), (8, (1, 159561683699)), (6, (1, 1)), (0, (4, 0)), (1, (4, 1)), (2, (1, 1)), (4, (1, 2 * x4))]) (stN := []) (hsC := []) (v := (1, (319123367396 * x4) / 68719476736)) (st2 := [(1, (319123367396 * x4) / 68719476736)]) (jT_fdJK2 (d := 0) (x := 319123367400 * x4) (y := 319123367396 * x4) (by omega) (jnr_2 (by omega))) (by rfl) (by rfl) (by decide +kernel) (by rfl) (by rfl) (by omega) (by omega) (by omega) (by omega) rfl ?_
  rw [hq_q2]
  refine jT_xlstore (v := (1, q2)) (LN := [(12, (1, q2)), (10, (1, q2)), (8, (1, 159561683699)), (6, (1, 1)), (0, (4, 0)), (1, (4, 1)), (2, (1, 1)), (4, (1, 2 * x4))]) (pcN := 109) jIQ_45_107 rfl rfl rfl rfl ?_
  refine jT_xlload (v := (1, q2)) (pcN := 111) jIQ_45_109 rfl rfl rfl ?_
  refine jT_xlload (v := (1, q2)) (pcN := 113) jIQ_45_111 rfl rfl rfl ?_
  refine jT_lcmp (a := q2) (b := q2) (z := 0) (by rfl) (by rfl) (jwl_idd (by omega) (by omega)) (jwl_idd (by omega) (by omega)) (by rw [decide_eq_false (show ¬ ((q2 : Int) < q2) by omega), decide_eq_true (show (q2 : Int) = q2 by omega)]; rfl) ?_
  refine jT_xifF (t := 120) (pcN := 117) jIQ_45_114 rfl (by decide +kernel) rfl rfl ?_
  refine jT_xlload (v := (1, q2)) (pcN := 119) jIQ_45_117 rfl rfl rfl ?_
  subst hq_q2
  subst hq_q1
  exact jT_ret rfl (by decide) (by show 3 ≤ 3; omega) (by omega) (by omega) ⟨rfl, rfl, rfl⟩
theorem jQ_374_204 {xs : List Int} {d : Nat} {q4 : Int} (h_q4 : 4 ≤ q4 ∧ q4 ≤ 464) : jT xs (d + 1) 374 0 0 [(0, (1, q4 + 1)), (2, (0, 2))] [] [] 0 0 (fun k v hsN => k = 0 ∧ v = (1, (q4 + 1) / 2) ∧ hsN = [] ++ []) := by
  refine jT_xlload_n (v := (1, q4 + 1)) (pcN := 1) jIQ_374_0 rfl rfl rfl ?_
  refine jT_xiload_n (v := (0, 2)) (pcN := 2) jIQ_374_1 rfl rfl rfl ?_
  refine jT_xi2l (x := 2) (z := 2) (pcN := 3) jIQ_374_2 rfl (by decide +kernel) rfl ?_
  refine jT_fR [] 0 (y := 373) (pcN := 6) (dC := 0) (bc1 := 0) (bc2 := 0) (c1 := 0) (c2 := 0) (as := [(1, q4 + 1), (1, 2)]) (asC := [(1, q4 + 1), (1, 2)]) (LN := [(0, (1, q4 + 1)), (2, (0, 2))]) (stN := []) (hsC := []) (v := (1, (q4 + 1) / 2)) (st2 := [(1, (q4 + 1) / 2)]) (jT_fdJ2 (d := 0) (x := q4 + 1) (by omega)) (by rfl) (by rfl) (by decide +kernel) (by rfl) (by rfl) (by omega) (by omega) (by omega) (by omega) rfl ?_
  have hb_q1 : 2 ≤ (q4 + 1) / 2 ∧ (q4 + 1) / 2 ≤ 232 := ⟨by omega, by omega⟩
  generalize hq_q1 : (q4 + 1) / 2 = q1 at hb_q1 ⊢
  subst hq_q1
  exact jT_ret rfl (by decide) (by show 0 ≤ 0; omega) (by omega) (by omega) ⟨rfl, rfl, rfl⟩
theorem jQ_39_205 {xs : List Int} {d : Nat} : jT xs d 39 2 0 [(0, (4, 0)), (1, (4, 1))] [] [jgh, (101, [], [0, 0, 0, 1, 0, 0])] 0 0 (fun k v hsN => k = 0 ∧ v = (1, 1) ∧ hsN = [jgh, (101, [], [0, 0, 0, 1, 0, 0])] ++ []) := by
  refine jT_advK 68 (pcN := 29) (LN := [(4, (0, 6)), (2, (1, 1)), (0, (4, 0)), (1, (4, 1))]) (stN := [(1, 1)]) (hsN := [jgh, (101, [], [0, 0, 0, 1, 0, 0])]) (c1 := 0) (s1 := 0) (c2 := 0) (s2 := 0) (by decide +kernel) ?_ (by omega) (by omega)
  exact jT_ret rfl (by decide) (by show 2 ≤ 2; omega) (by omega) (by omega) ⟨rfl, rfl, rfl⟩
theorem jQ_40_206 {xs : List Int} {d : Nat} : jT xs d 40 2 0 [(0, (4, 0)), (1, (4, 1)), (2, (1, 1))] [] [jgh, (101, [], [0, 0, 0, 1, 0, 0])] 0 0 (fun k v hsN => k = 0 ∧ v = (0, 1) ∧ hsN = [jgh, (101, [], [0, 0, 0, 1, 0, 0])] ++ []) := by
  refine jT_advK 13 (pcN := 26) (LN := [(0, (4, 0)), (1, (4, 1)), (2, (1, 1))]) (stN := [(0, 1)]) (hsN := [jgh, (101, [], [0, 0, 0, 1, 0, 0])]) (c1 := 0) (s1 := 0) (c2 := 0) (s2 := 0) (by decide +kernel) ?_ (by omega) (by omega)
  exact jT_ret rfl (by decide) (by show 2 ≤ 2; omega) (by omega) (by omega) ⟨rfl, rfl, rfl⟩
theorem jQ_41_207 {xs : List Int} {d : Nat} : jT xs d 41 2 0 [(0, (4, 0)), (1, (4, 1))] [] [jgh, (101, [], [0, 0, 0, 1, 0, 0])] 0 0 (fun k v hsN => k = 0 ∧ v = (1, 192919961256) ∧ hsN = [jgh, (101, [], [0, 0, 0, 1, 0, 0])] ++ []) := by
  refine jT_advK 98 (pcN := 33) (LN := [(4, (0, 6)), (2, (1, 192919961256)), (0, (4, 0)), (1, (4, 1))]) (stN := [(1, 192919961256)]) (hsN := [jgh, (101, [], [0, 0, 0, 1, 0, 0])]) (c1 := 0) (s1 := 0) (c2 := 0) (s2 := 0) (by decide +kernel) ?_ (by omega) (by omega)
  exact jT_ret rfl (by decide) (by show 2 ≤ 2; omega) (by omega) (by omega) ⟨rfl, rfl, rfl⟩
theorem jQ_45_208 {xs : List Int} {d : Nat} {x4 : Int} (h_x4 : 1 ≤ x4 ∧ x4 ≤ 100) : jT xs (d + 1) 45 3 0 [(0, (4, 0)), (1, (4, 1)), (2, (1, 1)), (4, (1, 2 * x4))] [] [(8, [(4, 2), (4, 1)], []), (101, [], [0, 0, 0, 1, 0, 0]), jgh] 0 0 (fun k v hsN => k = 0 ∧ v = (1, (385839922510 * x4) / 68719476736) ∧ hsN = [(8, [(4, 2), (4, 1)], []), (101, [], [0, 0, 0, 1, 0, 0]), jgh] ++ []) := by
  refine jT_xlload_n (v := (1, 1)) (pcN := 1) jIQ_45_0 rfl rfl rfl ?_
  refine jT_xlconst (z := 1) (pcN := 2) jIQ_45_1 rfl rfl ?_
  refine jT_lcmp (a := 1) (b := 1) (z := 0) (by rfl) (by rfl) (by decide +kernel) (by decide +kernel) (by decide) ?_
  refine jT_xifF (t := 13) (pcN := 6) jIQ_45_3 rfl (by decide +kernel) rfl rfl ?_
  refine jT_xlload (v := (1, 2 * x4)) (pcN := 8) jIQ_45_6 rfl rfl rfl ?_
  refine jT_xlconst (z := 1) (pcN := 9) jIQ_45_8 rfl rfl ?_
  refine jT_lcmp (a := 2 * x4) (b := 1) (z := 1) (by rfl) (by rfl) (jwl_idd (by omega) (by omega)) (jwl_idd (by omega) (by omega)) (by rw [decide_eq_true (show (1 : Int) < 2 * x4 by omega)]; rfl) ?_
  refine jT_xifT (pcN := 15) jIQ_45_10 rfl (by decide +kernel) rfl ?_
  refine jT_xaload_n (v := (4, 0)) (pcN := 16) jIQ_45_15 rfl rfl rfl ?_
  refine jT_xaload_n (v := (4, 1)) (pcN := 17) jIQ_45_16 rfl rfl rfl ?_
  refine jT_fR [0, 1] 3 (y := 39) (pcN := 20) (dC := 0) (bc1 := 0) (bc2 := 0) (c1 := 0) (c2 := 0) (as := [(4, 0), (4, 1)]) (asC := [(4, 0), (4, 1)]) (LN := [(0, (4, 0)), (1, (4, 1)), (2, (1, 1)), (4, (1, 2 * x4))]) (stN := []) (hsC := [jgh, (101, [], [0, 0, 0, 1, 0, 0])]) (v := (1, 1)) (st2 := [(1, 1)]) (jQ_39_205 (d := 0)) (by rfl) (by rfl) (by decide +kernel) (by rfl) (by rfl) (by omega) (by omega) (by omega) (by omega) rfl ?_
  refine jT_xlstore (v := (1, 1)) (LN := [(6, (1, 1)), (0, (4, 0)), (1, (4, 1)), (2, (1, 1)), (4, (1, 2 * x4))]) (pcN := 22) jIQ_45_20 rfl rfl rfl rfl ?_
  refine jT_xlload (v := (1, 1)) (pcN := 24) jIQ_45_22 rfl rfl rfl ?_
  refine jT_xlconst (z := 0) (pcN := 25) jIQ_45_24 rfl rfl ?_
  refine jT_lcmp (a := 1) (b := 0) (z := 1) (by rfl) (by rfl) (by decide +kernel) (by decide +kernel) (by decide) ?_
  refine jT_xifT (pcN := 40) jIQ_45_26 rfl (by decide +kernel) rfl ?_
  refine jT_xaload_n (v := (4, 0)) (pcN := 41) jIQ_45_40 rfl rfl rfl ?_
  refine jT_xaload_n (v := (4, 1)) (pcN := 42) jIQ_45_41 rfl rfl rfl ?_
  refine jT_xlload (v := (1, 1)) (pcN := 44) jIQ_45_42 rfl rfl rfl ?_
  refine jT_fR [0, 1] 3 (y := 40) (pcN := 47) (dC := 0) (bc1 := 0) (bc2 := 0) (c1 := 0) (c2 := 0) (as := [(4, 0), (4, 1), (1, 1)]) (asC := [(4, 0), (4, 1), (1, 1)]) (LN := [(6, (1, 1)), (0, (4, 0)), (1, (4, 1)), (2, (1, 1)), (4, (1, 2 * x4))]) (stN := []) (hsC := [jgh, (101, [], [0, 0, 0, 1, 0, 0])]) (v := (0, 1)) (st2 := [(0, 1)]) (jQ_40_206 (d := 0)) (by rfl) (by rfl) (by decide +kernel) (by rfl) (by rfl) (by omega) (by omega) (by omega) (by omega) rfl ?_
  refine jT_xifF (t := 120) (pcN := 50) jIQ_45_47 rfl (by decide +kernel) rfl rfl ?_
  refine jT_xaload_n (v := (4, 0)) (pcN := 51) jIQ_45_50 rfl rfl rfl ?_
  refine jT_xaload_n (v := (4, 1)) (pcN := 52) jIQ_45_51 rfl rfl rfl ?_
  refine jT_fR [0, 1] 3 (y := 41) (pcN := 55) (dC := 0) (bc1 := 0) (bc2 := 0) (c1 := 0) (c2 := 0) (as := [(4, 0), (4, 1)]) (asC := [(4, 0), (4, 1)]) (LN := [(6, (1, 1)), (0, (4, 0)), (1, (4, 1)), (2, (1, 1)), (4, (1, 2 * x4))]) (stN := []) (hsC := [jgh, (101, [], [0, 0, 0, 1, 0, 0])]) (v := (1, 192919961256)) (st2 := [(1, 192919961256)]) (jQ_41_207 (d := 0)) (by rfl) (by rfl) (by decide +kernel) (by rfl) (by rfl) (by omega) (by omega) (by omega) (by omega) rfl ?_
  refine jT_xlstore (v := (1, 192919961256)) (LN := [(8, (1, 192919961256)), (6, (1, 1)), (0, (4, 0)), (1, (4, 1)), (2, (1, 1)), (4, (1, 2 * x4))]) (pcN := 57) jIQ_45_55 rfl rfl rfl rfl ?_
  refine jT_xlload (v := (1, 192919961256)) (pcN := 59) jIQ_45_57 rfl rfl rfl ?_
  refine jT_labs (z := 192919961256) (by rfl) (by rfl) (by rfl) (by rfl) (by decide +kernel) ?_
  refine jT_xlload (v := (1, 1)) (pcN := 64) jIQ_45_62 rfl rfl rfl ?_
  refine jT_xladd (x := 192919961256) (y := 1) (z := 192919961257) (pcN := 65) jIQ_45_64 rfl (by decide) rfl ?_
  refine jT_adv 1 (pcN := 68) (LN := [(8, (1, 192919961256)), (6, (1, 1)), (0, (4, 0)), (1, (4, 1)), (2, (1, 1)), (4, (1, 2 * x4))]) (stN := [(1, 9223372036854775807), (1, 192919961257)]) (hsN := [(8, [(4, 2), (4, 1)], []), (101, [], [0, 0, 0, 1, 0, 0]), jgh]) (c1 := 0) (s1 := 0) (c2 := 0) (s2 := 0) (by exact rfl) ?_ (by omega) (by omega)
  refine jT_xlload (v := (1, 2 * x4)) (pcN := 70) jIQ_45_68 rfl rfl rfl ?_
  refine jT_ldiv (a := 9223372036854775807) (b := 2 * x4) (by rfl) (by rfl) (jwl_idd (by omega) (by omega)) (jwl_idd (by omega) (by omega)) (by omega) ?_
  have hb_q1 := jdv_b (y := 2 * x4) (by omega) (by omega)
  generalize hq_q1 : (9223372036854775807 : Int).tdiv (2 * x4) = q1 at hb_q1 ⊢
  refine jT_lcmp (a := 192919961257) (b := q1) (z := (-1)) (by rfl) (by rfl) (jwl_idd (by omega) (by omega)) (jwl_idd (by omega) (by omega)) (by rw [decide_eq_false (show ¬ ((q1 : Int) < 192919961257) by omega), decide_eq_false (show ¬ ((192919961257 : Int) = q1) by omega)]; rfl) ?_
  refine jT_xifF (t := 120) (pcN := 75) jIQ_45_72 rfl (by decide +kernel) rfl rfl ?_
  refine jT_xlload (v := (1, 192919961256)) (pcN := 77) jIQ_45_75 rfl rfl rfl ?_
  refine jT_xlload (v := (1, 1)) (pcN := 79) jIQ_45_77 rfl rfl rfl ?_
  refine jT_xlsub (x := 192919961256) (y := 1) (z := 192919961255) (pcN := 80) jIQ_45_79 rfl (by decide) rfl ?_
  refine jT_xlload (v := (1, 2 * x4)) (pcN := 82) jIQ_45_80 rfl rfl rfl ?_
  refine jT_xlmul (x := 192919961255) (y := 2 * x4) (z := 385839922510 * x4) (pcN := 83) jIQ_45_82 rfl (by omega) rfl ?_
  refine jT_xlload_n (v := (1, 1)) (pcN := 84) jIQ_45_83 rfl rfl rfl ?_
  refine jT_xbipush (k := 36) (pcN := 86) jIQ_45_84 (by decide) rfl ?_
  refine jT_lshl (x := 1) (y := 36) (z := 68719476736) (by rfl) (by rfl) (by decide +kernel) ?_
  refine jT_fR [] 3 (y := 373) (pcN := 90) (dC := 0) (bc1 := 0) (bc2 := 0) (c1 := 0) (c2 := 0) (as := [(1, 385839922510 * x4), (1, 68719476736)]) (asC := [(1, 385839922510 * x4), (1, 68719476736)]) (LN := [(8, (1, 192919961256)), (6, (1, 1)), (0, (4, 0)), (1, (4, 1)), (2, (1, 1)), (4, (1, 2 * x4))]) (stN := []) (hsC := []) (v := (1, (385839922510 * x4) / 68719476736)) (st2 := [(1, (385839922510 * x4) / 68719476736)]) (jT_fdJK (d := 0) (x := 385839922510 * x4) (by omega)) (by rfl) (by rfl) (by decide +kernel) (by rfl) (by rfl) (by omega) (by omega) (by omega) (by omega) rfl ?_
  have hb_q2 : 5 ≤ (385839922510 * x4) / 68719476736 ∧ (385839922510 * x4) / 68719476736 ≤ 561 := ⟨by omega, by omega⟩
  generalize hq_q2 : (385839922510 * x4) / 68719476736 = q2 at hb_q2 ⊢
  refine jT_xlstore (v := (1, q2)) (LN := [(10, (1, q2)), (8, (1, 192919961256)), (6, (1, 1)), (0, (4, 0)), (1, (4, 1)), (2, (1, 1)), (4, (1, 2 * x4))]) (pcN := 92) jIQ_45_90 rfl rfl rfl rfl ?_
  refine jT_xlload (v := (1, 192919961256)) (pcN := 94) jIQ_45_92 rfl rfl rfl ?_
  refine jT_xlload (v := (1, 1)) (pcN := 96) jIQ_45_94 rfl rfl rfl ?_
  refine jT_xladd (x := 192919961256) (y := 1) (z := 192919961257) (pcN := 97) jIQ_45_96 rfl (by decide) rfl ?_
  refine jT_xlload (v := (1, 2 * x4)) (pcN := 99) jIQ_45_97 rfl rfl rfl ?_
  refine jT_xlmul (x := 192919961257) (y := 2 * x4) (z := 385839922514 * x4) (pcN := 100) jIQ_45_99 rfl (by omega) rfl ?_
  refine jT_xlload_n (v := (1, 1)) (pcN := 101) jIQ_45_100 rfl rfl rfl ?_
  refine jT_xbipush (k := 36) (pcN := 103) jIQ_45_101 (by decide) rfl ?_
  refine jT_lshl (x := 1) (y := 36) (z := 68719476736) (by rfl) (by rfl) (by decide +kernel) ?_
  refine jT_fR [] 3 (y := 373) (pcN := 107) (dC := 0) (bc1 := 0) (bc2 := 0) (c1 := 0) (c2 := 0) (as := [(1, 385839922514 * x4), (1, 68719476736)]) (asC := [(1, 385839922514 * x4), (1, 68719476736)]) (LN := [(10, (1, q2)), (8, (1, 192919961256)), (6, (1, 1)), (0, (4, 0)), (1, (4, 1)), (2, (1, 1)), (4, (1, 2 * x4))]) (stN := []) (hsC := []) (v := (1, (385839922510 * x4) / 68719476736)) (st2 := [(1, (385839922510 * x4) / 68719476736)]) (jT_fdJK2 (d := 0) (x := 385839922514 * x4) (y := 385839922510 * x4) (by omega) (jnr_3 (by omega))) (by rfl) (by rfl) (by decide +kernel) (by rfl) (by rfl) (by omega) (by omega) (by omega) (by omega) rfl ?_
  rw [hq_q2]
  refine jT_xlstore (v := (1, q2)) (LN := [(12, (1, q2)), (10, (1, q2)), (8, (1, 192919961256)), (6, (1, 1)), (0, (4, 0)), (1, (4, 1)), (2, (1, 1)), (4, (1, 2 * x4))]) (pcN := 109) jIQ_45_107 rfl rfl rfl rfl ?_
  refine jT_xlload (v := (1, q2)) (pcN := 111) jIQ_45_109 rfl rfl rfl ?_
  refine jT_xlload (v := (1, q2)) (pcN := 113) jIQ_45_111 rfl rfl rfl ?_
  refine jT_lcmp (a := q2) (b := q2) (z := 0) (by rfl) (by rfl) (jwl_idd (by omega) (by omega)) (jwl_idd (by omega) (by omega)) (by rw [decide_eq_false (show ¬ ((q2 : Int) < q2) by omega), decide_eq_true (show (q2 : Int) = q2 by omega)]; rfl) ?_
  refine jT_xifF (t := 120) (pcN := 117) jIQ_45_114 rfl (by decide +kernel) rfl rfl ?_
  refine jT_xlload (v := (1, q2)) (pcN := 119) jIQ_45_117 rfl rfl rfl ?_
  subst hq_q2
  subst hq_q1
  exact jT_ret rfl (by decide) (by show 3 ≤ 3; omega) (by omega) (by omega) ⟨rfl, rfl, rfl⟩
theorem jQ_374_209 {xs : List Int} {d : Nat} {q6 : Int} (h_q6 : 5 ≤ q6 ∧ q6 ≤ 561) : jT xs (d + 1) 374 0 0 [(0, (1, q6 + 1)), (2, (0, 2))] [] [] 0 0 (fun k v hsN => k = 0 ∧ v = (1, (q6 + 1) / 2) ∧ hsN = [] ++ []) := by
  refine jT_xlload_n (v := (1, q6 + 1)) (pcN := 1) jIQ_374_0 rfl rfl rfl ?_
  refine jT_xiload_n (v := (0, 2)) (pcN := 2) jIQ_374_1 rfl rfl rfl ?_
  refine jT_xi2l (x := 2) (z := 2) (pcN := 3) jIQ_374_2 rfl (by decide +kernel) rfl ?_
  refine jT_fR [] 0 (y := 373) (pcN := 6) (dC := 0) (bc1 := 0) (bc2 := 0) (c1 := 0) (c2 := 0) (as := [(1, q6 + 1), (1, 2)]) (asC := [(1, q6 + 1), (1, 2)]) (LN := [(0, (1, q6 + 1)), (2, (0, 2))]) (stN := []) (hsC := []) (v := (1, (q6 + 1) / 2)) (st2 := [(1, (q6 + 1) / 2)]) (jT_fdJ2 (d := 0) (x := q6 + 1) (by omega)) (by rfl) (by rfl) (by decide +kernel) (by rfl) (by rfl) (by omega) (by omega) (by omega) (by omega) rfl ?_
  have hb_q1 : 3 ≤ (q6 + 1) / 2 ∧ (q6 + 1) / 2 ≤ 281 := ⟨by omega, by omega⟩
  generalize hq_q1 : (q6 + 1) / 2 = q1 at hb_q1 ⊢
  subst hq_q1
  exact jT_ret rfl (by decide) (by show 0 ≤ 0; omega) (by omega) (by omega) ⟨rfl, rfl, rfl⟩
theorem jQ_39_210 {xs : List Int} {d : Nat} : jT xs d 39 2 0 [(0, (4, 0)), (1, (4, 1))] [] [jgh, (101, [], [0, 0, 0, 0, 1, 0])] 0 0 (fun k v hsN => k = 0 ∧ v = (1, 1) ∧ hsN = [jgh, (101, [], [0, 0, 0, 0, 1, 0])] ++ []) := by
  refine jT_advK 68 (pcN := 29) (LN := [(4, (0, 6)), (2, (1, 1)), (0, (4, 0)), (1, (4, 1))]) (stN := [(1, 1)]) (hsN := [jgh, (101, [], [0, 0, 0, 0, 1, 0])]) (c1 := 0) (s1 := 0) (c2 := 0) (s2 := 0) (by decide +kernel) ?_ (by omega) (by omega)
  exact jT_ret rfl (by decide) (by show 2 ≤ 2; omega) (by omega) (by omega) ⟨rfl, rfl, rfl⟩
theorem jQ_40_211 {xs : List Int} {d : Nat} : jT xs d 40 2 0 [(0, (4, 0)), (1, (4, 1)), (2, (1, 1))] [] [jgh, (101, [], [0, 0, 0, 0, 1, 0])] 0 0 (fun k v hsN => k = 0 ∧ v = (0, 1) ∧ hsN = [jgh, (101, [], [0, 0, 0, 0, 1, 0])] ++ []) := by
  refine jT_advK 13 (pcN := 26) (LN := [(0, (4, 0)), (1, (4, 1)), (2, (1, 1))]) (stN := [(0, 1)]) (hsN := [jgh, (101, [], [0, 0, 0, 0, 1, 0])]) (c1 := 0) (s1 := 0) (c2 := 0) (s2 := 0) (by decide +kernel) ?_ (by omega) (by omega)
  exact jT_ret rfl (by decide) (by show 2 ≤ 2; omega) (by omega) (by omega) ⟨rfl, rfl, rfl⟩
theorem jQ_41_212 {xs : List Int} {d : Nat} : jT xs d 41 2 0 [(0, (4, 0)), (1, (4, 1))] [] [jgh, (101, [], [0, 0, 0, 0, 1, 0])] 0 0 (fun k v hsN => k = 0 ∧ v = (1, 237730330636) ∧ hsN = [jgh, (101, [], [0, 0, 0, 0, 1, 0])] ++ []) := by
  refine jT_advK 98 (pcN := 33) (LN := [(4, (0, 6)), (2, (1, 237730330636)), (0, (4, 0)), (1, (4, 1))]) (stN := [(1, 237730330636)]) (hsN := [jgh, (101, [], [0, 0, 0, 0, 1, 0])]) (c1 := 0) (s1 := 0) (c2 := 0) (s2 := 0) (by decide +kernel) ?_ (by omega) (by omega)
  exact jT_ret rfl (by decide) (by show 2 ≤ 2; omega) (by omega) (by omega) ⟨rfl, rfl, rfl⟩
theorem jQ_45_213 {xs : List Int} {d : Nat} {x4 : Int} (h_x4 : 1 ≤ x4 ∧ x4 ≤ 100) : jT xs (d + 1) 45 3 0 [(0, (4, 0)), (1, (4, 1)), (2, (1, 1)), (4, (1, 2 * x4))] [] [(8, [(4, 2), (4, 1)], []), (101, [], [0, 0, 0, 0, 1, 0]), jgh] 0 0 (fun k v hsN => k = 0 ∧ v = (1, (475460661270 * x4) / 68719476736) ∧ hsN = [(8, [(4, 2), (4, 1)], []), (101, [], [0, 0, 0, 0, 1, 0]), jgh] ++ []) := by
  refine jT_xlload_n (v := (1, 1)) (pcN := 1) jIQ_45_0 rfl rfl rfl ?_
  refine jT_xlconst (z := 1) (pcN := 2) jIQ_45_1 rfl rfl ?_
  refine jT_lcmp (a := 1) (b := 1) (z := 0) (by rfl) (by rfl) (by decide +kernel) (by decide +kernel) (by decide) ?_
  refine jT_xifF (t := 13) (pcN := 6) jIQ_45_3 rfl (by decide +kernel) rfl rfl ?_
  refine jT_xlload (v := (1, 2 * x4)) (pcN := 8) jIQ_45_6 rfl rfl rfl ?_
  refine jT_xlconst (z := 1) (pcN := 9) jIQ_45_8 rfl rfl ?_
  refine jT_lcmp (a := 2 * x4) (b := 1) (z := 1) (by rfl) (by rfl) (jwl_idd (by omega) (by omega)) (jwl_idd (by omega) (by omega)) (by rw [decide_eq_true (show (1 : Int) < 2 * x4 by omega)]; rfl) ?_
  refine jT_xifT (pcN := 15) jIQ_45_10 rfl (by decide +kernel) rfl ?_
  refine jT_xaload_n (v := (4, 0)) (pcN := 16) jIQ_45_15 rfl rfl rfl ?_
  refine jT_xaload_n (v := (4, 1)) (pcN := 17) jIQ_45_16 rfl rfl rfl ?_
  refine jT_fR [0, 1] 3 (y := 39) (pcN := 20) (dC := 0) (bc1 := 0) (bc2 := 0) (c1 := 0) (c2 := 0) (as := [(4, 0), (4, 1)]) (asC := [(4, 0), (4, 1)]) (LN := [(0, (4, 0)), (1, (4, 1)), (2, (1, 1)), (4, (1, 2 * x4))]) (stN := []) (hsC := [jgh, (101, [], [0, 0, 0, 0, 1, 0])]) (v := (1, 1)) (st2 := [(1, 1)]) (jQ_39_210 (d := 0)) (by rfl) (by rfl) (by decide +kernel) (by rfl) (by rfl) (by omega) (by omega) (by omega) (by omega) rfl ?_
  refine jT_xlstore (v := (1, 1)) (LN := [(6, (1, 1)), (0, (4, 0)), (1, (4, 1)), (2, (1, 1)), (4, (1, 2 * x4))]) (pcN := 22) jIQ_45_20 rfl rfl rfl rfl ?_
  refine jT_xlload (v := (1, 1)) (pcN := 24) jIQ_45_22 rfl rfl rfl ?_
  refine jT_xlconst (z := 0) (pcN := 25) jIQ_45_24 rfl rfl ?_
  refine jT_lcmp (a := 1) (b := 0) (z := 1) (by rfl) (by rfl) (by decide +kernel) (by decide +kernel) (by decide) ?_
  refine jT_xifT (pcN := 40) jIQ_45_26 rfl (by decide +kernel) rfl ?_
  refine jT_xaload_n (v := (4, 0)) (pcN := 41) jIQ_45_40 rfl rfl rfl ?_
  refine jT_xaload_n (v := (4, 1)) (pcN := 42) jIQ_45_41 rfl rfl rfl ?_
  refine jT_xlload (v := (1, 1)) (pcN := 44) jIQ_45_42 rfl rfl rfl ?_
  refine jT_fR [0, 1] 3 (y := 40) (pcN := 47) (dC := 0) (bc1 := 0) (bc2 := 0) (c1 := 0) (c2 := 0) (as := [(4, 0), (4, 1), (1, 1)]) (asC := [(4, 0), (4, 1), (1, 1)]) (LN := [(6, (1, 1)), (0, (4, 0)), (1, (4, 1)), (2, (1, 1)), (4, (1, 2 * x4))]) (stN := []) (hsC := [jgh, (101, [], [0, 0, 0, 0, 1, 0])]) (v := (0, 1)) (st2 := [(0, 1)]) (jQ_40_211 (d := 0)) (by rfl) (by rfl) (by decide +kernel) (by rfl) (by rfl) (by omega) (by omega) (by omega) (by omega) rfl ?_
  refine jT_xifF (t := 120) (pcN := 50) jIQ_45_47 rfl (by decide +kernel) rfl rfl ?_
  refine jT_xaload_n (v := (4, 0)) (pcN := 51) jIQ_45_50 rfl rfl rfl ?_
  refine jT_xaload_n (v := (4, 1)) (pcN := 52) jIQ_45_51 rfl rfl rfl ?_
  refine jT_fR [0, 1] 3 (y := 41) (pcN := 55) (dC := 0) (bc1 := 0) (bc2 := 0) (c1 := 0) (c2 := 0) (as := [(4, 0), (4, 1)]) (asC := [(4, 0), (4, 1)]) (LN := [(6, (1, 1)), (0, (4, 0)), (1, (4, 1)), (2, (1, 1)), (4, (1, 2 * x4))]) (stN := []) (hsC := [jgh, (101, [], [0, 0, 0, 0, 1, 0])]) (v := (1, 237730330636)) (st2 := [(1, 237730330636)]) (jQ_41_212 (d := 0)) (by rfl) (by rfl) (by decide +kernel) (by rfl) (by rfl) (by omega) (by omega) (by omega) (by omega) rfl ?_
  refine jT_xlstore (v := (1, 237730330636)) (LN := [(8, (1, 237730330636)), (6, (1, 1)), (0, (4, 0)), (1, (4, 1)), (2, (1, 1)), (4, (1, 2 * x4))]) (pcN := 57) jIQ_45_55 rfl rfl rfl rfl ?_
  refine jT_xlload (v := (1, 237730330636)) (pcN := 59) jIQ_45_57 rfl rfl rfl ?_
  refine jT_labs (z := 237730330636) (by rfl) (by rfl) (by rfl) (by rfl) (by decide +kernel) ?_
  refine jT_xlload (v := (1, 1)) (pcN := 64) jIQ_45_62 rfl rfl rfl ?_
  refine jT_xladd (x := 237730330636) (y := 1) (z := 237730330637) (pcN := 65) jIQ_45_64 rfl (by decide) rfl ?_
  refine jT_adv 1 (pcN := 68) (LN := [(8, (1, 237730330636)), (6, (1, 1)), (0, (4, 0)), (1, (4, 1)), (2, (1, 1)), (4, (1, 2 * x4))]) (stN := [(1, 9223372036854775807), (1, 237730330637)]) (hsN := [(8, [(4, 2), (4, 1)], []), (101, [], [0, 0, 0, 0, 1, 0]), jgh]) (c1 := 0) (s1 := 0) (c2 := 0) (s2 := 0) (by exact rfl) ?_ (by omega) (by omega)
  refine jT_xlload (v := (1, 2 * x4)) (pcN := 70) jIQ_45_68 rfl rfl rfl ?_
  refine jT_ldiv (a := 9223372036854775807) (b := 2 * x4) (by rfl) (by rfl) (jwl_idd (by omega) (by omega)) (jwl_idd (by omega) (by omega)) (by omega) ?_
  have hb_q1 := jdv_b (y := 2 * x4) (by omega) (by omega)
  generalize hq_q1 : (9223372036854775807 : Int).tdiv (2 * x4) = q1 at hb_q1 ⊢
  refine jT_lcmp (a := 237730330637) (b := q1) (z := (-1)) (by rfl) (by rfl) (jwl_idd (by omega) (by omega)) (jwl_idd (by omega) (by omega)) (by rw [decide_eq_false (show ¬ ((q1 : Int) < 237730330637) by omega), decide_eq_false (show ¬ ((237730330637 : Int) = q1) by omega)]; rfl) ?_
  refine jT_xifF (t := 120) (pcN := 75) jIQ_45_72 rfl (by decide +kernel) rfl rfl ?_
  refine jT_xlload (v := (1, 237730330636)) (pcN := 77) jIQ_45_75 rfl rfl rfl ?_
  refine jT_xlload (v := (1, 1)) (pcN := 79) jIQ_45_77 rfl rfl rfl ?_
  refine jT_xlsub (x := 237730330636) (y := 1) (z := 237730330635) (pcN := 80) jIQ_45_79 rfl (by decide) rfl ?_
  refine jT_xlload (v := (1, 2 * x4)) (pcN := 82) jIQ_45_80 rfl rfl rfl ?_
  refine jT_xlmul (x := 237730330635) (y := 2 * x4) (z := 475460661270 * x4) (pcN := 83) jIQ_45_82 rfl (by omega) rfl ?_
  refine jT_xlload_n (v := (1, 1)) (pcN := 84) jIQ_45_83 rfl rfl rfl ?_
  refine jT_xbipush (k := 36) (pcN := 86) jIQ_45_84 (by decide) rfl ?_
  refine jT_lshl (x := 1) (y := 36) (z := 68719476736) (by rfl) (by rfl) (by decide +kernel) ?_
  refine jT_fR [] 3 (y := 373) (pcN := 90) (dC := 0) (bc1 := 0) (bc2 := 0) (c1 := 0) (c2 := 0) (as := [(1, 475460661270 * x4), (1, 68719476736)]) (asC := [(1, 475460661270 * x4), (1, 68719476736)]) (LN := [(8, (1, 237730330636)), (6, (1, 1)), (0, (4, 0)), (1, (4, 1)), (2, (1, 1)), (4, (1, 2 * x4))]) (stN := []) (hsC := []) (v := (1, (475460661270 * x4) / 68719476736)) (st2 := [(1, (475460661270 * x4) / 68719476736)]) (jT_fdJK (d := 0) (x := 475460661270 * x4) (by omega)) (by rfl) (by rfl) (by decide +kernel) (by rfl) (by rfl) (by omega) (by omega) (by omega) (by omega) rfl ?_
  have hb_q2 : 6 ≤ (475460661270 * x4) / 68719476736 ∧ (475460661270 * x4) / 68719476736 ≤ 691 := ⟨by omega, by omega⟩
  generalize hq_q2 : (475460661270 * x4) / 68719476736 = q2 at hb_q2 ⊢
  refine jT_xlstore (v := (1, q2)) (LN := [(10, (1, q2)), (8, (1, 237730330636)), (6, (1, 1)), (0, (4, 0)), (1, (4, 1)), (2, (1, 1)), (4, (1, 2 * x4))]) (pcN := 92) jIQ_45_90 rfl rfl rfl rfl ?_
  refine jT_xlload (v := (1, 237730330636)) (pcN := 94) jIQ_45_92 rfl rfl rfl ?_
  refine jT_xlload (v := (1, 1)) (pcN := 96) jIQ_45_94 rfl rfl rfl ?_
  refine jT_xladd (x := 237730330636) (y := 1) (z := 237730330637) (pcN := 97) jIQ_45_96 rfl (by decide) rfl ?_
  refine jT_xlload (v := (1, 2 * x4)) (pcN := 99) jIQ_45_97 rfl rfl rfl ?_
  refine jT_xlmul (x := 237730330637) (y := 2 * x4) (z := 475460661274 * x4) (pcN := 100) jIQ_45_99 rfl (by omega) rfl ?_
  refine jT_xlload_n (v := (1, 1)) (pcN := 101) jIQ_45_100 rfl rfl rfl ?_
  refine jT_xbipush (k := 36) (pcN := 103) jIQ_45_101 (by decide) rfl ?_
  refine jT_lshl (x := 1) (y := 36) (z := 68719476736) (by rfl) (by rfl) (by decide +kernel) ?_
  refine jT_fR [] 3 (y := 373) (pcN := 107) (dC := 0) (bc1 := 0) (bc2 := 0) (c1 := 0) (c2 := 0) (as := [(1, 475460661274 * x4), (1, 68719476736)]) (asC := [(1, 475460661274 * x4), (1, 68719476736)]) (LN := [(10, (1, q2)), (8, (1, 237730330636)), (6, (1, 1)), (0, (4, 0)), (1, (4, 1)), (2, (1, 1)), (4, (1, 2 * x4))]) (stN := []) (hsC := []) (v := (1, (475460661270 * x4) / 68719476736)) (st2 := [(1, (475460661270 * x4) / 68719476736)]) (jT_fdJK2 (d := 0) (x := 475460661274 * x4) (y := 475460661270 * x4) (by omega) (jnr_4 (by omega))) (by rfl) (by rfl) (by decide +kernel) (by rfl) (by rfl) (by omega) (by omega) (by omega) (by omega) rfl ?_
  rw [hq_q2]
  refine jT_xlstore (v := (1, q2)) (LN := [(12, (1, q2)), (10, (1, q2)), (8, (1, 237730330636)), (6, (1, 1)), (0, (4, 0)), (1, (4, 1)), (2, (1, 1)), (4, (1, 2 * x4))]) (pcN := 109) jIQ_45_107 rfl rfl rfl rfl ?_
  refine jT_xlload (v := (1, q2)) (pcN := 111) jIQ_45_109 rfl rfl rfl ?_
  refine jT_xlload (v := (1, q2)) (pcN := 113) jIQ_45_111 rfl rfl rfl ?_
  refine jT_lcmp (a := q2) (b := q2) (z := 0) (by rfl) (by rfl) (jwl_idd (by omega) (by omega)) (jwl_idd (by omega) (by omega)) (by rw [decide_eq_false (show ¬ ((q2 : Int) < q2) by omega), decide_eq_true (show (q2 : Int) = q2 by omega)]; rfl) ?_
  refine jT_xifF (t := 120) (pcN := 117) jIQ_45_114 rfl (by decide +kernel) rfl rfl ?_
  refine jT_xlload (v := (1, q2)) (pcN := 119) jIQ_45_117 rfl rfl rfl ?_
  subst hq_q2
  subst hq_q1
  exact jT_ret rfl (by decide) (by show 3 ≤ 3; omega) (by omega) (by omega) ⟨rfl, rfl, rfl⟩
theorem jQ_374_214 {xs : List Int} {d : Nat} {q8 : Int} (h_q8 : 6 ≤ q8 ∧ q8 ≤ 691) : jT xs (d + 1) 374 0 0 [(0, (1, q8 + 1)), (2, (0, 2))] [] [] 0 0 (fun k v hsN => k = 0 ∧ v = (1, (q8 + 1) / 2) ∧ hsN = [] ++ []) := by
  refine jT_xlload_n (v := (1, q8 + 1)) (pcN := 1) jIQ_374_0 rfl rfl rfl ?_
  refine jT_xiload_n (v := (0, 2)) (pcN := 2) jIQ_374_1 rfl rfl rfl ?_
  refine jT_xi2l (x := 2) (z := 2) (pcN := 3) jIQ_374_2 rfl (by decide +kernel) rfl ?_
  refine jT_fR [] 0 (y := 373) (pcN := 6) (dC := 0) (bc1 := 0) (bc2 := 0) (c1 := 0) (c2 := 0) (as := [(1, q8 + 1), (1, 2)]) (asC := [(1, q8 + 1), (1, 2)]) (LN := [(0, (1, q8 + 1)), (2, (0, 2))]) (stN := []) (hsC := []) (v := (1, (q8 + 1) / 2)) (st2 := [(1, (q8 + 1) / 2)]) (jT_fdJ2 (d := 0) (x := q8 + 1) (by omega)) (by rfl) (by rfl) (by decide +kernel) (by rfl) (by rfl) (by omega) (by omega) (by omega) (by omega) rfl ?_
  have hb_q1 : 3 ≤ (q8 + 1) / 2 ∧ (q8 + 1) / 2 ≤ 346 := ⟨by omega, by omega⟩
  generalize hq_q1 : (q8 + 1) / 2 = q1 at hb_q1 ⊢
  subst hq_q1
  exact jT_ret rfl (by decide) (by show 0 ≤ 0; omega) (by omega) (by omega) ⟨rfl, rfl, rfl⟩
theorem jQ_39_215 {xs : List Int} {d : Nat} : jT xs d 39 2 0 [(0, (4, 0)), (1, (4, 1))] [] [jgh, (101, [], [0, 0, 0, 0, 0, 1])] 0 0 (fun k v hsN => k = 0 ∧ v = (1, 1) ∧ hsN = [jgh, (101, [], [0, 0, 0, 0, 0, 1])] ++ []) := by
  refine jT_advK 68 (pcN := 29) (LN := [(4, (0, 6)), (2, (1, 1)), (0, (4, 0)), (1, (4, 1))]) (stN := [(1, 1)]) (hsN := [jgh, (101, [], [0, 0, 0, 0, 0, 1])]) (c1 := 0) (s1 := 0) (c2 := 0) (s2 := 0) (by decide +kernel) ?_ (by omega) (by omega)
  exact jT_ret rfl (by decide) (by show 2 ≤ 2; omega) (by omega) (by omega) ⟨rfl, rfl, rfl⟩
theorem jQ_40_216 {xs : List Int} {d : Nat} : jT xs d 40 2 0 [(0, (4, 0)), (1, (4, 1)), (2, (1, 1))] [] [jgh, (101, [], [0, 0, 0, 0, 0, 1])] 0 0 (fun k v hsN => k = 0 ∧ v = (0, 1) ∧ hsN = [jgh, (101, [], [0, 0, 0, 0, 0, 1])] ++ []) := by
  refine jT_advK 13 (pcN := 26) (LN := [(0, (4, 0)), (1, (4, 1)), (2, (1, 1))]) (stN := [(0, 1)]) (hsN := [jgh, (101, [], [0, 0, 0, 0, 0, 1])]) (c1 := 0) (s1 := 0) (c2 := 0) (s2 := 0) (by decide +kernel) ?_ (by omega) (by omega)
  exact jT_ret rfl (by decide) (by show 2 ≤ 2; omega) (by omega) (by omega) ⟨rfl, rfl, rfl⟩
theorem jQ_41_217 {xs : List Int} {d : Nat} : jT xs d 41 2 0 [(0, (4, 0)), (1, (4, 1))] [] [jgh, (101, [], [0, 0, 0, 0, 0, 1])] 0 0 (fun k v hsN => k = 0 ∧ v = (1, 254292281123) ∧ hsN = [jgh, (101, [], [0, 0, 0, 0, 0, 1])] ++ []) := by
  refine jT_advK 98 (pcN := 33) (LN := [(4, (0, 6)), (2, (1, 254292281123)), (0, (4, 0)), (1, (4, 1))]) (stN := [(1, 254292281123)]) (hsN := [jgh, (101, [], [0, 0, 0, 0, 0, 1])]) (c1 := 0) (s1 := 0) (c2 := 0) (s2 := 0) (by decide +kernel) ?_ (by omega) (by omega)
  exact jT_ret rfl (by decide) (by show 2 ≤ 2; omega) (by omega) (by omega) ⟨rfl, rfl, rfl⟩
theorem jQ_45_218 {xs : List Int} {d : Nat} {x4 : Int} (h_x4 : 1 ≤ x4 ∧ x4 ≤ 100) : jT xs (d + 1) 45 3 0 [(0, (4, 0)), (1, (4, 1)), (2, (1, 1)), (4, (1, 2 * x4))] [] [(8, [(4, 2), (4, 1)], []), (101, [], [0, 0, 0, 0, 0, 1]), jgh] 0 0 (fun k v hsN => k = 0 ∧ v = (1, (508584562244 * x4) / 68719476736) ∧ hsN = [(8, [(4, 2), (4, 1)], []), (101, [], [0, 0, 0, 0, 0, 1]), jgh] ++ []) := by
  refine jT_xlload_n (v := (1, 1)) (pcN := 1) jIQ_45_0 rfl rfl rfl ?_
  refine jT_xlconst (z := 1) (pcN := 2) jIQ_45_1 rfl rfl ?_
  refine jT_lcmp (a := 1) (b := 1) (z := 0) (by rfl) (by rfl) (by decide +kernel) (by decide +kernel) (by decide) ?_
  refine jT_xifF (t := 13) (pcN := 6) jIQ_45_3 rfl (by decide +kernel) rfl rfl ?_
  refine jT_xlload (v := (1, 2 * x4)) (pcN := 8) jIQ_45_6 rfl rfl rfl ?_
  refine jT_xlconst (z := 1) (pcN := 9) jIQ_45_8 rfl rfl ?_
  refine jT_lcmp (a := 2 * x4) (b := 1) (z := 1) (by rfl) (by rfl) (jwl_idd (by omega) (by omega)) (jwl_idd (by omega) (by omega)) (by rw [decide_eq_true (show (1 : Int) < 2 * x4 by omega)]; rfl) ?_
  refine jT_xifT (pcN := 15) jIQ_45_10 rfl (by decide +kernel) rfl ?_
  refine jT_xaload_n (v := (4, 0)) (pcN := 16) jIQ_45_15 rfl rfl rfl ?_
  refine jT_xaload_n (v := (4, 1)) (pcN := 17) jIQ_45_16 rfl rfl rfl ?_
  refine jT_fR [0, 1] 3 (y := 39) (pcN := 20) (dC := 0) (bc1 := 0) (bc2 := 0) (c1 := 0) (c2 := 0) (as := [(4, 0), (4, 1)]) (asC := [(4, 0), (4, 1)]) (LN := [(0, (4, 0)), (1, (4, 1)), (2, (1, 1)), (4, (1, 2 * x4))]) (stN := []) (hsC := [jgh, (101, [], [0, 0, 0, 0, 0, 1])]) (v := (1, 1)) (st2 := [(1, 1)]) (jQ_39_215 (d := 0)) (by rfl) (by rfl) (by decide +kernel) (by rfl) (by rfl) (by omega) (by omega) (by omega) (by omega) rfl ?_
  refine jT_xlstore (v := (1, 1)) (LN := [(6, (1, 1)), (0, (4, 0)), (1, (4, 1)), (2, (1, 1)), (4, (1, 2 * x4))]) (pcN := 22) jIQ_45_20 rfl rfl rfl rfl ?_
  refine jT_xlload (v := (1, 1)) (pcN := 24) jIQ_45_22 rfl rfl rfl ?_
  refine jT_xlconst (z := 0) (pcN := 25) jIQ_45_24 rfl rfl ?_
  refine jT_lcmp (a := 1) (b := 0) (z := 1) (by rfl) (by rfl) (by decide +kernel) (by decide +kernel) (by decide) ?_
  refine jT_xifT (pcN := 40) jIQ_45_26 rfl (by decide +kernel) rfl ?_
  refine jT_xaload_n (v := (4, 0)) (pcN := 41) jIQ_45_40 rfl rfl rfl ?_
  refine jT_xaload_n (v := (4, 1)) (pcN := 42) jIQ_45_41 rfl rfl rfl ?_
  refine jT_xlload (v := (1, 1)) (pcN := 44) jIQ_45_42 rfl rfl rfl ?_
  refine jT_fR [0, 1] 3 (y := 40) (pcN := 47) (dC := 0) (bc1 := 0) (bc2 := 0) (c1 := 0) (c2 := 0) (as := [(4, 0), (4, 1), (1, 1)]) (asC := [(4, 0), (4, 1), (1, 1)]) (LN := [(6, (1, 1)), (0, (4, 0)), (1, (4, 1)), (2, (1, 1)), (4, (1, 2 * x4))]) (stN := []) (hsC := [jgh, (101, [], [0, 0, 0, 0, 0, 1])]) (v := (0, 1)) (st2 := [(0, 1)]) (jQ_40_216 (d := 0)) (by rfl) (by rfl) (by decide +kernel) (by rfl) (by rfl) (by omega) (by omega) (by omega) (by omega) rfl ?_
  refine jT_xifF (t := 120) (pcN := 50) jIQ_45_47 rfl (by decide +kernel) rfl rfl ?_
  refine jT_xaload_n (v := (4, 0)) (pcN := 51) jIQ_45_50 rfl rfl rfl ?_
  refine jT_xaload_n (v := (4, 1)) (pcN := 52) jIQ_45_51 rfl rfl rfl ?_
  refine jT_fR [0, 1] 3 (y := 41) (pcN := 55) (dC := 0) (bc1 := 0) (bc2 := 0) (c1 := 0) (c2 := 0) (as := [(4, 0), (4, 1)]) (asC := [(4, 0), (4, 1)]) (LN := [(6, (1, 1)), (0, (4, 0)), (1, (4, 1)), (2, (1, 1)), (4, (1, 2 * x4))]) (stN := []) (hsC := [jgh, (101, [], [0, 0, 0, 0, 0, 1])]) (v := (1, 254292281123)) (st2 := [(1, 254292281123)]) (jQ_41_217 (d := 0)) (by rfl) (by rfl) (by decide +kernel) (by rfl) (by rfl) (by omega) (by omega) (by omega) (by omega) rfl ?_
  refine jT_xlstore (v := (1, 254292281123)) (LN := [(8, (1, 254292281123)), (6, (1, 1)), (0, (4, 0)), (1, (4, 1)), (2, (1, 1)), (4, (1, 2 * x4))]) (pcN := 57) jIQ_45_55 rfl rfl rfl rfl ?_
  refine jT_xlload (v := (1, 254292281123)) (pcN := 59) jIQ_45_57 rfl rfl rfl ?_
  refine jT_labs (z := 254292281123) (by rfl) (by rfl) (by rfl) (by rfl) (by decide +kernel) ?_
  refine jT_xlload (v := (1, 1)) (pcN := 64) jIQ_45_62 rfl rfl rfl ?_
  refine jT_xladd (x := 254292281123) (y := 1) (z := 254292281124) (pcN := 65) jIQ_45_64 rfl (by decide) rfl ?_
  refine jT_adv 1 (pcN := 68) (LN := [(8, (1, 254292281123)), (6, (1, 1)), (0, (4, 0)), (1, (4, 1)), (2, (1, 1)), (4, (1, 2 * x4))]) (stN := [(1, 9223372036854775807), (1, 254292281124)]) (hsN := [(8, [(4, 2), (4, 1)], []), (101, [], [0, 0, 0, 0, 0, 1]), jgh]) (c1 := 0) (s1 := 0) (c2 := 0) (s2 := 0) (by exact rfl) ?_ (by omega) (by omega)
  refine jT_xlload (v := (1, 2 * x4)) (pcN := 70) jIQ_45_68 rfl rfl rfl ?_
  refine jT_ldiv (a := 9223372036854775807) (b := 2 * x4) (by rfl) (by rfl) (jwl_idd (by omega) (by omega)) (jwl_idd (by omega) (by omega)) (by omega) ?_
  have hb_q1 := jdv_b (y := 2 * x4) (by omega) (by omega)
  generalize hq_q1 : (9223372036854775807 : Int).tdiv (2 * x4) = q1 at hb_q1 ⊢
  refine jT_lcmp (a := 254292281124) (b := q1) (z := (-1)) (by rfl) (by rfl) (jwl_idd (by omega) (by omega)) (jwl_idd (by omega) (by omega)) (by rw [decide_eq_false (show ¬ ((q1 : Int) < 254292281124) by omega), decide_eq_false (show ¬ ((254292281124 : Int) = q1) by omega)]; rfl) ?_
  refine jT_xifF (t := 120) (pcN := 75) jIQ_45_72 rfl (by decide +kernel) rfl rfl ?_
  refine jT_xlload (v := (1, 254292281123)) (pcN := 77) jIQ_45_75 rfl rfl rfl ?_
  refine jT_xlload (v := (1, 1)) (pcN := 79) jIQ_45_77 rfl rfl rfl ?_
  refine jT_xlsub (x := 254292281123) (y := 1) (z := 254292281122) (pcN := 80) jIQ_45_79 rfl (by decide) rfl ?_
  refine jT_xlload (v := (1, 2 * x4)) (pcN := 82) jIQ_45_80 rfl rfl rfl ?_
  refine jT_xlmul (x := 254292281122) (y := 2 * x4) (z := 508584562244 * x4) (pcN := 83) jIQ_45_82 rfl (by omega) rfl ?_
  refine jT_xlload_n (v := (1, 1)) (pcN := 84) jIQ_45_83 rfl rfl rfl ?_
  refine jT_xbipush (k := 36) (pcN := 86) jIQ_45_84 (by decide) rfl ?_
  refine jT_lshl (x := 1) (y := 36) (z := 68719476736) (by rfl) (by rfl) (by decide +kernel) ?_
  refine jT_fR [] 3 (y := 373) (pcN := 90) (dC := 0) (bc1 := 0) (bc2 := 0) (c1 := 0) (c2 := 0) (as := [(1, 508584562244 * x4), (1, 68719476736)]) (asC := [(1, 508584562244 * x4), (1, 68719476736)]) (LN := [(8, (1, 254292281123)), (6, (1, 1)), (0, (4, 0)), (1, (4, 1)), (2, (1, 1)), (4, (1, 2 * x4))]) (stN := []) (hsC := []) (v := (1, (508584562244 * x4) / 68719476736)) (st2 := [(1, (508584562244 * x4) / 68719476736)]) (jT_fdJK (d := 0) (x := 508584562244 * x4) (by omega)) (by rfl) (by rfl) (by decide +kernel) (by rfl) (by rfl) (by omega) (by omega) (by omega) (by omega) rfl ?_
  have hb_q2 : 7 ≤ (508584562244 * x4) / 68719476736 ∧ (508584562244 * x4) / 68719476736 ≤ 740 := ⟨by omega, by omega⟩
  generalize hq_q2 : (508584562244 * x4) / 68719476736 = q2 at hb_q2 ⊢
  refine jT_xlstore (v := (1, q2)) (LN := [(10, (1, q2)), (8, (1, 254292281123)), (6, (1, 1)), (0, (4, 0)), (1, (4, 1)), (2, (1, 1)), (4, (1, 2 * x4))]) (pcN := 92) jIQ_45_90 rfl rfl rfl rfl ?_
  refine jT_xlload (v := (1, 254292281123)) (pcN := 94) jIQ_45_92 rfl rfl rfl ?_
  refine jT_xlload (v := (1, 1)) (pcN := 96) jIQ_45_94 rfl rfl rfl ?_
  refine jT_xladd (x := 254292281123) (y := 1) (z := 254292281124) (pcN := 97) jIQ_45_96 rfl (by decide) rfl ?_
  refine jT_xlload (v := (1, 2 * x4)) (pcN := 99) jIQ_45_97 rfl rfl rfl ?_
  refine jT_xlmul (x := 254292281124) (y := 2 * x4) (z := 508584562248 * x4) (pcN := 100) jIQ_45_99 rfl (by omega) rfl ?_
  refine jT_xlload_n (v := (1, 1)) (pcN := 101) jIQ_45_100 rfl rfl rfl ?_
  refine jT_xbipush (k := 36) (pcN := 103) jIQ_45_101 (by decide) rfl ?_
  refine jT_lshl (x := 1) (y := 36) (z := 68719476736) (by rfl) (by rfl) (by decide +kernel) ?_
  refine jT_fR [] 3 (y := 373) (pcN := 107) (dC := 0) (bc1 := 0) (bc2 := 0) (c1 := 0) (c2 := 0) (as := [(1, 508584562248 * x4), (1, 68719476736)]) (asC := [(1, 508584562248 * x4), (1, 68719476736)]) (LN := [(10, (1, q2)), (8, (1, 254292281123)), (6, (1, 1)), (0, (4, 0)), (1, (4, 1)), (2, (1, 1)), (4, (1, 2 * x4))]) (stN := []) (hsC := []) (v := (1, (508584562244 * x4) / 68719476736)) (st2 := [(1, (508584562244 * x4) / 68719476736)]) (jT_fdJK2 (d := 0) (x := 508584562248 * x4) (y := 508584562244 * x4) (by omega) (jnr_5 (by omega))) (by rfl) (by rfl) (by decide +kernel) (by rfl) (by rfl) (by omega) (by omega) (by omega) (by omega) rfl ?_
  rw [hq_q2]
  refine jT_xlstore (v := (1, q2)) (LN := [(12, (1, q2)), (10, (1, q2)), (8, (1, 254292281123)), (6, (1, 1)), (0, (4, 0)), (1, (4, 1)), (2, (1, 1)), (4, (1, 2 * x4))]) (pcN := 109) jIQ_45_107 rfl rfl rfl rfl ?_
  refine jT_xlload (v := (1, q2)) (pcN := 111) jIQ_45_109 rfl rfl rfl ?_
  refine jT_xlload (v := (1, q2)) (pcN := 113) jIQ_45_111 rfl rfl rfl ?_
  refine jT_lcmp (a := q2) (b := q2) (z := 0) (by rfl) (by rfl) (jwl_idd (by omega) (by omega)) (jwl_idd (by omega) (by omega)) (by rw [decide_eq_false (show ¬ ((q2 : Int) < q2) by omega), decide_eq_true (show (q2 : Int) = q2 by omega)]; rfl) ?_
  refine jT_xifF (t := 120) (pcN := 117) jIQ_45_114 rfl (by decide +kernel) rfl rfl ?_
  refine jT_xlload (v := (1, q2)) (pcN := 119) jIQ_45_117 rfl rfl rfl ?_
  subst hq_q2
  subst hq_q1
  exact jT_ret rfl (by decide) (by show 3 ≤ 3; omega) (by omega) (by omega) ⟨rfl, rfl, rfl⟩
theorem jQ_374_219 {xs : List Int} {d : Nat} {q10 : Int} (h_q10 : 7 ≤ q10 ∧ q10 ≤ 740) : jT xs (d + 1) 374 0 0 [(0, (1, q10 + 1)), (2, (0, 2))] [] [] 0 0 (fun k v hsN => k = 0 ∧ v = (1, (q10 + 1) / 2) ∧ hsN = [] ++ []) := by
  refine jT_xlload_n (v := (1, q10 + 1)) (pcN := 1) jIQ_374_0 rfl rfl rfl ?_
  refine jT_xiload_n (v := (0, 2)) (pcN := 2) jIQ_374_1 rfl rfl rfl ?_
  refine jT_xi2l (x := 2) (z := 2) (pcN := 3) jIQ_374_2 rfl (by decide +kernel) rfl ?_
  refine jT_fR [] 0 (y := 373) (pcN := 6) (dC := 0) (bc1 := 0) (bc2 := 0) (c1 := 0) (c2 := 0) (as := [(1, q10 + 1), (1, 2)]) (asC := [(1, q10 + 1), (1, 2)]) (LN := [(0, (1, q10 + 1)), (2, (0, 2))]) (stN := []) (hsC := []) (v := (1, (q10 + 1) / 2)) (st2 := [(1, (q10 + 1) / 2)]) (jT_fdJ2 (d := 0) (x := q10 + 1) (by omega)) (by rfl) (by rfl) (by decide +kernel) (by rfl) (by rfl) (by omega) (by omega) (by omega) (by omega) rfl ?_
  have hb_q1 : 4 ≤ (q10 + 1) / 2 ∧ (q10 + 1) / 2 ≤ 370 := ⟨by omega, by omega⟩
  generalize hq_q1 : (q10 + 1) / 2 = q1 at hb_q1 ⊢
  subst hq_q1
  exact jT_ret rfl (by decide) (by show 0 ≤ 0; omega) (by omega) (by omega) ⟨rfl, rfl, rfl⟩
theorem jIQ_47_0 : jmI (jm 47) 0 = (.iconst 0, 1) := by rfl
theorem jIQ_47_1 : jmI (jm 47) 1 = (.istore_n 3, 1) := by rfl
theorem jIQ_47_2 : jmI (jm 47) 2 = (.iload_n 3, 1) := by rfl
theorem jIQ_47_3 : jmI (jm 47) 3 = (.bipush 6, 2) := by rfl
theorem jIQ_47_5 : jmI (jm 47) 5 = (.if_icmp .ge 16, 3) := by rfl
theorem jIQ_47_8 : jmI (jm 47) 8 = (.aload_n 0, 1) := by rfl
theorem jIQ_47_9 : jmI (jm 47) 9 = (.getfield 20, 3) := by rfl
theorem jIQ_47_12 : jmI (jm 47) 12 = (.iload_n 3, 1) := by rfl
theorem jIQ_47_13 : jmI (jm 47) 13 = (.lconst 0, 1) := by rfl
theorem jIQ_47_15 : jmI (jm 47) 15 = (.iinc 3 1, 3) := by rfl
theorem jIQ_47_18 : jmI (jm 47) 18 = (.goto (-16), 3) := by rfl
theorem jIQ_47_21 : jmI (jm 47) 21 = (.iconst 0, 1) := by rfl
theorem jIQ_47_22 : jmI (jm 47) 22 = (.istore_n 3, 1) := by rfl
theorem jIQ_47_23 : jmI (jm 47) 23 = (.iload_n 3, 1) := by rfl
theorem jIQ_47_24 : jmI (jm 47) 24 = (.bipush 6, 2) := by rfl
theorem jIQ_47_26 : jmI (jm 47) 26 = (.if_icmp .ge 53, 3) := by rfl
theorem jIQ_47_29 : jmI (jm 47) 29 = (.iload_n 3, 1) := by rfl
theorem jIQ_47_30 : jmI (jm 47) 30 = (.aload_n 1, 1) := by rfl
theorem jIQ_47_32 : jmI (jm 47) 32 = (.if_icmp .ge 47, 3) := by rfl
theorem jIQ_47_35 : jmI (jm 47) 35 = (.aload_n 0, 1) := by rfl
theorem jIQ_47_36 : jmI (jm 47) 36 = (.getfield 20, 3) := by rfl
theorem jIQ_47_39 : jmI (jm 47) 39 = (.iload_n 3, 1) := by rfl
theorem jIQ_47_40 : jmI (jm 47) 40 = (.lconst 1, 1) := by rfl
theorem jIQ_47_42 : jmI (jm 47) 42 = (.aload_n 1, 1) := by rfl
theorem jIQ_47_43 : jmI (jm 47) 43 = (.iload_n 3, 1) := by rfl
theorem jIQ_47_44 : jmI (jm 47) 44 = (.aload_n 0, 1) := by rfl
theorem jIQ_47_45 : jmI (jm 47) 45 = (.aload_n 0, 1) := by rfl
theorem jIQ_47_46 : jmI (jm 47) 46 = (.getfield 20, 3) := by rfl
theorem jIQ_47_49 : jmI (jm 47) 49 = (.lconst 1, 1) := by rfl
theorem jIQ_47_53 : jmI (jm 47) 53 = (.iload_n 2, 1) := by rfl
theorem jIQ_47_54 : jmI (jm 47) 54 = (.i2l, 1) := by rfl
theorem jIQ_47_55 : jmI (jm 47) 55 = (.lmul, 1) := by rfl
theorem jIQ_47_59 : jmI (jm 47) 59 = (.lconst 1, 1) := by rfl
theorem jIQ_47_60 : jmI (jm 47) 60 = (.ladd, 1) := by rfl
theorem jIQ_47_61 : jmI (jm 47) 61 = (.iconst 2, 1) := by rfl
theorem jIQ_47_66 : jmI (jm 47) 66 = (.aload_n 0, 1) := by rfl
theorem jIQ_47_67 : jmI (jm 47) 67 = (.getfield 20, 3) := by rfl
theorem jIQ_47_70 : jmI (jm 47) 70 = (.iload_n 3, 1) := by rfl
theorem jIQ_47_71 : jmI (jm 47) 71 = (.lconst 0, 1) := by rfl
theorem jIQ_47_73 : jmI (jm 47) 73 = (.iinc 3 1, 3) := by rfl
theorem jIQ_47_76 : jmI (jm 47) 76 = (.goto (-53), 3) := by rfl
