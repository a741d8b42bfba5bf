/-! the same bodies by jU: at least so many cells -/
theorem jW_gc {xs : List Int} {d b1 : Nat} {Q : Nat → JV → List JC → Prop} (hd : 7 < d) {z3 y5 : Int} (h_z3 : 1 ≤ z3 ∧ z3 ≤ 2000) (h_y5 : 0 ≤ y5 ∧ y5 ≤ 2147483647) (h : jU xs d 287 22 137 [(0, (4, 0))] [] [jzZ_46, (100, [], jS0), jgh, jgh, jgh, jgh, (130, [], [16, 17, 18, 19, 20, 21]), (101, [], [0, 0, 0, 0, 0, 0]), jgh, jgh, jgh, jgh, jgh, jgh, jgh, jgh, (100, [], (jenc (jlg 0))), jgh, jgh, jgh, jgh, jgh, (101, [], [0, 0, 0, 0, 0, 0]), (101, [], [0, 0, 0, 0, 0, 0]), (101, [], [1, 0, 0, 0, 0, 0]), (101, [], [1, 0, 0, 0, 0, 0]), (100, [], (jenc 0)), (100, [], (jenc 1)), (100, [], (jenc (1 * (jlg 0)))), (101, [], [(-1), 0, 0, 0, 0, 0]), (100, [], (jenc 0)), (100, [], (jenc (-1))), (100, [], (jenc ((-1) * (jlg 0))))] b1 Q) : ∀ (q : Nat) (t : Int), 2 ≤ t → t + (q : Int) = z3 + 1 → jU xs d 287 22 59 [(6, (0, t)), (5, (0, y5)), (4, (4, 23)), (0, (4, 0)), (3, (0, z3))] [] [jzZ_46, (100, [], jS0), jgh, jgh, jgh, jgh, (130, [], [16, 17, 18, 19, 20, 21]), (101, [], [0, 0, 0, 0, 0, 0]), jgh, jgh, jgh, jgh, jgh, jgh, jgh, jgh, (100, [], (jenc (jlg 0))), jgh, jgh, jgh, jgh, jgh, (101, [], [0, 0, 0, 0, 0, 0]), (101, [], [0, 0, 0, 0, 0, 0]), (101, [], [1, 0, 0, 0, 0, 0]), (101, [], [1, 0, 0, 0, 0, 0]), (100, [], (jenc 0)), (100, [], (jenc 1)), (100, [], (jenc (1 * (jlg 0)))), (101, [], [(-1), 0, 0, 0, 0, 0]), (100, [], (jenc 0)), (100, [], (jenc (-1))), (100, [], (jenc ((-1) * (jlg 0))))] (b1 + 11 * q) Q := by
  intro q
  induction q with
  | zero =>
    intro t h0 ht
    have e : t = z3 + 1 := by omega
    subst t
    refine jU.mono (lo := b1) ?_ (Nat.le_refl _) (by omega) (fun _ _ _ z => z)
    refine jU_xiload (v := (0, z3 + 1)) (pcN := 61) jIZ_287_59 rfl rfl rfl ?_
    refine jU_xiload_n (v := (0, z3)) (pcN := 62) jIZ_287_61 rfl rfl rfl ?_
    refine jU_icT (a := z3 + 1) (b := z3) (t := 137) (by rfl) (by rfl) (by rfl) (jw_idd (by omega) (by omega)) (jw_idd (by omega) (by omega)) (by simp only [jcP] <;> omega) ?_
    refine jU_loc (LN := [(0, (4, 0))]) (by show List.Nodup [0]; decide) (by intro q hq; simp only [List.mem_cons, List.not_mem_nil, or_false] at hq; rcases hq with rfl <;> rfl) ?_
    exact h
  | succ q ih =>
    intro t h0 ht
    have h_t : 2 ≤ t ∧ t ≤ 2000 := by omega
    have g_0 : t - z3 ≤ 0 := by omega
    refine jU.mono (lo := b1 + 11 * q + 11) ?_ (Nat.le_refl _) (by omega) (fun _ _ _ z => z)
    refine jU_xiload (v := (0, t)) (pcN := 61) jIZ_287_59 rfl rfl rfl ?_
    refine jU_xiload_n (v := (0, z3)) (pcN := 62) jIZ_287_61 rfl rfl rfl ?_
    refine jU_icF (a := t) (b := z3) (t := 137) (by rfl) (by rfl) (by rfl) (jw_idd (by omega) (by omega)) (jw_idd (by omega) (by omega)) (by simp only [jcP] <;> omega) ?_
    refine jU_xaload_n (v := (4, 0)) (pcN := 66) jIZ_287_65 rfl rfl rfl ?_
    refine jU_xiload (v := (0, t)) (pcN := 68) jIZ_287_66 rfl rfl rfl ?_
    refine jU_xi2l (x := t) (z := t) (pcN := 69) jIZ_287_68 rfl (jw_idd (by omega) (by omega)) rfl ?_
    refine jU_fA [0, 1, 2, 3, 4, 5, 6, 7, 8, 9, 10, 11, 12, 13, 14, 15] 33 (y := 218) (pcN := 72) (e := 1) (c1 := (b1 + 11 * q + 10)) (dC := 0) (bc1 := 1) (bc2 := 6) (as := [(4, 0), (1, t)]) (asC := [(4, 0), (1, t)]) (LN := [(6, (0, t)), (5, (0, y5)), (4, (4, 23)), (0, (4, 0)), (3, (0, z3))]) (stN := []) (hsC := jpZ_52) (ex := [(101, [], [0, 0, 0, 0, 0, 0])]) (v := (4, 16)) (st2 := [(4, 33)]) (hs2 := jpZ_110) (jZ_218_45 (d := 0) (by omega)) (jst_call (by rfl)) (by rfl) (by decide +kernel) (by rfl) (by rfl) (by omega) (by omega) (by omega) (by decide +kernel) rfl (by decide +kernel) ?_
    refine jU_xastore (v := (4, 33)) (LN := [(7, (4, 33)), (6, (0, t)), (5, (0, y5)), (4, (4, 23)), (0, (4, 0)), (3, (0, z3))]) (pcN := 74) jIZ_287_72 rfl rfl rfl rfl ?_
    refine jU_xaload (v := (4, 33)) (pcN := 76) jIZ_287_74 rfl rfl rfl ?_
    refine jU_xiconst (k := 0) (pcN := 77) jIZ_287_76 rfl ?_
    refine jU_adv 1 (pcN := 78) (LN := [(7, (4, 33)), (6, (0, t)), (5, (0, y5)), (4, (4, 23)), (0, (4, 0)), (3, (0, z3))]) (stN := [(0, 0), (4, 33), (0, 0), (4, 33)]) (hsN := jpZ_110) (c1 := 0) (s1 := 0) (c2 := (b1 + 11 * q + 10)) (by exact rfl) ?_ (by omega) (by decide +kernel)
    refine jU_lald (x := 0) (a := 33) (j := 0) (fs := []) (X := [0, 0, 0, 0, 0, 0]) jIZ_287_78 rfl rfl rfl rfl ?_
    refine jU_eq (LN := [(7, (4, 33)), (6, (0, t)), (5, (0, y5)), (4, (4, 23)), (0, (4, 0)), (3, (0, z3))]) (stN := [(1, 0), (0, 0), (4, 33)]) (hsN := jpZ_110) rfl rfl rfl ?_
    refine jU_xaload_n (v := (4, 0)) (pcN := 80) jIZ_287_79 rfl rfl rfl ?_
    refine jU_xaload (v := (4, 33)) (pcN := 82) jIZ_287_80 rfl rfl rfl ?_
    refine jU_xaload_n (v := (4, 0)) (pcN := 83) jIZ_287_82 rfl rfl rfl ?_
    refine jU_xgetf (a := 0) (t := 1) (ci := 14) (fi := 10) (c := jzZ_46) (v := (1, 1)) (pcN := 86) jIZ_287_83 rfl rfl rfl rfl rfl rfl rfl ?_
    refine jU_fA [0, 33, 1, 2, 3, 4, 5, 6, 7, 8, 9, 10, 11, 12, 13, 14, 15, 16, 17, 18, 19, 20, 21] 34 (y := 216) (pcN := 89) (e := 9) (c1 := (b1 + 11 * q + 1)) (dC := 6) (bc1 := 9) (bc2 := 354) (as := [(4, 0), (4, 33), (1, 1)]) (asC := [(4, 0), (4, 1), (1, 1)]) (LN := [(7, (4, 33)), (6, (0, t)), (5, (0, y5)), (4, (4, 23)), (0, (4, 0)), (3, (0, z3))]) (stN := [(1, 0), (0, 0), (4, 33)]) (hsC := jpZ_75) (ex := jpZ_76) (v := (1, 0)) (st2 := [(1, 0), (1, 0), (0, 0), (4, 33)]) (hs2 := jpZ_119) (jZ_216_44 (d := 0)) (jst_call (by rfl)) (by rfl) (by decide +kernel) (by rfl) (by rfl) (by omega) (by omega) (by omega) (by decide +kernel) rfl (by decide +kernel) ?_
    refine jU_xaload_n (v := (4, 0)) (pcN := 90) jIZ_287_89 rfl rfl rfl ?_
    refine jU_xgetf (a := 0) (t := 1) (ci := 14) (fi := 10) (c := jzZ_46) (v := (1, 1)) (pcN := 93) jIZ_287_90 rfl rfl rfl rfl rfl rfl rfl ?_
    refine jU_xlmul (x := 0) (y := 1) (z := 0) (pcN := 94) jIZ_287_93 rfl (by decide) rfl ?_
    refine jU_xlsub (x := 0) (y := 0) (z := 0) (pcN := 95) jIZ_287_94 rfl (by decide) rfl ?_
    refine jU_adv 1 (pcN := 96) (LN := [(7, (4, 33)), (6, (0, t)), (5, (0, y5)), (4, (4, 23)), (0, (4, 0)), (3, (0, z3))]) (stN := []) (hsN := jpZ_119) (c1 := 0) (s1 := 0) (c2 := (b1 + 11 * q + 1)) (by exact rfl) ?_ (by omega) (by decide +kernel)
    refine jU_xiload (v := (0, t)) (pcN := 98) jIZ_287_96 rfl rfl rfl ?_
    refine jU_xiconst (k := 1) (pcN := 99) jIZ_287_98 rfl ?_
    refine jU_icF (a := t) (b := 1) (t := 116) (by rfl) (by rfl) (by rfl) (jw_idd (by omega) (by omega)) (jw_idd (by omega) (by omega)) (by simp only [jcP] <;> omega) ?_
    refine jU_xaload_n (v := (4, 0)) (pcN := 103) jIZ_287_102 rfl rfl rfl ?_
    refine jU_xaload (v := (4, 33)) (pcN := 105) jIZ_287_103 rfl rfl rfl ?_
    refine jU_xaload (v := (4, 23)) (pcN := 107) jIZ_287_105 rfl rfl rfl ?_
    refine jU_fA [0, 33, 23, 1, 2, 3, 4, 5, 6, 7, 8, 9, 10, 11, 12, 13, 14, 15] 43 (y := 288) (pcN := 110) (e := 1) (c1 := (b1 + 11 * q + 0)) (dC := 2) (bc1 := 1) (bc2 := 6) (as := [(4, 0), (4, 33), (4, 23)]) (asC := [(4, 0), (4, 1), (4, 2)]) (LN := [(7, (4, 33)), (6, (0, t)), (5, (0, y5)), (4, (4, 23)), (0, (4, 0)), (3, (0, z3))]) (stN := []) (hsC := jpZ_96) (ex := [(101, [], [0, 0, 0, 0, 0, 0])]) (v := (0, 0)) (st2 := [(0, 0)]) (hs2 := jpZ_130) (jZ_288_48 (d := 0)) (jst_call (by rfl)) (by rfl) (by decide +kernel) (by rfl) (by rfl) (by omega) (by omega) (by omega) (by decide +kernel) rfl (by decide +kernel) ?_
    refine jU_xifF (t := 116) (pcN := 113) jIZ_287_110 rfl (by decide +kernel) rfl rfl ?_
    refine jU_xgoto (pcN := 131) jIZ_287_113 rfl ?_
    refine jU_xiinc (x := t) (z := t + 1) (LN := [(6, (0, t + 1)), (7, (4, 33)), (5, (0, y5)), (4, (4, 23)), (0, (4, 0)), (3, (0, z3))]) (pcN := 134) jIZ_287_131 rfl rfl (rfl) rfl rfl ?_
    refine jU_xgoto (pcN := 59) jIZ_287_134 rfl ?_
    refine jU_loc (LN := [(6, (0, t + 1)), (5, (0, y5)), (4, (4, 23)), (0, (4, 0)), (3, (0, z3))]) (by show List.Nodup [6, 5, 4, 0, 3]; decide) (by intro q hq; simp only [List.mem_cons, List.not_mem_nil, or_false] at hq; rcases hq with rfl | rfl | rfl | rfl | rfl <;> rfl) ?_
    refine jU_drop 33 (hs0 := jpZ_103) (ex := jpZ_135) rfl rfl rfl (by decide) ?_
    exact ih (t + 1) (by omega) (by omega)
theorem jW_287_51 {xs : List Int} {d : Nat} : jU xs (d + 8) 287 22 0 [(0, (4, 0)), (1, (0, 0)), (2, (0, 2147483647)), (3, (0, 2000))] [] jpZ_100 22000 (fun k v hsN => k = 0 ∧ v = (0, 0) ∧ hsN = jpZ_136) := by
  refine jU_advK 2 (pcN := 2) (LN := [(0, (4, 0)), (1, (0, 0)), (2, (0, 2147483647)), (3, (0, 2000))]) (stN := [(0, 0), (4, 0)]) (hsN := jpZ_100) (c1 := 0) (s1 := 0) (c2 := 22000) (by decide +kernel) ?_ (by omega) (by decide +kernel)
  refine jU_fR [] 22 (y := 188) (pcN := 5) (dC := 1) (bc1 := 0) (bc2 := 0) (as := [(0, 0)]) (asC := [(0, 0)]) (LN := [(0, (4, 0)), (1, (0, 0)), (2, (0, 2147483647)), (3, (0, 2000))]) (stN := [(4, 0)]) (hsC := []) (v := (0, 1)) (st2 := [(0, 1), (4, 0)]) (jZ_188_26 (d := 0)) (jst_call (by rfl)) (by rfl) (by decide +kernel) (by rfl) (by rfl) (by omega) (by omega) rfl ?_
  refine jU_fR [0, 1, 2, 3, 4, 5, 6, 7, 8, 9, 10, 11, 12, 13, 14, 15] 22 (y := 190) (pcN := 8) (dC := 1) (bc1 := 0) (bc2 := 0) (as := [(4, 0), (0, 1)]) (asC := [(4, 0), (0, 1)]) (LN := [(0, (4, 0)), (1, (0, 0)), (2, (0, 2147483647)), (3, (0, 2000))]) (stN := []) (hsC := jpZ_47) (v := (0, 0)) (st2 := [(0, 0)]) (jZ_190_28 (d := 0)) (jst_call (by rfl)) (by rfl) (by decide +kernel) (by rfl) (by rfl) (by omega) (by omega) rfl ?_
  refine jU_advK 8 (pcN := 22) (LN := [(0, (4, 0)), (1, (0, 0)), (2, (0, 2147483647)), (3, (0, 2000))]) (stN := [(1, 2000), (1, 1), (1, 2000), (4, 0)]) (hsN := jpZ_100) (c1 := 0) (s1 := 0) (c2 := 22000) (by decide +kernel) ?_ (by omega) (by decide +kernel)
  refine jU_fR [] 22 (y := 189) (pcN := 25) (dC := 0) (bc1 := 0) (bc2 := 0) (as := [(1, 2000), (1, 1), (1, 2000)]) (asC := [(1, 2000), (1, 1), (1, 2000)]) (LN := [(0, (4, 0)), (1, (0, 0)), (2, (0, 2147483647)), (3, (0, 2000))]) (stN := [(4, 0)]) (hsC := []) (v := (0, 1)) (st2 := [(0, 1), (4, 0)]) (jZ_189_29 (d := 0)) (jst_call (by rfl)) (by rfl) (by decide +kernel) (by rfl) (by rfl) (by omega) (by omega) rfl ?_
  refine jU_advK 4 (pcN := 34) (LN := [(0, (4, 0)), (1, (0, 0)), (2, (0, 2147483647)), (3, (0, 2000))]) (stN := [(0, 2), (0, 1), (4, 0)]) (hsN := jpZ_100) (c1 := 0) (s1 := 0) (c2 := 22000) (by decide +kernel) ?_ (by omega) (by decide +kernel)
  refine jU_fR [0] 22 (y := 191) (pcN := 37) (dC := 0) (bc1 := 0) (bc2 := 0) (as := [(4, 0), (0, 1), (0, 2)]) (asC := [(4, 0), (0, 1), (0, 2)]) (LN := [(0, (4, 0)), (1, (0, 0)), (2, (0, 2147483647)), (3, (0, 2000))]) (stN := []) (hsC := [jgh]) (v := (0, 0)) (st2 := [(0, 0)]) (jZ_191_30 (d := 0)) (jst_call (by rfl)) (by rfl) (by decide +kernel) (by rfl) (by rfl) (by omega) (by omega) rfl ?_
  refine jU_advK 3 (pcN := 44) (LN := [(0, (4, 0)), (1, (0, 0)), (2, (0, 2147483647)), (3, (0, 2000))]) (stN := [(0, 0), (4, 0)]) (hsN := jpZ_100) (c1 := 0) (s1 := 0) (c2 := 22000) (by decide +kernel) ?_ (by omega) (by decide +kernel)
  refine jU_fR [0, 1, 2, 3, 4, 5, 6, 7, 8, 9, 10, 11, 12, 13, 14, 15] 22 (y := 202) (pcN := 47) (dC := 1) (bc1 := 0) (bc2 := 0) (as := [(4, 0), (0, 0)]) (asC := [(4, 0), (0, 0)]) (LN := [(0, (4, 0)), (1, (0, 0)), (2, (0, 2147483647)), (3, (0, 2000))]) (stN := []) (hsC := jpZ_48) (v := (9, 0)) (st2 := []) (jZ_202_32 (d := 0)) (jst_call (by rfl)) (by rfl) (by decide +kernel) (by rfl) (by rfl) (by omega) (by omega) rfl ?_
  refine jU_advK 7 (pcN := 59) (LN := [(6, (0, 1)), (5, (0, 2147483647)), (4, (4, 22)), (0, (4, 0)), (1, (0, 0)), (2, (0, 2147483647)), (3, (0, 2000))]) (stN := []) (hsN := jpZ_101) (c1 := 1) (s1 := 6) (c2 := 21999) (by decide +kernel) ?_ (by omega) (by decide +kernel)
  refine jU_advK 6 (pcN := 69) (LN := [(6, (0, 1)), (5, (0, 2147483647)), (4, (4, 22)), (0, (4, 0)), (1, (0, 0)), (2, (0, 2147483647)), (3, (0, 2000))]) (stN := [(1, 1), (4, 0)]) (hsN := jpZ_101) (c1 := 0) (s1 := 0) (c2 := 21999) (by decide +kernel) ?_ (by omega) (by decide +kernel)
  refine jU_fA [0, 1, 2, 3, 4, 5, 6, 7, 8, 9, 10, 11, 12, 13, 14, 15] 23 (y := 218) (pcN := 72) (e := 1) (c1 := 21998) (dC := 0) (bc1 := 1) (bc2 := 6) (as := [(4, 0), (1, 1)]) (asC := [(4, 0), (1, 1)]) (LN := [(6, (0, 1)), (5, (0, 2147483647)), (4, (4, 22)), (0, (4, 0)), (1, (0, 0)), (2, (0, 2147483647)), (3, (0, 2000))]) (stN := []) (hsC := jpZ_52) (ex := [(101, [], [0, 0, 0, 0, 0, 0])]) (v := (4, 16)) (st2 := [(4, 23)]) (hs2 := jpZ_102) (jZ_218_33 (d := 0)) (jst_call (by rfl)) (by rfl) (by decide +kernel) (by rfl) (by rfl) (by omega) (by omega) (by omega) (by decide +kernel) rfl (by decide +kernel) ?_
  refine jU_advK 9 (pcN := 86) (LN := [(7, (4, 23)), (6, (0, 1)), (5, (0, 2147483647)), (4, (4, 22)), (0, (4, 0)), (1, (0, 0)), (2, (0, 2147483647)), (3, (0, 2000))]) (stN := [(1, 1), (4, 23), (4, 0), (1, 0), (0, 0), (4, 23)]) (hsN := jpZ_102) (c1 := 0) (s1 := 0) (c2 := 21998) (by decide +kernel) ?_ (by omega) (by decide +kernel)
  refine jU_fA [0, 23, 1, 2, 3, 4, 5, 6, 7, 8, 9, 10, 11, 12, 13, 14, 15, 16, 17, 18, 19, 20, 21] 24 (y := 216) (pcN := 89) (e := 9) (c1 := 21989) (dC := 6) (bc1 := 9) (bc2 := 354) (as := [(4, 0), (4, 23), (1, 1)]) (asC := [(4, 0), (4, 1), (1, 1)]) (LN := [(7, (4, 23)), (6, (0, 1)), (5, (0, 2147483647)), (4, (4, 22)), (0, (4, 0)), (1, (0, 0)), (2, (0, 2147483647)), (3, (0, 2000))]) (stN := [(1, 0), (0, 0), (4, 23)]) (hsC := jpZ_75) (ex := jpZ_76) (v := (1, 0)) (st2 := [(1, 0), (1, 0), (0, 0), (4, 23)]) (hs2 := jpZ_103) (jZ_216_44 (d := 0)) (jst_call (by rfl)) (by rfl) (by decide +kernel) (by rfl) (by rfl) (by omega) (by omega) (by omega) (by decide +kernel) rfl (by decide +kernel) ?_
  refine jU_advK 15 (pcN := 59) (LN := [(6, (0, 2)), (4, (4, 23)), (5, (0, 2147483646)), (7, (4, 23)), (0, (4, 0)), (1, (0, 0)), (2, (0, 2147483647)), (3, (0, 2000))]) (stN := []) (hsN := jpZ_103) (c1 := 0) (s1 := 0) (c2 := 21989) (by decide +kernel) ?_ (by omega) (by decide +kernel)
  refine jU_loc (LN := [(6, (0, 2)), (5, (0, 2147483646)), (4, (4, 23)), (0, (4, 0)), (3, (0, 2000))]) (by show List.Nodup [6, 5, 4, 0, 3]; decide) (by intro q hq; simp only [List.mem_cons, List.not_mem_nil, or_false] at hq; rcases hq with rfl | rfl | rfl | rfl | rfl <;> rfl) ?_
  refine jU.mono (jW_gc (b1 := 0) (by omega) (z3 := 2000) (y5 := 2147483646) (by omega) (by omega) ?_ ((2001 : Int) - 2).toNat 2 (by omega) (by omega)) (Nat.le_refl _) (by omega) (fun _ _ _ z => z)
  refine jU_advK 3 (pcN := 140) (LN := [(0, (4, 0))]) (stN := [(0, 3), (0, 0), (4, 0)]) (hsN := jpZ_103) (c1 := 0) (s1 := 0) (c2 := 0) (by decide +kernel) ?_ (by omega) (by decide +kernel)
  refine jU_fB [0, 1, 2, 3, 4, 5, 6, 7, 8, 9, 10, 11, 12, 13, 14, 15] 33 (y := 191) (pcN := 143) (e := 0) (c1 := 0) (dC := 0) (bc1 := 0) (bc2 := 0) (as := [(4, 0), (0, 0), (0, 3)]) (asC := [(4, 0), (0, 0), (0, 3)]) (LN := [(0, (4, 0))]) (stN := []) (hsC := jpZ_47) (hsD := jpZ_99) (v := (0, 1)) (st2 := [(0, 1)]) (hs2 := jpZ_136) (jZ_191_49 (d := 0)) (jst_call (by rfl)) (by rfl) (by decide +kernel) (by rfl) (by rfl) (by omega) (by omega) (by omega) (by decide +kernel) rfl (by decide +kernel) ?_
  refine jU_advK 3 (pcN := 151) (LN := [(0, (4, 0))]) (stN := [(0, 0)]) (hsN := jpZ_136) (c1 := 0) (s1 := 0) (c2 := 0) (by decide +kernel) ?_ (by omega) (by decide +kernel)
  exact jU_ret rfl (by decide) (by show 22 ≤ 33; omega) ⟨rfl, rfl, rfl⟩
theorem jW_287_61 {xs : List Int} {d : Nat} : jU xs (d + 8) 287 22 0 [(0, (4, 0)), (1, (0, 0)), (2, (0, 2147483647)), (3, (0, 2000))] [] jpZ_150 22000 (fun k v hsN => k = 0 ∧ v = (0, 0) ∧ hsN = jpZ_150 ++ jpZ_151) := by
  refine jU_advK 2 (pcN := 2) (LN := [(0, (4, 0)), (1, (0, 0)), (2, (0, 2147483647)), (3, (0, 2000))]) (stN := [(0, 0), (4, 0)]) (hsN := jpZ_150) (c1 := 0) (s1 := 0) (c2 := 22000) (by decide +kernel) ?_ (by omega) (by decide +kernel)
  refine jU_fR [] 22 (y := 188) (pcN := 5) (dC := 1) (bc1 := 0) (bc2 := 0) (as := [(0, 0)]) (asC := [(0, 0)]) (LN := [(0, (4, 0)), (1, (0, 0)), (2, (0, 2147483647)), (3, (0, 2000))]) (stN := [(4, 0)]) (hsC := []) (v := (0, 1)) (st2 := [(0, 1), (4, 0)]) (jZ_188_26 (d := 0)) (jst_call (by rfl)) (by rfl) (by decide +kernel) (by rfl) (by rfl) (by omega) (by omega) rfl ?_
  refine jU_fB [0, 1, 2, 3, 4, 5, 6, 7, 8, 9, 10, 11, 12, 13, 14, 15] 22 (y := 190) (pcN := 8) (e := 0) (c1 := 22000) (dC := 1) (bc1 := 0) (bc2 := 0) (as := [(4, 0), (0, 1)]) (asC := [(4, 0), (0, 1)]) (LN := [(0, (4, 0)), (1, (0, 0)), (2, (0, 2147483647)), (3, (0, 2000))]) (stN := []) (hsC := jpZ_99) (hsD := jpZ_47) (v := (0, 0)) (st2 := [(0, 0)]) (hs2 := jpZ_100) (jZ_190_60 (d := 0)) (jst_call (by rfl)) (by rfl) (by decide +kernel) (by rfl) (by rfl) (by omega) (by omega) (by omega) (by decide +kernel) rfl (by decide +kernel) ?_
  refine jU_advK 8 (pcN := 22) (LN := [(0, (4, 0)), (1, (0, 0)), (2, (0, 2147483647)), (3, (0, 2000))]) (stN := [(1, 2000), (1, 1), (1, 2000), (4, 0)]) (hsN := jpZ_100) (c1 := 0) (s1 := 0) (c2 := 22000) (by decide +kernel) ?_ (by omega) (by decide +kernel)
  refine jU_fR [] 22 (y := 189) (pcN := 25) (dC := 0) (bc1 := 0) (bc2 := 0) (as := [(1, 2000), (1, 1), (1, 2000)]) (asC := [(1, 2000), (1, 1), (1, 2000)]) (LN := [(0, (4, 0)), (1, (0, 0)), (2, (0, 2147483647)), (3, (0, 2000))]) (stN := [(4, 0)]) (hsC := []) (v := (0, 1)) (st2 := [(0, 1), (4, 0)]) (jZ_189_29 (d := 0)) (jst_call (by rfl)) (by rfl) (by decide +kernel) (by rfl) (by rfl) (by omega) (by omega) rfl ?_
  refine jU_advK 4 (pcN := 34) (LN := [(0, (4, 0)), (1, (0, 0)), (2, (0, 2147483647)), (3, (0, 2000))]) (stN := [(0, 2), (0, 1), (4, 0)]) (hsN := jpZ_100) (c1 := 0) (s1 := 0) (c2 := 22000) (by decide +kernel) ?_ (by omega) (by decide +kernel)
  refine jU_fR [0] 22 (y := 191) (pcN := 37) (dC := 0) (bc1 := 0) (bc2 := 0) (as := [(4, 0), (0, 1), (0, 2)]) (asC := [(4, 0), (0, 1), (0, 2)]) (LN := [(0, (4, 0)), (1, (0, 0)), (2, (0, 2147483647)), (3, (0, 2000))]) (stN := []) (hsC := [jgh]) (v := (0, 0)) (st2 := [(0, 0)]) (jZ_191_30 (d := 0)) (jst_call (by rfl)) (by rfl) (by decide +kernel) (by rfl) (by rfl) (by omega) (by omega) rfl ?_
  refine jU_advK 3 (pcN := 44) (LN := [(0, (4, 0)), (1, (0, 0)), (2, (0, 2147483647)), (3, (0, 2000))]) (stN := [(0, 0), (4, 0)]) (hsN := jpZ_100) (c1 := 0) (s1 := 0) (c2 := 22000) (by decide +kernel) ?_ (by omega) (by decide +kernel)
  refine jU_fR [0, 1, 2, 3, 4, 5, 6, 7, 8, 9, 10, 11, 12, 13, 14, 15] 22 (y := 202) (pcN := 47) (dC := 1) (bc1 := 0) (bc2 := 0) (as := [(4, 0), (0, 0)]) (asC := [(4, 0), (0, 0)]) (LN := [(0, (4, 0)), (1, (0, 0)), (2, (0, 2147483647)), (3, (0, 2000))]) (stN := []) (hsC := jpZ_48) (v := (9, 0)) (st2 := []) (jZ_202_32 (d := 0)) (jst_call (by rfl)) (by rfl) (by decide +kernel) (by rfl) (by rfl) (by omega) (by omega) rfl ?_
  refine jU_advK 7 (pcN := 59) (LN := [(6, (0, 1)), (5, (0, 2147483647)), (4, (4, 22)), (0, (4, 0)), (1, (0, 0)), (2, (0, 2147483647)), (3, (0, 2000))]) (stN := []) (hsN := jpZ_101) (c1 := 1) (s1 := 6) (c2 := 21999) (by decide +kernel) ?_ (by omega) (by decide +kernel)
  refine jU_advK 6 (pcN := 69) (LN := [(6, (0, 1)), (5, (0, 2147483647)), (4, (4, 22)), (0, (4, 0)), (1, (0, 0)), (2, (0, 2147483647)), (3, (0, 2000))]) (stN := [(1, 1), (4, 0)]) (hsN := jpZ_101) (c1 := 0) (s1 := 0) (c2 := 21999) (by decide +kernel) ?_ (by omega) (by decide +kernel)
  refine jU_fA [0, 1, 2, 3, 4, 5, 6, 7, 8, 9, 10, 11, 12, 13, 14, 15] 23 (y := 218) (pcN := 72) (e := 1) (c1 := 21998) (dC := 0) (bc1 := 1) (bc2 := 6) (as := [(4, 0), (1, 1)]) (asC := [(4, 0), (1, 1)]) (LN := [(6, (0, 1)), (5, (0, 2147483647)), (4, (4, 22)), (0, (4, 0)), (1, (0, 0)), (2, (0, 2147483647)), (3, (0, 2000))]) (stN := []) (hsC := jpZ_52) (ex := [(101, [], [0, 0, 0, 0, 0, 0])]) (v := (4, 16)) (st2 := [(4, 23)]) (hs2 := jpZ_102) (jZ_218_33 (d := 0)) (jst_call (by rfl)) (by rfl) (by decide +kernel) (by rfl) (by rfl) (by omega) (by omega) (by omega) (by decide +kernel) rfl (by decide +kernel) ?_
  refine jU_advK 9 (pcN := 86) (LN := [(7, (4, 23)), (6, (0, 1)), (5, (0, 2147483647)), (4, (4, 22)), (0, (4, 0)), (1, (0, 0)), (2, (0, 2147483647)), (3, (0, 2000))]) (stN := [(1, 1), (4, 23), (4, 0), (1, 0), (0, 0), (4, 23)]) (hsN := jpZ_102) (c1 := 0) (s1 := 0) (c2 := 21998) (by decide +kernel) ?_ (by omega) (by decide +kernel)
  refine jU_fA [0, 23, 1, 2, 3, 4, 5, 6, 7, 8, 9, 10, 11, 12, 13, 14, 15, 16, 17, 18, 19, 20, 21] 24 (y := 216) (pcN := 89) (e := 9) (c1 := 21989) (dC := 6) (bc1 := 9) (bc2 := 354) (as := [(4, 0), (4, 23), (1, 1)]) (asC := [(4, 0), (4, 1), (1, 1)]) (LN := [(7, (4, 23)), (6, (0, 1)), (5, (0, 2147483647)), (4, (4, 22)), (0, (4, 0)), (1, (0, 0)), (2, (0, 2147483647)), (3, (0, 2000))]) (stN := [(1, 0), (0, 0), (4, 23)]) (hsC := jpZ_75) (ex := jpZ_76) (v := (1, 0)) (st2 := [(1, 0), (1, 0), (0, 0), (4, 23)]) (hs2 := jpZ_103) (jZ_216_44 (d := 0)) (jst_call (by rfl)) (by rfl) (by decide +kernel) (by rfl) (by rfl) (by omega) (by omega) (by omega) (by decide +kernel) rfl (by decide +kernel) ?_
  refine jU_advK 15 (pcN := 59) (LN := [(6, (0, 2)), (4, (4, 23)), (5, (0, 2147483646)), (7, (4, 23)), (0, (4, 0)), (1, (0, 0)), (2, (0, 2147483647)), (3, (0, 2000))]) (stN := []) (hsN := jpZ_103) (c1 := 0) (s1 := 0) (c2 := 21989) (by decide +kernel) ?_ (by omega) (by decide +kernel)
  refine jU_loc (LN := [(6, (0, 2)), (5, (0, 2147483646)), (4, (4, 23)), (0, (4, 0)), (3, (0, 2000))]) (by show List.Nodup [6, 5, 4, 0, 3]; decide) (by intro q hq; simp only [List.mem_cons, List.not_mem_nil, or_false] at hq; rcases hq with rfl | rfl | rfl | rfl | rfl <;> rfl) ?_
  refine jU.mono (jW_gc (b1 := 0) (by omega) (z3 := 2000) (y5 := 2147483646) (by omega) (by omega) ?_ ((2001 : Int) - 2).toNat 2 (by omega) (by omega)) (Nat.le_refl _) (by omega) (fun _ _ _ z => z)
  refine jU_advK 3 (pcN := 140) (LN := [(0, (4, 0))]) (stN := [(0, 3), (0, 0), (4, 0)]) (hsN := jpZ_103) (c1 := 0) (s1 := 0) (c2 := 0) (by decide +kernel) ?_ (by omega) (by decide +kernel)
  refine jU_fB [0, 1, 2, 3, 4, 5, 6, 7, 8, 9, 10, 11, 12, 13, 14, 15] 33 (y := 191) (pcN := 143) (e := 0) (c1 := 0) (dC := 0) (bc1 := 0) (bc2 := 0) (as := [(4, 0), (0, 0), (0, 3)]) (asC := [(4, 0), (0, 0), (0, 3)]) (LN := [(0, (4, 0))]) (stN := []) (hsC := jpZ_47) (hsD := jpZ_99) (v := (0, 1)) (st2 := [(0, 1)]) (hs2 := jpZ_136) (jZ_191_49 (d := 0)) (jst_call (by rfl)) (by rfl) (by decide +kernel) (by rfl) (by rfl) (by omega) (by omega) (by omega) (by decide +kernel) rfl (by decide +kernel) ?_
  refine jU_advK 3 (pcN := 151) (LN := [(0, (4, 0))]) (stN := [(0, 0)]) (hsN := jpZ_136) (c1 := 0) (s1 := 0) (c2 := 0) (by decide +kernel) ?_ (by omega) (by decide +kernel)
  exact jU_ret rfl (by decide) (by show 22 ≤ 33; omega) ⟨rfl, rfl, rfl⟩
set_option maxRecDepth 100000 in
set_option maxHeartbeats 4000000 in
theorem jW_run {d : Nat} : jU jXS (d + 9) 379 50 28 [(5, (0, 0)), (4, (4, 3)), (3, (4, 2)), (2, (4, 1)), (1, (4, 0)), (0, (6, 0))] [] jpZ_165 220000 (fun k v hsN => k = 0 ∧ v = (0, 1)) := by
  refine jU_xiload (v := (0, 0)) (pcN := 30) jIZ_379_28 rfl rfl rfl ?_
  refine jU_xaload_n (v := (6, 0)) (pcN := 31) jIZ_379_30 rfl rfl rfl ?_
  refine jU_adv 1 (pcN := 32) (LN := [(5, (0, 0)), (4, (4, 3)), (3, (4, 2)), (2, (4, 1)), (1, (4, 0)), (0, (6, 0))]) (stN := [(0, 50), (0, 0)]) (hsN := jpZ_165) (c1 := 0) (s1 := 0) (c2 := 220000) (by exact rfl) ?_ (by omega) (by decide +kernel)
  refine jU_xiconst (k := 5) (pcN := 33) jIZ_379_32 rfl ?_
  refine jU_xisub (x := 50) (y := 5) (z := 45) (pcN := 34) jIZ_379_33 rfl (by decide) rfl ?_
  refine jU_xicF (t := 2413) (pcN := 37) jIZ_379_34 rfl (by decide +kernel) rfl rfl ?_
  refine jU_xaload_n (v := (6, 0)) (pcN := 38) jIZ_379_37 rfl rfl rfl ?_
  refine jU_xiload (v := (0, 0)) (pcN := 40) jIZ_379_38 rfl rfl rfl ?_
  refine jU_adv 1 (pcN := 41) (LN := [(5, (0, 0)), (4, (4, 3)), (3, (4, 2)), (2, (4, 1)), (1, (4, 0)), (0, (6, 0))]) (stN := [(0, 34)]) (hsN := jpZ_165) (c1 := 0) (s1 := 0) (c2 := 220000) (by exact rfl) ?_ (by omega) (by decide +kernel)
  refine jU_xbipush (k := 63) (pcN := 43) jIZ_379_41 (by decide) rfl ?_
  refine jU_iand (x := 34) (y := 63) (z := 34) (by rfl) (by rfl) (by decide +kernel) ?_
  refine jU_adv 1 (pcN := 1710) (LN := [(5, (0, 0)), (4, (4, 3)), (3, (4, 2)), (2, (4, 1)), (1, (4, 0)), (0, (6, 0))]) (stN := []) (hsN := jpZ_165) (c1 := 0) (s1 := 0) (c2 := 220000) (by exact rfl) ?_ (by omega) (by decide +kernel)
  refine jU_xaload_n (v := (4, 0)) (pcN := 1711) jIZ_379_1710 rfl rfl rfl ?_
  refine jU_xaload_n (v := (6, 0)) (pcN := 1712) jIZ_379_1711 rfl rfl rfl ?_
  refine jU_xiload (v := (0, 0)) (pcN := 1714) jIZ_379_1712 rfl rfl rfl ?_
  refine jU_xiconst (k := 1) (pcN := 1715) jIZ_379_1714 rfl ?_
  refine jU_xiadd (x := 0) (y := 1) (z := 1) (pcN := 1716) jIZ_379_1715 rfl (by decide) rfl ?_
  refine jU_adv 1 (pcN := 1717) (LN := [(5, (0, 0)), (4, (4, 3)), (3, (4, 2)), (2, (4, 1)), (1, (4, 0)), (0, (6, 0))]) (stN := [(0, 0), (4, 0)]) (hsN := jpZ_165) (c1 := 0) (s1 := 0) (c2 := 220000) (by exact rfl) ?_ (by omega) (by decide +kernel)
  refine jU_xaload_n (v := (6, 0)) (pcN := 1718) jIZ_379_1717 rfl rfl rfl ?_
  refine jU_xiload (v := (0, 0)) (pcN := 1720) jIZ_379_1718 rfl rfl rfl ?_
  refine jU_xiconst (k := 2) (pcN := 1721) jIZ_379_1720 rfl ?_
  refine jU_xiadd (x := 0) (y := 2) (z := 2) (pcN := 1722) jIZ_379_1721 rfl (by decide) rfl ?_
  refine jU_adv 1 (pcN := 1723) (LN := [(5, (0, 0)), (4, (4, 3)), (3, (4, 2)), (2, (4, 1)), (1, (4, 0)), (0, (6, 0))]) (stN := [(0, 2147483647), (0, 0), (4, 0)]) (hsN := jpZ_165) (c1 := 0) (s1 := 0) (c2 := 220000) (by exact rfl) ?_ (by omega) (by decide +kernel)
  refine jU_xaload_n (v := (6, 0)) (pcN := 1724) jIZ_379_1723 rfl rfl rfl ?_
  refine jU_xiload (v := (0, 0)) (pcN := 1726) jIZ_379_1724 rfl rfl rfl ?_
  refine jU_xiconst (k := 3) (pcN := 1727) jIZ_379_1726 rfl ?_
  refine jU_xiadd (x := 0) (y := 3) (z := 3) (pcN := 1728) jIZ_379_1727 rfl (by decide) rfl ?_
  refine jU_adv 1 (pcN := 1729) (LN := [(5, (0, 0)), (4, (4, 3)), (3, (4, 2)), (2, (4, 1)), (1, (4, 0)), (0, (6, 0))]) (stN := [(0, 2000), (0, 2147483647), (0, 0), (4, 0)]) (hsN := jpZ_165) (c1 := 0) (s1 := 0) (c2 := 220000) (by exact rfl) ?_ (by omega) (by decide +kernel)
  refine jU_xaload_n (v := (4, 2)) (pcN := 1730) jIZ_379_1729 rfl rfl rfl ?_
  refine jU_fB [0, 2, 4, 5, 6, 7, 8, 9, 10, 11, 12, 13, 14, 30, 31, 32, 33, 34, 35, 36, 37, 38, 45, 46, 47, 48, 49] 50 (y := 358) (pcN := 1733) (e := 0) (c1 := 220000) (dC := 6) (bc1 := 1) (bc2 := 6) (as := [(4, 0), (0, 0), (0, 2147483647), (0, 2000), (4, 2)]) (asC := [(4, 0), (0, 0), (0, 2147483647), (0, 2000), (4, 1)]) (LN := [(5, (0, 0)), (4, (4, 3)), (3, (4, 2)), (2, (4, 1)), (1, (4, 0)), (0, (6, 0))]) (stN := []) (hsC := jpZ_44) (hsD := jpZ_45) (v := (0, 3)) (st2 := [(0, 3)]) (hs2 := jpZ_186) (jZ_358_24 (d := 0)) (jst_call (by rfl)) (by rfl) (by decide +kernel) (by rfl) (by rfl) (by omega) (by omega) (by omega) (by decide +kernel) rfl (by decide +kernel) ?_
  refine jU_xistore (v := (0, 3)) (LN := [(6, (0, 3)), (5, (0, 0)), (4, (4, 3)), (3, (4, 2)), (2, (4, 1)), (1, (4, 0)), (0, (6, 0))]) (pcN := 1735) jIZ_379_1733 rfl rfl rfl rfl ?_
  refine jU_xaload_n (v := (4, 1)) (pcN := 1736) jIZ_379_1735 rfl rfl rfl ?_
  refine jU_xaload_n (v := (6, 0)) (pcN := 1737) jIZ_379_1736 rfl rfl rfl ?_
  refine jU_xiload (v := (0, 0)) (pcN := 1739) jIZ_379_1737 rfl rfl rfl ?_
  refine jU_xiconst (k := 1) (pcN := 1740) jIZ_379_1739 rfl ?_
  refine jU_xiadd (x := 0) (y := 1) (z := 1) (pcN := 1741) jIZ_379_1740 rfl (by decide) rfl ?_
  refine jU_adv 1 (pcN := 1742) (LN := [(6, (0, 3)), (5, (0, 0)), (4, (4, 3)), (3, (4, 2)), (2, (4, 1)), (1, (4, 0)), (0, (6, 0))]) (stN := [(0, 0), (4, 1)]) (hsN := jpZ_186) (c1 := 0) (s1 := 0) (c2 := 220000) (by exact rfl) ?_ (by omega) (by decide +kernel)
  refine jU_xaload_n (v := (6, 0)) (pcN := 1743) jIZ_379_1742 rfl rfl rfl ?_
  refine jU_xiload (v := (0, 0)) (pcN := 1745) jIZ_379_1743 rfl rfl rfl ?_
  refine jU_xiconst (k := 2) (pcN := 1746) jIZ_379_1745 rfl ?_
  refine jU_xiadd (x := 0) (y := 2) (z := 2) (pcN := 1747) jIZ_379_1746 rfl (by decide) rfl ?_
  refine jU_adv 1 (pcN := 1748) (LN := [(6, (0, 3)), (5, (0, 0)), (4, (4, 3)), (3, (4, 2)), (2, (4, 1)), (1, (4, 0)), (0, (6, 0))]) (stN := [(0, 2147483647), (0, 0), (4, 1)]) (hsN := jpZ_186) (c1 := 0) (s1 := 0) (c2 := 220000) (by exact rfl) ?_ (by omega) (by decide +kernel)
  refine jU_xaload_n (v := (6, 0)) (pcN := 1749) jIZ_379_1748 rfl rfl rfl ?_
  refine jU_xiload (v := (0, 0)) (pcN := 1751) jIZ_379_1749 rfl rfl rfl ?_
  refine jU_xiconst (k := 3) (pcN := 1752) jIZ_379_1751 rfl ?_
  refine jU_xiadd (x := 0) (y := 3) (z := 3) (pcN := 1753) jIZ_379_1752 rfl (by decide) rfl ?_
  refine jU_adv 1 (pcN := 1754) (LN := [(6, (0, 3)), (5, (0, 0)), (4, (4, 3)), (3, (4, 2)), (2, (4, 1)), (1, (4, 0)), (0, (6, 0))]) (stN := [(0, 2000), (0, 2147483647), (0, 0), (4, 1)]) (hsN := jpZ_186) (c1 := 0) (s1 := 0) (c2 := 220000) (by exact rfl) ?_ (by omega) (by decide +kernel)
  refine jU_hB [1, 15, 16, 17, 18, 19, 20, 21, 22, 23, 24, 25, 26, 27, 28, 29, 39, 40, 41, 42, 43, 44] 50 (y := 287) (pcN := 1757) (bc := 22000) (c1 := 198000) (dC := 8) (as := [(4, 1), (0, 0), (0, 2147483647), (0, 2000)]) (asC := [(4, 0), (0, 0), (0, 2147483647), (0, 2000)]) (LN := [(6, (0, 3)), (5, (0, 0)), (4, (4, 3)), (3, (4, 2)), (2, (4, 1)), (1, (4, 0)), (0, (6, 0))]) (stN := []) (hsC := jpZ_100) (hsD := jpZ_136) (v := (0, 0)) (st2 := [(0, 0)]) (hs2 := jpZ_202) (jW_287_51 (d := 0)) (jst_call (by rfl)) (by rfl) (by decide +kernel) (by rfl) (by rfl) (by omega) (by omega) (by omega) rfl (by decide +kernel) ?_
  refine jU_xistore (v := (0, 0)) (LN := [(7, (0, 0)), (6, (0, 3)), (5, (0, 0)), (4, (4, 3)), (3, (4, 2)), (2, (4, 1)), (1, (4, 0)), (0, (6, 0))]) (pcN := 1759) jIZ_379_1757 rfl rfl rfl rfl ?_
  refine jU_xgoto (pcN := 2407) jIZ_379_1759 rfl ?_
  refine jU_xiinc (x := 0) (z := 5) (LN := [(5, (0, 5)), (7, (0, 0)), (6, (0, 3)), (4, (4, 3)), (3, (4, 2)), (2, (4, 1)), (1, (4, 0)), (0, (6, 0))]) (pcN := 2410) jIZ_379_2407 rfl rfl (by decide) rfl rfl ?_
  refine jU_xgoto (pcN := 28) jIZ_379_2410 rfl ?_
  refine jU_xiload (v := (0, 5)) (pcN := 30) jIZ_379_28 rfl rfl rfl ?_
  refine jU_xaload_n (v := (6, 0)) (pcN := 31) jIZ_379_30 rfl rfl rfl ?_
  refine jU_adv 1 (pcN := 32) (LN := [(5, (0, 5)), (7, (0, 0)), (6, (0, 3)), (4, (4, 3)), (3, (4, 2)), (2, (4, 1)), (1, (4, 0)), (0, (6, 0))]) (stN := [(0, 50), (0, 5)]) (hsN := jpZ_202) (c1 := 0) (s1 := 0) (c2 := 198000) (by exact rfl) ?_ (by omega) (by decide +kernel)
  refine jU_xiconst (k := 5) (pcN := 33) jIZ_379_32 rfl ?_
  refine jU_xisub (x := 50) (y := 5) (z := 45) (pcN := 34) jIZ_379_33 rfl (by decide) rfl ?_
  refine jU_xicF (t := 2413) (pcN := 37) jIZ_379_34 rfl (by decide +kernel) rfl rfl ?_
  refine jU_xaload_n (v := (6, 0)) (pcN := 38) jIZ_379_37 rfl rfl rfl ?_
  refine jU_xiload (v := (0, 5)) (pcN := 40) jIZ_379_38 rfl rfl rfl ?_
  refine jU_adv 1 (pcN := 41) (LN := [(5, (0, 5)), (7, (0, 0)), (6, (0, 3)), (4, (4, 3)), (3, (4, 2)), (2, (4, 1)), (1, (4, 0)), (0, (6, 0))]) (stN := [(0, 34)]) (hsN := jpZ_202) (c1 := 0) (s1 := 0) (c2 := 198000) (by exact rfl) ?_ (by omega) (by decide +kernel)
  refine jU_xbipush (k := 63) (pcN := 43) jIZ_379_41 (by decide) rfl ?_
  refine jU_iand (x := 34) (y := 63) (z := 34) (by rfl) (by rfl) (by decide +kernel) ?_
  refine jU_adv 1 (pcN := 1710) (LN := [(5, (0, 5)), (7, (0, 0)), (6, (0, 3)), (4, (4, 3)), (3, (4, 2)), (2, (4, 1)), (1, (4, 0)), (0, (6, 0))]) (stN := []) (hsN := jpZ_202) (c1 := 0) (s1 := 0) (c2 := 198000) (by exact rfl) ?_ (by omega) (by decide +kernel)
  refine jU_xaload_n (v := (4, 0)) (pcN := 1711) jIZ_379_1710 rfl rfl rfl ?_
  refine jU_xaload_n (v := (6, 0)) (pcN := 1712) jIZ_379_1711 rfl rfl rfl ?_
  refine jU_xiload (v := (0, 5)) (pcN := 1714) jIZ_379_1712 rfl rfl rfl ?_
  refine jU_xiconst (k := 1) (pcN := 1715) jIZ_379_1714 rfl ?_
  refine jU_xiadd (x := 5) (y := 1) (z := 6) (pcN := 1716) jIZ_379_1715 rfl (by decide) rfl ?_
  refine jU_adv 1 (pcN := 1717) (LN := [(5, (0, 5)), (7, (0, 0)), (6, (0, 3)), (4, (4, 3)), (3, (4, 2)), (2, (4, 1)), (1, (4, 0)), (0, (6, 0))]) (stN := [(0, 0), (4, 0)]) (hsN := jpZ_202) (c1 := 0) (s1 := 0) (c2 := 198000) (by exact rfl) ?_ (by omega) (by decide +kernel)
  refine jU_xaload_n (v := (6, 0)) (pcN := 1718) jIZ_379_1717 rfl rfl rfl ?_
  refine jU_xiload (v := (0, 5)) (pcN := 1720) jIZ_379_1718 rfl rfl rfl ?_
  refine jU_xiconst (k := 2) (pcN := 1721) jIZ_379_1720 rfl ?_
  refine jU_xiadd (x := 5) (y := 2) (z := 7) (pcN := 1722) jIZ_379_1721 rfl (by decide) rfl ?_
  refine jU_adv 1 (pcN := 1723) (LN := [(5, (0, 5)), (7, (0, 0)), (6, (0, 3)), (4, (4, 3)), (3, (4, 2)), (2, (4, 1)), (1, (4, 0)), (0, (6, 0))]) (stN := [(0, 2147483647), (0, 0), (4, 0)]) (hsN := jpZ_202) (c1 := 0) (s1 := 0) (c2 := 198000) (by exact rfl) ?_ (by omega) (by decide +kernel)
  refine jU_xaload_n (v := (6, 0)) (pcN := 1724) jIZ_379_1723 rfl rfl rfl ?_
  refine jU_xiload (v := (0, 5)) (pcN := 1726) jIZ_379_1724 rfl rfl rfl ?_
  refine jU_xiconst (k := 3) (pcN := 1727) jIZ_379_1726 rfl ?_
  refine jU_xiadd (x := 5) (y := 3) (z := 8) (pcN := 1728) jIZ_379_1727 rfl (by decide) rfl ?_
  refine jU_adv 1 (pcN := 1729) (LN := [(5, (0, 5)), (7, (0, 0)), (6, (0, 3)), (4, (4, 3)), (3, (4, 2)), (2, (4, 1)), (1, (4, 0)), (0, (6, 0))]) (stN := [(0, 2000), (0, 2147483647), (0, 0), (4, 0)]) (hsN := jpZ_202) (c1 := 0) (s1 := 0) (c2 := 198000) (by exact rfl) ?_ (by omega) (by decide +kernel)
  refine jU_xaload_n (v := (4, 2)) (pcN := 1730) jIZ_379_1729 rfl rfl rfl ?_
  refine jU_fB [0, 2, 4, 5, 6, 7, 8, 9, 10, 11, 12, 13, 14, 30, 31, 33, 32, 34, 35, 36, 37, 38, 45, 47, 46, 48, 49] 61 (y := 358) (pcN := 1733) (e := 0) (c1 := 198000) (dC := 6) (bc1 := 1) (bc2 := 6) (as := [(4, 0), (0, 0), (0, 2147483647), (0, 2000), (4, 2)]) (asC := [(4, 0), (0, 0), (0, 2147483647), (0, 2000), (4, 1)]) (LN := [(5, (0, 5)), (7, (0, 0)), (6, (0, 3)), (4, (4, 3)), (3, (4, 2)), (2, (4, 1)), (1, (4, 0)), (0, (6, 0))]) (stN := []) (hsC := jpZ_148) (hsD := jpZ_149) (v := (0, 3)) (st2 := [(0, 3)]) (hs2 := jpZ_207) (jZ_358_59 (d := 0)) (jst_call (by rfl)) (by rfl) (by decide +kernel) (by rfl) (by rfl) (by omega) (by omega) (by omega) (by decide +kernel) rfl (by decide +kernel) ?_
  refine jU_xistore (v := (0, 3)) (LN := [(6, (0, 3)), (5, (0, 5)), (7, (0, 0)), (4, (4, 3)), (3, (4, 2)), (2, (4, 1)), (1, (4, 0)), (0, (6, 0))]) (pcN := 1735) jIZ_379_1733 rfl rfl rfl rfl ?_
  refine jU_xaload_n (v := (4, 1)) (pcN := 1736) jIZ_379_1735 rfl rfl rfl ?_
  refine jU_xaload_n (v := (6, 0)) (pcN := 1737) jIZ_379_1736 rfl rfl rfl ?_
  refine jU_xiload (v := (0, 5)) (pcN := 1739) jIZ_379_1737 rfl rfl rfl ?_
  refine jU_xiconst (k := 1) (pcN := 1740) jIZ_379_1739 rfl ?_
  refine jU_xiadd (x := 5) (y := 1) (z := 6) (pcN := 1741) jIZ_379_1740 rfl (by decide) rfl ?_
  refine jU_adv 1 (pcN := 1742) (LN := [(6, (0, 3)), (5, (0, 5)), (7, (0, 0)), (4, (4, 3)), (3, (4, 2)), (2, (4, 1)), (1, (4, 0)), (0, (6, 0))]) (stN := [(0, 0), (4, 1)]) (hsN := jpZ_207) (c1 := 0) (s1 := 0) (c2 := 198000) (by exact rfl) ?_ (by omega) (by decide +kernel)
  refine jU_xaload_n (v := (6, 0)) (pcN := 1743) jIZ_379_1742 rfl rfl rfl ?_
  refine jU_xiload (v := (0, 5)) (pcN := 1745) jIZ_379_1743 rfl rfl rfl ?_
  refine jU_xiconst (k := 2) (pcN := 1746) jIZ_379_1745 rfl ?_
  refine jU_xiadd (x := 5) (y := 2) (z := 7) (pcN := 1747) jIZ_379_1746 rfl (by decide) rfl ?_
  refine jU_adv 1 (pcN := 1748) (LN := [(6, (0, 3)), (5, (0, 5)), (7, (0, 0)), (4, (4, 3)), (3, (4, 2)), (2, (4, 1)), (1, (4, 0)), (0, (6, 0))]) (stN := [(0, 2147483647), (0, 0), (4, 1)]) (hsN := jpZ_207) (c1 := 0) (s1 := 0) (c2 := 198000) (by exact rfl) ?_ (by omega) (by decide +kernel)
  refine jU_xaload_n (v := (6, 0)) (pcN := 1749) jIZ_379_1748 rfl rfl rfl ?_
  refine jU_xiload (v := (0, 5)) (pcN := 1751) jIZ_379_1749 rfl rfl rfl ?_
  refine jU_xiconst (k := 3) (pcN := 1752) jIZ_379_1751 rfl ?_
  refine jU_xiadd (x := 5) (y := 3) (z := 8) (pcN := 1753) jIZ_379_1752 rfl (by decide) rfl ?_
  refine jU_adv 1 (pcN := 1754) (LN := [(6, (0, 3)), (5, (0, 5)), (7, (0, 0)), (4, (4, 3)), (3, (4, 2)), (2, (4, 1)), (1, (4, 0)), (0, (6, 0))]) (stN := [(0, 2000), (0, 2147483647), (0, 0), (4, 1)]) (hsN := jpZ_207) (c1 := 0) (s1 := 0) (c2 := 198000) (by exact rfl) ?_ (by omega) (by decide +kernel)
  refine jU_hA [1, 15, 16, 17, 18, 19, 20, 21, 22, 23, 24, 25, 26, 27, 28, 29, 39, 40, 41, 42, 43, 44] 61 (y := 287) (pcN := 1757) (bc := 22000) (c1 := 176000) (dC := 8) (as := [(4, 1), (0, 0), (0, 2147483647), (0, 2000)]) (asC := [(4, 0), (0, 0), (0, 2147483647), (0, 2000)]) (LN := [(6, (0, 3)), (5, (0, 5)), (7, (0, 0)), (4, (4, 3)), (3, (4, 2)), (2, (4, 1)), (1, (4, 0)), (0, (6, 0))]) (stN := []) (hsC := jpZ_150) (ex := jpZ_151) (v := (0, 0)) (st2 := [(0, 0)]) (hs2 := jpZ_208) (jW_287_61 (d := 0)) (jst_call (by rfl)) (by rfl) (by decide +kernel) (by rfl) (by rfl) (by omega) (by omega) (by omega) rfl (by decide +kernel) ?_
  refine jU_xistore (v := (0, 0)) (LN := [(7, (0, 0)), (6, (0, 3)), (5, (0, 5)), (4, (4, 3)), (3, (4, 2)), (2, (4, 1)), (1, (4, 0)), (0, (6, 0))]) (pcN := 1759) jIZ_379_1757 rfl rfl rfl rfl ?_
  refine jU_xgoto (pcN := 2407) jIZ_379_1759 rfl ?_
  refine jU_xiinc (x := 5) (z := 10) (LN := [(5, (0, 10)), (7, (0, 0)), (6, (0, 3)), (4, (4, 3)), (3, (4, 2)), (2, (4, 1)), (1, (4, 0)), (0, (6, 0))]) (pcN := 2410) jIZ_379_2407 rfl rfl (by decide) rfl rfl ?_
  refine jU_xgoto (pcN := 28) jIZ_379_2410 rfl ?_
  refine jU_xiload (v := (0, 10)) (pcN := 30) jIZ_379_28 rfl rfl rfl ?_
  refine jU_xaload_n (v := (6, 0)) (pcN := 31) jIZ_379_30 rfl rfl rfl ?_
  refine jU_adv 1 (pcN := 32) (LN := [(5, (0, 10)), (7, (0, 0)), (6, (0, 3)), (4, (4, 3)), (3, (4, 2)), (2, (4, 1)), (1, (4, 0)), (0, (6, 0))]) (stN := [(0, 50), (0, 10)]) (hsN := jpZ_208) (c1 := 0) (s1 := 0) (c2 := 176000) (by exact rfl) ?_ (by omega) (by decide +kernel)
  refine jU_xiconst (k := 5) (pcN := 33) jIZ_379_32 rfl ?_
  refine jU_xisub (x := 50) (y := 5) (z := 45) (pcN := 34) jIZ_379_33 rfl (by decide) rfl ?_
  refine jU_xicF (t := 2413) (pcN := 37) jIZ_379_34 rfl (by decide +kernel) rfl rfl ?_
  refine jU_xaload_n (v := (6, 0)) (pcN := 38) jIZ_379_37 rfl rfl rfl ?_
  refine jU_xiload (v := (0, 10)) (pcN := 40) jIZ_379_38 rfl rfl rfl ?_
  refine jU_adv 1 (pcN := 41) (LN := [(5, (0, 10)), (7, (0, 0)), (6, (0, 3)), (4, (4, 3)), (3, (4, 2)), (2, (4, 1)), (1, (4, 0)), (0, (6, 0))]) (stN := [(0, 34)]) (hsN := jpZ_208) (c1 := 0) (s1 := 0) (c2 := 176000) (by exact rfl) ?_ (by omega) (by decide +kernel)
  refine jU_xbipush (k := 63) (pcN := 43) jIZ_379_41 (by decide) rfl ?_
  refine jU_iand (x := 34) (y := 63) (z := 34) (by rfl) (by rfl) (by decide +kernel) ?_
  refine jU_adv 1 (pcN := 1710) (LN := [(5, (0, 10)), (7, (0, 0)), (6, (0, 3)), (4, (4, 3)), (3, (4, 2)), (2, (4, 1)), (1, (4, 0)), (0, (6, 0))]) (stN := []) (hsN := jpZ_208) (c1 := 0) (s1 := 0) (c2 := 176000) (by exact rfl) ?_ (by omega) (by decide +kernel)
  refine jU_xaload_n (v := (4, 0)) (pcN := 1711) jIZ_379_1710 rfl rfl rfl ?_
  refine jU_xaload_n (v := (6, 0)) (pcN := 1712) jIZ_379_1711 rfl rfl rfl ?_
  refine jU_xiload (v := (0, 10)) (pcN := 1714) jIZ_379_1712 rfl rfl rfl ?_
  refine jU_xiconst (k := 1) (pcN := 1715) jIZ_379_1714 rfl ?_
  refine jU_xiadd (x := 10) (y := 1) (z := 11) (pcN := 1716) jIZ_379_1715 rfl (by decide) rfl ?_
  refine jU_adv 1 (pcN := 1717) (LN := [(5, (0, 10)), (7, (0, 0)), (6, (0, 3)), (4, (4, 3)), (3, (4, 2)), (2, (4, 1)), (1, (4, 0)), (0, (6, 0))]) (stN := [(0, 0), (4, 0)]) (hsN := jpZ_208) (c1 := 0) (s1 := 0) (c2 := 176000) (by exact rfl) ?_ (by omega) (by decide +kernel)
  refine jU_xaload_n (v := (6, 0)) (pcN := 1718) jIZ_379_1717 rfl rfl rfl ?_
  refine jU_xiload (v := (0, 10)) (pcN := 1720) jIZ_379_1718 rfl rfl rfl ?_
  refine jU_xiconst (k := 2) (pcN := 1721) jIZ_379_1720 rfl ?_
  refine jU_xiadd (x := 10) (y := 2) (z := 12) (pcN := 1722) jIZ_379_1721 rfl (by decide) rfl ?_
  refine jU_adv 1 (pcN := 1723) (LN := [(5, (0, 10)), (7, (0, 0)), (6, (0, 3)), (4, (4, 3)), (3, (4, 2)), (2, (4, 1)), (1, (4, 0)), (0, (6, 0))]) (stN := [(0, 2147483647), (0, 0), (4, 0)]) (hsN := jpZ_208) (c1 := 0) (s1 := 0) (c2 := 176000) (by exact rfl) ?_ (by omega) (by decide +kernel)
  refine jU_xaload_n (v := (6, 0)) (pcN := 1724) jIZ_379_1723 rfl rfl rfl ?_
  refine jU_xiload (v := (0, 10)) (pcN := 1726) jIZ_379_1724 rfl rfl rfl ?_
  refine jU_xiconst (k := 3) (pcN := 1727) jIZ_379_1726 rfl ?_
  refine jU_xiadd (x := 10) (y := 3) (z := 13) (pcN := 1728) jIZ_379_1727 rfl (by decide) rfl ?_
  refine jU_adv 1 (pcN := 1729) (LN := [(5, (0, 10)), (7, (0, 0)), (6, (0, 3)), (4, (4, 3)), (3, (4, 2)), (2, (4, 1)), (1, (4, 0)), (0, (6, 0))]) (stN := [(0, 2000), (0, 2147483647), (0, 0), (4, 0)]) (hsN := jpZ_208) (c1 := 0) (s1 := 0) (c2 := 176000) (by exact rfl) ?_ (by omega) (by decide +kernel)
  refine jU_xaload_n (v := (4, 2)) (pcN := 1730) jIZ_379_1729 rfl rfl rfl ?_
  refine jU_fB [0, 2, 4, 5, 6, 7, 8, 9, 10, 11, 12, 13, 14, 30, 31, 32, 33, 34, 35, 36, 37, 38, 45, 46, 47, 48, 49] 72 (y := 358) (pcN := 1733) (e := 0) (c1 := 176000) (dC := 6) (bc1 := 1) (bc2 := 6) (as := [(4, 0), (0, 0), (0, 2147483647), (0, 2000), (4, 2)]) (asC := [(4, 0), (0, 0), (0, 2147483647), (0, 2000), (4, 1)]) (LN := [(5, (0, 10)), (7, (0, 0)), (6, (0, 3)), (4, (4, 3)), (3, (4, 2)), (2, (4, 1)), (1, (4, 0)), (0, (6, 0))]) (stN := []) (hsC := jpZ_158) (hsD := jpZ_149) (v := (0, 3)) (st2 := [(0, 3)]) (hs2 := jpZ_209) (jZ_358_67 (d := 0)) (jst_call (by rfl)) (by rfl) (by decide +kernel) (by rfl) (by rfl) (by omega) (by omega) (by omega) (by decide +kernel) rfl (by decide +kernel) ?_
  refine jU_xistore (v := (0, 3)) (LN := [(6, (0, 3)), (5, (0, 10)), (7, (0, 0)), (4, (4, 3)), (3, (4, 2)), (2, (4, 1)), (1, (4, 0)), (0, (6, 0))]) (pcN := 1735) jIZ_379_1733 rfl rfl rfl rfl ?_
  refine jU_xaload_n (v := (4, 1)) (pcN := 1736) jIZ_379_1735 rfl rfl rfl ?_
  refine jU_xaload_n (v := (6, 0)) (pcN := 1737) jIZ_379_1736 rfl rfl rfl ?_
  refine jU_xiload (v := (0, 10)) (pcN := 1739) jIZ_379_1737 rfl rfl rfl ?_
  refine jU_xiconst (k := 1) (pcN := 1740) jIZ_379_1739 rfl ?_
  refine jU_xiadd (x := 10) (y := 1) (z := 11) (pcN := 1741) jIZ_379_1740 rfl (by decide) rfl ?_
  refine jU_adv 1 (pcN := 1742) (LN := [(6, (0, 3)), (5, (0, 10)), (7, (0, 0)), (4, (4, 3)), (3, (4, 2)), (2, (4, 1)), (1, (4, 0)), (0, (6, 0))]) (stN := [(0, 0), (4, 1)]) (hsN := jpZ_209) (c1 := 0) (s1 := 0) (c2 := 176000) (by exact rfl) ?_ (by omega) (by decide +kernel)
  refine jU_xaload_n (v := (6, 0)) (pcN := 1743) jIZ_379_1742 rfl rfl rfl ?_
  refine jU_xiload (v := (0, 10)) (pcN := 1745) jIZ_379_1743 rfl rfl rfl ?_
  refine jU_xiconst (k := 2) (pcN := 1746) jIZ_379_1745 rfl ?_
  refine jU_xiadd (x := 10) (y := 2) (z := 12) (pcN := 1747) jIZ_379_1746 rfl (by decide) rfl ?_
  refine jU_adv 1 (pcN := 1748) (LN := [(6, (0, 3)), (5, (0, 10)), (7, (0, 0)), (4, (4, 3)), (3, (4, 2)), (2, (4, 1)), (1, (4, 0)), (0, (6, 0))]) (stN := [(0, 2147483647), (0, 0), (4, 1)]) (hsN := jpZ_209) (c1 := 0) (s1 := 0) (c2 := 176000) (by exact rfl) ?_ (by omega) (by decide +kernel)
  refine jU_xaload_n (v := (6, 0)) (pcN := 1749) jIZ_379_1748 rfl rfl rfl ?_
  refine jU_xiload (v := (0, 10)) (pcN := 1751) jIZ_379_1749 rfl rfl rfl ?_
  refine jU_xiconst (k := 3) (pcN := 1752) jIZ_379_1751 rfl ?_
  refine jU_xiadd (x := 10) (y := 3) (z := 13) (pcN := 1753) jIZ_379_1752 rfl (by decide) rfl ?_
  refine jU_adv 1 (pcN := 1754) (LN := [(6, (0, 3)), (5, (0, 10)), (7, (0, 0)), (4, (4, 3)), (3, (4, 2)), (2, (4, 1)), (1, (4, 0)), (0, (6, 0))]) (stN := [(0, 2000), (0, 2147483647), (0, 0), (4, 1)]) (hsN := jpZ_209) (c1 := 0) (s1 := 0) (c2 := 176000) (by exact rfl) ?_ (by omega) (by decide +kernel)
  refine jU_hA [1, 15, 16, 17, 18, 19, 20, 21, 22, 23, 24, 25, 26, 27, 28, 29, 39, 40, 41, 42, 43, 44] 72 (y := 287) (pcN := 1757) (bc := 22000) (c1 := 154000) (dC := 8) (as := [(4, 1), (0, 0), (0, 2147483647), (0, 2000)]) (asC := [(4, 0), (0, 0), (0, 2147483647), (0, 2000)]) (LN := [(6, (0, 3)), (5, (0, 10)), (7, (0, 0)), (4, (4, 3)), (3, (4, 2)), (2, (4, 1)), (1, (4, 0)), (0, (6, 0))]) (stN := []) (hsC := jpZ_150) (ex := jpZ_151) (v := (0, 0)) (st2 := [(0, 0)]) (hs2 := jpZ_210) (jW_287_61 (d := 0)) (jst_call (by rfl)) (by rfl) (by decide +kernel) (by rfl) (by rfl) (by omega) (by omega) (by omega) rfl (by decide +kernel) ?_
  refine jU_xistore (v := (0, 0)) (LN := [(7, (0, 0)), (6, (0, 3)), (5, (0, 10)), (4, (4, 3)), (3, (4, 2)), (2, (4, 1)), (1, (4, 0)), (0, (6, 0))]) (pcN := 1759) jIZ_379_1757 rfl rfl rfl rfl ?_
  refine jU_xgoto (pcN := 2407) jIZ_379_1759 rfl ?_
  refine jU_xiinc (x := 10) (z := 15) (LN := [(5, (0, 15)), (7, (0, 0)), (6, (0, 3)), (4, (4, 3)), (3, (4, 2)), (2, (4, 1)), (1, (4, 0)), (0, (6, 0))]) (pcN := 2410) jIZ_379_2407 rfl rfl (by decide) rfl rfl ?_
  refine jU_xgoto (pcN := 28) jIZ_379_2410 rfl ?_
  refine jU_xiload (v := (0, 15)) (pcN := 30) jIZ_379_28 rfl rfl rfl ?_
  refine jU_xaload_n (v := (6, 0)) (pcN := 31) jIZ_379_30 rfl rfl rfl ?_
  refine jU_adv 1 (pcN := 32) (LN := [(5, (0, 15)), (7, (0, 0)), (6, (0, 3)), (4, (4, 3)), (3, (4, 2)), (2, (4, 1)), (1, (4, 0)), (0, (6, 0))]) (stN := [(0, 50), (0, 15)]) (hsN := jpZ_210) (c1 := 0) (s1 := 0) (c2 := 154000) (by exact rfl) ?_ (by omega) (by decide +kernel)
  refine jU_xiconst (k := 5) (pcN := 33) jIZ_379_32 rfl ?_
  refine jU_xisub (x := 50) (y := 5) (z := 45) (pcN := 34) jIZ_379_33 rfl (by decide) rfl ?_
  refine jU_xicF (t := 2413) (pcN := 37) jIZ_379_34 rfl (by decide +kernel) rfl rfl ?_
  refine jU_xaload_n (v := (6, 0)) (pcN := 38) jIZ_379_37 rfl rfl rfl ?_
  refine jU_xiload (v := (0, 15)) (pcN := 40) jIZ_379_38 rfl rfl rfl ?_
  refine jU_adv 1 (pcN := 41) (LN := [(5, (0, 15)), (7, (0, 0)), (6, (0, 3)), (4, (4, 3)), (3, (4, 2)), (2, (4, 1)), (1, (4, 0)), (0, (6, 0))]) (stN := [(0, 34)]) (hsN := jpZ_210) (c1 := 0) (s1 := 0) (c2 := 154000) (by exact rfl) ?_ (by omega) (by decide +kernel)
  refine jU_xbipush (k := 63) (pcN := 43) jIZ_379_41 (by decide) rfl ?_
  refine jU_iand (x := 34) (y := 63) (z := 34) (by rfl) (by rfl) (by decide +kernel) ?_
  refine jU_adv 1 (pcN := 1710) (LN := [(5, (0, 15)), (7, (0, 0)), (6, (0, 3)), (4, (4, 3)), (3, (4, 2)), (2, (4, 1)), (1, (4, 0)), (0, (6, 0))]) (stN := []) (hsN := jpZ_210) (c1 := 0) (s1 := 0) (c2 := 154000) (by exact rfl) ?_ (by omega) (by decide +kernel)
  refine jU_xaload_n (v := (4, 0)) (pcN := 1711) jIZ_379_1710 rfl rfl rfl ?_
  refine jU_xaload_n (v := (6, 0)) (pcN := 1712) jIZ_379_1711 rfl rfl rfl ?_
  refine jU_xiload (v := (0, 15)) (pcN := 1714) jIZ_379_1712 rfl rfl rfl ?_
  refine jU_xiconst (k := 1) (pcN := 1715) jIZ_379_1714 rfl ?_
  refine jU_xiadd (x := 15) (y := 1) (z := 16) (pcN := 1716) jIZ_379_1715 rfl (by decide) rfl ?_
  refine jU_adv 1 (pcN := 1717) (LN := [(5, (0, 15)), (7, (0, 0)), (6, (0, 3)), (4, (4, 3)), (3, (4, 2)), (2, (4, 1)), (1, (4, 0)), (0, (6, 0))]) (stN := [(0, 0), (4, 0)]) (hsN := jpZ_210) (c1 := 0) (s1 := 0) (c2 := 154000) (by exact rfl) ?_ (by omega) (by decide +kernel)
  refine jU_xaload_n (v := (6, 0)) (pcN := 1718) jIZ_379_1717 rfl rfl rfl ?_
  refine jU_xiload (v := (0, 15)) (pcN := 1720) jIZ_379_1718 rfl rfl rfl ?_
  refine jU_xiconst (k := 2) (pcN := 1721) jIZ_379_1720 rfl ?_
  refine jU_xiadd (x := 15) (y := 2) (z := 17) (pcN := 1722) jIZ_379_1721 rfl (by decide) rfl ?_
  refine jU_adv 1 (pcN := 1723) (LN := [(5, (0, 15)), (7, (0, 0)), (6, (0, 3)), (4, (4, 3)), (3, (4, 2)), (2, (4, 1)), (1, (4, 0)), (0, (6, 0))]) (stN := [(0, 2147483647), (0, 0), (4, 0)]) (hsN := jpZ_210) (c1 := 0) (s1 := 0) (c2 := 154000) (by exact rfl) ?_ (by omega) (by decide +kernel)
  refine jU_xaload_n (v := (6, 0)) (pcN := 1724) jIZ_379_1723 rfl rfl rfl ?_
  refine jU_xiload (v := (0, 15)) (pcN := 1726) jIZ_379_1724 rfl rfl rfl ?_
  refine jU_xiconst (k := 3) (pcN := 1727) jIZ_379_1726 rfl ?_
  refine jU_xiadd (x := 15) (y := 3) (z := 18) (pcN := 1728) jIZ_379_1727 rfl (by decide) rfl ?_
  refine jU_adv 1 (pcN := 1729) (LN := [(5, (0, 15)), (7, (0, 0)), (6, (0, 3)), (4, (4, 3)), (3, (4, 2)), (2, (4, 1)), (1, (4, 0)), (0, (6, 0))]) (stN := [(0, 2000), (0, 2147483647), (0, 0), (4, 0)]) (hsN := jpZ_210) (c1 := 0) (s1 := 0) (c2 := 154000) (by exact rfl) ?_ (by omega) (by decide +kernel)
  refine jU_xaload_n (v := (4, 2)) (pcN := 1730) jIZ_379_1729 rfl rfl rfl ?_
  refine jU_fB [0, 2, 4, 5, 6, 7, 8, 9, 10, 11, 12, 13, 14, 30, 31, 33, 32, 34, 35, 36, 37, 38, 45, 47, 46, 48, 49] 83 (y := 358) (pcN := 1733) (e := 0) (c1 := 154000) (dC := 6) (bc1 := 1) (bc2 := 6) (as := [(4, 0), (0, 0), (0, 2147483647), (0, 2000), (4, 2)]) (asC := [(4, 0), (0, 0), (0, 2147483647), (0, 2000), (4, 1)]) (LN := [(5, (0, 15)), (7, (0, 0)), (6, (0, 3)), (4, (4, 3)), (3, (4, 2)), (2, (4, 1)), (1, (4, 0)), (0, (6, 0))]) (stN := []) (hsC := jpZ_158) (hsD := jpZ_149) (v := (0, 3)) (st2 := [(0, 3)]) (hs2 := jpZ_211) (jZ_358_67 (d := 0)) (jst_call (by rfl)) (by rfl) (by decide +kernel) (by rfl) (by rfl) (by omega) (by omega) (by omega) (by decide +kernel) rfl (by decide +kernel) ?_
  refine jU_xistore (v := (0, 3)) (LN := [(6, (0, 3)), (5, (0, 15)), (7, (0, 0)), (4, (4, 3)), (3, (4, 2)), (2, (4, 1)), (1, (4, 0)), (0, (6, 0))]) (pcN := 1735) jIZ_379_1733 rfl rfl rfl rfl ?_
  refine jU_xaload_n (v := (4, 1)) (pcN := 1736) jIZ_379_1735 rfl rfl rfl ?_
  refine jU_xaload_n (v := (6, 0)) (pcN := 1737) jIZ_379_1736 rfl rfl rfl ?_
  refine jU_xiload (v := (0, 15)) (pcN := 1739) jIZ_379_1737 rfl rfl rfl ?_
  refine jU_xiconst (k := 1) (pcN := 1740) jIZ_379_1739 rfl ?_
  refine jU_xiadd (x := 15) (y := 1) (z := 16) (pcN := 1741) jIZ_379_1740 rfl (by decide) rfl ?_
  refine jU_adv 1 (pcN := 1742) (LN := [(6, (0, 3)), (5, (0, 15)), (7, (0, 0)), (4, (4, 3)), (3, (4, 2)), (2, (4, 1)), (1, (4, 0)), (0, (6, 0))]) (stN := [(0, 0), (4, 1)]) (hsN := jpZ_211) (c1 := 0) (s1 := 0) (c2 := 154000) (by exact rfl) ?_ (by omega) (by decide +kernel)
  refine jU_xaload_n (v := (6, 0)) (pcN := 1743) jIZ_379_1742 rfl rfl rfl ?_
  refine jU_xiload (v := (0, 15)) (pcN := 1745) jIZ_379_1743 rfl rfl rfl ?_
  refine jU_xiconst (k := 2) (pcN := 1746) jIZ_379_1745 rfl ?_
  refine jU_xiadd (x := 15) (y := 2) (z := 17) (pcN := 1747) jIZ_379_1746 rfl (by decide) rfl ?_
  refine jU_adv 1 (pcN := 1748) (LN := [(6, (0, 3)), (5, (0, 15)), (7, (0, 0)), (4, (4, 3)), (3, (4, 2)), (2, (4, 1)), (1, (4, 0)), (0, (6, 0))]) (stN := [(0, 2147483647), (0, 0), (4, 1)]) (hsN := jpZ_211) (c1 := 0) (s1 := 0) (c2 := 154000) (by exact rfl) ?_ (by omega) (by decide +kernel)
  refine jU_xaload_n (v := (6, 0)) (pcN := 1749) jIZ_379_1748 rfl rfl rfl ?_
  refine jU_xiload (v := (0, 15)) (pcN := 1751) jIZ_379_1749 rfl rfl rfl ?_
  refine jU_xiconst (k := 3) (pcN := 1752) jIZ_379_1751 rfl ?_
  refine jU_xiadd (x := 15) (y := 3) (z := 18) (pcN := 1753) jIZ_379_1752 rfl (by decide) rfl ?_
  refine jU_adv 1 (pcN := 1754) (LN := [(6, (0, 3)), (5, (0, 15)), (7, (0, 0)), (4, (4, 3)), (3, (4, 2)), (2, (4, 1)), (1, (4, 0)), (0, (6, 0))]) (stN := [(0, 2000), (0, 2147483647), (0, 0), (4, 1)]) (hsN := jpZ_211) (c1 := 0) (s1 := 0) (c2 := 154000) (by exact rfl) ?_ (by omega) (by decide +kernel)
  refine jU_hA [1, 15, 16, 17, 18, 19, 20, 21, 22, 23, 24, 25, 26, 27, 28, 29, 39, 40, 41, 42, 43, 44] 83 (y := 287) (pcN := 1757) (bc := 22000) (c1 := 132000) (dC := 8) (as := [(4, 1), (0, 0), (0, 2147483647), (0, 2000)]) (asC := [(4, 0), (0, 0), (0, 2147483647), (0, 2000)]) (LN := [(6, (0, 3)), (5, (0, 15)), (7, (0, 0)), (4, (4, 3)), (3, (4, 2)), (2, (4, 1)), (1, (4, 0)), (0, (6, 0))]) (stN := []) (hsC := jpZ_150) (ex := jpZ_151) (v := (0, 0)) (st2 := [(0, 0)]) (hs2 := jpZ_212) (jW_287_61 (d := 0)) (jst_call (by rfl)) (by rfl) (by decide +kernel) (by rfl) (by rfl) (by omega) (by omega) (by omega) rfl (by decide +kernel) ?_
  refine jU_xistore (v := (0, 0)) (LN := [(7, (0, 0)), (6, (0, 3)), (5, (0, 15)), (4, (4, 3)), (3, (4, 2)), (2, (4, 1)), (1, (4, 0)), (0, (6, 0))]) (pcN := 1759) jIZ_379_1757 rfl rfl rfl rfl ?_
  refine jU_xgoto (pcN := 2407) jIZ_379_1759 rfl ?_
  refine jU_xiinc (x := 15) (z := 20) (LN := [(5, (0, 20)), (7, (0, 0)), (6, (0, 3)), (4, (4, 3)), (3, (4, 2)), (2, (4, 1)), (1, (4, 0)), (0, (6, 0))]) (pcN := 2410) jIZ_379_2407 rfl rfl (by decide) rfl rfl ?_
  refine jU_xgoto (pcN := 28) jIZ_379_2410 rfl ?_
  refine jU_xiload (v := (0, 20)) (pcN := 30) jIZ_379_28 rfl rfl rfl ?_
  refine jU_xaload_n (v := (6, 0)) (pcN := 31) jIZ_379_30 rfl rfl rfl ?_
  refine jU_adv 1 (pcN := 32) (LN := [(5, (0, 20)), (7, (0, 0)), (6, (0, 3)), (4, (4, 3)), (3, (4, 2)), (2, (4, 1)), (1, (4, 0)), (0, (6, 0))]) (stN := [(0, 50), (0, 20)]) (hsN := jpZ_212) (c1 := 0) (s1 := 0) (c2 := 132000) (by exact rfl) ?_ (by omega) (by decide +kernel)
  refine jU_xiconst (k := 5) (pcN := 33) jIZ_379_32 rfl ?_
  refine jU_xisub (x := 50) (y := 5) (z := 45) (pcN := 34) jIZ_379_33 rfl (by decide) rfl ?_
  refine jU_xicF (t := 2413) (pcN := 37) jIZ_379_34 rfl (by decide +kernel) rfl rfl ?_
  refine jU_xaload_n (v := (6, 0)) (pcN := 38) jIZ_379_37 rfl rfl rfl ?_
  refine jU_xiload (v := (0, 20)) (pcN := 40) jIZ_379_38 rfl rfl rfl ?_
  refine jU_adv 1 (pcN := 41) (LN := [(5, (0, 20)), (7, (0, 0)), (6, (0, 3)), (4, (4, 3)), (3, (4, 2)), (2, (4, 1)), (1, (4, 0)), (0, (6, 0))]) (stN := [(0, 34)]) (hsN := jpZ_212) (c1 := 0) (s1 := 0) (c2 := 132000) (by exact rfl) ?_ (by omega) (by decide +kernel)
  refine jU_xbipush (k := 63) (pcN := 43) jIZ_379_41 (by decide) rfl ?_
  refine jU_iand (x := 34) (y := 63) (z := 34) (by rfl) (by rfl) (by decide +kernel) ?_
  refine jU_adv 1 (pcN := 1710) (LN := [(5, (0, 20)), (7, (0, 0)), (6, (0, 3)), (4, (4, 3)), (3, (4, 2)), (2, (4, 1)), (1, (4, 0)), (0, (6, 0))]) (stN := []) (hsN := jpZ_212) (c1 := 0) (s1 := 0) (c2 := 132000) (by exact rfl) ?_ (by omega) (by decide +kernel)
  refine jU_xaload_n (v := (4, 0)) (pcN := 1711) jIZ_379_1710 rfl rfl rfl ?_
  refine jU_xaload_n (v := (6, 0)) (pcN := 1712) jIZ_379_1711 rfl rfl rfl ?_
  refine jU_xiload (v := (0, 20)) (pcN := 1714) jIZ_379_1712 rfl rfl rfl ?_
  refine jU_xiconst (k := 1) (pcN := 1715) jIZ_379_1714 rfl ?_
  refine jU_xiadd (x := 20) (y := 1) (z := 21) (pcN := 1716) jIZ_379_1715 rfl (by decide) rfl ?_
  refine jU_adv 1 (pcN := 1717) (LN := [(5, (0, 20)), (7, (0, 0)), (6, (0, 3)), (4, (4, 3)), (3, (4, 2)), (2, (4, 1)), (1, (4, 0)), (0, (6, 0))]) (stN := [(0, 0), (4, 0)]) (hsN := jpZ_212) (c1 := 0) (s1 := 0) (c2 := 132000) (by exact rfl) ?_ (by omega) (by decide +kernel)
  refine jU_xaload_n (v := (6, 0)) (pcN := 1718) jIZ_379_1717 rfl rfl rfl ?_
  refine jU_xiload (v := (0, 20)) (pcN := 1720) jIZ_379_1718 rfl rfl rfl ?_
  refine jU_xiconst (k := 2) (pcN := 1721) jIZ_379_1720 rfl ?_
  refine jU_xiadd (x := 20) (y := 2) (z := 22) (pcN := 1722) jIZ_379_1721 rfl (by decide) rfl ?_
  refine jU_adv 1 (pcN := 1723) (LN := [(5, (0, 20)), (7, (0, 0)), (6, (0, 3)), (4, (4, 3)), (3, (4, 2)), (2, (4, 1)), (1, (4, 0)), (0, (6, 0))]) (stN := [(0, 2147483647), (0, 0), (4, 0)]) (hsN := jpZ_212) (c1 := 0) (s1 := 0) (c2 := 132000) (by exact rfl) ?_ (by omega) (by decide +kernel)
  refine jU_xaload_n (v := (6, 0)) (pcN := 1724) jIZ_379_1723 rfl rfl rfl ?_
  refine jU_xiload (v := (0, 20)) (pcN := 1726) jIZ_379_1724 rfl rfl rfl ?_
  refine jU_xiconst (k := 3) (pcN := 1727) jIZ_379_1726 rfl ?_
  refine jU_xiadd (x := 20) (y := 3) (z := 23) (pcN := 1728) jIZ_379_1727 rfl (by decide) rfl ?_
  refine jU_adv 1 (pcN := 1729) (LN := [(5, (0, 20)), (7, (0, 0)), (6, (0, 3)), (4, (4, 3)), (3, (4, 2)), (2, (4, 1)), (1, (4, 0)), (0, (6, 0))]) (stN := [(0, 2000), (0, 2147483647), (0, 0), (4, 0)]) (hsN := jpZ_212) (c1 := 0) (s1 := 0) (c2 := 132000) (by exact rfl) ?_ (by omega) (by decide +kernel)
  refine jU_xaload_n (v := (4, 2)) (pcN := 1730) jIZ_379_1729 rfl rfl rfl ?_
  refine jU_fB [0, 2, 4, 5, 6, 7, 8, 9, 10, 11, 12, 13, 14, 30, 31, 32, 33, 34, 35, 36, 37, 38, 45, 46, 47, 48, 49] 94 (y := 358) (pcN := 1733) (e := 0) (c1 := 132000) (dC := 6) (bc1 := 1) (bc2 := 6) (as := [(4, 0), (0, 0), (0, 2147483647), (0, 2000), (4, 2)]) (asC := [(4, 0), (0, 0), (0, 2147483647), (0, 2000), (4, 1)]) (LN := [(5, (0, 20)), (7, (0, 0)), (6, (0, 3)), (4, (4, 3)), (3, (4, 2)), (2, (4, 1)), (1, (4, 0)), (0, (6, 0))]) (stN := []) (hsC := jpZ_158) (hsD := jpZ_149) (v := (0, 3)) (st2 := [(0, 3)]) (hs2 := jpZ_213) (jZ_358_67 (d := 0)) (jst_call (by rfl)) (by rfl) (by decide +kernel) (by rfl) (by rfl) (by omega) (by omega) (by omega) (by decide +kernel) rfl (by decide +kernel) ?_
  refine jU_xistore (v := (0, 3)) (LN := [(6, (0, 3)), (5, (0, 20)), (7, (0, 0)), (4, (4, 3)), (3, (4, 2)), (2, (4, 1)), (1, (4, 0)), (0, (6, 0))]) (pcN := 1735) jIZ_379_1733 rfl rfl rfl rfl ?_
  refine jU_xaload_n (v := (4, 1)) (pcN := 1736) jIZ_379_1735 rfl rfl rfl ?_
  refine jU_xaload_n (v := (6, 0)) (pcN := 1737) jIZ_379_1736 rfl rfl rfl ?_
  refine jU_xiload (v := (0, 20)) (pcN := 1739) jIZ_379_1737 rfl rfl rfl ?_
  refine jU_xiconst (k := 1) (pcN := 1740) jIZ_379_1739 rfl ?_
  refine jU_xiadd (x := 20) (y := 1) (z := 21) (pcN := 1741) jIZ_379_1740 rfl (by decide) rfl ?_
  refine jU_adv 1 (pcN := 1742) (LN := [(6, (0, 3)), (5, (0, 20)), (7, (0, 0)), (4, (4, 3)), (3, (4, 2)), (2, (4, 1)), (1, (4, 0)), (0, (6, 0))]) (stN := [(0, 0), (4, 1)]) (hsN := jpZ_213) (c1 := 0) (s1 := 0) (c2 := 132000) (by exact rfl) ?_ (by omega) (by decide +kernel)
  refine jU_xaload_n (v := (6, 0)) (pcN := 1743) jIZ_379_1742 rfl rfl rfl ?_
  refine jU_xiload (v := (0, 20)) (pcN := 1745) jIZ_379_1743 rfl rfl rfl ?_
  refine jU_xiconst (k := 2) (pcN := 1746) jIZ_379_1745 rfl ?_
  refine jU_xiadd (x := 20) (y := 2) (z := 22) (pcN := 1747) jIZ_379_1746 rfl (by decide) rfl ?_
  refine jU_adv 1 (pcN := 1748) (LN := [(6, (0, 3)), (5, (0, 20)), (7, (0, 0)), (4, (4, 3)), (3, (4, 2)), (2, (4, 1)), (1, (4, 0)), (0, (6, 0))]) (stN := [(0, 2147483647), (0, 0), (4, 1)]) (hsN := jpZ_213) (c1 := 0) (s1 := 0) (c2 := 132000) (by exact rfl) ?_ (by omega) (by decide +kernel)
  refine jU_xaload_n (v := (6, 0)) (pcN := 1749) jIZ_379_1748 rfl rfl rfl ?_
  refine jU_xiload (v := (0, 20)) (pcN := 1751) jIZ_379_1749 rfl rfl rfl ?_
  refine jU_xiconst (k := 3) (pcN := 1752) jIZ_379_1751 rfl ?_
  refine jU_xiadd (x := 20) (y := 3) (z := 23) (pcN := 1753) jIZ_379_1752 rfl (by decide) rfl ?_
  refine jU_adv 1 (pcN := 1754) (LN := [(6, (0, 3)), (5, (0, 20)), (7, (0, 0)), (4, (4, 3)), (3, (4, 2)), (2, (4, 1)), (1, (4, 0)), (0, (6, 0))]) (stN := [(0, 2000), (0, 2147483647), (0, 0), (4, 1)]) (hsN := jpZ_213) (c1 := 0) (s1 := 0) (c2 := 132000) (by exact rfl) ?_ (by omega) (by decide +kernel)
  refine jU_hA [1, 15, 16, 17, 18, 19, 20, 21, 22, 23, 24, 25, 26, 27, 28, 29, 39, 40, 41, 42, 43, 44] 94 (y := 287) (pcN := 1757) (bc := 22000) (c1 := 110000) (dC := 8) (as := [(4, 1), (0, 0), (0, 2147483647), (0, 2000)]) (asC := [(4, 0), (0, 0), (0, 2147483647), (0, 2000)]) (LN := [(6, (0, 3)), (5, (0, 20)), (7, (0, 0)), (4, (4, 3)), (3, (4, 2)), (2, (4, 1)), (1, (4, 0)), (0, (6, 0))]) (stN := []) (hsC := jpZ_150) (ex := jpZ_151) (v := (0, 0)) (st2 := [(0, 0)]) (hs2 := jpZ_214) (jW_287_61 (d := 0)) (jst_call (by rfl)) (by rfl) (by decide +kernel) (by rfl) (by rfl) (by omega) (by omega) (by omega) rfl (by decide +kernel) ?_
  refine jU_xistore (v := (0, 0)) (LN := [(7, (0, 0)), (6, (0, 3)), (5, (0, 20)), (4, (4, 3)), (3, (4, 2)), (2, (4, 1)), (1, (4, 0)), (0, (6, 0))]) (pcN := 1759) jIZ_379_1757 rfl rfl rfl rfl ?_
  refine jU_xgoto (pcN := 2407) jIZ_379_1759 rfl ?_
  refine jU_xiinc (x := 20) (z := 25) (LN := [(5, (0, 25)), (7, (0, 0)), (6, (0, 3)), (4, (4, 3)), (3, (4, 2)), (2, (4, 1)), (1, (4, 0)), (0, (6, 0))]) (pcN := 2410) jIZ_379_2407 rfl rfl (by decide) rfl rfl ?_
  refine jU_xgoto (pcN := 28) jIZ_379_2410 rfl ?_
  refine jU_xiload (v := (0, 25)) (pcN := 30) jIZ_379_28 rfl rfl rfl ?_
  refine jU_xaload_n (v := (6, 0)) (pcN := 31) jIZ_379_30 rfl rfl rfl ?_
  refine jU_adv 1 (pcN := 32) (LN := [(5, (0, 25)), (7, (0, 0)), (6, (0, 3)), (4, (4, 3)), (3, (4, 2)), (2, (4, 1)), (1, (4, 0)), (0, (6, 0))]) (stN := [(0, 50), (0, 25)]) (hsN := jpZ_214) (c1 := 0) (s1 := 0) (c2 := 110000) (by exact rfl) ?_ (by omega) (by decide +kernel)
  refine jU_xiconst (k := 5) (pcN := 33) jIZ_379_32 rfl ?_
  refine jU_xisub (x := 50) (y := 5) (z := 45) (pcN := 34) jIZ_379_33 rfl (by decide) rfl ?_
  refine jU_xicF (t := 2413) (pcN := 37) jIZ_379_34 rfl (by decide +kernel) rfl rfl ?_
  refine jU_xaload_n (v := (6, 0)) (pcN := 38) jIZ_379_37 rfl rfl rfl ?_
  refine jU_xiload (v := (0, 25)) (pcN := 40) jIZ_379_38 rfl rfl rfl ?_
  refine jU_adv 1 (pcN := 41) (LN := [(5, (0, 25)), (7, (0, 0)), (6, (0, 3)), (4, (4, 3)), (3, (4, 2)), (2, (4, 1)), (1, (4, 0)), (0, (6, 0))]) (stN := [(0, 34)]) (hsN := jpZ_214) (c1 := 0) (s1 := 0) (c2 := 110000) (by exact rfl) ?_ (by omega) (by decide +kernel)
  refine jU_xbipush (k := 63) (pcN := 43) jIZ_379_41 (by decide) rfl ?_
  refine jU_iand (x := 34) (y := 63) (z := 34) (by rfl) (by rfl) (by decide +kernel) ?_
  refine jU_adv 1 (pcN := 1710) (LN := [(5, (0, 25)), (7, (0, 0)), (6, (0, 3)), (4, (4, 3)), (3, (4, 2)), (2, (4, 1)), (1, (4, 0)), (0, (6, 0))]) (stN := []) (hsN := jpZ_214) (c1 := 0) (s1 := 0) (c2 := 110000) (by exact rfl) ?_ (by omega) (by decide +kernel)
  refine jU_xaload_n (v := (4, 0)) (pcN := 1711) jIZ_379_1710 rfl rfl rfl ?_
  refine jU_xaload_n (v := (6, 0)) (pcN := 1712) jIZ_379_1711 rfl rfl rfl ?_
  refine jU_xiload (v := (0, 25)) (pcN := 1714) jIZ_379_1712 rfl rfl rfl ?_
  refine jU_xiconst (k := 1) (pcN := 1715) jIZ_379_1714 rfl ?_
  refine jU_xiadd (x := 25) (y := 1) (z := 26) (pcN := 1716) jIZ_379_1715 rfl (by decide) rfl ?_
  refine jU_adv 1 (pcN := 1717) (LN := [(5, (0, 25)), (7, (0, 0)), (6, (0, 3)), (4, (4, 3)), (3, (4, 2)), (2, (4, 1)), (1, (4, 0)), (0, (6, 0))]) (stN := [(0, 0), (4, 0)]) (hsN := jpZ_214) (c1 := 0) (s1 := 0) (c2 := 110000) (by exact rfl) ?_ (by omega) (by decide +kernel)
  refine jU_xaload_n (v := (6, 0)) (pcN := 1718) jIZ_379_1717 rfl rfl rfl ?_
  refine jU_xiload (v := (0, 25)) (pcN := 1720) jIZ_379_1718 rfl rfl rfl ?_
  refine jU_xiconst (k := 2) (pcN := 1721) jIZ_379_1720 rfl ?_
  refine jU_xiadd (x := 25) (y := 2) (z := 27) (pcN := 1722) jIZ_379_1721 rfl (by decide) rfl ?_
  refine jU_adv 1 (pcN := 1723) (LN := [(5, (0, 25)), (7, (0, 0)), (6, (0, 3)), (4, (4, 3)), (3, (4, 2)), (2, (4, 1)), (1, (4, 0)), (0, (6, 0))]) (stN := [(0, 2147483647), (0, 0), (4, 0)]) (hsN := jpZ_214) (c1 := 0) (s1 := 0) (c2 := 110000) (by exact rfl) ?_ (by omega) (by decide +kernel)
  refine jU_xaload_n (v := (6, 0)) (pcN := 1724) jIZ_379_1723 rfl rfl rfl ?_
  refine jU_xiload (v := (0, 25)) (pcN := 1726) jIZ_379_1724 rfl rfl rfl ?_
  refine jU_xiconst (k := 3) (pcN := 1727) jIZ_379_1726 rfl ?_
  refine jU_xiadd (x := 25) (y := 3) (z := 28) (pcN := 1728) jIZ_379_1727 rfl (by decide) rfl ?_
  refine jU_adv 1 (pcN := 1729) (LN := [(5, (0, 25)), (7, (0, 0)), (6, (0, 3)), (4, (4, 3)), (3, (4, 2)), (2, (4, 1)), (1, (4, 0)), (0, (6, 0))]) (stN := [(0, 2000), (0, 2147483647), (0, 0), (4, 0)]) (hsN := jpZ_214) (c1 := 0) (s1 := 0) (c2 := 110000) (by exact rfl) ?_ (by omega) (by decide +kernel)
  refine jU_xaload_n (v := (4, 2)) (pcN := 1730) jIZ_379_1729 rfl rfl rfl ?_
  refine jU_fB [0, 2, 4, 5, 6, 7, 8, 9, 10, 11, 12, 13, 14, 30, 31, 33, 32, 34, 35, 36, 37, 38, 45, 47, 46, 48, 49] 105 (y := 358) (pcN := 1733) (e := 0) (c1 := 110000) (dC := 6) (bc1 := 1) (bc2 := 6) (as := [(4, 0), (0, 0), (0, 2147483647), (0, 2000), (4, 2)]) (asC := [(4, 0), (0, 0), (0, 2147483647), (0, 2000), (4, 1)]) (LN := [(5, (0, 25)), (7, (0, 0)), (6, (0, 3)), (4, (4, 3)), (3, (4, 2)), (2, (4, 1)), (1, (4, 0)), (0, (6, 0))]) (stN := []) (hsC := jpZ_158) (hsD := jpZ_149) (v := (0, 3)) (st2 := [(0, 3)]) (hs2 := jpZ_215) (jZ_358_67 (d := 0)) (jst_call (by rfl)) (by rfl) (by decide +kernel) (by rfl) (by rfl) (by omega) (by omega) (by omega) (by decide +kernel) rfl (by decide +kernel) ?_
  refine jU_xistore (v := (0, 3)) (LN := [(6, (0, 3)), (5, (0, 25)), (7, (0, 0)), (4, (4, 3)), (3, (4, 2)), (2, (4, 1)), (1, (4, 0)), (0, (6, 0))]) (pcN := 1735) jIZ_379_1733 rfl rfl rfl rfl ?_
  refine jU_xaload_n (v := (4, 1)) (pcN := 1736) jIZ_379_1735 rfl rfl rfl ?_
  refine jU_xaload_n (v := (6, 0)) (pcN := 1737) jIZ_379_1736 rfl rfl rfl ?_
  refine jU_xiload (v := (0, 25)) (pcN := 1739) jIZ_379_1737 rfl rfl rfl ?_
  refine jU_xiconst (k := 1) (pcN := 1740) jIZ_379_1739 rfl ?_
  refine jU_xiadd (x := 25) (y := 1) (z := 26) (pcN := 1741) jIZ_379_1740 rfl (by decide) rfl ?_
  refine jU_adv 1 (pcN := 1742) (LN := [(6, (0, 3)), (5, (0, 25)), (7, (0, 0)), (4, (4, 3)), (3, (4, 2)), (2, (4, 1)), (1, (4, 0)), (0, (6, 0))]) (stN := [(0, 0), (4, 1)]) (hsN := jpZ_215) (c1 := 0) (s1 := 0) (c2 := 110000) (by exact rfl) ?_ (by omega) (by decide +kernel)
  refine jU_xaload_n (v := (6, 0)) (pcN := 1743) jIZ_379_1742 rfl rfl rfl ?_
  refine jU_xiload (v := (0, 25)) (pcN := 1745) jIZ_379_1743 rfl rfl rfl ?_
  refine jU_xiconst (k := 2) (pcN := 1746) jIZ_379_1745 rfl ?_
  refine jU_xiadd (x := 25) (y := 2) (z := 27) (pcN := 1747) jIZ_379_1746 rfl (by decide) rfl ?_
  refine jU_adv 1 (pcN := 1748) (LN := [(6, (0, 3)), (5, (0, 25)), (7, (0, 0)), (4, (4, 3)), (3, (4, 2)), (2, (4, 1)), (1, (4, 0)), (0, (6, 0))]) (stN := [(0, 2147483647), (0, 0), (4, 1)]) (hsN := jpZ_215) (c1 := 0) (s1 := 0) (c2 := 110000) (by exact rfl) ?_ (by omega) (by decide +kernel)
  refine jU_xaload_n (v := (6, 0)) (pcN := 1749) jIZ_379_1748 rfl rfl rfl ?_
  refine jU_xiload (v := (0, 25)) (pcN := 1751) jIZ_379_1749 rfl rfl rfl ?_
  refine jU_xiconst (k := 3) (pcN := 1752) jIZ_379_1751 rfl ?_
  refine jU_xiadd (x := 25) (y := 3) (z := 28) (pcN := 1753) jIZ_379_1752 rfl (by decide) rfl ?_
  refine jU_adv 1 (pcN := 1754) (LN := [(6, (0, 3)), (5, (0, 25)), (7, (0, 0)), (4, (4, 3)), (3, (4, 2)), (2, (4, 1)), (1, (4, 0)), (0, (6, 0))]) (stN := [(0, 2000), (0, 2147483647), (0, 0), (4, 1)]) (hsN := jpZ_215) (c1 := 0) (s1 := 0) (c2 := 110000) (by exact rfl) ?_ (by omega) (by decide +kernel)
  refine jU_hA [1, 15, 16, 17, 18, 19, 20, 21, 22, 23, 24, 25, 26, 27, 28, 29, 39, 40, 41, 42, 43, 44] 105 (y := 287) (pcN := 1757) (bc := 22000) (c1 := 88000) (dC := 8) (as := [(4, 1), (0, 0), (0, 2147483647), (0, 2000)]) (asC := [(4, 0), (0, 0), (0, 2147483647), (0, 2000)]) (LN := [(6, (0, 3)), (5, (0, 25)), (7, (0, 0)), (4, (4, 3)), (3, (4, 2)), (2, (4, 1)), (1, (4, 0)), (0, (6, 0))]) (stN := []) (hsC := jpZ_150) (ex := jpZ_151) (v := (0, 0)) (st2 := [(0, 0)]) (hs2 := jpZ_216) (jW_287_61 (d := 0)) (jst_call (by rfl)) (by rfl) (by decide +kernel) (by rfl) (by rfl) (by omega) (by omega) (by omega) rfl (by decide +kernel) ?_
  refine jU_xistore (v := (0, 0)) (LN := [(7, (0, 0)), (6, (0, 3)), (5, (0, 25)), (4, (4, 3)), (3, (4, 2)), (2, (4, 1)), (1, (4, 0)), (0, (6, 0))]) (pcN := 1759) jIZ_379_1757 rfl rfl rfl rfl ?_
  refine jU_xgoto (pcN := 2407) jIZ_379_1759 rfl ?_
  refine jU_xiinc (x := 25) (z := 30) (LN := [(5, (0, 30)), (7, (0, 0)), (6, (0, 3)), (4, (4, 3)), (3, (4, 2)), (2, (4, 1)), (1, (4, 0)), (0, (6, 0))]) (pcN := 2410) jIZ_379_2407 rfl rfl (by decide) rfl rfl ?_
  refine jU_xgoto (pcN := 28) jIZ_379_2410 rfl ?_
  refine jU_xiload (v := (0, 30)) (pcN := 30) jIZ_379_28 rfl rfl rfl ?_
  refine jU_xaload_n (v := (6, 0)) (pcN := 31) jIZ_379_30 rfl rfl rfl ?_
  refine jU_adv 1 (pcN := 32) (LN := [(5, (0, 30)), (7, (0, 0)), (6, (0, 3)), (4, (4, 3)), (3, (4, 2)), (2, (4, 1)), (1, (4, 0)), (0, (6, 0))]) (stN := [(0, 50), (0, 30)]) (hsN := jpZ_216) (c1 := 0) (s1 := 0) (c2 := 88000) (by exact rfl) ?_ (by omega) (by decide +kernel)
  refine jU_xiconst (k := 5) (pcN := 33) jIZ_379_32 rfl ?_
  refine jU_xisub (x := 50) (y := 5) (z := 45) (pcN := 34) jIZ_379_33 rfl (by decide) rfl ?_
  refine jU_xicF (t := 2413) (pcN := 37) jIZ_379_34 rfl (by decide +kernel) rfl rfl ?_
  refine jU_xaload_n (v := (6, 0)) (pcN := 38) jIZ_379_37 rfl rfl rfl ?_
  refine jU_xiload (v := (0, 30)) (pcN := 40) jIZ_379_38 rfl rfl rfl ?_
  refine jU_adv 1 (pcN := 41) (LN := [(5, (0, 30)), (7, (0, 0)), (6, (0, 3)), (4, (4, 3)), (3, (4, 2)), (2, (4, 1)), (1, (4, 0)), (0, (6, 0))]) (stN := [(0, 34)]) (hsN := jpZ_216) (c1 := 0) (s1 := 0) (c2 := 88000) (by exact rfl) ?_ (by omega) (by decide +kernel)
  refine jU_xbipush (k := 63) (pcN := 43) jIZ_379_41 (by decide) rfl ?_
  refine jU_iand (x := 34) (y := 63) (z := 34) (by rfl) (by rfl) (by decide +kernel) ?_
  refine jU_adv 1 (pcN := 1710) (LN := [(5, (0, 30)), (7, (0, 0)), (6, (0, 3)), (4, (4, 3)), (3, (4, 2)), (2, (4, 1)), (1, (4, 0)), (0, (6, 0))]) (stN := []) (hsN := jpZ_216) (c1 := 0) (s1 := 0) (c2 := 88000) (by exact rfl) ?_ (by omega) (by decide +kernel)
  refine jU_xaload_n (v := (4, 0)) (pcN := 1711) jIZ_379_1710 rfl rfl rfl ?_
  refine jU_xaload_n (v := (6, 0)) (pcN := 1712) jIZ_379_1711 rfl rfl rfl ?_
  refine jU_xiload (v := (0, 30)) (pcN := 1714) jIZ_379_1712 rfl rfl rfl ?_
  refine jU_xiconst (k := 1) (pcN := 1715) jIZ_379_1714 rfl ?_
  refine jU_xiadd (x := 30) (y := 1) (z := 31) (pcN := 1716) jIZ_379_1715 rfl (by decide) rfl ?_
  refine jU_adv 1 (pcN := 1717) (LN := [(5, (0, 30)), (7, (0, 0)), (6, (0, 3)), (4, (4, 3)), (3, (4, 2)), (2, (4, 1)), (1, (4, 0)), (0, (6, 0))]) (stN := [(0, 0), (4, 0)]) (hsN := jpZ_216) (c1 := 0) (s1 := 0) (c2 := 88000) (by exact rfl) ?_ (by omega) (by decide +kernel)
  refine jU_xaload_n (v := (6, 0)) (pcN := 1718) jIZ_379_1717 rfl rfl rfl ?_
  refine jU_xiload (v := (0, 30)) (pcN := 1720) jIZ_379_1718 rfl rfl rfl ?_
  refine jU_xiconst (k := 2) (pcN := 1721) jIZ_379_1720 rfl ?_
  refine jU_xiadd (x := 30) (y := 2) (z := 32) (pcN := 1722) jIZ_379_1721 rfl (by decide) rfl ?_
  refine jU_adv 1 (pcN := 1723) (LN := [(5, (0, 30)), (7, (0, 0)), (6, (0, 3)), (4, (4, 3)), (3, (4, 2)), (2, (4, 1)), (1, (4, 0)), (0, (6, 0))]) (stN := [(0, 2147483647), (0, 0), (4, 0)]) (hsN := jpZ_216) (c1 := 0) (s1 := 0) (c2 := 88000) (by exact rfl) ?_ (by omega) (by decide +kernel)
  refine jU_xaload_n (v := (6, 0)) (pcN := 1724) jIZ_379_1723 rfl rfl rfl ?_
  refine jU_xiload (v := (0, 30)) (pcN := 1726) jIZ_379_1724 rfl rfl rfl ?_
  refine jU_xiconst (k := 3) (pcN := 1727) jIZ_379_1726 rfl ?_
  refine jU_xiadd (x := 30) (y := 3) (z := 33) (pcN := 1728) jIZ_379_1727 rfl (by decide) rfl ?_
  refine jU_adv 1 (pcN := 1729) (LN := [(5, (0, 30)), (7, (0, 0)), (6, (0, 3)), (4, (4, 3)), (3, (4, 2)), (2, (4, 1)), (1, (4, 0)), (0, (6, 0))]) (stN := [(0, 2000), (0, 2147483647), (0, 0), (4, 0)]) (hsN := jpZ_216) (c1 := 0) (s1 := 0) (c2 := 88000) (by exact rfl) ?_ (by omega) (by decide +kernel)
  refine jU_xaload_n (v := (4, 2)) (pcN := 1730) jIZ_379_1729 rfl rfl rfl ?_
  refine jU_fB [0, 2, 4, 5, 6, 7, 8, 9, 10, 11, 12, 13, 14, 30, 31, 32, 33, 34, 35, 36, 37, 38, 45, 46, 47, 48, 49] 116 (y := 358) (pcN := 1733) (e := 0) (c1 := 88000) (dC := 6) (bc1 := 1) (bc2 := 6) (as := [(4, 0), (0, 0), (0, 2147483647), (0, 2000), (4, 2)]) (asC := [(4, 0), (0, 0), (0, 2147483647), (0, 2000), (4, 1)]) (LN := [(5, (0, 30)), (7, (0, 0)), (6, (0, 3)), (4, (4, 3)), (3, (4, 2)), (2, (4, 1)), (1, (4, 0)), (0, (6, 0))]) (stN := []) (hsC := jpZ_158) (hsD := jpZ_149) (v := (0, 3)) (st2 := [(0, 3)]) (hs2 := jpZ_217) (jZ_358_67 (d := 0)) (jst_call (by rfl)) (by rfl) (by decide +kernel) (by rfl) (by rfl) (by omega) (by omega) (by omega) (by decide +kernel) rfl (by decide +kernel) ?_
  refine jU_xistore (v := (0, 3)) (LN := [(6, (0, 3)), (5, (0, 30)), (7, (0, 0)), (4, (4, 3)), (3, (4, 2)), (2, (4, 1)), (1, (4, 0)), (0, (6, 0))]) (pcN := 1735) jIZ_379_1733 rfl rfl rfl rfl ?_
  refine jU_xaload_n (v := (4, 1)) (pcN := 1736) jIZ_379_1735 rfl rfl rfl ?_
  refine jU_xaload_n (v := (6, 0)) (pcN := 1737) jIZ_379_1736 rfl rfl rfl ?_
  refine jU_xiload (v := (0, 30)) (pcN := 1739) jIZ_379_1737 rfl rfl rfl ?_
  refine jU_xiconst (k := 1) (pcN := 1740) jIZ_379_1739 rfl ?_
  refine jU_xiadd (x := 30) (y := 1) (z := 31) (pcN := 1741) jIZ_379_1740 rfl (by decide) rfl ?_
  refine jU_adv 1 (pcN := 1742) (LN := [(6, (0, 3)), (5, (0, 30)), (7, (0, 0)), (4, (4, 3)), (3, (4, 2)), (2, (4, 1)), (1, (4, 0)), (0, (6, 0))]) (stN := [(0, 0), (4, 1)]) (hsN := jpZ_217) (c1 := 0) (s1 := 0) (c2 := 88000) (by exact rfl) ?_ (by omega) (by decide +kernel)
  refine jU_xaload_n (v := (6, 0)) (pcN := 1743) jIZ_379_1742 rfl rfl rfl ?_
  refine jU_xiload (v := (0, 30)) (pcN := 1745) jIZ_379_1743 rfl rfl rfl ?_
  refine jU_xiconst (k := 2) (pcN := 1746) jIZ_379_1745 rfl ?_
  refine jU_xiadd (x := 30) (y := 2) (z := 32) (pcN := 1747) jIZ_379_1746 rfl (by decide) rfl ?_
  refine jU_adv 1 (pcN := 1748) (LN := [(6, (0, 3)), (5, (0, 30)), (7, (0, 0)), (4, (4, 3)), (3, (4, 2)), (2, (4, 1)), (1, (4, 0)), (0, (6, 0))]) (stN := [(0, 2147483647), (0, 0), (4, 1)]) (hsN := jpZ_217) (c1 := 0) (s1 := 0) (c2 := 88000) (by exact rfl) ?_ (by omega) (by decide +kernel)
  refine jU_xaload_n (v := (6, 0)) (pcN := 1749) jIZ_379_1748 rfl rfl rfl ?_
  refine jU_xiload (v := (0, 30)) (pcN := 1751) jIZ_379_1749 rfl rfl rfl ?_
  refine jU_xiconst (k := 3) (pcN := 1752) jIZ_379_1751 rfl ?_
  refine jU_xiadd (x := 30) (y := 3) (z := 33) (pcN := 1753) jIZ_379_1752 rfl (by decide) rfl ?_
  refine jU_adv 1 (pcN := 1754) (LN := [(6, (0, 3)), (5, (0, 30)), (7, (0, 0)), (4, (4, 3)), (3, (4, 2)), (2, (4, 1)), (1, (4, 0)), (0, (6, 0))]) (stN := [(0, 2000), (0, 2147483647), (0, 0), (4, 1)]) (hsN := jpZ_217) (c1 := 0) (s1 := 0) (c2 := 88000) (by exact rfl) ?_ (by omega) (by decide +kernel)
  refine jU_hA [1, 15, 16, 17, 18, 19, 20, 21, 22, 23, 24, 25, 26, 27, 28, 29, 39, 40, 41, 42, 43, 44] 116 (y := 287) (pcN := 1757) (bc := 22000) (c1 := 66000) (dC := 8) (as := [(4, 1), (0, 0), (0, 2147483647), (0, 2000)]) (asC := [(4, 0), (0, 0), (0, 2147483647), (0, 2000)]) (LN := [(6, (0, 3)), (5, (0, 30)), (7, (0, 0)), (4, (4, 3)), (3, (4, 2)), (2, (4, 1)), (1, (4, 0)), (0, (6, 0))]) (stN := []) (hsC := jpZ_150) (ex := jpZ_151) (v := (0, 0)) (st2 := [(0, 0)]) (hs2 := jpZ_218) (jW_287_61 (d := 0)) (jst_call (by rfl)) (by rfl) (by decide +kernel) (by rfl) (by rfl) (by omega) (by omega) (by omega) rfl (by decide +kernel) ?_
  refine jU_xistore (v := (0, 0)) (LN := [(7, (0, 0)), (6, (0, 3)), (5, (0, 30)), (4, (4, 3)), (3, (4, 2)), (2, (4, 1)), (1, (4, 0)), (0, (6, 0))]) (pcN := 1759) jIZ_379_1757 rfl rfl rfl rfl ?_
  refine jU_xgoto (pcN := 2407) jIZ_379_1759 rfl ?_
  refine jU_xiinc (x := 30) (z := 35) (LN := [(5, (0, 35)), (7, (0, 0)), (6, (0, 3)), (4, (4, 3)), (3, (4, 2)), (2, (4, 1)), (1, (4, 0)), (0, (6, 0))]) (pcN := 2410) jIZ_379_2407 rfl rfl (by decide) rfl rfl ?_
  refine jU_xgoto (pcN := 28) jIZ_379_2410 rfl ?_
  refine jU_xiload (v := (0, 35)) (pcN := 30) jIZ_379_28 rfl rfl rfl ?_
  refine jU_xaload_n (v := (6, 0)) (pcN := 31) jIZ_379_30 rfl rfl rfl ?_
  refine jU_adv 1 (pcN := 32) (LN := [(5, (0, 35)), (7, (0, 0)), (6, (0, 3)), (4, (4, 3)), (3, (4, 2)), (2, (4, 1)), (1, (4, 0)), (0, (6, 0))]) (stN := [(0, 50), (0, 35)]) (hsN := jpZ_218) (c1 := 0) (s1 := 0) (c2 := 66000) (by exact rfl) ?_ (by omega) (by decide +kernel)
  refine jU_xiconst (k := 5) (pcN := 33) jIZ_379_32 rfl ?_
  refine jU_xisub (x := 50) (y := 5) (z := 45) (pcN := 34) jIZ_379_33 rfl (by decide) rfl ?_
  refine jU_xicF (t := 2413) (pcN := 37) jIZ_379_34 rfl (by decide +kernel) rfl rfl ?_
  refine jU_xaload_n (v := (6, 0)) (pcN := 38) jIZ_379_37 rfl rfl rfl ?_
  refine jU_xiload (v := (0, 35)) (pcN := 40) jIZ_379_38 rfl rfl rfl ?_
  refine jU_adv 1 (pcN := 41) (LN := [(5, (0, 35)), (7, (0, 0)), (6, (0, 3)), (4, (4, 3)), (3, (4, 2)), (2, (4, 1)), (1, (4, 0)), (0, (6, 0))]) (stN := [(0, 34)]) (hsN := jpZ_218) (c1 := 0) (s1 := 0) (c2 := 66000) (by exact rfl) ?_ (by omega) (by decide +kernel)
  refine jU_xbipush (k := 63) (pcN := 43) jIZ_379_41 (by decide) rfl ?_
  refine jU_iand (x := 34) (y := 63) (z := 34) (by rfl) (by rfl) (by decide +kernel) ?_
  refine jU_adv 1 (pcN := 1710) (LN := [(5, (0, 35)), (7, (0, 0)), (6, (0, 3)), (4, (4, 3)), (3, (4, 2)), (2, (4, 1)), (1, (4, 0)), (0, (6, 0))]) (stN := []) (hsN := jpZ_218) (c1 := 0) (s1 := 0) (c2 := 66000) (by exact rfl) ?_ (by omega) (by decide +kernel)
  refine jU_xaload_n (v := (4, 0)) (pcN := 1711) jIZ_379_1710 rfl rfl rfl ?_
  refine jU_xaload_n (v := (6, 0)) (pcN := 1712) jIZ_379_1711 rfl rfl rfl ?_
  refine jU_xiload (v := (0, 35)) (pcN := 1714) jIZ_379_1712 rfl rfl rfl ?_
  refine jU_xiconst (k := 1) (pcN := 1715) jIZ_379_1714 rfl ?_
  refine jU_xiadd (x := 35) (y := 1) (z := 36) (pcN := 1716) jIZ_379_1715 rfl (by decide) rfl ?_
  refine jU_adv 1 (pcN := 1717) (LN := [(5, (0, 35)), (7, (0, 0)), (6, (0, 3)), (4, (4, 3)), (3, (4, 2)), (2, (4, 1)), (1, (4, 0)), (0, (6, 0))]) (stN := [(0, 0), (4, 0)]) (hsN := jpZ_218) (c1 := 0) (s1 := 0) (c2 := 66000) (by exact rfl) ?_ (by omega) (by decide +kernel)
  refine jU_xaload_n (v := (6, 0)) (pcN := 1718) jIZ_379_1717 rfl rfl rfl ?_
  refine jU_xiload (v := (0, 35)) (pcN := 1720) jIZ_379_1718 rfl rfl rfl ?_
  refine jU_xiconst (k := 2) (pcN := 1721) jIZ_379_1720 rfl ?_
  refine jU_xiadd (x := 35) (y := 2) (z := 37) (pcN := 1722) jIZ_379_1721 rfl (by decide) rfl ?_
  refine jU_adv 1 (pcN := 1723) (LN := [(5, (0, 35)), (7, (0, 0)), (6, (0, 3)), (4, (4, 3)), (3, (4, 2)), (2, (4, 1)), (1, (4, 0)), (0, (6, 0))]) (stN := [(0, 2147483647), (0, 0), (4, 0)]) (hsN := jpZ_218) (c1 := 0) (s1 := 0) (c2 := 66000) (by exact rfl) ?_ (by omega) (by decide +kernel)
  refine jU_xaload_n (v := (6, 0)) (pcN := 1724) jIZ_379_1723 rfl rfl rfl ?_
  refine jU_xiload (v := (0, 35)) (pcN := 1726) jIZ_379_1724 rfl rfl rfl ?_
  refine jU_xiconst (k := 3) (pcN := 1727) jIZ_379_1726 rfl ?_
  refine jU_xiadd (x := 35) (y := 3) (z := 38) (pcN := 1728) jIZ_379_1727 rfl (by decide) rfl ?_
  refine jU_adv 1 (pcN := 1729) (LN := [(5, (0, 35)), (7, (0, 0)), (6, (0, 3)), (4, (4, 3)), (3, (4, 2)), (2, (4, 1)), (1, (4, 0)), (0, (6, 0))]) (stN := [(0, 2000), (0, 2147483647), (0, 0), (4, 0)]) (hsN := jpZ_218) (c1 := 0) (s1 := 0) (c2 := 66000) (by exact rfl) ?_ (by omega) (by decide +kernel)
  refine jU_xaload_n (v := (4, 2)) (pcN := 1730) jIZ_379_1729 rfl rfl rfl ?_
  refine jU_fB [0, 2, 4, 5, 6, 7, 8, 9, 10, 11, 12, 13, 14, 30, 31, 33, 32, 34, 35, 36, 37, 38, 45, 47, 46, 48, 49] 127 (y := 358) (pcN := 1733) (e := 0) (c1 := 66000) (dC := 6) (bc1 := 1) (bc2 := 6) (as := [(4, 0), (0, 0), (0, 2147483647), (0, 2000), (4, 2)]) (asC := [(4, 0), (0, 0), (0, 2147483647), (0, 2000), (4, 1)]) (LN := [(5, (0, 35)), (7, (0, 0)), (6, (0, 3)), (4, (4, 3)), (3, (4, 2)), (2, (4, 1)), (1, (4, 0)), (0, (6, 0))]) (stN := []) (hsC := jpZ_158) (hsD := jpZ_149) (v := (0, 3)) (st2 := [(0, 3)]) (hs2 := jpZ_219) (jZ_358_67 (d := 0)) (jst_call (by rfl)) (by rfl) (by decide +kernel) (by rfl) (by rfl) (by omega) (by omega) (by omega) (by decide +kernel) rfl (by decide +kernel) ?_
  refine jU_xistore (v := (0, 3)) (LN := [(6, (0, 3)), (5, (0, 35)), (7, (0, 0)), (4, (4, 3)), (3, (4, 2)), (2, (4, 1)), (1, (4, 0)), (0, (6, 0))]) (pcN := 1735) jIZ_379_1733 rfl rfl rfl rfl ?_
  refine jU_xaload_n (v := (4, 1)) (pcN := 1736) jIZ_379_1735 rfl rfl rfl ?_
  refine jU_xaload_n (v := (6, 0)) (pcN := 1737) jIZ_379_1736 rfl rfl rfl ?_
  refine jU_xiload (v := (0, 35)) (pcN := 1739) jIZ_379_1737 rfl rfl rfl ?_
  refine jU_xiconst (k := 1) (pcN := 1740) jIZ_379_1739 rfl ?_
  refine jU_xiadd (x := 35) (y := 1) (z := 36) (pcN := 1741) jIZ_379_1740 rfl (by decide) rfl ?_
  refine jU_adv 1 (pcN := 1742) (LN := [(6, (0, 3)), (5, (0, 35)), (7, (0, 0)), (4, (4, 3)), (3, (4, 2)), (2, (4, 1)), (1, (4, 0)), (0, (6, 0))]) (stN := [(0, 0), (4, 1)]) (hsN := jpZ_219) (c1 := 0) (s1 := 0) (c2 := 66000) (by exact rfl) ?_ (by omega) (by decide +kernel)
  refine jU_xaload_n (v := (6, 0)) (pcN := 1743) jIZ_379_1742 rfl rfl rfl ?_
  refine jU_xiload (v := (0, 35)) (pcN := 1745) jIZ_379_1743 rfl rfl rfl ?_
  refine jU_xiconst (k := 2) (pcN := 1746) jIZ_379_1745 rfl ?_
  refine jU_xiadd (x := 35) (y := 2) (z := 37) (pcN := 1747) jIZ_379_1746 rfl (by decide) rfl ?_
  refine jU_adv 1 (pcN := 1748) (LN := [(6, (0, 3)), (5, (0, 35)), (7, (0, 0)), (4, (4, 3)), (3, (4, 2)), (2, (4, 1)), (1, (4, 0)), (0, (6, 0))]) (stN := [(0, 2147483647), (0, 0), (4, 1)]) (hsN := jpZ_219) (c1 := 0) (s1 := 0) (c2 := 66000) (by exact rfl) ?_ (by omega) (by decide +kernel)
  refine jU_xaload_n (v := (6, 0)) (pcN := 1749) jIZ_379_1748 rfl rfl rfl ?_
  refine jU_xiload (v := (0, 35)) (pcN := 1751) jIZ_379_1749 rfl rfl rfl ?_
  refine jU_xiconst (k := 3) (pcN := 1752) jIZ_379_1751 rfl ?_
  refine jU_xiadd (x := 35) (y := 3) (z := 38) (pcN := 1753) jIZ_379_1752 rfl (by decide) rfl ?_
  refine jU_adv 1 (pcN := 1754) (LN := [(6, (0, 3)), (5, (0, 35)), (7, (0, 0)), (4, (4, 3)), (3, (4, 2)), (2, (4, 1)), (1, (4, 0)), (0, (6, 0))]) (stN := [(0, 2000), (0, 2147483647), (0, 0), (4, 1)]) (hsN := jpZ_219) (c1 := 0) (s1 := 0) (c2 := 66000) (by exact rfl) ?_ (by omega) (by decide +kernel)
  refine jU_hA [1, 15, 16, 17, 18, 19, 20, 21, 22, 23, 24, 25, 26, 27, 28, 29, 39, 40, 41, 42, 43, 44] 127 (y := 287) (pcN := 1757) (bc := 22000) (c1 := 44000) (dC := 8) (as := [(4, 1), (0, 0), (0, 2147483647), (0, 2000)]) (asC := [(4, 0), (0, 0), (0, 2147483647), (0, 2000)]) (LN := [(6, (0, 3)), (5, (0, 35)), (7, (0, 0)), (4, (4, 3)), (3, (4, 2)), (2, (4, 1)), (1, (4, 0)), (0, (6, 0))]) (stN := []) (hsC := jpZ_150) (ex := jpZ_151) (v := (0, 0)) (st2 := [(0, 0)]) (hs2 := jpZ_220) (jW_287_61 (d := 0)) (jst_call (by rfl)) (by rfl) (by decide +kernel) (by rfl) (by rfl) (by omega) (by omega) (by omega) rfl (by decide +kernel) ?_
  refine jU_xistore (v := (0, 0)) (LN := [(7, (0, 0)), (6, (0, 3)), (5, (0, 35)), (4, (4, 3)), (3, (4, 2)), (2, (4, 1)), (1, (4, 0)), (0, (6, 0))]) (pcN := 1759) jIZ_379_1757 rfl rfl rfl rfl ?_
  refine jU_xgoto (pcN := 2407) jIZ_379_1759 rfl ?_
  refine jU_xiinc (x := 35) (z := 40) (LN := [(5, (0, 40)), (7, (0, 0)), (6, (0, 3)), (4, (4, 3)), (3, (4, 2)), (2, (4, 1)), (1, (4, 0)), (0, (6, 0))]) (pcN := 2410) jIZ_379_2407 rfl rfl (by decide) rfl rfl ?_
  refine jU_xgoto (pcN := 28) jIZ_379_2410 rfl ?_
  refine jU_xiload (v := (0, 40)) (pcN := 30) jIZ_379_28 rfl rfl rfl ?_
  refine jU_xaload_n (v := (6, 0)) (pcN := 31) jIZ_379_30 rfl rfl rfl ?_
  refine jU_adv 1 (pcN := 32) (LN := [(5, (0, 40)), (7, (0, 0)), (6, (0, 3)), (4, (4, 3)), (3, (4, 2)), (2, (4, 1)), (1, (4, 0)), (0, (6, 0))]) (stN := [(0, 50), (0, 40)]) (hsN := jpZ_220) (c1 := 0) (s1 := 0) (c2 := 44000) (by exact rfl) ?_ (by omega) (by decide +kernel)
  refine jU_xiconst (k := 5) (pcN := 33) jIZ_379_32 rfl ?_
  refine jU_xisub (x := 50) (y := 5) (z := 45) (pcN := 34) jIZ_379_33 rfl (by decide) rfl ?_
  refine jU_xicF (t := 2413) (pcN := 37) jIZ_379_34 rfl (by decide +kernel) rfl rfl ?_
  refine jU_xaload_n (v := (6, 0)) (pcN := 38) jIZ_379_37 rfl rfl rfl ?_
  refine jU_xiload (v := (0, 40)) (pcN := 40) jIZ_379_38 rfl rfl rfl ?_
  refine jU_adv 1 (pcN := 41) (LN := [(5, (0, 40)), (7, (0, 0)), (6, (0, 3)), (4, (4, 3)), (3, (4, 2)), (2, (4, 1)), (1, (4, 0)), (0, (6, 0))]) (stN := [(0, 34)]) (hsN := jpZ_220) (c1 := 0) (s1 := 0) (c2 := 44000) (by exact rfl) ?_ (by omega) (by decide +kernel)
  refine jU_xbipush (k := 63) (pcN := 43) jIZ_379_41 (by decide) rfl ?_
  refine jU_iand (x := 34) (y := 63) (z := 34) (by rfl) (by rfl) (by decide +kernel) ?_
  refine jU_adv 1 (pcN := 1710) (LN := [(5, (0, 40)), (7, (0, 0)), (6, (0, 3)), (4, (4, 3)), (3, (4, 2)), (2, (4, 1)), (1, (4, 0)), (0, (6, 0))]) (stN := []) (hsN := jpZ_220) (c1 := 0) (s1 := 0) (c2 := 44000) (by exact rfl) ?_ (by omega) (by decide +kernel)
  refine jU_xaload_n (v := (4, 0)) (pcN := 1711) jIZ_379_1710 rfl rfl rfl ?_
  refine jU_xaload_n (v := (6, 0)) (pcN := 1712) jIZ_379_1711 rfl rfl rfl ?_
  refine jU_xiload (v := (0, 40)) (pcN := 1714) jIZ_379_1712 rfl rfl rfl ?_
  refine jU_xiconst (k := 1) (pcN := 1715) jIZ_379_1714 rfl ?_
  refine jU_xiadd (x := 40) (y := 1) (z := 41) (pcN := 1716) jIZ_379_1715 rfl (by decide) rfl ?_
  refine jU_adv 1 (pcN := 1717) (LN := [(5, (0, 40)), (7, (0, 0)), (6, (0, 3)), (4, (4, 3)), (3, (4, 2)), (2, (4, 1)), (1, (4, 0)), (0, (6, 0))]) (stN := [(0, 0), (4, 0)]) (hsN := jpZ_220) (c1 := 0) (s1 := 0) (c2 := 44000) (by exact rfl) ?_ (by omega) (by decide +kernel)
  refine jU_xaload_n (v := (6, 0)) (pcN := 1718) jIZ_379_1717 rfl rfl rfl ?_
  refine jU_xiload (v := (0, 40)) (pcN := 1720) jIZ_379_1718 rfl rfl rfl ?_
  refine jU_xiconst (k := 2) (pcN := 1721) jIZ_379_1720 rfl ?_
  refine jU_xiadd (x := 40) (y := 2) (z := 42) (pcN := 1722) jIZ_379_1721 rfl (by decide) rfl ?_
  refine jU_adv 1 (pcN := 1723) (LN := [(5, (0, 40)), (7, (0, 0)), (6, (0, 3)), (4, (4, 3)), (3, (4, 2)), (2, (4, 1)), (1, (4, 0)), (0, (6, 0))]) (stN := [(0, 2147483647), (0, 0), (4, 0)]) (hsN := jpZ_220) (c1 := 0) (s1 := 0) (c2 := 44000) (by exact rfl) ?_ (by omega) (by decide +kernel)
  refine jU_xaload_n (v := (6, 0)) (pcN := 1724) jIZ_379_1723 rfl rfl rfl ?_
  refine jU_xiload (v := (0, 40)) (pcN := 1726) jIZ_379_1724 rfl rfl rfl ?_
  refine jU_xiconst (k := 3) (pcN := 1727) jIZ_379_1726 rfl ?_
  refine jU_xiadd (x := 40) (y := 3) (z := 43) (pcN := 1728) jIZ_379_1727 rfl (by decide) rfl ?_
  refine jU_adv 1 (pcN := 1729) (LN := [(5, (0, 40)), (7, (0, 0)), (6, (0, 3)), (4, (4, 3)), (3, (4, 2)), (2, (4, 1)), (1, (4, 0)), (0, (6, 0))]) (stN := [(0, 2000), (0, 2147483647), (0, 0), (4, 0)]) (hsN := jpZ_220) (c1 := 0) (s1 := 0) (c2 := 44000) (by exact rfl) ?_ (by omega) (by decide +kernel)
  refine jU_xaload_n (v := (4, 2)) (pcN := 1730) jIZ_379_1729 rfl rfl rfl ?_
  refine jU_fB [0, 2, 4, 5, 6, 7, 8, 9, 10, 11, 12, 13, 14, 30, 31, 32, 33, 34, 35, 36, 37, 38, 45, 46, 47, 48, 49] 138 (y := 358) (pcN := 1733) (e := 0) (c1 := 44000) (dC := 6) (bc1 := 1) (bc2 := 6) (as := [(4, 0), (0, 0), (0, 2147483647), (0, 2000), (4, 2)]) (asC := [(4, 0), (0, 0), (0, 2147483647), (0, 2000), (4, 1)]) (LN := [(5, (0, 40)), (7, (0, 0)), (6, (0, 3)), (4, (4, 3)), (3, (4, 2)), (2, (4, 1)), (1, (4, 0)), (0, (6, 0))]) (stN := []) (hsC := jpZ_158) (hsD := jpZ_149) (v := (0, 3)) (st2 := [(0, 3)]) (hs2 := jpZ_221) (jZ_358_67 (d := 0)) (jst_call (by rfl)) (by rfl) (by decide +kernel) (by rfl) (by rfl) (by omega) (by omega) (by omega) (by decide +kernel) rfl (by decide +kernel) ?_
  refine jU_xistore (v := (0, 3)) (LN := [(6, (0, 3)), (5, (0, 40)), (7, (0, 0)), (4, (4, 3)), (3, (4, 2)), (2, (4, 1)), (1, (4, 0)), (0, (6, 0))]) (pcN := 1735) jIZ_379_1733 rfl rfl rfl rfl ?_
  refine jU_xaload_n (v := (4, 1)) (pcN := 1736) jIZ_379_1735 rfl rfl rfl ?_
  refine jU_xaload_n (v := (6, 0)) (pcN := 1737) jIZ_379_1736 rfl rfl rfl ?_
  refine jU_xiload (v := (0, 40)) (pcN := 1739) jIZ_379_1737 rfl rfl rfl ?_
  refine jU_xiconst (k := 1) (pcN := 1740) jIZ_379_1739 rfl ?_
  refine jU_xiadd (x := 40) (y := 1) (z := 41) (pcN := 1741) jIZ_379_1740 rfl (by decide) rfl ?_
  refine jU_adv 1 (pcN := 1742) (LN := [(6, (0, 3)), (5, (0, 40)), (7, (0, 0)), (4, (4, 3)), (3, (4, 2)), (2, (4, 1)), (1, (4, 0)), (0, (6, 0))]) (stN := [(0, 0), (4, 1)]) (hsN := jpZ_221) (c1 := 0) (s1 := 0) (c2 := 44000) (by exact rfl) ?_ (by omega) (by decide +kernel)
  refine jU_xaload_n (v := (6, 0)) (pcN := 1743) jIZ_379_1742 rfl rfl rfl ?_
  refine jU_xiload (v := (0, 40)) (pcN := 1745) jIZ_379_1743 rfl rfl rfl ?_
  refine jU_xiconst (k := 2) (pcN := 1746) jIZ_379_1745 rfl ?_
  refine jU_xiadd (x := 40) (y := 2) (z := 42) (pcN := 1747) jIZ_379_1746 rfl (by decide) rfl ?_
  refine jU_adv 1 (pcN := 1748) (LN := [(6, (0, 3)), (5, (0, 40)), (7, (0, 0)), (4, (4, 3)), (3, (4, 2)), (2, (4, 1)), (1, (4, 0)), (0, (6, 0))]) (stN := [(0, 2147483647), (0, 0), (4, 1)]) (hsN := jpZ_221) (c1 := 0) (s1 := 0) (c2 := 44000) (by exact rfl) ?_ (by omega) (by decide +kernel)
  refine jU_xaload_n (v := (6, 0)) (pcN := 1749) jIZ_379_1748 rfl rfl rfl ?_
  refine jU_xiload (v := (0, 40)) (pcN := 1751) jIZ_379_1749 rfl rfl rfl ?_
  refine jU_xiconst (k := 3) (pcN := 1752) jIZ_379_1751 rfl ?_
  refine jU_xiadd (x := 40) (y := 3) (z := 43) (pcN := 1753) jIZ_379_1752 rfl (by decide) rfl ?_
  refine jU_adv 1 (pcN := 1754) (LN := [(6, (0, 3)), (5, (0, 40)), (7, (0, 0)), (4, (4, 3)), (3, (4, 2)), (2, (4, 1)), (1, (4, 0)), (0, (6, 0))]) (stN := [(0, 2000), (0, 2147483647), (0, 0), (4, 1)]) (hsN := jpZ_221) (c1 := 0) (s1 := 0) (c2 := 44000) (by exact rfl) ?_ (by omega) (by decide +kernel)
  refine jU_hA [1, 15, 16, 17, 18, 19, 20, 21, 22, 23, 24, 25, 26, 27, 28, 29, 39, 40, 41, 42, 43, 44] 138 (y := 287) (pcN := 1757) (bc := 22000) (c1 := 22000) (dC := 8) (as := [(4, 1), (0, 0), (0, 2147483647), (0, 2000)]) (asC := [(4, 0), (0, 0), (0, 2147483647), (0, 2000)]) (LN := [(6, (0, 3)), (5, (0, 40)), (7, (0, 0)), (4, (4, 3)), (3, (4, 2)), (2, (4, 1)), (1, (4, 0)), (0, (6, 0))]) (stN := []) (hsC := jpZ_150) (ex := jpZ_151) (v := (0, 0)) (st2 := [(0, 0)]) (hs2 := jpZ_222) (jW_287_61 (d := 0)) (jst_call (by rfl)) (by rfl) (by decide +kernel) (by rfl) (by rfl) (by omega) (by omega) (by omega) rfl (by decide +kernel) ?_
  refine jU_xistore (v := (0, 0)) (LN := [(7, (0, 0)), (6, (0, 3)), (5, (0, 40)), (4, (4, 3)), (3, (4, 2)), (2, (4, 1)), (1, (4, 0)), (0, (6, 0))]) (pcN := 1759) jIZ_379_1757 rfl rfl rfl rfl ?_
  refine jU_xgoto (pcN := 2407) jIZ_379_1759 rfl ?_
  refine jU_xiinc (x := 40) (z := 45) (LN := [(5, (0, 45)), (7, (0, 0)), (6, (0, 3)), (4, (4, 3)), (3, (4, 2)), (2, (4, 1)), (1, (4, 0)), (0, (6, 0))]) (pcN := 2410) jIZ_379_2407 rfl rfl (by decide) rfl rfl ?_
  refine jU_xgoto (pcN := 28) jIZ_379_2410 rfl ?_
  refine jU_xiload (v := (0, 45)) (pcN := 30) jIZ_379_28 rfl rfl rfl ?_
  refine jU_xaload_n (v := (6, 0)) (pcN := 31) jIZ_379_30 rfl rfl rfl ?_
  refine jU_adv 1 (pcN := 32) (LN := [(5, (0, 45)), (7, (0, 0)), (6, (0, 3)), (4, (4, 3)), (3, (4, 2)), (2, (4, 1)), (1, (4, 0)), (0, (6, 0))]) (stN := [(0, 50), (0, 45)]) (hsN := jpZ_222) (c1 := 0) (s1 := 0) (c2 := 22000) (by exact rfl) ?_ (by omega) (by decide +kernel)
  refine jU_xiconst (k := 5) (pcN := 33) jIZ_379_32 rfl ?_
  refine jU_xisub (x := 50) (y := 5) (z := 45) (pcN := 34) jIZ_379_33 rfl (by decide) rfl ?_
  refine jU_xicF (t := 2413) (pcN := 37) jIZ_379_34 rfl (by decide +kernel) rfl rfl ?_
  refine jU_xaload_n (v := (6, 0)) (pcN := 38) jIZ_379_37 rfl rfl rfl ?_
  refine jU_xiload (v := (0, 45)) (pcN := 40) jIZ_379_38 rfl rfl rfl ?_
  refine jU_adv 1 (pcN := 41) (LN := [(5, (0, 45)), (7, (0, 0)), (6, (0, 3)), (4, (4, 3)), (3, (4, 2)), (2, (4, 1)), (1, (4, 0)), (0, (6, 0))]) (stN := [(0, 34)]) (hsN := jpZ_222) (c1 := 0) (s1 := 0) (c2 := 22000) (by exact rfl) ?_ (by omega) (by decide +kernel)
  refine jU_xbipush (k := 63) (pcN := 43) jIZ_379_41 (by decide) rfl ?_
  refine jU_iand (x := 34) (y := 63) (z := 34) (by rfl) (by rfl) (by decide +kernel) ?_
  refine jU_adv 1 (pcN := 1710) (LN := [(5, (0, 45)), (7, (0, 0)), (6, (0, 3)), (4, (4, 3)), (3, (4, 2)), (2, (4, 1)), (1, (4, 0)), (0, (6, 0))]) (stN := []) (hsN := jpZ_222) (c1 := 0) (s1 := 0) (c2 := 22000) (by exact rfl) ?_ (by omega) (by decide +kernel)
  refine jU_xaload_n (v := (4, 0)) (pcN := 1711) jIZ_379_1710 rfl rfl rfl ?_
  refine jU_xaload_n (v := (6, 0)) (pcN := 1712) jIZ_379_1711 rfl rfl rfl ?_
  refine jU_xiload (v := (0, 45)) (pcN := 1714) jIZ_379_1712 rfl rfl rfl ?_
  refine jU_xiconst (k := 1) (pcN := 1715) jIZ_379_1714 rfl ?_
  refine jU_xiadd (x := 45) (y := 1) (z := 46) (pcN := 1716) jIZ_379_1715 rfl (by decide) rfl ?_
  refine jU_adv 1 (pcN := 1717) (LN := [(5, (0, 45)), (7, (0, 0)), (6, (0, 3)), (4, (4, 3)), (3, (4, 2)), (2, (4, 1)), (1, (4, 0)), (0, (6, 0))]) (stN := [(0, 0), (4, 0)]) (hsN := jpZ_222) (c1 := 0) (s1 := 0) (c2 := 22000) (by exact rfl) ?_ (by omega) (by decide +kernel)
  refine jU_xaload_n (v := (6, 0)) (pcN := 1718) jIZ_379_1717 rfl rfl rfl ?_
  refine jU_xiload (v := (0, 45)) (pcN := 1720) jIZ_379_1718 rfl rfl rfl ?_
  refine jU_xiconst (k := 2) (pcN := 1721) jIZ_379_1720 rfl ?_
  refine jU_xiadd (x := 45) (y := 2) (z := 47) (pcN := 1722) jIZ_379_1721 rfl (by decide) rfl ?_
  refine jU_adv 1 (pcN := 1723) (LN := [(5, (0, 45)), (7, (0, 0)), (6, (0, 3)), (4, (4, 3)), (3, (4, 2)), (2, (4, 1)), (1, (4, 0)), (0, (6, 0))]) (stN := [(0, 2147483647), (0, 0), (4, 0)]) (hsN := jpZ_222) (c1 := 0) (s1 := 0) (c2 := 22000) (by exact rfl) ?_ (by omega) (by decide +kernel)
  refine jU_xaload_n (v := (6, 0)) (pcN := 1724) jIZ_379_1723 rfl rfl rfl ?_
  refine jU_xiload (v := (0, 45)) (pcN := 1726) jIZ_379_1724 rfl rfl rfl ?_
  refine jU_xiconst (k := 3) (pcN := 1727) jIZ_379_1726 rfl ?_
  refine jU_xiadd (x := 45) (y := 3) (z := 48) (pcN := 1728) jIZ_379_1727 rfl (by decide) rfl ?_
  refine jU_adv 1 (pcN := 1729) (LN := [(5, (0, 45)), (7, (0, 0)), (6, (0, 3)), (4, (4, 3)), (3, (4, 2)), (2, (4, 1)), (1, (4, 0)), (0, (6, 0))]) (stN := [(0, 2000), (0, 2147483647), (0, 0), (4, 0)]) (hsN := jpZ_222) (c1 := 0) (s1 := 0) (c2 := 22000) (by exact rfl) ?_ (by omega) (by decide +kernel)
  refine jU_xaload_n (v := (4, 2)) (pcN := 1730) jIZ_379_1729 rfl rfl rfl ?_
  refine jU_fB [0, 2, 4, 5, 6, 7, 8, 9, 10, 11, 12, 13, 14, 30, 31, 33, 32, 34, 35, 36, 37, 38, 45, 47, 46, 48, 49] 149 (y := 358) (pcN := 1733) (e := 0) (c1 := 22000) (dC := 6) (bc1 := 1) (bc2 := 6) (as := [(4, 0), (0, 0), (0, 2147483647), (0, 2000), (4, 2)]) (asC := [(4, 0), (0, 0), (0, 2147483647), (0, 2000), (4, 1)]) (LN := [(5, (0, 45)), (7, (0, 0)), (6, (0, 3)), (4, (4, 3)), (3, (4, 2)), (2, (4, 1)), (1, (4, 0)), (0, (6, 0))]) (stN := []) (hsC := jpZ_158) (hsD := jpZ_149) (v := (0, 3)) (st2 := [(0, 3)]) (hs2 := jpZ_223) (jZ_358_67 (d := 0)) (jst_call (by rfl)) (by rfl) (by decide +kernel) (by rfl) (by rfl) (by omega) (by omega) (by omega) (by decide +kernel) rfl (by decide +kernel) ?_
  refine jU_xistore (v := (0, 3)) (LN := [(6, (0, 3)), (5, (0, 45)), (7, (0, 0)), (4, (4, 3)), (3, (4, 2)), (2, (4, 1)), (1, (4, 0)), (0, (6, 0))]) (pcN := 1735) jIZ_379_1733 rfl rfl rfl rfl ?_
  refine jU_xaload_n (v := (4, 1)) (pcN := 1736) jIZ_379_1735 rfl rfl rfl ?_
  refine jU_xaload_n (v := (6, 0)) (pcN := 1737) jIZ_379_1736 rfl rfl rfl ?_
  refine jU_xiload (v := (0, 45)) (pcN := 1739) jIZ_379_1737 rfl rfl rfl ?_
  refine jU_xiconst (k := 1) (pcN := 1740) jIZ_379_1739 rfl ?_
  refine jU_xiadd (x := 45) (y := 1) (z := 46) (pcN := 1741) jIZ_379_1740 rfl (by decide) rfl ?_
  refine jU_adv 1 (pcN := 1742) (LN := [(6, (0, 3)), (5, (0, 45)), (7, (0, 0)), (4, (4, 3)), (3, (4, 2)), (2, (4, 1)), (1, (4, 0)), (0, (6, 0))]) (stN := [(0, 0), (4, 1)]) (hsN := jpZ_223) (c1 := 0) (s1 := 0) (c2 := 22000) (by exact rfl) ?_ (by omega) (by decide +kernel)
  refine jU_xaload_n (v := (6, 0)) (pcN := 1743) jIZ_379_1742 rfl rfl rfl ?_
  refine jU_xiload (v := (0, 45)) (pcN := 1745) jIZ_379_1743 rfl rfl rfl ?_
  refine jU_xiconst (k := 2) (pcN := 1746) jIZ_379_1745 rfl ?_
  refine jU_xiadd (x := 45) (y := 2) (z := 47) (pcN := 1747) jIZ_379_1746 rfl (by decide) rfl ?_
  refine jU_adv 1 (pcN := 1748) (LN := [(6, (0, 3)), (5, (0, 45)), (7, (0, 0)), (4, (4, 3)), (3, (4, 2)), (2, (4, 1)), (1, (4, 0)), (0, (6, 0))]) (stN := [(0, 2147483647), (0, 0), (4, 1)]) (hsN := jpZ_223) (c1 := 0) (s1 := 0) (c2 := 22000) (by exact rfl) ?_ (by omega) (by decide +kernel)
  refine jU_xaload_n (v := (6, 0)) (pcN := 1749) jIZ_379_1748 rfl rfl rfl ?_
  refine jU_xiload (v := (0, 45)) (pcN := 1751) jIZ_379_1749 rfl rfl rfl ?_
  refine jU_xiconst (k := 3) (pcN := 1752) jIZ_379_1751 rfl ?_
  refine jU_xiadd (x := 45) (y := 3) (z := 48) (pcN := 1753) jIZ_379_1752 rfl (by decide) rfl ?_
  refine jU_adv 1 (pcN := 1754) (LN := [(6, (0, 3)), (5, (0, 45)), (7, (0, 0)), (4, (4, 3)), (3, (4, 2)), (2, (4, 1)), (1, (4, 0)), (0, (6, 0))]) (stN := [(0, 2000), (0, 2147483647), (0, 0), (4, 1)]) (hsN := jpZ_223) (c1 := 0) (s1 := 0) (c2 := 22000) (by exact rfl) ?_ (by omega) (by decide +kernel)
  refine jU_hA [1, 15, 16, 17, 18, 19, 20, 21, 22, 23, 24, 25, 26, 27, 28, 29, 39, 40, 41, 42, 43, 44] 149 (y := 287) (pcN := 1757) (bc := 22000) (c1 := 0) (dC := 8) (as := [(4, 1), (0, 0), (0, 2147483647), (0, 2000)]) (asC := [(4, 0), (0, 0), (0, 2147483647), (0, 2000)]) (LN := [(6, (0, 3)), (5, (0, 45)), (7, (0, 0)), (4, (4, 3)), (3, (4, 2)), (2, (4, 1)), (1, (4, 0)), (0, (6, 0))]) (stN := []) (hsC := jpZ_150) (ex := jpZ_151) (v := (0, 0)) (st2 := [(0, 0)]) (hs2 := jpZ_224) (jW_287_61 (d := 0)) (jst_call (by rfl)) (by rfl) (by decide +kernel) (by rfl) (by rfl) (by omega) (by omega) (by omega) rfl (by decide +kernel) ?_
  refine jU_xistore (v := (0, 0)) (LN := [(7, (0, 0)), (6, (0, 3)), (5, (0, 45)), (4, (4, 3)), (3, (4, 2)), (2, (4, 1)), (1, (4, 0)), (0, (6, 0))]) (pcN := 1759) jIZ_379_1757 rfl rfl rfl rfl ?_
  refine jU_xgoto (pcN := 2407) jIZ_379_1759 rfl ?_
  refine jU_xiinc (x := 45) (z := 50) (LN := [(5, (0, 50)), (7, (0, 0)), (6, (0, 3)), (4, (4, 3)), (3, (4, 2)), (2, (4, 1)), (1, (4, 0)), (0, (6, 0))]) (pcN := 2410) jIZ_379_2407 rfl rfl (by decide) rfl rfl ?_
  refine jU_xgoto (pcN := 28) jIZ_379_2410 rfl ?_
  refine jU_xiload (v := (0, 50)) (pcN := 30) jIZ_379_28 rfl rfl rfl ?_
  refine jU_xaload_n (v := (6, 0)) (pcN := 31) jIZ_379_30 rfl rfl rfl ?_
  refine jU_adv 1 (pcN := 32) (LN := [(5, (0, 50)), (7, (0, 0)), (6, (0, 3)), (4, (4, 3)), (3, (4, 2)), (2, (4, 1)), (1, (4, 0)), (0, (6, 0))]) (stN := [(0, 50), (0, 50)]) (hsN := jpZ_224) (c1 := 0) (s1 := 0) (c2 := 0) (by exact rfl) ?_ (by omega) (by decide +kernel)
  refine jU_xiconst (k := 5) (pcN := 33) jIZ_379_32 rfl ?_
  refine jU_xisub (x := 50) (y := 5) (z := 45) (pcN := 34) jIZ_379_33 rfl (by decide) rfl ?_
  refine jU_xicT (pcN := 2413) jIZ_379_34 rfl (by decide +kernel) rfl ?_
  refine jU_xiconst (k := 1) (pcN := 2414) jIZ_379_2413 rfl ?_
  exact jU_ret rfl (by decide) (by show 50 ≤ 160; decide) ⟨rfl, rfl⟩
