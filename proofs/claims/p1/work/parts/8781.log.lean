theorem jIP_212_0 : jmI (jm 212) 0 = (.bipush 6, 2) := by rfl
def jzP_1 : JC := (14, [(0, 0), (4, 2), (4, 3), (4, 4), (4, 5), (0, 0), (4, 6), (0, 0), (4, 7), (4, 8), (1, 1), (4, 9), (0, 0), (4, 10), (0, 0), (0, 0), (0, 0), (0, 0), (0, 0), (0, 0), (0, 0), (4, 11), (4, 12), (4, 13), (4, 14), (4, 15), (4, 16), (0, 0)], [])
theorem jIP_212_4 : jmI (jm 212) 4 = (.astore 4, 2) := by rfl
theorem jIP_212_6 : jmI (jm 212) 6 = (.aload_n 1, 1) := by rfl
theorem jIP_212_7 : jmI (jm 212) 7 = (.iconst 0, 1) := by rfl
theorem jIP_212_8 : jmI (jm 212) 8 = (.aload 4, 2) := by rfl
theorem jIP_212_10 : jmI (jm 212) 10 = (.iconst 0, 1) := by rfl
theorem jIP_212_11 : jmI (jm 212) 11 = (.bipush 6, 2) := by rfl
theorem jIP_212_16 : jmI (jm 212) 16 = (.aload 4, 2) := by rfl
theorem jIP_212_18 : jmI (jm 212) 18 = (.iconst 0, 1) := by rfl
theorem jIP_212_20 : jmI (jm 212) 20 = (.laload, 1) := by rfl
theorem jIP_212_21 : jmI (jm 212) 21 = (.lload_n 2, 1) := by rfl
theorem jIP_212_22 : jmI (jm 212) 22 = (.lsub, 1) := by rfl
theorem jIP_212_24 : jmI (jm 212) 24 = (.aload_n 0, 1) := by rfl
theorem jIP_212_25 : jmI (jm 212) 25 = (.aload 4, 2) := by rfl
theorem jIP_213_0 : jmI (jm 213) 0 = (.aload_n 1, 1) := by rfl
theorem jIP_200_0 : jmI (jm 200) 0 = (.iconst 0, 1) := by rfl
theorem jIP_200_1 : jmI (jm 200) 1 = (.istore_n 1, 1) := by rfl
theorem jIP_200_2 : jmI (jm 200) 2 = (.iload_n 1, 1) := by rfl
theorem jIP_200_3 : jmI (jm 200) 3 = (.bipush 6, 2) := by rfl
theorem jIP_200_5 : jmI (jm 200) 5 = (.if_icmp .ge 19, 3) := by rfl
theorem jIP_200_8 : jmI (jm 200) 8 = (.aload_n 0, 1) := by rfl
theorem jIP_200_9 : jmI (jm 200) 9 = (.iload_n 1, 1) := by rfl
theorem jIP_200_10 : jmI (jm 200) 10 = (.laload, 1) := by rfl
theorem jIP_200_11 : jmI (jm 200) 11 = (.lconst 0, 1) := by rfl
theorem jIP_200_13 : jmI (jm 200) 13 = (.ifCond .eq 5, 3) := by rfl
theorem jIP_200_16 : jmI (jm 200) 16 = (.iconst 0, 1) := by rfl
theorem jP_200_2 {xs : List Int} {d : Nat} {e0 e1 e2 e3 e4 e5 : Int} (h_e0 : (-4611686018427387903) ≤ e0 ∧ e0 ≤ 4611686018427387903) (h_e1 : (-4611686018427387903) ≤ e1 ∧ e1 ≤ 4611686018427387903) (h_e2 : (-4611686018427387903) ≤ e2 ∧ e2 ≤ 4611686018427387903) (h_e3 : (-4611686018427387903) ≤ e3 ∧ e3 ≤ 4611686018427387903) (h_e4 : (-4611686018427387903) ≤ e4 ∧ e4 ≤ 4611686018427387903) (h_e5 : (-4611686018427387903) ≤ e5 ∧ e5 ≤ 4611686018427387903) (g_0 : 0 ≤ e0 - 1) : jT xs d 200 1 0 [(0, (4, 0))] [] [(101, [], [e0, e1, e2, e3, e4, e5])] 0 0 (fun k v hs' => k = 0 ∧ v = (0, 0) ∧ hs' = [(101, [], [e0, e1, e2, e3, e4, e5])] ++ []) := by
  refine jT_xiconst (k := 0) (pc' := 1) jIP_200_0 rfl ?_
  refine jT_xistore_n (v := (0, 0)) (L' := [(1, (0, 0)), (0, (4, 0))]) (pc' := 2) jIP_200_1 rfl rfl rfl rfl ?_
  refine jT_xiload_n (v := (0, 0)) (pc' := 3) jIP_200_2 rfl rfl rfl ?_
  refine jT_xbipush (k := 6) (pc' := 5) jIP_200_3 (by decide) rfl ?_
  refine jT_xicF (t := 24) (pc' := 8) jIP_200_5 rfl (by decide +kernel) rfl rfl ?_
  refine jT_xaload_n (v := (4, 0)) (pc' := 9) jIP_200_8 rfl rfl rfl ?_
  refine jT_xiload_n (v := (0, 0)) (pc' := 10) jIP_200_9 rfl rfl rfl ?_
  refine jT_lald (x := e0) (a := 0) (j := 0) (fs := []) (X := [e0, e1, e2, e3, e4, e5]) jIP_200_10 rfl rfl rfl rfl ?_
  refine jT_eq (L' := [(1, (0, 0)), (0, (4, 0))]) (st' := [(1, e0)]) (hs' := [(101, [], [e0, e1, e2, e3, e4, e5])]) rfl rfl rfl ?_
  refine jT_xlconst (z := 0) (pc' := 12) jIP_200_11 rfl rfl ?_
  refine jT_lcmp (a := e0) (b := 0) (z := 1) (by rfl) (by rfl) (jwl_idd (by omega) (by omega)) (jwl_idd (by omega) (by omega)) (by rw [decide_eq_true (show (0 : Int) < e0 by omega)]; rfl) ?_
  refine jT_xifF (t := 18) (pc' := 16) jIP_200_13 rfl (by decide +kernel) rfl rfl ?_
  refine jT_xiconst (k := 0) (pc' := 17) jIP_200_16 rfl ?_
  exact jT_ret rfl (by decide) (by show 1 ≤ 1; omega) (by omega) (by omega) ⟨rfl, rfl, rfl⟩
theorem jIP_213_4 : jmI (jm 213) 4 = (.ifCond .eq 7, 3) := by rfl
theorem jIP_213_11 : jmI (jm 213) 11 = (.aload_n 0, 1) := by rfl
theorem jIP_213_12 : jmI (jm 213) 12 = (.aload_n 1, 1) := by rfl
theorem jIP_214_7 : jmI (jm 214) 7 = (.iload_n 3, 1) := by rfl
theorem jIP_214_8 : jmI (jm 214) 8 = (.bipush 6, 2) := by rfl
theorem jIP_214_10 : jmI (jm 214) 10 = (.if_icmp .ge 37, 3) := by rfl
theorem jPl_lg_3_6 {xs : List Int} {d b1 b2 : Nat} {Q : Nat → JV → List JC → Prop} (hd : 1 < d) {a w e0 e1 e2 e3 e4 e5 : Int} (h_e0 : -4611686018427387903 ≤ e0 ∧ e0 ≤ 4611686018427387903) (h_e1 : -4611686018427387903 ≤ e1 ∧ e1 ≤ 4611686018427387903) (h_e2 : -4611686018427387903 ≤ e2 ∧ e2 ≤ 4611686018427387903) (h_e3 : -4611686018427387903 ≤ e3 ∧ e3 ≤ 4611686018427387903) (h_e4 : -4611686018427387903 ≤ e4 ∧ e4 ≤ 4611686018427387903) (h_e5 : -4611686018427387903 ≤ e5 ∧ e5 ≤ 4611686018427387903) (ha : a.natAbs ≤ 6 * 10 ^ 220) (hw : a + (0) = w) (h : jT xs d 214 23 47 [(2, (4, 23))] [] [jzP_1, (101, [], [e0, e1, e2, e3, e4, e5]), jgh, jgh, jgh, jgh, jgh, (130, [], [17, 18, 19, 20, 21, 22]), jgh, jgh, jgh, jgh, jgh, jgh, jgh, jgh, jgh, (100, [], (jenc (jlg 0))), (100, [], (jenc (jlg 1))), (100, [], (jenc (jlg 2))), (100, [], (jenc (jlg 3))), (100, [], (jenc (jlg 4))), (100, [], (jenc (jlg 5))), (100, [], jenc w)] b1 b2 Q) : jT xs d 214 23 7 [(3, (0, 6)), (2, (4, 23)), (0, (4, 0)), (1, (4, 1))] [] [jzP_1, (101, [], [e0, e1, e2, e3, e4, e5]), jgh, jgh, jgh, jgh, jgh, (130, [], [17, 18, 19, 20, 21, 22]), jgh, jgh, jgh, jgh, jgh, jgh, jgh, jgh, jgh, (100, [], (jenc (jlg 0))), (100, [], (jenc (jlg 1))), (100, [], (jenc (jlg 2))), (100, [], (jenc (jlg 3))), (100, [], (jenc (jlg 4))), (100, [], (jenc (jlg 5))), (100, [], jenc a)] (b1 + 0) (b2 + 0) Q := by
  have e : a = w := by omega
  subst e
  refine jT.mono (b1 := b1) (b2 := b2) ?_ (Nat.le_refl _) (by omega) (by omega) (fun _ _ _ z => z)
  refine jT_xiload_n (v := (0, 6)) (pc' := 8) jIP_214_7 rfl rfl rfl ?_
  refine jT_xbipush (k := 6) (pc' := 10) jIP_214_8 (by decide) rfl ?_
  refine jT_xicT (pc' := 47) jIP_214_10 rfl (by decide +kernel) rfl ?_
  refine jT_loc (L' := [(2, (4, 23))]) (by show List.Nodup [2]; decide) (by intro q hq; simp only [List.mem_cons, List.not_mem_nil, or_false] at hq; rcases hq with rfl <;> rfl) ?_
  exact h
theorem jIP_214_13 : jmI (jm 214) 13 = (.aload_n 1, 1) := by rfl
theorem jIP_214_14 : jmI (jm 214) 14 = (.iload_n 3, 1) := by rfl
theorem jIP_214_15 : jmI (jm 214) 15 = (.laload, 1) := by rfl
theorem jIP_214_16 : jmI (jm 214) 16 = (.lconst 0, 1) := by rfl
theorem jIP_214_18 : jmI (jm 214) 18 = (.ifCond .eq 23, 3) := by rfl
theorem jIP_214_21 : jmI (jm 214) 21 = (.aload_n 2, 1) := by rfl
theorem jIP_214_22 : jmI (jm 214) 22 = (.aload_n 1, 1) := by rfl
theorem jIP_214_23 : jmI (jm 214) 23 = (.iload_n 3, 1) := by rfl
theorem jIP_214_24 : jmI (jm 214) 24 = (.laload, 1) := by rfl
theorem jIP_214_28 : jmI (jm 214) 28 = (.aload_n 0, 1) := by rfl
theorem jIP_214_29 : jmI (jm 214) 29 = (.getfield 28, 3) := by rfl
theorem jIP_214_32 : jmI (jm 214) 32 = (.iload_n 3, 1) := by rfl
theorem jIP_214_33 : jmI (jm 214) 33 = (.aaload, 1) := by rfl
theorem jIP_214_40 : jmI (jm 214) 40 = (.astore_n 2, 1) := by rfl
theorem jIP_214_41 : jmI (jm 214) 41 = (.iinc 3 1, 3) := by rfl
theorem jIP_214_44 : jmI (jm 214) 44 = (.goto (-37), 3) := by rfl
theorem jPl_lg_3_5 {xs : List Int} {d b1 b2 : Nat} {Q : Nat → JV → List JC → Prop} (hd : 1 < d) {a w e0 e1 e2 e3 e4 e5 : Int} (h_e0 : -4611686018427387903 ≤ e0 ∧ e0 ≤ 4611686018427387903) (h_e1 : -4611686018427387903 ≤ e1 ∧ e1 ≤ 4611686018427387903) (h_e2 : -4611686018427387903 ≤ e2 ∧ e2 ≤ 4611686018427387903) (h_e3 : -4611686018427387903 ≤ e3 ∧ e3 ≤ 4611686018427387903) (h_e4 : -4611686018427387903 ≤ e4 ∧ e4 ≤ 4611686018427387903) (h_e5 : -4611686018427387903 ≤ e5 ∧ e5 ≤ 4611686018427387903) (ha : a.natAbs ≤ 5 * 10 ^ 220) (hw : a + (e5 * jlg 5) = w) (h : jT xs d 214 23 47 [(2, (4, 23))] [] [jzP_1, (101, [], [e0, e1, e2, e3, e4, e5]), jgh, jgh, jgh, jgh, jgh, (130, [], [17, 18, 19, 20, 21, 22]), jgh, jgh, jgh, jgh, jgh, jgh, jgh, jgh, jgh, (100, [], (jenc (jlg 0))), (100, [], (jenc (jlg 1))), (100, [], (jenc (jlg 2))), (100, [], (jenc (jlg 3))), (100, [], (jenc (jlg 4))), (100, [], (jenc (jlg 5))), (100, [], jenc w)] b1 b2 Q) : jT xs d 214 23 7 [(3, (0, 5)), (2, (4, 23)), (0, (4, 0)), (1, (4, 1))] [] [jzP_1, (101, [], [e0, e1, e2, e3, e4, e5]), jgh, jgh, jgh, jgh, jgh, (130, [], [17, 18, 19, 20, 21, 22]), jgh, jgh, jgh, jgh, jgh, jgh, jgh, jgh, jgh, (100, [], (jenc (jlg 0))), (100, [], (jenc (jlg 1))), (100, [], (jenc (jlg 2))), (100, [], (jenc (jlg 3))), (100, [], (jenc (jlg 4))), (100, [], (jenc (jlg 5))), (100, [], jenc a)] (b1 + 3) (b2 + 168) Q := by
  rcases (show (e5 < 0) ∨ (e5 = 0) ∨ (0 < e5) by omega) with g_0 | g_0 | g_0
  · have hp := jlt_m (k := 5) (e := e5) (by decide) (by omega) (by omega)
    rcases (show (a = 0) ∨ (a ≠ 0) by omega) with ga | ga
    · subst ga
      refine jT_xiload_n (v := (0, 5)) (pc' := 8) jIP_214_7 rfl rfl rfl ?_
      refine jT_xbipush (k := 6) (pc' := 10) jIP_214_8 (by decide) rfl ?_
      refine jT_xicF (t := 47) (pc' := 13) jIP_214_10 rfl (by decide +kernel) rfl rfl ?_
      refine jT_xaload_n (v := (4, 1)) (pc' := 14) jIP_214_13 rfl rfl rfl ?_
      refine jT_xiload_n (v := (0, 5)) (pc' := 15) jIP_214_14 rfl rfl rfl ?_
      refine jT_lald (x := e5) (a := 1) (j := 5) (fs := []) (X := [e0, e1, e2, e3, e4, e5]) jIP_214_15 rfl rfl rfl rfl ?_
      refine jT_eq (L' := [(3, (0, 5)), (2, (4, 23)), (0, (4, 0)), (1, (4, 1))]) (st' := [(1, e5)]) (hs' := [jzP_1, (101, [], [e0, e1, e2, e3, e4, e5]), jgh, jgh, jgh, jgh, jgh, (130, [], [17, 18, 19, 20, 21, 22]), jgh, jgh, jgh, jgh, jgh, jgh, jgh, jgh, jgh, (100, [], (jenc (jlg 0))), (100, [], (jenc (jlg 1))), (100, [], (jenc (jlg 2))), (100, [], (jenc (jlg 3))), (100, [], (jenc (jlg 4))), (100, [], (jenc (jlg 5))), (100, [], (jenc 0))]) rfl rfl rfl ?_
      refine jT_xlconst (z := 0) (pc' := 17) jIP_214_16 rfl rfl ?_
      refine jT_lcmp (a := e5) (b := 0) (z := (-1)) (by rfl) (by rfl) (jwl_idd (by omega) (by omega)) (jwl_idd (by omega) (by omega)) (by rw [decide_eq_false (show ¬ ((0 : Int) < e5) by omega), decide_eq_false (show ¬ ((e5 : Int) = 0) by omega)]; rfl) ?_
      refine jT_xifF (t := 41) (pc' := 21) jIP_214_18 rfl (by decide +kernel) rfl rfl ?_
      refine jT_xaload_n (v := (4, 23)) (pc' := 22) jIP_214_21 rfl rfl rfl ?_
      refine jT_xaload_n (v := (4, 1)) (pc' := 23) jIP_214_22 rfl rfl rfl ?_
      refine jT_xiload_n (v := (0, 5)) (pc' := 24) jIP_214_23 rfl rfl rfl ?_
      refine jT_lald (x := e5) (a := 1) (j := 5) (fs := []) (X := [e0, e1, e2, e3, e4, e5]) jIP_214_24 rfl rfl rfl rfl ?_
      refine jT_eq (L' := [(3, (0, 5)), (2, (4, 23)), (0, (4, 0)), (1, (4, 1))]) (st' := [(1, e5), (4, 23)]) (hs' := [jzP_1, (101, [], [e0, e1, e2, e3, e4, e5]), jgh, jgh, jgh, jgh, jgh, (130, [], [17, 18, 19, 20, 21, 22]), jgh, jgh, jgh, jgh, jgh, jgh, jgh, jgh, jgh, (100, [], (jenc (jlg 0))), (100, [], (jenc (jlg 1))), (100, [], (jenc (jlg 2))), (100, [], (jenc (jlg 3))), (100, [], (jenc (jlg 4))), (100, [], (jenc (jlg 5))), (100, [], (jenc 0))]) rfl rfl rfl ?_
      refine jT_callA [] (y := 178) (pc' := 28) (dC := 1) (bc1 := 1) (bc2 := 56) (c1 := (b1 + 2)) (c2 := (b2 + 112)) (as := [(1, e5)]) (asC := [(1, e5)]) (L' := [(3, (0, 5)), (2, (4, 23)), (0, (4, 0)), (1, (4, 1))]) (st' := [(4, 23)]) (hsC := []) (ex := [(100, [], (jenc e5))]) (v := (4, 0)) (st2 := [(4, 24), (4, 23)]) (hs2 := [jzP_1, (101, [], [e0, e1, e2, e3, e4, e5]), jgh, jgh, jgh, jgh, jgh, (130, [], [17, 18, 19, 20, 21, 22]), jgh, jgh, jgh, jgh, jgh, jgh, jgh, jgh, jgh, (100, [], (jenc (jlg 0))), (100, [], (jenc (jlg 1))), (100, [], (jenc (jlg 2))), (100, [], (jenc (jlg 3))), (100, [], (jenc (jlg 4))), (100, [], (jenc (jlg 5))), (100, [], (jenc 0)), (100, [], (jenc e5))]) (jT_big (d := 0) (v := e5) (by omega) (by omega)) (by rfl) (by rfl) (by rfl) (by rfl) trivial (by rfl) (by rfl) (by omega) (by show 23 ≤ 24; omega) (by omega) (by omega) rfl rfl ?_
      refine jT_xaload_n (v := (4, 0)) (pc' := 29) jIP_214_28 rfl rfl rfl ?_
      refine jT_xgetf (a := 0) (t := 1) (ci := 14) (fi := 8) (c := jzP_1) (v := (4, 7)) (pc' := 32) jIP_214_29 rfl rfl rfl rfl rfl rfl rfl ?_
      refine jT_xiload_n (v := (0, 5)) (pc' := 33) jIP_214_32 rfl rfl rfl ?_
      refine jT_aald (x := 22) (a := 7) (j := 5) (fs := []) (X := [17, 18, 19, 20, 21, 22]) (kd := 130) jIP_214_33 rfl rfl rfl rfl rfl ?_
      refine jT_eq (L' := [(3, (0, 5)), (2, (4, 23)), (0, (4, 0)), (1, (4, 1))]) (st' := [(4, 22), (4, 24), (4, 23)]) (hs' := [jzP_1, (101, [], [e0, e1, e2, e3, e4, e5]), jgh, jgh, jgh, jgh, jgh, (130, [], [17, 18, 19, 20, 21, 22]), jgh, jgh, jgh, jgh, jgh, jgh, jgh, jgh, jgh, (100, [], (jenc (jlg 0))), (100, [], (jenc (jlg 1))), (100, [], (jenc (jlg 2))), (100, [], (jenc (jlg 3))), (100, [], (jenc (jlg 4))), (100, [], (jenc (jlg 5))), (100, [], (jenc 0)), (100, [], (jenc e5))]) rfl rfl rfl ?_
      refine jT_callA [24, 22] (y := 179) (pc' := 37) (dC := 1) (bc1 := 1) (bc2 := 56) (c1 := (b1 + 1)) (c2 := (b2 + 56)) (as := [(4, 24), (4, 22)]) (asC := [(4, 0), (4, 1)]) (L' := [(3, (0, 5)), (2, (4, 23)), (0, (4, 0)), (1, (4, 1))]) (st' := [(4, 23)]) (hsC := [(100, [], (jenc e5)), (100, [], (jenc (jlg 5)))]) (ex := [(100, [], (jenc (e5 * jlg 5)))]) (v := (4, 2)) (st2 := [(4, 25), (4, 23)]) (hs2 := [jzP_1, (101, [], [e0, e1, e2, e3, e4, e5]), jgh, jgh, jgh, jgh, jgh, (130, [], [17, 18, 19, 20, 21, 22]), jgh, jgh, jgh, jgh, jgh, jgh, jgh, jgh, jgh, (100, [], (jenc (jlg 0))), (100, [], (jenc (jlg 1))), (100, [], (jenc (jlg 2))), (100, [], (jenc (jlg 3))), (100, [], (jenc (jlg 4))), (100, [], (jenc (jlg 5))), (100, [], (jenc 0)), (100, [], (jenc e5)), (100, [], (jenc (e5 * jlg 5)))]) (jT_product (d := 0) (a := e5) (b := jlg 5) (jb54 (by omega) (by omega)) hp.1) (by rfl) (by rfl) (by rfl) (by rfl) ⟨rfl, rfl, trivial⟩ (by rfl) (by rfl) (by omega) (by show 23 ≤ 25; omega) (by omega) (by omega) rfl rfl ?_
      refine jT_callA [23, 25] (y := 181) (pc' := 40) (dC := 0) (bc1 := 0) (bc2 := 0) (c1 := (b1 + 1)) (c2 := (b2 + 56)) (as := [(4, 23), (4, 25)]) (asC := [(4, 0), (4, 1)]) (L' := [(3, (0, 5)), (2, (4, 23)), (0, (4, 0)), (1, (4, 1))]) (st' := []) (hsC := [(100, [], (jenc 0)), (100, [], (jenc (e5 * jlg 5)))]) (ex := []) (v := (4, 1)) (st2 := [(4, 25)]) (hs2 := [jzP_1, (101, [], [e0, e1, e2, e3, e4, e5]), jgh, jgh, jgh, jgh, jgh, (130, [], [17, 18, 19, 20, 21, 22]), jgh, jgh, jgh, jgh, jgh, jgh, jgh, jgh, jgh, (100, [], (jenc (jlg 0))), (100, [], (jenc (jlg 1))), (100, [], (jenc (jlg 2))), (100, [], (jenc (jlg 3))), (100, [], (jenc (jlg 4))), (100, [], (jenc (jlg 5))), (100, [], (jenc 0)), (100, [], (jenc e5)), (100, [], (jenc (e5 * jlg 5)))]) (jT_added_0l (d := 0) (b := e5 * jlg 5)) (by rfl) (by rfl) (by rfl) (by rfl) ⟨rfl, rfl, trivial⟩ (by rfl) (by rfl) (by omega) (by show 23 ≤ 26; omega) (by omega) (by omega) rfl rfl ?_
      refine jT_xastore_n (v := (4, 25)) (L' := [(2, (4, 25)), (3, (0, 5)), (0, (4, 0)), (1, (4, 1))]) (pc' := 41) jIP_214_40 rfl rfl rfl rfl ?_
      refine jT_xiinc (x := 5) (z := 6) (L' := [(3, (0, 6)), (2, (4, 25)), (0, (4, 0)), (1, (4, 1))]) (pc' := 44) jIP_214_41 rfl rfl (by decide) rfl rfl ?_
      refine jT_xgoto (pc' := 7) jIP_214_44 rfl ?_
      refine jT_loc (L' := [(3, (0, 6)), (2, (4, 25)), (0, (4, 0)), (1, (4, 1))]) (by show List.Nodup [3, 2, 0, 1]; decide) (by intro q hq; simp only [List.mem_cons, List.not_mem_nil, or_false] at hq; rcases hq with rfl | rfl | rfl | rfl <;> rfl) ?_
      refine jT_gc [0, 1, 2, 3, 4, 5, 6, 7, 8, 9, 10, 11, 12, 13, 14, 15, 16, 17, 18, 19, 20, 21, 22, 25] (hs0 := [jzP_1, (101, [], [e0, e1, e2, e3, e4, e5]), jgh, jgh, jgh, jgh, jgh, (130, [], [17, 18, 19, 20, 21, 22]), jgh, jgh, jgh, jgh, jgh, jgh, jgh, jgh, jgh, (100, [], (jenc (jlg 0))), (100, [], (jenc (jlg 1))), (100, [], (jenc (jlg 2))), (100, [], (jenc (jlg 3))), (100, [], (jenc (jlg 4))), (100, [], (jenc (jlg 5))), (100, [], jenc (e5 * jlg 5))]) (L0 := [(3, (0, 6)), (2, (4, 23)), (0, (4, 0)), (1, (4, 1))]) (st0 := []) (by decide) rfl ⟨rfl, rfl, rfl, rfl, rfl, rfl, rfl, rfl, rfl, rfl, rfl, rfl, rfl, rfl, rfl, rfl, rfl, rfl, rfl, rfl, rfl, rfl, rfl, rfl, trivial⟩ rfl rfl (by decide) ?_
      exact jT.mono (jPl_lg_3_6 hd h_e0 h_e1 h_e2 h_e3 h_e4 h_e5 (Nat.le_trans hp.2.2 (by decide)) (by rw [Int.zero_add] at hw; omega) h) (Nat.le_refl _) (by omega) (by omega) (fun _ _ _ z => z)
    · refine jT_xiload_n (v := (0, 5)) (pc' := 8) jIP_214_7 rfl rfl rfl ?_
      refine jT_xbipush (k := 6) (pc' := 10) jIP_214_8 (by decide) rfl ?_
      refine jT_xicF (t := 47) (pc' := 13) jIP_214_10 rfl (by decide +kernel) rfl rfl ?_
      refine jT_xaload_n (v := (4, 1)) (pc' := 14) jIP_214_13 rfl rfl rfl ?_
      refine jT_xiload_n (v := (0, 5)) (pc' := 15) jIP_214_14 rfl rfl rfl ?_
      refine jT_lald (x := e5) (a := 1) (j := 5) (fs := []) (X := [e0, e1, e2, e3, e4, e5]) jIP_214_15 rfl rfl rfl rfl ?_
      refine jT_eq (L' := [(3, (0, 5)), (2, (4, 23)), (0, (4, 0)), (1, (4, 1))]) (st' := [(1, e5)]) (hs' := [jzP_1, (101, [], [e0, e1, e2, e3, e4, e5]), jgh, jgh, jgh, jgh, jgh, (130, [], [17, 18, 19, 20, 21, 22]), jgh, jgh, jgh, jgh, jgh, jgh, jgh, jgh, jgh, (100, [], (jenc (jlg 0))), (100, [], (jenc (jlg 1))), (100, [], (jenc (jlg 2))), (100, [], (jenc (jlg 3))), (100, [], (jenc (jlg 4))), (100, [], (jenc (jlg 5))), (100, [], (jenc a))]) rfl rfl rfl ?_
      refine jT_xlconst (z := 0) (pc' := 17) jIP_214_16 rfl rfl ?_
      refine jT_lcmp (a := e5) (b := 0) (z := (-1)) (by rfl) (by rfl) (jwl_idd (by omega) (by omega)) (jwl_idd (by omega) (by omega)) (by rw [decide_eq_false (show ¬ ((0 : Int) < e5) by omega), decide_eq_false (show ¬ ((e5 : Int) = 0) by omega)]; rfl) ?_
      refine jT_xifF (t := 41) (pc' := 21) jIP_214_18 rfl (by decide +kernel) rfl rfl ?_
      refine jT_xaload_n (v := (4, 23)) (pc' := 22) jIP_214_21 rfl rfl rfl ?_
      refine jT_xaload_n (v := (4, 1)) (pc' := 23) jIP_214_22 rfl rfl rfl ?_
      refine jT_xiload_n (v := (0, 5)) (pc' := 24) jIP_214_23 rfl rfl rfl ?_
      refine jT_lald (x := e5) (a := 1) (j := 5) (fs := []) (X := [e0, e1, e2, e3, e4, e5]) jIP_214_24 rfl rfl rfl rfl ?_
      refine jT_eq (L' := [(3, (0, 5)), (2, (4, 23)), (0, (4, 0)), (1, (4, 1))]) (st' := [(1, e5), (4, 23)]) (hs' := [jzP_1, (101, [], [e0, e1, e2, e3, e4, e5]), jgh, jgh, jgh, jgh, jgh, (130, [], [17, 18, 19, 20, 21, 22]), jgh, jgh, jgh, jgh, jgh, jgh, jgh, jgh, jgh, (100, [], (jenc (jlg 0))), (100, [], (jenc (jlg 1))), (100, [], (jenc (jlg 2))), (100, [], (jenc (jlg 3))), (100, [], (jenc (jlg 4))), (100, [], (jenc (jlg 5))), (100, [], (jenc a))]) rfl rfl rfl ?_
      refine jT_callA [] (y := 178) (pc' := 28) (dC := 1) (bc1 := 1) (bc2 := 56) (c1 := (b1 + 2)) (c2 := (b2 + 112)) (as := [(1, e5)]) (asC := [(1, e5)]) (L' := [(3, (0, 5)), (2, (4, 23)), (0, (4, 0)), (1, (4, 1))]) (st' := [(4, 23)]) (hsC := []) (ex := [(100, [], (jenc e5))]) (v := (4, 0)) (st2 := [(4, 24), (4, 23)]) (hs2 := [jzP_1, (101, [], [e0, e1, e2, e3, e4, e5]), jgh, jgh, jgh, jgh, jgh, (130, [], [17, 18, 19, 20, 21, 22]), jgh, jgh, jgh, jgh, jgh, jgh, jgh, jgh, jgh, (100, [], (jenc (jlg 0))), (100, [], (jenc (jlg 1))), (100, [], (jenc (jlg 2))), (100, [], (jenc (jlg 3))), (100, [], (jenc (jlg 4))), (100, [], (jenc (jlg 5))), (100, [], (jenc a)), (100, [], (jenc e5))]) (jT_big (d := 0) (v := e5) (by omega) (by omega)) (by rfl) (by rfl) (by rfl) (by rfl) trivial (by rfl) (by rfl) (by omega) (by show 23 ≤ 24; omega) (by omega) (by omega) rfl rfl ?_
      refine jT_xaload_n (v := (4, 0)) (pc' := 29) jIP_214_28 rfl rfl rfl ?_
      refine jT_xgetf (a := 0) (t := 1) (ci := 14) (fi := 8) (c := jzP_1) (v := (4, 7)) (pc' := 32) jIP_214_29 rfl rfl rfl rfl rfl rfl rfl ?_
      refine jT_xiload_n (v := (0, 5)) (pc' := 33) jIP_214_32 rfl rfl rfl ?_
      refine jT_aald (x := 22) (a := 7) (j := 5) (fs := []) (X := [17, 18, 19, 20, 21, 22]) (kd := 130) jIP_214_33 rfl rfl rfl rfl rfl ?_
      refine jT_eq (L' := [(3, (0, 5)), (2, (4, 23)), (0, (4, 0)), (1, (4, 1))]) (st' := [(4, 22), (4, 24), (4, 23)]) (hs' := [jzP_1, (101, [], [e0, e1, e2, e3, e4, e5]), jgh, jgh, jgh, jgh, jgh, (130, [], [17, 18, 19, 20, 21, 22]), jgh, jgh, jgh, jgh, jgh, jgh, jgh, jgh, jgh, (100, [], (jenc (jlg 0))), (100, [], (jenc (jlg 1))), (100, [], (jenc (jlg 2))), (100, [], (jenc (jlg 3))), (100, [], (jenc (jlg 4))), (100, [], (jenc (jlg 5))), (100, [], (jenc a)), (100, [], (jenc e5))]) rfl rfl rfl ?_
      refine jT_callA [24, 22] (y := 179) (pc' := 37) (dC := 1) (bc1 := 1) (bc2 := 56) (c1 := (b1 + 1)) (c2 := (b2 + 56)) (as := [(4, 24), (4, 22)]) (asC := [(4, 0), (4, 1)]) (L' := [(3, (0, 5)), (2, (4, 23)), (0, (4, 0)), (1, (4, 1))]) (st' := [(4, 23)]) (hsC := [(100, [], (jenc e5)), (100, [], (jenc (jlg 5)))]) (ex := [(100, [], (jenc (e5 * jlg 5)))]) (v := (4, 2)) (st2 := [(4, 25), (4, 23)]) (hs2 := [jzP_1, (101, [], [e0, e1, e2, e3, e4, e5]), jgh, jgh, jgh, jgh, jgh, (130, [], [17, 18, 19, 20, 21, 22]), jgh, jgh, jgh, jgh, jgh, jgh, jgh, jgh, jgh, (100, [], (jenc (jlg 0))), (100, [], (jenc (jlg 1))), (100, [], (jenc (jlg 2))), (100, [], (jenc (jlg 3))), (100, [], (jenc (jlg 4))), (100, [], (jenc (jlg 5))), (100, [], (jenc a)), (100, [], (jenc e5)), (100, [], (jenc (e5 * jlg 5)))]) (jT_product (d := 0) (a := e5) (b := jlg 5) (jb54 (by omega) (by omega)) hp.1) (by rfl) (by rfl) (by rfl) (by rfl) ⟨rfl, rfl, trivial⟩ (by rfl) (by rfl) (by omega) (by show 23 ≤ 25; omega) (by omega) (by omega) rfl rfl ?_
      refine jT_callA [23, 25] (y := 181) (pc' := 40) (dC := 1) (bc1 := 1) (bc2 := 56) (c1 := (b1 + 0)) (c2 := (b2 + 0)) (as := [(4, 23), (4, 25)]) (asC := [(4, 0), (4, 1)]) (L' := [(3, (0, 5)), (2, (4, 23)), (0, (4, 0)), (1, (4, 1))]) (st' := []) (hsC := [(100, [], (jenc a)), (100, [], (jenc (e5 * jlg 5)))]) (ex := [(100, [], (jenc (a + (e5 * jlg 5))))]) (v := (4, 2)) (st2 := [(4, 26)]) (hs2 := [jzP_1, (101, [], [e0, e1, e2, e3, e4, e5]), jgh, jgh, jgh, jgh, jgh, (130, [], [17, 18, 19, 20, 21, 22]), jgh, jgh, jgh, jgh, jgh, jgh, jgh, jgh, jgh, (100, [], (jenc (jlg 0))), (100, [], (jenc (jlg 1))), (100, [], (jenc (jlg 2))), (100, [], (jenc (jlg 3))), (100, [], (jenc (jlg 4))), (100, [], (jenc (jlg 5))), (100, [], (jenc a)), (100, [], (jenc e5)), (100, [], (jenc (e5 * jlg 5))), (100, [], (jenc (a + (e5 * jlg 5))))]) (jT_added (d := 0) (a := a) (b := e5 * jlg 5) ga hp.2.1 (jb54k ha (by decide)) hp.1 (jb54a ha hp.2.2 (by decide))) (by rfl) (by rfl) (by rfl) (by rfl) ⟨rfl, rfl, trivial⟩ (by rfl) (by rfl) (by omega) (by show 23 ≤ 26; omega) (by omega) (by omega) rfl rfl ?_
      refine jT_xastore_n (v := (4, 26)) (L' := [(2, (4, 26)), (3, (0, 5)), (0, (4, 0)), (1, (4, 1))]) (pc' := 41) jIP_214_40 rfl rfl rfl rfl ?_
      refine jT_xiinc (x := 5) (z := 6) (L' := [(3, (0, 6)), (2, (4, 26)), (0, (4, 0)), (1, (4, 1))]) (pc' := 44) jIP_214_41 rfl rfl (by decide) rfl rfl ?_
      refine jT_xgoto (pc' := 7) jIP_214_44 rfl ?_
      refine jT_loc (L' := [(3, (0, 6)), (2, (4, 26)), (0, (4, 0)), (1, (4, 1))]) (by show List.Nodup [3, 2, 0, 1]; decide) (by intro q hq; simp only [List.mem_cons, List.not_mem_nil, or_false] at hq; rcases hq with rfl | rfl | rfl | rfl <;> rfl) ?_
      refine jT_gc [0, 1, 2, 3, 4, 5, 6, 7, 8, 9, 10, 11, 12, 13, 14, 15, 16, 17, 18, 19, 20, 21, 22, 26] (hs0 := [jzP_1, (101, [], [e0, e1, e2, e3, e4, e5]), jgh, jgh, jgh, jgh, jgh, (130, [], [17, 18, 19, 20, 21, 22]), jgh, jgh, jgh, jgh, jgh, jgh, jgh, jgh, jgh, (100, [], (jenc (jlg 0))), (100, [], (jenc (jlg 1))), (100, [], (jenc (jlg 2))), (100, [], (jenc (jlg 3))), (100, [], (jenc (jlg 4))), (100, [], (jenc (jlg 5))), (100, [], jenc (a + (e5 * jlg 5)))]) (L0 := [(3, (0, 6)), (2, (4, 23)), (0, (4, 0)), (1, (4, 1))]) (st0 := []) (by decide) rfl ⟨rfl, rfl, rfl, rfl, rfl, rfl, rfl, rfl, rfl, rfl, rfl, rfl, rfl, rfl, rfl, rfl, rfl, rfl, rfl, rfl, rfl, rfl, rfl, rfl, trivial⟩ rfl rfl (by decide) ?_
      exact jT.mono (jPl_lg_3_6 hd h_e0 h_e1 h_e2 h_e3 h_e4 h_e5 (jb1c ha hp.2.2 (by decide)) (by omega) h) (Nat.le_refl _) (by omega) (by omega) (fun _ _ _ z => z)
  · refine jT_xiload_n (v := (0, 5)) (pc' := 8) jIP_214_7 rfl rfl rfl ?_
    refine jT_xbipush (k := 6) (pc' := 10) jIP_214_8 (by decide) rfl ?_
    refine jT_xicF (t := 47) (pc' := 13) jIP_214_10 rfl (by decide +kernel) rfl rfl ?_
    refine jT_xaload_n (v := (4, 1)) (pc' := 14) jIP_214_13 rfl rfl rfl ?_
    refine jT_xiload_n (v := (0, 5)) (pc' := 15) jIP_214_14 rfl rfl rfl ?_
    refine jT_lald (x := e5) (a := 1) (j := 5) (fs := []) (X := [e0, e1, e2, e3, e4, e5]) jIP_214_15 rfl rfl rfl rfl ?_
    refine jT_eq (L' := [(3, (0, 5)), (2, (4, 23)), (0, (4, 0)), (1, (4, 1))]) (st' := [(1, e5)]) (hs' := [jzP_1, (101, [], [e0, e1, e2, e3, e4, e5]), jgh, jgh, jgh, jgh, jgh, (130, [], [17, 18, 19, 20, 21, 22]), jgh, jgh, jgh, jgh, jgh, jgh, jgh, jgh, jgh, (100, [], (jenc (jlg 0))), (100, [], (jenc (jlg 1))), (100, [], (jenc (jlg 2))), (100, [], (jenc (jlg 3))), (100, [], (jenc (jlg 4))), (100, [], (jenc (jlg 5))), (100, [], (jenc a))]) rfl rfl rfl ?_
    refine jT_xlconst (z := 0) (pc' := 17) jIP_214_16 rfl rfl ?_
    refine jT_lcmp (a := e5) (b := 0) (z := 0) (by rfl) (by rfl) (jwl_idd (by omega) (by omega)) (jwl_idd (by omega) (by omega)) (by rw [decide_eq_false (show ¬ ((0 : Int) < e5) by omega), decide_eq_true (show (e5 : Int) = 0 by omega)]; rfl) ?_
    refine jT_xifT (pc' := 41) jIP_214_18 rfl (by decide +kernel) rfl ?_
    refine jT_xiinc (x := 5) (z := 6) (L' := [(3, (0, 6)), (2, (4, 23)), (0, (4, 0)), (1, (4, 1))]) (pc' := 44) jIP_214_41 rfl rfl (by decide) rfl rfl ?_
    refine jT_xgoto (pc' := 7) jIP_214_44 rfl ?_
    refine jT_loc (L' := [(3, (0, 6)), (2, (4, 23)), (0, (4, 0)), (1, (4, 1))]) (by show List.Nodup [3, 2, 0, 1]; decide) (by intro q hq; simp only [List.mem_cons, List.not_mem_nil, or_false] at hq; rcases hq with rfl | rfl | rfl | rfl <;> rfl) ?_
    exact jT.mono (jPl_lg_3_6 hd h_e0 h_e1 h_e2 h_e3 h_e4 h_e5 (by omega) (by rw [g_0, Int.zero_mul] at hw; omega) h) (Nat.le_refl _) (by omega) (by omega) (fun _ _ _ z => z)
  · have hp := jlt_m (k := 5) (e := e5) (by decide) (by omega) (by omega)
    rcases (show (a = 0) ∨ (a ≠ 0) by omega) with ga | ga
    · subst ga
      refine jT_xiload_n (v := (0, 5)) (pc' := 8) jIP_214_7 rfl rfl rfl ?_
      refine jT_xbipush (k := 6) (pc' := 10) jIP_214_8 (by decide) rfl ?_
      refine jT_xicF (t := 47) (pc' := 13) jIP_214_10 rfl (by decide +kernel) rfl rfl ?_
      refine jT_xaload_n (v := (4, 1)) (pc' := 14) jIP_214_13 rfl rfl rfl ?_
      refine jT_xiload_n (v := (0, 5)) (pc' := 15) jIP_214_14 rfl rfl rfl ?_
      refine jT_lald (x := e5) (a := 1) (j := 5) (fs := []) (X := [e0, e1, e2, e3, e4, e5]) jIP_214_15 rfl rfl rfl rfl ?_
      refine jT_eq (L' := [(3, (0, 5)), (2, (4, 23)), (0, (4, 0)), (1, (4, 1))]) (st' := [(1, e5)]) (hs' := [jzP_1, (101, [], [e0, e1, e2, e3, e4, e5]), jgh, jgh, jgh, jgh, jgh, (130, [], [17, 18, 19, 20, 21, 22]), jgh, jgh, jgh, jgh, jgh, jgh, jgh, jgh, jgh, (100, [], (jenc (jlg 0))), (100, [], (jenc (jlg 1))), (100, [], (jenc (jlg 2))), (100, [], (jenc (jlg 3))), (100, [], (jenc (jlg 4))), (100, [], (jenc (jlg 5))), (100, [], (jenc 0))]) rfl rfl rfl ?_
      refine jT_xlconst (z := 0) (pc' := 17) jIP_214_16 rfl rfl ?_
      refine jT_lcmp (a := e5) (b := 0) (z := 1) (by rfl) (by rfl) (jwl_idd (by omega) (by omega)) (jwl_idd (by omega) (by omega)) (by rw [decide_eq_true (show (0 : Int) < e5 by omega)]; rfl) ?_
      refine jT_xifF (t := 41) (pc' := 21) jIP_214_18 rfl (by decide +kernel) rfl rfl ?_
      refine jT_xaload_n (v := (4, 23)) (pc' := 22) jIP_214_21 rfl rfl rfl ?_
      refine jT_xaload_n (v := (4, 1)) (pc' := 23) jIP_214_22 rfl rfl rfl ?_
      refine jT_xiload_n (v := (0, 5)) (pc' := 24) jIP_214_23 rfl rfl rfl ?_
      refine jT_lald (x := e5) (a := 1) (j := 5) (fs := []) (X := [e0, e1, e2, e3, e4, e5]) jIP_214_24 rfl rfl rfl rfl ?_
      refine jT_eq (L' := [(3, (0, 5)), (2, (4, 23)), (0, (4, 0)), (1, (4, 1))]) (st' := [(1, e5), (4, 23)]) (hs' := [jzP_1, (101, [], [e0, e1, e2, e3, e4, e5]), jgh, jgh, jgh, jgh, jgh, (130, [], [17, 18, 19, 20, 21, 22]), jgh, jgh, jgh, jgh, jgh, jgh, jgh, jgh, jgh, (100, [], (jenc (jlg 0))), (100, [], (jenc (jlg 1))), (100, [], (jenc (jlg 2))), (100, [], (jenc (jlg 3))), (100, [], (jenc (jlg 4))), (100, [], (jenc (jlg 5))), (100, [], (jenc 0))]) rfl rfl rfl ?_
      refine jT_callA [] (y := 178) (pc' := 28) (dC := 1) (bc1 := 1) (bc2 := 56) (c1 := (b1 + 2)) (c2 := (b2 + 112)) (as := [(1, e5)]) (asC := [(1, e5)]) (L' := [(3, (0, 5)), (2, (4, 23)), (0, (4, 0)), (1, (4, 1))]) (st' := [(4, 23)]) (hsC := []) (ex := [(100, [], (jenc e5))]) (v := (4, 0)) (st2 := [(4, 24), (4, 23)]) (hs2 := [jzP_1, (101, [], [e0, e1, e2, e3, e4, e5]), jgh, jgh, jgh, jgh, jgh, (130, [], [17, 18, 19, 20, 21, 22]), jgh, jgh, jgh, jgh, jgh, jgh, jgh, jgh, jgh, (100, [], (jenc (jlg 0))), (100, [], (jenc (jlg 1))), (100, [], (jenc (jlg 2))), (100, [], (jenc (jlg 3))), (100, [], (jenc (jlg 4))), (100, [], (jenc (jlg 5))), (100, [], (jenc 0)), (100, [], (jenc e5))]) (jT_big (d := 0) (v := e5) (by omega) (by omega)) (by rfl) (by rfl) (by rfl) (by rfl) trivial (by rfl) (by rfl) (by omega) (by show 23 ≤ 24; omega) (by omega) (by omega) rfl rfl ?_
      refine jT_xaload_n (v := (4, 0)) (pc' := 29) jIP_214_28 rfl rfl rfl ?_
      refine jT_xgetf (a := 0) (t := 1) (ci := 14) (fi := 8) (c := jzP_1) (v := (4, 7)) (pc' := 32) jIP_214_29 rfl rfl rfl rfl rfl rfl rfl ?_
      refine jT_xiload_n (v := (0, 5)) (pc' := 33) jIP_214_32 rfl rfl rfl ?_
      refine jT_aald (x := 22) (a := 7) (j := 5) (fs := []) (X := [17, 18, 19, 20, 21, 22]) (kd := 130) jIP_214_33 rfl rfl rfl rfl rfl ?_
      refine jT_eq (L' := [(3, (0, 5)), (2, (4, 23)), (0, (4, 0)), (1, (4, 1))]) (st' := [(4, 22), (4, 24), (4, 23)]) (hs' := [jzP_1, (101, [], [e0, e1, e2, e3, e4, e5]), jgh, jgh, jgh, jgh, jgh, (130, [], [17, 18, 19, 20, 21, 22]), jgh, jgh, jgh, jgh, jgh, jgh, jgh, jgh, jgh, (100, [], (jenc (jlg 0))), (100, [], (jenc (jlg 1))), (100, [], (jenc (jlg 2))), (100, [], (jenc (jlg 3))), (100, [], (jenc (jlg 4))), (100, [], (jenc (jlg 5))), (100, [], (jenc 0)), (100, [], (jenc e5))]) rfl rfl rfl ?_
      refine jT_callA [24, 22] (y := 179) (pc' := 37) (dC := 1) (bc1 := 1) (bc2 := 56) (c1 := (b1 + 1)) (c2 := (b2 + 56)) (as := [(4, 24), (4, 22)]) (asC := [(4, 0), (4, 1)]) (L' := [(3, (0, 5)), (2, (4, 23)), (0, (4, 0)), (1, (4, 1))]) (st' := [(4, 23)]) (hsC := [(100, [], (jenc e5)), (100, [], (jenc (jlg 5)))]) (ex := [(100, [], (jenc (e5 * jlg 5)))]) (v := (4, 2)) (st2 := [(4, 25), (4, 23)]) (hs2 := [jzP_1, (101, [], [e0, e1, e2, e3, e4, e5]), jgh, jgh, jgh, jgh, jgh, (130, [], [17, 18, 19, 20, 21, 22]), jgh, jgh, jgh, jgh, jgh, jgh, jgh, jgh, jgh, (100, [], (jenc (jlg 0))), (100, [], (jenc (jlg 1))), (100, [], (jenc (jlg 2))), (100, [], (jenc (jlg 3))), (100, [], (jenc (jlg 4))), (100, [], (jenc (jlg 5))), (100, [], (jenc 0)), (100, [], (jenc e5)), (100, [], (jenc (e5 * jlg 5)))]) (jT_product (d := 0) (a := e5) (b := jlg 5) (jb54 (by omega) (by omega)) hp.1) (by rfl) (by rfl) (by rfl) (by rfl) ⟨rfl, rfl, trivial⟩ (by rfl) (by rfl) (by omega) (by show 23 ≤ 25; omega) (by omega) (by omega) rfl rfl ?_
      refine jT_callA [23, 25] (y := 181) (pc' := 40) (dC := 0) (bc1 := 0) (bc2 := 0) (c1 := (b1 + 1)) (c2 := (b2 + 56)) (as := [(4, 23), (4, 25)]) (asC := [(4, 0), (4, 1)]) (L' := [(3, (0, 5)), (2, (4, 23)), (0, (4, 0)), (1, (4, 1))]) (st' := []) (hsC := [(100, [], (jenc 0)), (100, [], (jenc (e5 * jlg 5)))]) (ex := []) (v := (4, 1)) (st2 := [(4, 25)]) (hs2 := [jzP_1, (101, [], [e0, e1, e2, e3, e4, e5]), jgh, jgh, jgh, jgh, jgh, (130, [], [17, 18, 19, 20, 21, 22]), jgh, jgh, jgh, jgh, jgh, jgh, jgh, jgh, jgh, (100, [], (jenc (jlg 0))), (100, [], (jenc (jlg 1))), (100, [], (jenc (jlg 2))), (100, [], (jenc (jlg 3))), (100, [], (jenc (jlg 4))), (100, [], (jenc (jlg 5))), (100, [], (jenc 0)), (100, [], (jenc e5)), (100, [], (jenc (e5 * jlg 5)))]) (jT_added_0l (d := 0) (b := e5 * jlg 5)) (by rfl) (by rfl) (by rfl) (by rfl) ⟨rfl, rfl, trivial⟩ (by rfl) (by rfl) (by omega) (by show 23 ≤ 26; omega) (by omega) (by omega) rfl rfl ?_
      refine jT_xastore_n (v := (4, 25)) (L' := [(2, (4, 25)), (3, (0, 5)), (0, (4, 0)), (1, (4, 1))]) (pc' := 41) jIP_214_40 rfl rfl rfl rfl ?_
      refine jT_xiinc (x := 5) (z := 6) (L' := [(3, (0, 6)), (2, (4, 25)), (0, (4, 0)), (1, (4, 1))]) (pc' := 44) jIP_214_41 rfl rfl (by decide) rfl rfl ?_
      refine jT_xgoto (pc' := 7) jIP_214_44 rfl ?_
      refine jT_loc (L' := [(3, (0, 6)), (2, (4, 25)), (0, (4, 0)), (1, (4, 1))]) (by show List.Nodup [3, 2, 0, 1]; decide) (by intro q hq; simp only [List.mem_cons, List.not_mem_nil, or_false] at hq; rcases hq with rfl | rfl | rfl | rfl <;> rfl) ?_
      refine jT_gc [0, 1, 2, 3, 4, 5, 6, 7, 8, 9, 10, 11, 12, 13, 14, 15, 16, 17, 18, 19, 20, 21, 22, 25] (hs0 := [jzP_1, (101, [], [e0, e1, e2, e3, e4, e5]), jgh, jgh, jgh, jgh, jgh, (130, [], [17, 18, 19, 20, 21, 22]), jgh, jgh, jgh, jgh, jgh, jgh, jgh, jgh, jgh, (100, [], (jenc (jlg 0))), (100, [], (jenc (jlg 1))), (100, [], (jenc (jlg 2))), (100, [], (jenc (jlg 3))), (100, [], (jenc (jlg 4))), (100, [], (jenc (jlg 5))), (100, [], jenc (e5 * jlg 5))]) (L0 := [(3, (0, 6)), (2, (4, 23)), (0, (4, 0)), (1, (4, 1))]) (st0 := []) (by decide) rfl ⟨rfl, rfl, rfl, rfl, rfl, rfl, rfl, rfl, rfl, rfl, rfl, rfl, rfl, rfl, rfl, rfl, rfl, rfl, rfl, rfl, rfl, rfl, rfl, rfl, trivial⟩ rfl rfl (by decide) ?_
      exact jT.mono (jPl_lg_3_6 hd h_e0 h_e1 h_e2 h_e3 h_e4 h_e5 (Nat.le_trans hp.2.2 (by decide)) (by rw [Int.zero_add] at hw; omega) h) (Nat.le_refl _) (by omega) (by omega) (fun _ _ _ z => z)
    · refine jT_xiload_n (v := (0, 5)) (pc' := 8) jIP_214_7 rfl rfl rfl ?_
      refine jT_xbipush (k := 6) (pc' := 10) jIP_214_8 (by decide) rfl ?_
      refine jT_xicF (t := 47) (pc' := 13) jIP_214_10 rfl (by decide +kernel) rfl rfl ?_
      refine jT_xaload_n (v := (4, 1)) (pc' := 14) jIP_214_13 rfl rfl rfl ?_
      refine jT_xiload_n (v := (0, 5)) (pc' := 15) jIP_214_14 rfl rfl rfl ?_
      refine jT_lald (x := e5) (a := 1) (j := 5) (fs := []) (X := [e0, e1, e2, e3, e4, e5]) jIP_214_15 rfl rfl rfl rfl ?_
      refine jT_eq (L' := [(3, (0, 5)), (2, (4, 23)), (0, (4, 0)), (1, (4, 1))]) (st' := [(1, e5)]) (hs' := [jzP_1, (101, [], [e0, e1, e2, e3, e4, e5]), jgh, jgh, jgh, jgh, jgh, (130, [], [17, 18, 19, 20, 21, 22]), jgh, jgh, jgh, jgh, jgh, jgh, jgh, jgh, jgh, (100, [], (jenc (jlg 0))), (100, [], (jenc (jlg 1))), (100, [], (jenc (jlg 2))), (100, [], (jenc (jlg 3))), (100, [], (jenc (jlg 4))), (100, [], (jenc (jlg 5))), (100, [], (jenc a))]) rfl rfl rfl ?_
      refine jT_xlconst (z := 0) (pc' := 17) jIP_214_16 rfl rfl ?_
      refine jT_lcmp (a := e5) (b := 0) (z := 1) (by rfl) (by rfl) (jwl_idd (by omega) (by omega)) (jwl_idd (by omega) (by omega)) (by rw [decide_eq_true (show (0 : Int) < e5 by omega)]; rfl) ?_
      refine jT_xifF (t := 41) (pc' := 21) jIP_214_18 rfl (by decide +kernel) rfl rfl ?_
      refine jT_xaload_n (v := (4, 23)) (pc' := 22) jIP_214_21 rfl rfl rfl ?_
      refine jT_xaload_n (v := (4, 1)) (pc' := 23) jIP_214_22 rfl rfl rfl ?_
      refine jT_xiload_n (v := (0, 5)) (pc' := 24) jIP_214_23 rfl rfl rfl ?_
      refine jT_lald (x := e5) (a := 1) (j := 5) (fs := []) (X := [e0, e1, e2, e3, e4, e5]) jIP_214_24 rfl rfl rfl rfl ?_
      refine jT_eq (L' := [(3, (0, 5)), (2, (4, 23)), (0, (4, 0)), (1, (4, 1))]) (st' := [(1, e5), (4, 23)]) (hs' := [jzP_1, (101, [], [e0, e1, e2, e3, e4, e5]), jgh, jgh, jgh, jgh, jgh, (130, [], [17, 18, 19, 20, 21, 22]), jgh, jgh, jgh, jgh, jgh, jgh, jgh, jgh, jgh, (100, [], (jenc (jlg 0))), (100, [], (jenc (jlg 1))), (100, [], (jenc (jlg 2))), (100, [], (jenc (jlg 3))), (100, [], (jenc (jlg 4))), (100, [], (jenc (jlg 5))), (100, [], (jenc a))]) rfl rfl rfl ?_
      refine jT_callA [] (y := 178) (pc' := 28) (dC := 1) (bc1 := 1) (bc2 := 56) (c1 := (b1 + 2)) (c2 := (b2 + 112)) (as := [(1, e5)]) (asC := [(1, e5)]) (L' := [(3, (0, 5)), (2, (4, 23)), (0, (4, 0)), (1, (4, 1))]) (st' := [(4, 23)]) (hsC := []) (ex := [(100, [], (jenc e5))]) (v := (4, 0)) (st2 := [(4, 24), (4, 23)]) (hs2 := [jzP_1, (101, [], [e0, e1, e2, e3, e4, e5]), jgh, jgh, jgh, jgh, jgh, (130, [], [17, 18, 19, 20, 21, 22]), jgh, jgh, jgh, jgh, jgh, jgh, jgh, jgh, jgh, (100, [], (jenc (jlg 0))), (100, [], (jenc (jlg 1))), (100, [], (jenc (jlg 2))), (100, [], (jenc (jlg 3))), (100, [], (jenc (jlg 4))), (100, [], (jenc (jlg 5))), (100, [], (jenc a)), (100, [], (jenc e5))]) (jT_big (d := 0) (v := e5) (by omega) (by omega)) (by rfl) (by rfl) (by rfl) (by rfl) trivial (by rfl) (by rfl) (by omega) (by show 23 ≤ 24; omega) (by omega) (by omega) rfl rfl ?_
      refine jT_xaload_n (v := (4, 0)) (pc' := 29) jIP_214_28 rfl rfl rfl ?_
      refine jT_xgetf (a := 0) (t := 1) (ci := 14) (fi := 8) (c := jzP_1) (v := (4, 7)) (pc' := 32) jIP_214_29 rfl rfl rfl rfl rfl rfl rfl ?_
      refine jT_xiload_n (v := (0, 5)) (pc' := 33) jIP_214_32 rfl rfl rfl ?_
      refine jT_aald (x := 22) (a := 7) (j := 5) (fs := []) (X := [17, 18, 19, 20, 21, 22]) (kd := 130) jIP_214_33 rfl rfl rfl rfl rfl ?_
      refine jT_eq (L' := [(3, (0, 5)), (2, (4, 23)), (0, (4, 0)), (1, (4, 1))]) (st' := [(4, 22), (4, 24), (4, 23)]) (hs' := [jzP_1, (101, [], [e0, e1, e2, e3, e4, e5]), jgh, jgh, jgh, jgh, jgh, (130, [], [17, 18, 19, 20, 21, 22]), jgh, jgh, jgh, jgh, jgh, jgh, jgh, jgh, jgh, (100, [], (jenc (jlg 0))), (100, [], (jenc (jlg 1))), (100, [], (jenc (jlg 2))), (100, [], (jenc (jlg 3))), (100, [], (jenc (jlg 4))), (100, [], (jenc (jlg 5))), (100, [], (jenc a)), (100, [], (jenc e5))]) rfl rfl rfl ?_
      refine jT_callA [24, 22] (y := 179) (pc' := 37) (dC := 1) (bc1 := 1) (bc2 := 56) (c1 := (b1 + 1)) (c2 := (b2 + 56)) (as := [(4, 24), (4, 22)]) (asC := [(4, 0), (4, 1)]) (L' := [(3, (0, 5)), (2, (4, 23)), (0, (4, 0)), (1, (4, 1))]) (st' := [(4, 23)]) (hsC := [(100, [], (jenc e5)), (100, [], (jenc (jlg 5)))]) (ex := [(100, [], (jenc (e5 * jlg 5)))]) (v := (4, 2)) (st2 := [(4, 25), (4, 23)]) (hs2 := [jzP_1, (101, [], [e0, e1, e2, e3, e4, e5]), jgh, jgh, jgh, jgh, jgh, (130, [], [17, 18, 19, 20, 21, 22]), jgh, jgh, jgh, jgh, jgh, jgh, jgh, jgh, jgh, (100, [], (jenc (jlg 0))), (100, [], (jenc (jlg 1))), (100, [], (jenc (jlg 2))), (100, [], (jenc (jlg 3))), (100, [], (jenc (jlg 4))), (100, [], (jenc (jlg 5))), (100, [], (jenc a)), (100, [], (jenc e5)), (100, [], (jenc (e5 * jlg 5)))]) (jT_product (d := 0) (a := e5) (b := jlg 5) (jb54 (by omega) (by omega)) hp.1) (by rfl) (by rfl) (by rfl) (by rfl) ⟨rfl, rfl, trivial⟩ (by rfl) (by rfl) (by omega) (by show 23 ≤ 25; omega) (by omega) (by omega) rfl rfl ?_
      refine jT_callA [23, 25] (y := 181) (pc' := 40) (dC := 1) (bc1 := 1) (bc2 := 56) (c1 := (b1 + 0)) (c2 := (b2 + 0)) (as := [(4, 23), (4, 25)]) (asC := [(4, 0), (4, 1)]) (L' := [(3, (0, 5)), (2, (4, 23)), (0, (4, 0)), (1, (4, 1))]) (st' := []) (hsC := [(100, [], (jenc a)), (100, [], (jenc (e5 * jlg 5)))]) (ex := [(100, [], (jenc (a + (e5 * jlg 5))))]) (v := (4, 2)) (st2 := [(4, 26)]) (hs2 := [jzP_1, (101, [], [e0, e1, e2, e3, e4, e5]), jgh, jgh, jgh, jgh, jgh, (130, [], [17, 18, 19, 20, 21, 22]), jgh, jgh, jgh, jgh, jgh, jgh, jgh, jgh, jgh, (100, [], (jenc (jlg 0))), (100, [], (jenc (jlg 1))), (100, [], (jenc (jlg 2))), (100, [], (jenc (jlg 3))), (100, [], (jenc (jlg 4))), (100, [], (jenc (jlg 5))), (100, [], (jenc a)), (100, [], (jenc e5)), (100, [], (jenc (e5 * jlg 5))), (100, [], (jenc (a + (e5 * jlg 5))))]) (jT_added (d := 0) (a := a) (b := e5 * jlg 5) ga hp.2.1 (jb54k ha (by decide)) hp.1 (jb54a ha hp.2.2 (by decide))) (by rfl) (by rfl) (by rfl) (by rfl) ⟨rfl, rfl, trivial⟩ (by rfl) (by rfl) (by omega) (by show 23 ≤ 26; omega) (by omega) (by omega) rfl rfl ?_
      refine jT_xastore_n (v := (4, 26)) (L' := [(2, (4, 26)), (3, (0, 5)), (0, (4, 0)), (1, (4, 1))]) (pc' := 41) jIP_214_40 rfl rfl rfl rfl ?_
      refine jT_xiinc (x := 5) (z := 6) (L' := [(3, (0, 6)), (2, (4, 26)), (0, (4, 0)), (1, (4, 1))]) (pc' := 44) jIP_214_41 rfl rfl (by decide) rfl rfl ?_
      refine jT_xgoto (pc' := 7) jIP_214_44 rfl ?_
      refine jT_loc (L' := [(3, (0, 6)), (2, (4, 26)), (0, (4, 0)), (1, (4, 1))]) (by show List.Nodup [3, 2, 0, 1]; decide) (by intro q hq; simp only [List.mem_cons, List.not_mem_nil, or_false] at hq; rcases hq with rfl | rfl | rfl | rfl <;> rfl) ?_
      refine jT_gc [0, 1, 2, 3, 4, 5, 6, 7, 8, 9, 10, 11, 12, 13, 14, 15, 16, 17, 18, 19, 20, 21, 22, 26] (hs0 := [jzP_1, (101, [], [e0, e1, e2, e3, e4, e5]), jgh, jgh, jgh, jgh, jgh, (130, [], [17, 18, 19, 20, 21, 22]), jgh, jgh, jgh, jgh, jgh, jgh, jgh, jgh, jgh, (100, [], (jenc (jlg 0))), (100, [], (jenc (jlg 1))), (100, [], (jenc (jlg 2))), (100, [], (jenc (jlg 3))), (100, [], (jenc (jlg 4))), (100, [], (jenc (jlg 5))), (100, [], jenc (a + (e5 * jlg 5)))]) (L0 := [(3, (0, 6)), (2, (4, 23)), (0, (4, 0)), (1, (4, 1))]) (st0 := []) (by decide) rfl ⟨rfl, rfl, rfl, rfl, rfl, rfl, rfl, rfl, rfl, rfl, rfl, rfl, rfl, rfl, rfl, rfl, rfl, rfl, rfl, rfl, rfl, rfl, rfl, rfl, trivial⟩ rfl rfl (by decide) ?_
      exact jT.mono (jPl_lg_3_6 hd h_e0 h_e1 h_e2 h_e3 h_e4 h_e5 (jb1c ha hp.2.2 (by decide)) (by omega) h) (Nat.le_refl _) (by omega) (by omega) (fun _ _ _ z => z)
theorem jPl_lg_3_4 {xs : List Int} {d b1 b2 : Nat} {Q : Nat → JV → List JC → Prop} (hd : 1 < d) {a w e0 e1 e2 e3 e4 e5 : Int} (h_e0 : -4611686018427387903 ≤ e0 ∧ e0 ≤ 4611686018427387903) (h_e1 : -4611686018427387903 ≤ e1 ∧ e1 ≤ 4611686018427387903) (h_e2 : -4611686018427387903 ≤ e2 ∧ e2 ≤ 4611686018427387903) (h_e3 : -4611686018427387903 ≤ e3 ∧ e3 ≤ 4611686018427387903) (h_e4 : -4611686018427387903 ≤ e4 ∧ e4 ≤ 4611686018427387903) (h_e5 : -4611686018427387903 ≤ e5 ∧ e5 ≤ 4611686018427387903) (ha : a.natAbs ≤ 4 * 10 ^ 220) (hw : a + (e4 * jlg 4 + (e5 * jlg 5)) = w) (h : jT xs d 214 23 47 [(2, (4, 23))] [] [jzP_1, (101, [], [e0, e1, e2, e3, e4, e5]), jgh, jgh, jgh, jgh, jgh, (130, [], [17, 18, 19, 20, 21, 22]), jgh, jgh, jgh, jgh, jgh, jgh, jgh, jgh, jgh, (100, [], (jenc (jlg 0))), (100, [], (jenc (jlg 1))), (100, [], (jenc (jlg 2))), (100, [], (jenc (jlg 3))), (100, [], (jenc (jlg 4))), (100, [], (jenc (jlg 5))), (100, [], jenc w)] b1 b2 Q) : jT xs d 214 23 7 [(3, (0, 4)), (2, (4, 23)), (0, (4, 0)), (1, (4, 1))] [] [jzP_1, (101, [], [e0, e1, e2, e3, e4, e5]), jgh, jgh, jgh, jgh, jgh, (130, [], [17, 18, 19, 20, 21, 22]), jgh, jgh, jgh, jgh, jgh, jgh, jgh, jgh, jgh, (100, [], (jenc (jlg 0))), (100, [], (jenc (jlg 1))), (100, [], (jenc (jlg 2))), (100, [], (jenc (jlg 3))), (100, [], (jenc (jlg 4))), (100, [], (jenc (jlg 5))), (100, [], jenc a)] (b1 + 6) (b2 + 336) Q := by
  rcases (show (e4 < 0) ∨ (e4 = 0) ∨ (0 < e4) by omega) with g_0 | g_0 | g_0
  · have hp := jlt_m (k := 4) (e := e4) (by decide) (by omega) (by omega)
    rcases (show (a = 0) ∨ (a ≠ 0) by omega) with ga | ga
    · subst ga
      refine jT_xiload_n (v := (0, 4)) (pc' := 8) jIP_214_7 rfl rfl rfl ?_
      refine jT_xbipush (k := 6) (pc' := 10) jIP_214_8 (by decide) rfl ?_
      refine jT_xicF (t := 47) (pc' := 13) jIP_214_10 rfl (by decide +kernel) rfl rfl ?_
      refine jT_xaload_n (v := (4, 1)) (pc' := 14) jIP_214_13 rfl rfl rfl ?_
      refine jT_xiload_n (v := (0, 4)) (pc' := 15) jIP_214_14 rfl rfl rfl ?_
      refine jT_lald (x := e4) (a := 1) (j := 4) (fs := []) (X := [e0, e1, e2, e3, e4, e5]) jIP_214_15 rfl rfl rfl rfl ?_
      refine jT_eq (L' := [(3, (0, 4)), (2, (4, 23)), (0, (4, 0)), (1, (4, 1))]) (st' := [(1, e4)]) (hs' := [jzP_1, (101, [], [e0, e1, e2, e3, e4, e5]), jgh, jgh, jgh, jgh, jgh, (130, [], [17, 18, 19, 20, 21, 22]), jgh, jgh, jgh, jgh, jgh, jgh, jgh, jgh, jgh, (100, [], (jenc (jlg 0))), (100, [], (jenc (jlg 1))), (100, [], (jenc (jlg 2))), (100, [], (jenc (jlg 3))), (100, [], (jenc (jlg 4))), (100, [], (jenc (jlg 5))), (100, [], (jenc 0))]) rfl rfl rfl ?_
      refine jT_xlconst (z := 0) (pc' := 17) jIP_214_16 rfl rfl ?_
      refine jT_lcmp (a := e4) (b := 0) (z := (-1)) (by rfl) (by rfl) (jwl_idd (by omega) (by omega)) (jwl_idd (by omega) (by omega)) (by rw [decide_eq_false (show ¬ ((0 : Int) < e4) by omega), decide_eq_false (show ¬ ((e4 : Int) = 0) by omega)]; rfl) ?_
      refine jT_xifF (t := 41) (pc' := 21) jIP_214_18 rfl (by decide +kernel) rfl rfl ?_
      refine jT_xaload_n (v := (4, 23)) (pc' := 22) jIP_214_21 rfl rfl rfl ?_
      refine jT_xaload_n (v := (4, 1)) (pc' := 23) jIP_214_22 rfl rfl rfl ?_
      refine jT_xiload_n (v := (0, 4)) (pc' := 24) jIP_214_23 rfl rfl rfl ?_
      refine jT_lald (x := e4) (a := 1) (j := 4) (fs := []) (X := [e0, e1, e2, e3, e4, e5]) jIP_214_24 rfl rfl rfl rfl ?_
      refine jT_eq (L' := [(3, (0, 4)), (2, (4, 23)), (0, (4, 0)), (1, (4, 1))]) (st' := [(1, e4), (4, 23)]) (hs' := [jzP_1, (101, [], [e0, e1, e2, e3, e4, e5]), jgh, jgh, jgh, jgh, jgh, (130, [], [17, 18, 19, 20, 21, 22]), jgh, jgh, jgh, jgh, jgh, jgh, jgh, jgh, jgh, (100, [], (jenc (jlg 0))), (100, [], (jenc (jlg 1))), (100, [], (jenc (jlg 2))), (100, [], (jenc (jlg 3))), (100, [], (jenc (jlg 4))), (100, [], (jenc (jlg 5))), (100, [], (jenc 0))]) rfl rfl rfl ?_
      refine jT_callA [] (y := 178) (pc' := 28) (dC := 1) (bc1 := 1) (bc2 := 56) (c1 := (b1 + 5)) (c2 := (b2 + 280)) (as := [(1, e4)]) (asC := [(1, e4)]) (L' := [(3, (0, 4)), (2, (4, 23)), (0, (4, 0)), (1, (4, 1))]) (st' := [(4, 23)]) (hsC := []) (ex := [(100, [], (jenc e4))]) (v := (4, 0)) (st2 := [(4, 24), (4, 23)]) (hs2 := [jzP_1, (101, [], [e0, e1, e2, e3, e4, e5]), jgh, jgh, jgh, jgh, jgh, (130, [], [17, 18, 19, 20, 21, 22]), jgh, jgh, jgh, jgh, jgh, jgh, jgh, jgh, jgh, (100, [], (jenc (jlg 0))), (100, [], (jenc (jlg 1))), (100, [], (jenc (jlg 2))), (100, [], (jenc (jlg 3))), (100, [], (jenc (jlg 4))), (100, [], (jenc (jlg 5))), (100, [], (jenc 0)), (100, [], (jenc e4))]) (jT_big (d := 0) (v := e4) (by omega) (by omega)) (by rfl) (by rfl) (by rfl) (by rfl) trivial (by rfl) (by rfl) (by omega) (by show 23 ≤ 24; omega) (by omega) (by omega) rfl rfl ?_
      refine jT_xaload_n (v := (4, 0)) (pc' := 29) jIP_214_28 rfl rfl rfl ?_
      refine jT_xgetf (a := 0) (t := 1) (ci := 14) (fi := 8) (c := jzP_1) (v := (4, 7)) (pc' := 32) jIP_214_29 rfl rfl rfl rfl rfl rfl rfl ?_
      refine jT_xiload_n (v := (0, 4)) (pc' := 33) jIP_214_32 rfl rfl rfl ?_
      refine jT_aald (x := 21) (a := 7) (j := 4) (fs := []) (X := [17, 18, 19, 20, 21, 22]) (kd := 130) jIP_214_33 rfl rfl rfl rfl rfl ?_
      refine jT_eq (L' := [(3, (0, 4)), (2, (4, 23)), (0, (4, 0)), (1, (4, 1))]) (st' := [(4, 21), (4, 24), (4, 23)]) (hs' := [jzP_1, (101, [], [e0, e1, e2, e3, e4, e5]), jgh, jgh, jgh, jgh, jgh, (130, [], [17, 18, 19, 20, 21, 22]), jgh, jgh, jgh, jgh, jgh, jgh, jgh, jgh, jgh, (100, [], (jenc (jlg 0))), (100, [], (jenc (jlg 1))), (100, [], (jenc (jlg 2))), (100, [], (jenc (jlg 3))), (100, [], (jenc (jlg 4))), (100, [], (jenc (jlg 5))), (100, [], (jenc 0)), (100, [], (jenc e4))]) rfl rfl rfl ?_
      refine jT_callA [24, 21] (y := 179) (pc' := 37) (dC := 1) (bc1 := 1) (bc2 := 56) (c1 := (b1 + 4)) (c2 := (b2 + 224)) (as := [(4, 24), (4, 21)]) (asC := [(4, 0), (4, 1)]) (L' := [(3, (0, 4)), (2, (4, 23)), (0, (4, 0)), (1, (4, 1))]) (st' := [(4, 23)]) (hsC := [(100, [], (jenc e4)), (100, [], (jenc (jlg 4)))]) (ex := [(100, [], (jenc (e4 * jlg 4)))]) (v := (4, 2)) (st2 := [(4, 25), (4, 23)]) (hs2 := [jzP_1, (101, [], [e0, e1, e2, e3, e4, e5]), jgh, jgh, jgh, jgh, jgh, (130, [], [17, 18, 19, 20, 21, 22]), jgh, jgh, jgh, jgh, jgh, jgh, jgh, jgh, jgh, (100, [], (jenc (jlg 0))), (100, [], (jenc (jlg 1))), (100, [], (jenc (jlg 2))), (100, [], (jenc (jlg 3))), (100, [], (jenc (jlg 4))), (100, [], (jenc (jlg 5))), (100, [], (jenc 0)), (100, [], (jenc e4)), (100, [], (jenc (e4 * jlg 4)))]) (jT_product (d := 0) (a := e4) (b := jlg 4) (jb54 (by omega) (by omega)) hp.1) (by rfl) (by rfl) (by rfl) (by rfl) ⟨rfl, rfl, trivial⟩ (by rfl) (by rfl) (by omega) (by show 23 ≤ 25; omega) (by omega) (by omega) rfl rfl ?_
      refine jT_callA [23, 25] (y := 181) (pc' := 40) (dC := 0) (bc1 := 0) (bc2 := 0) (c1 := (b1 + 4)) (c2 := (b2 + 224)) (as := [(4, 23), (4, 25)]) (asC := [(4, 0), (4, 1)]) (L' := [(3, (0, 4)), (2, (4, 23)), (0, (4, 0)), (1, (4, 1))]) (st' := []) (hsC := [(100, [], (jenc 0)), (100, [], (jenc (e4 * jlg 4)))]) (ex := []) (v := (4, 1)) (st2 := [(4, 25)]) (hs2 := [jzP_1, (101, [], [e0, e1, e2, e3, e4, e5]), jgh, jgh, jgh, jgh, jgh, (130, [], [17, 18, 19, 20, 21, 22]), jgh, jgh, jgh, jgh, jgh, jgh, jgh, jgh, jgh, (100, [], (jenc (jlg 0))), (100, [], (jenc (jlg 1))), (100, [], (jenc (jlg 2))), (100, [], (jenc (jlg 3))), (100, [], (jenc (jlg 4))), (100, [], (jenc (jlg 5))), (100, [], (jenc 0)), (100, [], (jenc e4)), (100, [], (jenc (e4 * jlg 4)))]) (jT_added_0l (d := 0) (b := e4 * jlg 4)) (by rfl) (by rfl) (by rfl) (by rfl) ⟨rfl, rfl, trivial⟩ (by rfl) (by rfl) (by omega) (by show 23 ≤ 26; omega) (by omega) (by omega) rfl rfl ?_
      refine jT_xastore_n (v := (4, 25)) (L' := [(2, (4, 25)), (3, (0, 4)), (0, (4, 0)), (1, (4, 1))]) (pc' := 41) jIP_214_40 rfl rfl rfl rfl ?_
      refine jT_xiinc (x := 4) (z := 5) (L' := [(3, (0, 5)), (2, (4, 25)), (0, (4, 0)), (1, (4, 1))]) (pc' := 44) jIP_214_41 rfl rfl (by decide) rfl rfl ?_
      refine jT_xgoto (pc' := 7) jIP_214_44 rfl ?_
      refine jT_loc (L' := [(3, (0, 5)), (2, (4, 25)), (0, (4, 0)), (1, (4, 1))]) (by show List.Nodup [3, 2, 0, 1]; decide) (by intro q hq; simp only [List.mem_cons, List.not_mem_nil, or_false] at hq; rcases hq with rfl | rfl | rfl | rfl <;> rfl) ?_
      refine jT_gc [0, 1, 2, 3, 4, 5, 6, 7, 8, 9, 10, 11, 12, 13, 14, 15, 16, 17, 18, 19, 20, 21, 22, 25] (hs0 := [jzP_1, (101, [], [e0, e1, e2, e3, e4, e5]), jgh, jgh, jgh, jgh, jgh, (130, [], [17, 18, 19, 20, 21, 22]), jgh, jgh, jgh, jgh, jgh, jgh, jgh, jgh, jgh, (100, [], (jenc (jlg 0))), (100, [], (jenc (jlg 1))), (100, [], (jenc (jlg 2))), (100, [], (jenc (jlg 3))), (100, [], (jenc (jlg 4))), (100, [], (jenc (jlg 5))), (100, [], jenc (e4 * jlg 4))]) (L0 := [(3, (0, 5)), (2, (4, 23)), (0, (4, 0)), (1, (4, 1))]) (st0 := []) (by decide) rfl ⟨rfl, rfl, rfl, rfl, rfl, rfl, rfl, rfl, rfl, rfl, rfl, rfl, rfl, rfl, rfl, rfl, rfl, rfl, rfl, rfl, rfl, rfl, rfl, rfl, trivial⟩ rfl rfl (by decide) ?_
      exact jT.mono (jPl_lg_3_5 hd h_e0 h_e1 h_e2 h_e3 h_e4 h_e5 (Nat.le_trans hp.2.2 (by decide)) (by rw [Int.zero_add] at hw; exact hw) h) (Nat.le_refl _) (by omega) (by omega) (fun _ _ _ z => z)
    · refine jT_xiload_n (v := (0, 4)) (pc' := 8) jIP_214_7 rfl rfl rfl ?_
      refine jT_xbipush (k := 6) (pc' := 10) jIP_214_8 (by decide) rfl ?_
      refine jT_xicF (t := 47) (pc' := 13) jIP_214_10 rfl (by decide +kernel) rfl rfl ?_
      refine jT_xaload_n (v := (4, 1)) (pc' := 14) jIP_214_13 rfl rfl rfl ?_
      refine jT_xiload_n (v := (0, 4)) (pc' := 15) jIP_214_14 rfl rfl rfl ?_
      refine jT_lald (x := e4) (a := 1) (j := 4) (fs := []) (X := [e0, e1, e2, e3, e4, e5]) jIP_214_15 rfl rfl rfl rfl ?_
      refine jT_eq (L' := [(3, (0, 4)), (2, (4, 23)), (0, (4, 0)), (1, (4, 1))]) (st' := [(1, e4)]) (hs' := [jzP_1, (101, [], [e0, e1, e2, e3, e4, e5]), jgh, jgh, jgh, jgh, jgh, (130, [], [17, 18, 19, 20, 21, 22]), jgh, jgh, jgh, jgh, jgh, jgh, jgh, jgh, jgh, (100, [], (jenc (jlg 0))), (100, [], (jenc (jlg 1))), (100, [], (jenc (jlg 2))), (100, [], (jenc (jlg 3))), (100, [], (jenc (jlg 4))), (100, [], (jenc (jlg 5))), (100, [], (jenc a))]) rfl rfl rfl ?_
      refine jT_xlconst (z := 0) (pc' := 17) jIP_214_16 rfl rfl ?_
      refine jT_lcmp (a := e4) (b := 0) (z := (-1)) (by rfl) (by rfl) (jwl_idd (by omega) (by omega)) (jwl_idd (by omega) (by omega)) (by rw [decide_eq_false (show ¬ ((0 : Int) < e4) by omega), decide_eq_false (show ¬ ((e4 : Int) = 0) by omega)]; rfl) ?_
      refine jT_xifF (t := 41) (pc' := 21) jIP_214_18 rfl (by decide +kernel) rfl rfl ?_
      refine jT_xaload_n (v := (4, 23)) (pc' := 22) jIP_214_21 rfl rfl rfl ?_
      refine jT_xaload_n (v := (4, 1)) (pc' := 23) jIP_214_22 rfl rfl rfl ?_
      refine jT_xiload_n (v := (0, 4)) (pc' := 24) jIP_214_23 rfl rfl rfl ?_
      refine jT_lald (x := e4) (a := 1) (j := 4) (fs := []) (X := [e0, e1, e2, e3, e4, e5]) jIP_214_24 rfl rfl rfl rfl ?_
      refine jT_eq (L' := [(3, (0, 4)), (2, (4, 23)), (0, (4, 0)), (1, (4, 1))]) (st' := [(1, e4), (4, 23)]) (hs' := [jzP_1, (101, [], [e0, e1, e2, e3, e4, e5]), jgh, jgh, jgh, jgh, jgh, (130, [], [17, 18, 19, 20, 21, 22]), jgh, jgh, jgh, jgh, jgh, jgh, jgh, jgh, jgh, (100, [], (jenc (jlg 0))), (100, [], (jenc (jlg 1))), (100, [], (jenc (jlg 2))), (100, [], (jenc (jlg 3))), (100, [], (jenc (jlg 4))), (100, [], (jenc (jlg 5))), (100, [], (jenc a))]) rfl rfl rfl ?_
      refine jT_callA [] (y := 178) (pc' := 28) (dC := 1) (bc1 := 1) (bc2 := 56) (c1 := (b1 + 5)) (c2 := (b2 + 280)) (as := [(1, e4)]) (asC := [(1, e4)]) (L' := [(3, (0, 4)), (2, (4, 23)), (0, (4, 0)), (1, (4, 1))]) (st' := [(4, 23)]) (hsC := []) (ex := [(100, [], (jenc e4))]) (v := (4, 0)) (st2 := [(4, 24), (4, 23)]) (hs2 := [jzP_1, (101, [], [e0, e1, e2, e3, e4, e5]), jgh, jgh, jgh, jgh, jgh, (130, [], [17, 18, 19, 20, 21, 22]), jgh, jgh, jgh, jgh, jgh, jgh, jgh, jgh, jgh, (100, [], (jenc (jlg 0))), (100, [], (jenc (jlg 1))), (100, [], (jenc (jlg 2))), (100, [], (jenc (jlg 3))), (100, [], (jenc (jlg 4))), (100, [], (jenc (jlg 5))), (100, [], (jenc a)), (100, [], (jenc e4))]) (jT_big (d := 0) (v := e4) (by omega) (by omega)) (by rfl) (by rfl) (by rfl) (by rfl) trivial (by rfl) (by rfl) (by omega) (by show 23 ≤ 24; omega) (by omega) (by omega) rfl rfl ?_
      refine jT_xaload_n (v := (4, 0)) (pc' := 29) jIP_214_28 rfl rfl rfl ?_
      refine jT_xgetf (a := 0) (t := 1) (ci := 14) (fi := 8) (c := jzP_1) (v := (4, 7)) (pc' := 32) jIP_214_29 rfl rfl rfl rfl rfl rfl rfl ?_
      refine jT_xiload_n (v := (0, 4)) (pc' := 33) jIP_214_32 rfl rfl rfl ?_
      refine jT_aald (x := 21) (a := 7) (j := 4) (fs := []) (X := [17, 18, 19, 20, 21, 22]) (kd := 130) jIP_214_33 rfl rfl rfl rfl rfl ?_
      refine jT_eq (L' := [(3, (0, 4)), (2, (4, 23)), (0, (4, 0)), (1, (4, 1))]) (st' := [(4, 21), (4, 24), (4, 23)]) (hs' := [jzP_1, (101, [], [e0, e1, e2, e3, e4, e5]), jgh, jgh, jgh, jgh, jgh, (130, [], [17, 18, 19, 20, 21, 22]), jgh, jgh, jgh, jgh, jgh, jgh, jgh, jgh, jgh, (100, [], (jenc (jlg 0))), (100, [], (jenc (jlg 1))), (100, [], (jenc (jlg 2))), (100, [], (jenc (jlg 3))), (100, [], (jenc (jlg 4))), (100, [], (jenc (jlg 5))), (100, [], (jenc a)), (100, [], (jenc e4))]) rfl rfl rfl ?_
      refine jT_callA [24, 21] (y := 179) (pc' := 37) (dC := 1) (bc1 := 1) (bc2 := 56) (c1 := (b1 + 4)) (c2 := (b2 + 224)) (as := [(4, 24), (4, 21)]) (asC := [(4, 0), (4, 1)]) (L' := [(3, (0, 4)), (2, (4, 23)), (0, (4, 0)), (1, (4, 1))]) (st' := [(4, 23)]) (hsC := [(100, [], (jenc e4)), (100, [], (jenc (jlg 4)))]) (ex := [(100, [], (jenc (e4 * jlg 4)))]) (v := (4, 2)) (st2 := [(4, 25), (4, 23)]) (hs2 := [jzP_1, (101, [], [e0, e1, e2, e3, e4, e5]), jgh, jgh, jgh, jgh, jgh, (130, [], [17, 18, 19, 20, 21, 22]), jgh, jgh, jgh, jgh, jgh, jgh, jgh, jgh, jgh, (100, [], (jenc (jlg 0))), (100, [], (jenc (jlg 1))), (100, [], (jenc (jlg 2))), (100, [], (jenc (jlg 3))), (100, [], (jenc (jlg 4))), (100, [], (jenc (jlg 5))), (100, [], (jenc a)), (100, [], (jenc e4)), (100, [], (jenc (e4 * jlg 4)))]) (jT_product (d := 0) (a := e4) (b := jlg 4) (jb54 (by omega) (by omega)) hp.1) (by rfl) (by rfl) (by rfl) (by rfl) ⟨rfl, rfl, trivial⟩ (by rfl) (by rfl) (by omega) (by show 23 ≤ 25; omega) (by omega) (by omega) rfl rfl ?_
      refine jT_callA [23, 25] (y := 181) (pc' := 40) (dC := 1) (bc1 := 1) (bc2 := 56) (c1 := (b1 + 3)) (c2 := (b2 + 168)) (as := [(4, 23), (4, 25)]) (asC := [(4, 0), (4, 1)]) (L' := [(3, (0, 4)), (2, (4, 23)), (0, (4, 0)), (1, (4, 1))]) (st' := []) (hsC := [(100, [], (jenc a)), (100, [], (jenc (e4 * jlg 4)))]) (ex := [(100, [], (jenc (a + (e4 * jlg 4))))]) (v := (4, 2)) (st2 := [(4, 26)]) (hs2 := [jzP_1, (101, [], [e0, e1, e2, e3, e4, e5]), jgh, jgh, jgh, jgh, jgh, (130, [], [17, 18, 19, 20, 21, 22]), jgh, jgh, jgh, jgh, jgh, jgh, jgh, jgh, jgh, (100, [], (jenc (jlg 0))), (100, [], (jenc (jlg 1))), (100, [], (jenc (jlg 2))), (100, [], (jenc (jlg 3))), (100, [], (jenc (jlg 4))), (100, [], (jenc (jlg 5))), (100, [], (jenc a)), (100, [], (jenc e4)), (100, [], (jenc (e4 * jlg 4))), (100, [], (jenc (a + (e4 * jlg 4))))]) (jT_added (d := 0) (a := a) (b := e4 * jlg 4) ga hp.2.1 (jb54k ha (by decide)) hp.1 (jb54a ha hp.2.2 (by decide))) (by rfl) (by rfl) (by rfl) (by rfl) ⟨rfl, rfl, trivial⟩ (by rfl) (by rfl) (by omega) (by show 23 ≤ 26; omega) (by omega) (by omega) rfl rfl ?_
      refine jT_xastore_n (v := (4, 26)) (L' := [(2, (4, 26)), (3, (0, 4)), (0, (4, 0)), (1, (4, 1))]) (pc' := 41) jIP_214_40 rfl rfl rfl rfl ?_
      refine jT_xiinc (x := 4) (z := 5) (L' := [(3, (0, 5)), (2, (4, 26)), (0, (4, 0)), (1, (4, 1))]) (pc' := 44) jIP_214_41 rfl rfl (by decide) rfl rfl ?_
      refine jT_xgoto (pc' := 7) jIP_214_44 rfl ?_
      refine jT_loc (L' := [(3, (0, 5)), (2, (4, 26)), (0, (4, 0)), (1, (4, 1))]) (by show List.Nodup [3, 2, 0, 1]; decide) (by intro q hq; simp only [List.mem_cons, List.not_mem_nil, or_false] at hq; rcases hq with rfl | rfl | rfl | rfl <;> rfl) ?_
      refine jT_gc [0, 1, 2, 3, 4, 5, 6, 7, 8, 9, 10, 11, 12, 13, 14, 15, 16, 17, 18, 19, 20, 21, 22, 26] (hs0 := [jzP_1, (101, [], [e0, e1, e2, e3, e4, e5]), jgh, jgh, jgh, jgh, jgh, (130, [], [17, 18, 19, 20, 21, 22]), jgh, jgh, jgh, jgh, jgh, jgh, jgh, jgh, jgh, (100, [], (jenc (jlg 0))), (100, [], (jenc (jlg 1))), (100, [], (jenc (jlg 2))), (100, [], (jenc (jlg 3))), (100, [], (jenc (jlg 4))), (100, [], (jenc (jlg 5))), (100, [], jenc (a + (e4 * jlg 4)))]) (L0 := [(3, (0, 5)), (2, (4, 23)), (0, (4, 0)), (1, (4, 1))]) (st0 := []) (by decide) rfl ⟨rfl, rfl, rfl, rfl, rfl, rfl, rfl, rfl, rfl, rfl, rfl, rfl, rfl, rfl, rfl, rfl, rfl, rfl, rfl, rfl, rfl, rfl, rfl, rfl, trivial⟩ rfl rfl (by decide) ?_
      exact jT.mono (jPl_lg_3_5 hd h_e0 h_e1 h_e2 h_e3 h_e4 h_e5 (jb1c ha hp.2.2 (by decide)) (by rw [← Int.add_assoc] at hw; exact hw) h) (Nat.le_refl _) (by omega) (by omega) (fun _ _ _ z => z)
  · refine jT_xiload_n (v := (0, 4)) (pc' := 8) jIP_214_7 rfl rfl rfl ?_
    refine jT_xbipush (k := 6) (pc' := 10) jIP_214_8 (by decide) rfl ?_
    refine jT_xicF (t := 47) (pc' := 13) jIP_214_10 rfl (by decide +kernel) rfl rfl ?_
    refine jT_xaload_n (v := (4, 1)) (pc' := 14) jIP_214_13 rfl rfl rfl ?_
    refine jT_xiload_n (v := (0, 4)) (pc' := 15) jIP_214_14 rfl rfl rfl ?_
    refine jT_lald (x := e4) (a := 1) (j := 4) (fs := []) (X := [e0, e1, e2, e3, e4, e5]) jIP_214_15 rfl rfl rfl rfl ?_
    refine jT_eq (L' := [(3, (0, 4)), (2, (4, 23)), (0, (4, 0)), (1, (4, 1))]) (st' := [(1, e4)]) (hs' := [jzP_1, (101, [], [e0, e1, e2, e3, e4, e5]), jgh, jgh, jgh, jgh, jgh, (130, [], [17, 18, 19, 20, 21, 22]), jgh, jgh, jgh, jgh, jgh, jgh, jgh, jgh, jgh, (100, [], (jenc (jlg 0))), (100, [], (jenc (jlg 1))), (100, [], (jenc (jlg 2))), (100, [], (jenc (jlg 3))), (100, [], (jenc (jlg 4))), (100, [], (jenc (jlg 5))), (100, [], (jenc a))]) rfl rfl rfl ?_
    refine jT_xlconst (z := 0) (pc' := 17) jIP_214_16 rfl rfl ?_
    refine jT_lcmp (a := e4) (b := 0) (z := 0) (by rfl) (by rfl) (jwl_idd (by omega) (by omega)) (jwl_idd (by omega) (by omega)) (by rw [decide_eq_false (show ¬ ((0 : Int) < e4) by omega), decide_eq_true (show (e4 : Int) = 0 by omega)]; rfl) ?_
    refine jT_xifT (pc' := 41) jIP_214_18 rfl (by decide +kernel) rfl ?_
    refine jT_xiinc (x := 4) (z := 5) (L' := [(3, (0, 5)), (2, (4, 23)), (0, (4, 0)), (1, (4, 1))]) (pc' := 44) jIP_214_41 rfl rfl (by decide) rfl rfl ?_
    refine jT_xgoto (pc' := 7) jIP_214_44 rfl ?_
    refine jT_loc (L' := [(3, (0, 5)), (2, (4, 23)), (0, (4, 0)), (1, (4, 1))]) (by show List.Nodup [3, 2, 0, 1]; decide) (by intro q hq; simp only [List.mem_cons, List.not_mem_nil, or_false] at hq; rcases hq with rfl | rfl | rfl | rfl <;> rfl) ?_
    exact jT.mono (jPl_lg_3_5 hd h_e0 h_e1 h_e2 h_e3 h_e4 h_e5 (by omega) (by rw [g_0, Int.zero_mul] at hw; omega) h) (Nat.le_refl _) (by omega) (by omega) (fun _ _ _ z => z)
  · have hp := jlt_m (k := 4) (e := e4) (by decide) (by omega) (by omega)
    rcases (show (a = 0) ∨ (a ≠ 0) by omega) with ga | ga
    · subst ga
      refine jT_xiload_n (v := (0, 4)) (pc' := 8) jIP_214_7 rfl rfl rfl ?_
      refine jT_xbipush (k := 6) (pc' := 10) jIP_214_8 (by decide) rfl ?_
      refine jT_xicF (t := 47) (pc' := 13) jIP_214_10 rfl (by decide +kernel) rfl rfl ?_
      refine jT_xaload_n (v := (4, 1)) (pc' := 14) jIP_214_13 rfl rfl rfl ?_
      refine jT_xiload_n (v := (0, 4)) (pc' := 15) jIP_214_14 rfl rfl rfl ?_
      refine jT_lald (x := e4) (a := 1) (j := 4) (fs := []) (X := [e0, e1, e2, e3, e4, e5]) jIP_214_15 rfl rfl rfl rfl ?_
      refine jT_eq (L' := [(3, (0, 4)), (2, (4, 23)), (0, (4, 0)), (1, (4, 1))]) (st' := [(1, e4)]) (hs' := [jzP_1, (101, [], [e0, e1, e2, e3, e4, e5]), jgh, jgh, jgh, jgh, jgh, (130, [], [17, 18, 19, 20, 21, 22]), jgh, jgh, jgh, jgh, jgh, jgh, jgh, jgh, jgh, (100, [], (jenc (jlg 0))), (100, [], (jenc (jlg 1))), (100, [], (jenc (jlg 2))), (100, [], (jenc (jlg 3))), (100, [], (jenc (jlg 4))), (100, [], (jenc (jlg 5))), (100, [], (jenc 0))]) rfl rfl rfl ?_
      refine jT_xlconst (z := 0) (pc' := 17) jIP_214_16 rfl rfl ?_
      refine jT_lcmp (a := e4) (b := 0) (z := 1) (by rfl) (by rfl) (jwl_idd (by omega) (by omega)) (jwl_idd (by omega) (by omega)) (by rw [decide_eq_true (show (0 : Int) < e4 by omega)]; rfl) ?_
      refine jT_xifF (t := 41) (pc' := 21) jIP_214_18 rfl (by decide +kernel) rfl rfl ?_
      refine jT_xaload_n (v := (4, 23)) (pc' := 22) jIP_214_21 rfl rfl rfl ?_
      refine jT_xaload_n (v := (4, 1)) (pc' := 23) jIP_214_22 rfl rfl rfl ?_
      refine jT_xiload_n (v := (0, 4)) (pc' := 24) jIP_214_23 rfl rfl rfl ?_
      refine jT_lald (x := e4) (a := 1) (j := 4) (fs := []) (X := [e0, e1, e2, e3, e4, e5]) jIP_214_24 rfl rfl rfl rfl ?_
      refine jT_eq (L' := [(3, (0, 4)), (2, (4, 23)), (0, (4, 0)), (1, (4, 1))]) (st' := [(1, e4), (4, 23)]) (hs' := [jzP_1, (101, [], [e0, e1, e2, e3, e4, e5]), jgh, jgh, jgh, jgh, jgh, (130, [], [17, 18, 19, 20, 21, 22]), jgh, jgh, jgh, jgh, jgh, jgh, jgh, jgh, jgh, (100, [], (jenc (jlg 0))), (100, [], (jenc (jlg 1))), (100, [], (jenc (jlg 2))), (100, [], (jenc (jlg 3))), (100, [], (jenc (jlg 4))), (100, [], (jenc (jlg 5))), (100, [], (jenc 0))]) rfl rfl rfl ?_
      refine jT_callA [] (y := 178) (pc' := 28) (dC := 1) (bc1 := 1) (bc2 := 56) (c1 := (b1 + 5)) (c2 := (b2 + 280)) (as := [(1, e4)]) (asC := [(1, e4)]) (L' := [(3, (0, 4)), (2, (4, 23)), (0, (4, 0)), (1, (4, 1))]) (st' := [(4, 23)]) (hsC := []) (ex := [(100, [], (jenc e4))]) (v := (4, 0)) (st2 := [(4, 24), (4, 23)]) (hs2 := [jzP_1, (101, [], [e0, e1, e2, e3, e4, e5]), jgh, jgh, jgh, jgh, jgh, (130, [], [17, 18, 19, 20, 21, 22]), jgh, jgh, jgh, jgh, jgh, jgh, jgh, jgh, jgh, (100, [], (jenc (jlg 0))), (100, [], (jenc (jlg 1))), (100, [], (jenc (jlg 2))), (100, [], (jenc (jlg 3))), (100, [], (jenc (jlg 4))), (100, [], (jenc (jlg 5))), (100, [], (jenc 0)), (100, [], (jenc e4))]) (jT_big (d := 0) (v := e4) (by omega) (by omega)) (by rfl) (by rfl) (by rfl) (by rfl) trivial (by rfl) (by rfl) (by omega) (by show 23 ≤ 24; omega) (by omega) (by omega) rfl rfl ?_
      refine jT_xaload_n (v := (4, 0)) (pc' := 29) jIP_214_28 rfl rfl rfl ?_
      refine jT_xgetf (a := 0) (t := 1) (ci := 14) (fi := 8) (c := jzP_1) (v := (4, 7)) (pc' := 32) jIP_214_29 rfl rfl rfl rfl rfl rfl rfl ?_
      refine jT_xiload_n (v := (0, 4)) (pc' := 33) jIP_214_32 rfl rfl rfl ?_
      refine jT_aald (x := 21) (a := 7) (j := 4) (fs := []) (X := [17, 18, 19, 20, 21, 22]) (kd := 130) jIP_214_33 rfl rfl rfl rfl rfl ?_
      refine jT_eq (L' := [(3, (0, 4)), (2, (4, 23)), (0, (4, 0)), (1, (4, 1))]) (st' := [(4, 21), (4, 24), (4, 23)]) (hs' := [jzP_1, (101, [], [e0, e1, e2, e3, e4, e5]), jgh, jgh, jgh, jgh, jgh, (130, [], [17, 18, 19, 20, 21, 22]), jgh, jgh, jgh, jgh, jgh, jgh, jgh, jgh, jgh, (100, [], (jenc (jlg 0))), (100, [], (jenc (jlg 1))), (100, [], (jenc (jlg 2))), (100, [], (jenc (jlg 3))), (100, [], (jenc (jlg 4))), (100, [], (jenc (jlg 5))), (100, [], (jenc 0)), (100, [], (jenc e4))]) rfl rfl rfl ?_
      refine jT_callA [24, 21] (y := 179) (pc' := 37) (dC := 1) (bc1 := 1) (bc2 := 56) (c1 := (b1 + 4)) (c2 := (b2 + 224)) (as := [(4, 24), (4, 21)]) (asC := [(4, 0), (4, 1)]) (L' := [(3, (0, 4)), (2, (4, 23)), (0, (4, 0)), (1, (4, 1))]) (st' := [(4, 23)]) (hsC := [(100, [], (jenc e4)), (100, [], (jenc (jlg 4)))]) (ex := [(100, [], (jenc (e4 * jlg 4)))]) (v := (4, 2)) (st2 := [(4, 25), (4, 23)]) (hs2 := [jzP_1, (101, [], [e0, e1, e2, e3, e4, e5]), jgh, jgh, jgh, jgh, jgh, (130, [], [17, 18, 19, 20, 21, 22]), jgh, jgh, jgh, jgh, jgh, jgh, jgh, jgh, jgh, (100, [], (jenc (jlg 0))), (100, [], (jenc (jlg 1))), (100, [], (jenc (jlg 2))), (100, [], (jenc (jlg 3))), (100, [], (jenc (jlg 4))), (100, [], (jenc (jlg 5))), (100, [], (jenc 0)), (100, [], (jenc e4)), (100, [], (jenc (e4 * jlg 4)))]) (jT_product (d := 0) (a := e4) (b := jlg 4) (jb54 (by omega) (by omega)) hp.1) (by rfl) (by rfl) (by rfl) (by rfl) ⟨rfl, rfl, trivial⟩ (by rfl) (by rfl) (by omega) (by show 23 ≤ 25; omega) (by omega) (by omega) rfl rfl ?_
      refine jT_callA [23, 25] (y := 181) (pc' := 40) (dC := 0) (bc1 := 0) (bc2 := 0) (c1 := (b1 + 4)) (c2 := (b2 + 224)) (as := [(4, 23), (4, 25)]) (asC := [(4, 0), (4, 1)]) (L' := [(3, (0, 4)), (2, (4, 23)), (0, (4, 0)), (1, (4, 1))]) (st' := []) (hsC := [(100, [], (jenc 0)), (100, [], (jenc (e4 * jlg 4)))]) (ex := []) (v := (4, 1)) (st2 := [(4, 25)]) (hs2 := [jzP_1, (101, [], [e0, e1, e2, e3, e4, e5]), jgh, jgh, jgh, jgh, jgh, (130, [], [17, 18, 19, 20, 21, 22]), jgh, jgh, jgh, jgh, jgh, jgh, jgh, jgh, jgh, (100, [], (jenc (jlg 0))), (100, [], (jenc (jlg 1))), (100, [], (jenc (jlg 2))), (100, [], (jenc (jlg 3))), (100, [], (jenc (jlg 4))), (100, [], (jenc (jlg 5))), (100, [], (jenc 0)), (100, [], (jenc e4)), (100, [], (jenc (e4 * jlg 4)))]) (jT_added_0l (d := 0) (b := e4 * jlg 4)) (by rfl) (by rfl) (by rfl) (by rfl) ⟨rfl, rfl, trivial⟩ (by rfl) (by rfl) (by omega) (by show 23 ≤ 26; omega) (by omega) (by omega) rfl rfl ?_
      refine jT_xastore_n (v := (4, 25)) (L' := [(2, (4, 25)), (3, (0, 4)), (0, (4, 0)), (1, (4, 1))]) (pc' := 41) jIP_214_40 rfl rfl rfl rfl ?_
      refine jT_xiinc (x := 4) (z := 5) (L' := [(3, (0, 5)), (2, (4, 25)), (0, (4, 0)), (1, (4, 1))]) (pc' := 44) jIP_214_41 rfl rfl (by decide) rfl rfl ?_
      refine jT_xgoto (pc' := 7) jIP_214_44 rfl ?_
      refine jT_loc (L' := [(3, (0, 5)), (2, (4, 25)), (0, (4, 0)), (1, (4, 1))]) (by show List.Nodup [3, 2, 0, 1]; decide) (by intro q hq; simp only [List.mem_cons, List.not_mem_nil, or_false] at hq; rcases hq with rfl | rfl | rfl | rfl <;> rfl) ?_
      refine jT_gc [0, 1, 2, 3, 4, 5, 6, 7, 8, 9, 10, 11, 12, 13, 14, 15, 16, 17, 18, 19, 20, 21, 22, 25] (hs0 := [jzP_1, (101, [], [e0, e1, e2, e3, e4, e5]), jgh, jgh, jgh, jgh, jgh, (130, [], [17, 18, 19, 20, 21, 22]), jgh, jgh, jgh, jgh, jgh, jgh, jgh, jgh, jgh, (100, [], (jenc (jlg 0))), (100, [], (jenc (jlg 1))), (100, [], (jenc (jlg 2))), (100, [], (jenc (jlg 3))), (100, [], (jenc (jlg 4))), (100, [], (jenc (jlg 5))), (100, [], jenc (e4 * jlg 4))]) (L0 := [(3, (0, 5)), (2, (4, 23)), (0, (4, 0)), (1, (4, 1))]) (st0 := []) (by decide) rfl ⟨rfl, rfl, rfl, rfl, rfl, rfl, rfl, rfl, rfl, rfl, rfl, rfl, rfl, rfl, rfl, rfl, rfl, rfl, rfl, rfl, rfl, rfl, rfl, rfl, trivial⟩ rfl rfl (by decide) ?_
      exact jT.mono (jPl_lg_3_5 hd h_e0 h_e1 h_e2 h_e3 h_e4 h_e5 (Nat.le_trans hp.2.2 (by decide)) (by rw [Int.zero_add] at hw; exact hw) h) (Nat.le_refl _) (by omega) (by omega) (fun _ _ _ z => z)
    · refine jT_xiload_n (v := (0, 4)) (pc' := 8) jIP_214_7 rfl rfl rfl ?_
      refine jT_xbipush (k := 6) (pc' := 10) jIP_214_8 (by decide) rfl ?_
      refine jT_xicF (t := 47) (pc' := 13) jIP_214_10 rfl (by decide +kernel) rfl rfl ?_
      refine jT_xaload_n (v := (4, 1)) (pc' := 14) jIP_214_13 rfl rfl rfl ?_
      refine jT_xiload_n (v := (0, 4)) (pc' := 15) jIP_214_14 rfl rfl rfl ?_
      refine jT_lald (x := e4) (a := 1) (j := 4) (fs := []) (X := [e0, e1, e2, e3, e4, e5]) jIP_214_15 rfl rfl rfl rfl ?_
      refine jT_eq (L' := [(3, (0, 4)), (2, (4, 23)), (0, (4, 0)), (1, (4, 1))]) (st' := [(1, e4)]) (hs' := [jzP_1, (101, [], [e0, e1, e2, e3, e4, e5]), jgh, jgh, jgh, jgh, jgh, (130, [], [17, 18, 19, 20, 21, 22]), jgh, jgh, jgh, jgh, jgh, jgh, jgh, jgh, jgh, (100, [], (jenc (jlg 0))), (100, [], (jenc (jlg 1))), (100, [], (jenc (jlg 2))), (100, [], (jenc (jlg 3))), (100, [], (jenc (jlg 4))), (100, [], (jenc (jlg 5))), (100, [], (jenc a))]) rfl rfl rfl ?_
      refine jT_xlconst (z := 0) (pc' := 17) jIP_214_16 rfl rfl ?_
      refine jT_lcmp (a := e4) (b := 0) (z := 1) (by rfl) (by rfl) (jwl_idd (by omega) (by omega)) (jwl_idd (by omega) (by omega)) (by rw [decide_eq_true (show (0 : Int) < e4 by omega)]; rfl) ?_
      refine jT_xifF (t := 41) (pc' := 21) jIP_214_18 rfl (by decide +kernel) rfl rfl ?_
      refine jT_xaload_n (v := (4, 23)) (pc' := 22) jIP_214_21 rfl rfl rfl ?_
      refine jT_xaload_n (v := (4, 1)) (pc' := 23) jIP_214_22 rfl rfl rfl ?_
      refine jT_xiload_n (v := (0, 4)) (pc' := 24) jIP_214_23 rfl rfl rfl ?_
      refine jT_lald (x := e4) (a := 1) (j := 4) (fs := []) (X := [e0, e1, e2, e3, e4, e5]) jIP_214_24 rfl rfl rfl rfl ?_
      refine jT_eq (L' := [(3, (0, 4)), (2, (4, 23)), (0, (4, 0)), (1, (4, 1))]) (st' := [(1, e4), (4, 23)]) (hs' := [jzP_1, (101, [], [e0, e1, e2, e3, e4, e5]), jgh, jgh, jgh, jgh, jgh, (130, [], [17, 18, 19, 20, 21, 22]), jgh, jgh, jgh, jgh, jgh, jgh, jgh, jgh, jgh, (100, [], (jenc (jlg 0))), (100, [], (jenc (jlg 1))), (100, [], (jenc (jlg 2))), (100, [], (jenc (jlg 3))), (100, [], (jenc (jlg 4))), (100, [], (jenc (jlg 5))), (100, [], (jenc a))]) rfl rfl rfl ?_
      refine jT_callA [] (y := 178) (pc' := 28) (dC := 1) (bc1 := 1) (bc2 := 56) (c1 := (b1 + 5)) (c2 := (b2 + 280)) (as := [(1, e4)]) (asC := [(1, e4)]) (L' := [(3, (0, 4)), (2, (4, 23)), (0, (4, 0)), (1, (4, 1))]) (st' := [(4, 23)]) (hsC := []) (ex := [(100, [], (jenc e4))]) (v := (4, 0)) (st2 := [(4, 24), (4, 23)]) (hs2 := [jzP_1, (101, [], [e0, e1, e2, e3, e4, e5]), jgh, jgh, jgh, jgh, jgh, (130, [], [17, 18, 19, 20, 21, 22]), jgh, jgh, jgh, jgh, jgh, jgh, jgh, jgh, jgh, (100, [], (jenc (jlg 0))), (100, [], (jenc (jlg 1))), (100, [], (jenc (jlg 2))), (100, [], (jenc (jlg 3))), (100, [], (jenc (jlg 4))), (100, [], (jenc (jlg 5))), (100, [], (jenc a)), (100, [], (jenc e4))]) (jT_big (d := 0) (v := e4) (by omega) (by omega)) (by rfl) (by rfl) (by rfl) (by rfl) trivial (by rfl) (by rfl) (by omega) (by show 23 ≤ 24; omega) (by omega) (by omega) rfl rfl ?_
      refine jT_xaload_n (v := (4, 0)) (pc' := 29) jIP_214_28 rfl rfl rfl ?_
      refine jT_xgetf (a := 0) (t := 1) (ci := 14) (fi := 8) (c := jzP_1) (v := (4, 7)) (pc' := 32) jIP_214_29 rfl rfl rfl rfl rfl rfl rfl ?_
      refine jT_xiload_n (v := (0, 4)) (pc' := 33) jIP_214_32 rfl rfl rfl ?_
      refine jT_aald (x := 21) (a := 7) (j := 4) (fs := []) (X := [17, 18, 19, 20, 21, 22]) (kd := 130) jIP_214_33 rfl rfl rfl rfl rfl ?_
      refine jT_eq (L' := [(3, (0, 4)), (2, (4, 23)), (0, (4, 0)), (1, (4, 1))]) (st' := [(4, 21), (4, 24), (4, 23)]) (hs' := [jzP_1, (101, [], [e0, e1, e2, e3, e4, e5]), jgh, jgh, jgh, jgh, jgh, (130, [], [17, 18, 19, 20, 21, 22]), jgh, jgh, jgh, jgh, jgh, jgh, jgh, jgh, jgh, (100, [], (jenc (jlg 0))), (100, [], (jenc (jlg 1))), (100, [], (jenc (jlg 2))), (100, [], (jenc (jlg 3))), (100, [], (jenc (jlg 4))), (100, [], (jenc (jlg 5))), (100, [], (jenc a)), (100, [], (jenc e4))]) rfl rfl rfl ?_
      refine jT_callA [24, 21] (y := 179) (pc' := 37) (dC := 1) (bc1 := 1) (bc2 := 56) (c1 := (b1 + 4)) (c2 := (b2 + 224)) (as := [(4, 24), (4, 21)]) (asC := [(4, 0), (4, 1)]) (L' := [(3, (0, 4)), (2, (4, 23)), (0, (4, 0)), (1, (4, 1))]) (st' := [(4, 23)]) (hsC := [(100, [], (jenc e4)), (100, [], (jenc (jlg 4)))]) (ex := [(100, [], (jenc (e4 * jlg 4)))]) (v := (4, 2)) (st2 := [(4, 25), (4, 23)]) (hs2 := [jzP_1, (101, [], [e0, e1, e2, e3, e4, e5]), jgh, jgh, jgh, jgh, jgh, (130, [], [17, 18, 19, 20, 21, 22]), jgh, jgh, jgh, jgh, jgh, jgh, jgh, jgh, jgh, (100, [], (jenc (jlg 0))), (100, [], (jenc (jlg 1))), (100, [], (jenc (jlg 2))), (100, [], (jenc (jlg 3))), (100, [], (jenc (jlg 4))), (100, [], (jenc (jlg 5))), (100, [], (jenc a)), (100, [], (jenc e4)), (100, [], (jenc (e4 * jlg 4)))]) (jT_product (d := 0) (a := e4) (b := jlg 4) (jb54 (by omega) (by omega)) hp.1) (by rfl) (by rfl) (by rfl) (by rfl) ⟨rfl, rfl, trivial⟩ (by rfl) (by rfl) (by omega) (by show 23 ≤ 25; omega) (by omega) (by omega) rfl rfl ?_
      refine jT_callA [23, 25] (y := 181) (pc' := 40) (dC := 1) (bc1 := 1) (bc2 := 56) (c1 := (b1 + 3)) (c2 := (b2 + 168)) (as := [(4, 23), (4, 25)]) (asC := [(4, 0), (4, 1)]) (L' := [(3, (0, 4)), (2, (4, 23)), (0, (4, 0)), (1, (4, 1))]) (st' := []) (hsC := [(100, [], (jenc a)), (100, [], (jenc (e4 * jlg 4)))]) (ex := [(100, [], (jenc (a + (e4 * jlg 4))))]) (v := (4, 2)) (st2 := [(4, 26)]) (hs2 := [jzP_1, (101, [], [e0, e1, e2, e3, e4, e5]), jgh, jgh, jgh, jgh, jgh, (130, [], [17, 18, 19, 20, 21, 22]), jgh, jgh, jgh, jgh, jgh, jgh, jgh, jgh, jgh, (100, [], (jenc (jlg 0))), (100, [], (jenc (jlg 1))), (100, [], (jenc (jlg 2))), (100, [], (jenc (jlg 3))), (100, [], (jenc (jlg 4))), (100, [], (jenc (jlg 5))), (100, [], (jenc a)), (100, [], (jenc e4)), (100, [], (jenc (e4 * jlg 4))), (100, [], (jenc (a + (e4 * jlg 4))))]) (jT_added (d := 0) (a := a) (b := e4 * jlg 4) ga hp.2.1 (jb54k ha (by decide)) hp.1 (jb54a ha hp.2.2 (by decide))) (by rfl) (by rfl) (by rfl) (by rfl) ⟨rfl, rfl, trivial⟩ (by rfl) (by rfl) (by omega) (by show 23 ≤ 26; omega) (by omega) (by omega) rfl rfl ?_
      refine jT_xastore_n (v := (4, 26)) (L' := [(2, (4, 26)), (3, (0, 4)), (0, (4, 0)), (1, (4, 1))]) (pc' := 41) jIP_214_40 rfl rfl rfl rfl ?_
      refine jT_xiinc (x := 4) (z := 5) (L' := [(3, (0, 5)), (2, (4, 26)), (0, (4, 0)), (1, (4, 1))]) (pc' := 44) jIP_214_41 rfl rfl (by decide) rfl rfl ?_
      refine jT_xgoto (pc' := 7) jIP_214_44 rfl ?_
      refine jT_loc (L' := [(3, (0, 5)), (2, (4, 26)), (0, (4, 0)), (1, (4, 1))]) (by show List.Nodup [3, 2, 0, 1]; decide) (by intro q hq; simp only [List.mem_cons, List.not_mem_nil, or_false] at hq; rcases hq with rfl | rfl | rfl | rfl <;> rfl) ?_
      refine jT_gc [0, 1, 2, 3, 4, 5, 6, 7, 8, 9, 10, 11, 12, 13, 14, 15, 16, 17, 18, 19, 20, 21, 22, 26] (hs0 := [jzP_1, (101, [], [e0, e1, e2, e3, e4, e5]), jgh, jgh, jgh, jgh, jgh, (130, [], [17, 18, 19, 20, 21, 22]), jgh, jgh, jgh, jgh, jgh, jgh, jgh, jgh, jgh, (100, [], (jenc (jlg 0))), (100, [], (jenc (jlg 1))), (100, [], (jenc (jlg 2))), (100, [], (jenc (jlg 3))), (100, [], (jenc (jlg 4))), (100, [], (jenc (jlg 5))), (100, [], jenc (a + (e4 * jlg 4)))]) (L0 := [(3, (0, 5)), (2, (4, 23)), (0, (4, 0)), (1, (4, 1))]) (st0 := []) (by decide) rfl ⟨rfl, rfl, rfl, rfl, rfl, rfl, rfl, rfl, rfl, rfl, rfl, rfl, rfl, rfl, rfl, rfl, rfl, rfl, rfl, rfl, rfl, rfl, rfl, rfl, trivial⟩ rfl rfl (by decide) ?_
      exact jT.mono (jPl_lg_3_5 hd h_e0 h_e1 h_e2 h_e3 h_e4 h_e5 (jb1c ha hp.2.2 (by decide)) (by rw [← Int.add_assoc] at hw; exact hw) h) (Nat.le_refl _) (by omega) (by omega) (fun _ _ _ z => z)
theorem jPl_lg_3_3 {xs : List Int} {d b1 b2 : Nat} {Q : Nat → JV → List JC → Prop} (hd : 1 < d) {a w e0 e1 e2 e3 e4 e5 : Int} (h_e0 : -4611686018427387903 ≤ e0 ∧ e0 ≤ 4611686018427387903) (h_e1 : -4611686018427387903 ≤ e1 ∧ e1 ≤ 4611686018427387903) (h_e2 : -4611686018427387903 ≤ e2 ∧ e2 ≤ 4611686018427387903) (h_e3 : -4611686018427387903 ≤ e3 ∧ e3 ≤ 4611686018427387903) (h_e4 : -4611686018427387903 ≤ e4 ∧ e4 ≤ 4611686018427387903) (h_e5 : -4611686018427387903 ≤ e5 ∧ e5 ≤ 4611686018427387903) (ha : a.natAbs ≤ 3 * 10 ^ 220) (hw : a + (e3 * jlg 3 + (e4 * jlg 4 + (e5 * jlg 5))) = w) (h : jT xs d 214 23 47 [(2, (4, 23))] [] [jzP_1, (101, [], [e0, e1, e2, e3, e4, e5]), jgh, jgh, jgh, jgh, jgh, (130, [], [17, 18, 19, 20, 21, 22]), jgh, jgh, jgh, jgh, jgh, jgh, jgh, jgh, jgh, (100, [], (jenc (jlg 0))), (100, [], (jenc (jlg 1))), (100, [], (jenc (jlg 2))), (100, [], (jenc (jlg 3))), (100, [], (jenc (jlg 4))), (100, [], (jenc (jlg 5))), (100, [], jenc w)] b1 b2 Q) : jT xs d 214 23 7 [(3, (0, 3)), (2, (4, 23)), (0, (4, 0)), (1, (4, 1))] [] [jzP_1, (101, [], [e0, e1, e2, e3, e4, e5]), jgh, jgh, jgh, jgh, jgh, (130, [], [17, 18, 19, 20, 21, 22]), jgh, jgh, jgh, jgh, jgh, jgh, jgh, jgh, jgh, (100, [], (jenc (jlg 0))), (100, [], (jenc (jlg 1))), (100, [], (jenc (jlg 2))), (100, [], (jenc (jlg 3))), (100, [], (jenc (jlg 4))), (100, [], (jenc (jlg 5))), (100, [], jenc a)] (b1 + 9) (b2 + 504) Q := by
  rcases (show (e3 < 0) ∨ (e3 = 0) ∨ (0 < e3) by omega) with g_0 | g_0 | g_0
  · have hp := jlt_m (k := 3) (e := e3) (by decide) (by omega) (by omega)
    rcases (show (a = 0) ∨ (a ≠ 0) by omega) with ga | ga
    · subst ga
      refine jT_xiload_n (v := (0, 3)) (pc' := 8) jIP_214_7 rfl rfl rfl ?_
      refine jT_xbipush (k := 6) (pc' := 10) jIP_214_8 (by decide) rfl ?_
      refine jT_xicF (t := 47) (pc' := 13) jIP_214_10 rfl (by decide +kernel) rfl rfl ?_
      refine jT_xaload_n (v := (4, 1)) (pc' := 14) jIP_214_13 rfl rfl rfl ?_
      refine jT_xiload_n (v := (0, 3)) (pc' := 15) jIP_214_14 rfl rfl rfl ?_
      refine jT_lald (x := e3) (a := 1) (j := 3) (fs := []) (X := [e0, e1, e2, e3, e4, e5]) jIP_214_15 rfl rfl rfl rfl ?_
      refine jT_eq (L' := [(3, (0, 3)), (2, (4, 23)), (0, (4, 0)), (1, (4, 1))]) (st' := [(1, e3)]) (hs' := [jzP_1, (101, [], [e0, e1, e2, e3, e4, e5]), jgh, jgh, jgh, jgh, jgh, (130, [], [17, 18, 19, 20, 21, 22]), jgh, jgh, jgh, jgh, jgh, jgh, jgh, jgh, jgh, (100, [], (jenc (jlg 0))), (100, [], (jenc (jlg 1))), (100, [], (jenc (jlg 2))), (100, [], (jenc (jlg 3))), (100, [], (jenc (jlg 4))), (100, [], (jenc (jlg 5))), (100, [], (jenc 0))]) rfl rfl rfl ?_
      refine jT_xlconst (z := 0) (pc' := 17) jIP_214_16 rfl rfl ?_
      refine jT_lcmp (a := e3) (b := 0) (z := (-1)) (by rfl) (by rfl) (jwl_idd (by omega) (by omega)) (jwl_idd (by omega) (by omega)) (by rw [decide_eq_false (show ¬ ((0 : Int) < e3) by omega), decide_eq_false (show ¬ ((e3 : Int) = 0) by omega)]; rfl) ?_
      refine jT_xifF (t := 41) (pc' := 21) jIP_214_18 rfl (by decide +kernel) rfl rfl ?_
      refine jT_xaload_n (v := (4, 23)) (pc' := 22) jIP_214_21 rfl rfl rfl ?_
      refine jT_xaload_n (v := (4, 1)) (pc' := 23) jIP_214_22 rfl rfl rfl ?_
      refine jT_xiload_n (v := (0, 3)) (pc' := 24) jIP_214_23 rfl rfl rfl ?_
      refine jT_lald (x := e3) (a := 1) (j := 3) (fs := []) (X := [e0, e1, e2, e3, e4, e5]) jIP_214_24 rfl rfl rfl rfl ?_
      refine jT_eq (L' := [(3, (0, 3)), (2, (4, 23)), (0, (4, 0)), (1, (4, 1))]) (st' := [(1, e3), (4, 23)]) (hs' := [jzP_1, (101, [], [e0, e1, e2, e3, e4, e5]), jgh, jgh, jgh, jgh, jgh, (130, [], [17, 18, 19, 20, 21, 22]), jgh, jgh, jgh, jgh, jgh, jgh, jgh, jgh, jgh, (100, [], (jenc (jlg 0))), (100, [], (jenc (jlg 1))), (100, [], (jenc (jlg 2))), (100, [], (jenc (jlg 3))), (100, [], (jenc (jlg 4))), (100, [], (jenc (jlg 5))), (100, [], (jenc 0))]) rfl rfl rfl ?_
      refine jT_callA [] (y := 178) (pc' := 28) (dC := 1) (bc1 := 1) (bc2 := 56) (c1 := (b1 + 8)) (c2 := (b2 + 448)) (as := [(1, e3)]) (asC := [(1, e3)]) (L' := [(3, (0, 3)), (2, (4, 23)), (0, (4, 0)), (1, (4, 1))]) (st' := [(4, 23)]) (hsC := []) (ex := [(100, [], (jenc e3))]) (v := (4, 0)) (st2 := [(4, 24), (4, 23)]) (hs2 := [jzP_1, (101, [], [e0, e1, e2, e3, e4, e5]), jgh, jgh, jgh, jgh, jgh, (130, [], [17, 18, 19, 20, 21, 22]), jgh, jgh, jgh, jgh, jgh, jgh, jgh, jgh, jgh, (100, [], (jenc (jlg 0))), (100, [], (jenc (jlg 1))), (100, [], (jenc (jlg 2))), (100, [], (jenc (jlg 3))), (100, [], (jenc (jlg 4))), (100, [], (jenc (jlg 5))), (100, [], (jenc 0)), (100, [], (jenc e3))]) (jT_big (d := 0) (v := e3) (by omega) (by omega)) (by rfl) (by rfl) (by rfl) (by rfl) trivial (by rfl) (by rfl) (by omega) (by show 23 ≤ 24; omega) (by omega) (by omega) rfl rfl ?_
      refine jT_xaload_n (v := (4, 0)) (pc' := 29) jIP_214_28 rfl rfl rfl ?_
      refine jT_xgetf (a := 0) (t := 1) (ci := 14) (fi := 8) (c := jzP_1) (v := (4, 7)) (pc' := 32) jIP_214_29 rfl rfl rfl rfl rfl rfl rfl ?_
      refine jT_xiload_n (v := (0, 3)) (pc' := 33) jIP_214_32 rfl rfl rfl ?_
      refine jT_aald (x := 20) (a := 7) (j := 3) (fs := []) (X := [17, 18, 19, 20, 21, 22]) (kd := 130) jIP_214_33 rfl rfl rfl rfl rfl ?_
      refine jT_eq (L' := [(3, (0, 3)), (2, (4, 23)), (0, (4, 0)), (1, (4, 1))]) (st' := [(4, 20), (4, 24), (4, 23)]) (hs' := [jzP_1, (101, [], [e0, e1, e2, e3, e4, e5]), jgh, jgh, jgh, jgh, jgh, (130, [], [17, 18, 19, 20, 21, 22]), jgh, jgh, jgh, jgh, jgh, jgh, jgh, jgh, jgh, (100, [], (jenc (jlg 0))), (100, [], (jenc (jlg 1))), (100, [], (jenc (jlg 2))), (100, [], (jenc (jlg 3))), (100, [], (jenc (jlg 4))), (100, [], (jenc (jlg 5))), (100, [], (jenc 0)), (100, [], (jenc e3))]) rfl rfl rfl ?_
      refine jT_callA [24, 20] (y := 179) (pc' := 37) (dC := 1) (bc1 := 1) (bc2 := 56) (c1 := (b1 + 7)) (c2 := (b2 + 392)) (as := [(4, 24), (4, 20)]) (asC := [(4, 0), (4, 1)]) (L' := [(3, (0, 3)), (2, (4, 23)), (0, (4, 0)), (1, (4, 1))]) (st' := [(4, 23)]) (hsC := [(100, [], (jenc e3)), (100, [], (jenc (jlg 3)))]) (ex := [(100, [], (jenc (e3 * jlg 3)))]) (v := (4, 2)) (st2 := [(4, 25), (4, 23)]) (hs2 := [jzP_1, (101, [], [e0, e1, e2, e3, e4, e5]), jgh, jgh, jgh, jgh, jgh, (130, [], [17, 18, 19, 20, 21, 22]), jgh, jgh, jgh, jgh, jgh, jgh, jgh, jgh, jgh, (100, [], (jenc (jlg 0))), (100, [], (jenc (jlg 1))), (100, [], (jenc (jlg 2))), (100, [], (jenc (jlg 3))), (100, [], (jenc (jlg 4))), (100, [], (jenc (jlg 5))), (100, [], (jenc 0)), (100, [], (jenc e3)), (100, [], (jenc (e3 * jlg 3)))]) (jT_product (d := 0) (a := e3) (b := jlg 3) (jb54 (by omega) (by omega)) hp.1) (by rfl) (by rfl) (by rfl) (by rfl) ⟨rfl, rfl, trivial⟩ (by rfl) (by rfl) (by omega) (by show 23 ≤ 25; omega) (by omega) (by omega) rfl rfl ?_
      refine jT_callA [23, 25] (y := 181) (pc' := 40) (dC := 0) (bc1 := 0) (bc2 := 0) (c1 := (b1 + 7)) (c2 := (b2 + 392)) (as := [(4, 23), (4, 25)]) (asC := [(4, 0), (4, 1)]) (L' := [(3, (0, 3)), (2, (4, 23)), (0, (4, 0)), (1, (4, 1))]) (st' := []) (hsC := [(100, [], (jenc 0)), (100, [], (jenc (e3 * jlg 3)))]) (ex := []) (v := (4, 1)) (st2 := [(4, 25)]) (hs2 := [jzP_1, (101, [], [e0, e1, e2, e3, e4, e5]), jgh, jgh, jgh, jgh, jgh, (130, [], [17, 18, 19, 20, 21, 22]), jgh, jgh, jgh, jgh, jgh, jgh, jgh, jgh, jgh, (100, [], (jenc (jlg 0))), (100, [], (jenc (jlg 1))), (100, [], (jenc (jlg 2))), (100, [], (jenc (jlg 3))), (100, [], (jenc (jlg 4))), (100, [], (jenc (jlg 5))), (100, [], (jenc 0)), (100, [], (jenc e3)), (100, [], (jenc (e3 * jlg 3)))]) (jT_added_0l (d := 0) (b := e3 * jlg 3)) (by rfl) (by rfl) (by rfl) (by rfl) ⟨rfl, rfl, trivial⟩ (by rfl) (by rfl) (by omega) (by show 23 ≤ 26; omega) (by omega) (by omega) rfl rfl ?_
      refine jT_xastore_n (v := (4, 25)) (L' := [(2, (4, 25)), (3, (0, 3)), (0, (4, 0)), (1, (4, 1))]) (pc' := 41) jIP_214_40 rfl rfl rfl rfl ?_
      refine jT_xiinc (x := 3) (z := 4) (L' := [(3, (0, 4)), (2, (4, 25)), (0, (4, 0)), (1, (4, 1))]) (pc' := 44) jIP_214_41 rfl rfl (by decide) rfl rfl ?_
      refine jT_xgoto (pc' := 7) jIP_214_44 rfl ?_
      refine jT_loc (L' := [(3, (0, 4)), (2, (4, 25)), (0, (4, 0)), (1, (4, 1))]) (by show List.Nodup [3, 2, 0, 1]; decide) (by intro q hq; simp only [List.mem_cons, List.not_mem_nil, or_false] at hq; rcases hq with rfl | rfl | rfl | rfl <;> rfl) ?_
      refine jT_gc [0, 1, 2, 3, 4, 5, 6, 7, 8, 9, 10, 11, 12, 13, 14, 15, 16, 17, 18, 19, 20, 21, 22, 25] (hs0 := [jzP_1, (101, [], [e0, e1, e2, e3, e4, e5]), jgh, jgh, jgh, jgh, jgh, (130, [], [17, 18, 19, 20, 21, 22]), jgh, jgh, jgh, jgh, jgh, jgh, jgh, jgh, jgh, (100, [], (jenc (jlg 0))), (100, [], (jenc (jlg 1))), (100, [], (jenc (jlg 2))), (100, [], (jenc (jlg 3))), (100, [], (jenc (jlg 4))), (100, [], (jenc (jlg 5))), (100, [], jenc (e3 * jlg 3))]) (L0 := [(3, (0, 4)), (2, (4, 23)), (0, (4, 0)), (1, (4, 1))]) (st0 := []) (by decide) rfl ⟨rfl, rfl, rfl, rfl, rfl, rfl, rfl, rfl, rfl, rfl, rfl, rfl, rfl, rfl, rfl, rfl, rfl, rfl, rfl, rfl, rfl, rfl, rfl, rfl, trivial⟩ rfl rfl (by decide) ?_
      exact jT.mono (jPl_lg_3_4 hd h_e0 h_e1 h_e2 h_e3 h_e4 h_e5 (Nat.le_trans hp.2.2 (by decide)) (by rw [Int.zero_add] at hw; exact hw) h) (Nat.le_refl _) (by omega) (by omega) (fun _ _ _ z => z)
    · refine jT_xiload_n (v := (0, 3)) (pc' := 8) jIP_214_7 rfl rfl rfl ?_
      refine jT_xbipush (k := 6) (pc' := 10) jIP_214_8 (by decide) rfl ?_
      refine jT_xicF (t := 47) (pc' := 13) jIP_214_10 rfl (by decide +kernel) rfl rfl ?_
      refine jT_xaload_n (v := (4, 1)) (pc' := 14) jIP_214_13 rfl rfl rfl ?_
      refine jT_xiload_n (v := (0, 3)) (pc' := 15) jIP_214_14 rfl rfl rfl ?_
      refine jT_lald (x := e3) (a := 1) (j := 3) (fs := []) (X := [e0, e1, e2, e3, e4, e5]) jIP_214_15 rfl rfl rfl rfl ?_
      refine jT_eq (L' := [(3, (0, 3)), (2, (4, 23)), (0, (4, 0)), (1, (4, 1))]) (st' := [(1, e3)]) (hs' := [jzP_1, (101, [], [e0, e1, e2, e3, e4, e5]), jgh, jgh, jgh, jgh, jgh, (130, [], [17, 18, 19, 20, 21, 22]), jgh, jgh, jgh, jgh, jgh, jgh, jgh, jgh, jgh, (100, [], (jenc (jlg 0))), (100, [], (jenc (jlg 1))), (100, [], (jenc (jlg 2))), (100, [], (jenc (jlg 3))), (100, [], (jenc (jlg 4))), (100, [], (jenc (jlg 5))), (100, [], (jenc a))]) rfl rfl rfl ?_
      refine jT_xlconst (z := 0) (pc' := 17) jIP_214_16 rfl rfl ?_
      refine jT_lcmp (a := e3) (b := 0) (z := (-1)) (by rfl) (by rfl) (jwl_idd (by omega) (by omega)) (jwl_idd (by omega) (by omega)) (by rw [decide_eq_false (show ¬ ((0 : Int) < e3) by omega), decide_eq_false (show ¬ ((e3 : Int) = 0) by omega)]; rfl) ?_
      refine jT_xifF (t := 41) (pc' := 21) jIP_214_18 rfl (by decide +kernel) rfl rfl ?_
      refine jT_xaload_n (v := (4, 23)) (pc' := 22) jIP_214_21 rfl rfl rfl ?_
      refine jT_xaload_n (v := (4, 1)) (pc' := 23) jIP_214_22 rfl rfl rfl ?_
      refine jT_xiload_n (v := (0, 3)) (pc' := 24) jIP_214_23 rfl rfl rfl ?_
      refine jT_lald (x := e3) (a := 1) (j := 3) (fs := []) (X := [e0, e1, e2, e3, e4, e5]) jIP_214_24 rfl rfl rfl rfl ?_
      refine jT_eq (L' := [(3, (0, 3)), (2, (4, 23)), (0, (4, 0)), (1, (4, 1))]) (st' := [(1, e3), (4, 23)]) (hs' := [jzP_1, (101, [], [e0, e1, e2, e3, e4, e5]), jgh, jgh, jgh, jgh, jgh, (130, [], [17, 18, 19, 20, 21, 22]), jgh, jgh, jgh, jgh, jgh, jgh, jgh, jgh, jgh, (100, [], (jenc (jlg 0))), (100, [], (jenc (jlg 1))), (100, [], (jenc (jlg 2))), (100, [], (jenc (jlg 3))), (100, [], (jenc (jlg 4))), (100, [], (jenc (jlg 5))), (100, [], (jenc a))]) rfl rfl rfl ?_
      refine jT_callA [] (y := 178) (pc' := 28) (dC := 1) (bc1 := 1) (bc2 := 56) (c1 := (b1 + 8)) (c2 := (b2 + 448)) (as := [(1, e3)]) (asC := [(1, e3)]) (L' := [(3, (0, 3)), (2, (4, 23)), (0, (4, 0)), (1, (4, 1))]) (st' := [(4, 23)]) (hsC := []) (ex := [(100, [], (jenc e3))]) (v := (4, 0)) (st2 := [(4, 24), (4, 23)]) (hs2 := [jzP_1, (101, [], [e0, e1, e2, e3, e4, e5]), jgh, jgh, jgh, jgh, jgh, (130, [], [17, 18, 19, 20, 21, 22]), jgh, jgh, jgh, jgh, jgh, jgh, jgh, jgh, jgh, (100, [], (jenc (jlg 0))), (100, [], (jenc (jlg 1))), (100, [], (jenc (jlg 2))), (100, [], (jenc (jlg 3))), (100, [], (jenc (jlg 4))), (100, [], (jenc (jlg 5))), (100, [], (jenc a)), (100, [], (jenc e3))]) (jT_big (d := 0) (v := e3) (by omega) (by omega)) (by rfl) (by rfl) (by rfl) (by rfl) trivial (by rfl) (by rfl) (by omega) (by show 23 ≤ 24; omega) (by omega) (by omega) rfl rfl ?_
      refine jT_xaload_n (v := (4, 0)) (pc' := 29) jIP_214_28 rfl rfl rfl ?_
      refine jT_xgetf (a := 0) (t := 1) (ci := 14) (fi := 8) (c := jzP_1) (v := (4, 7)) (pc' := 32) jIP_214_29 rfl rfl rfl rfl rfl rfl rfl ?_
      refine jT_xiload_n (v := (0, 3)) (pc' := 33) jIP_214_32 rfl rfl rfl ?_
      refine jT_aald (x := 20) (a := 7) (j := 3) (fs := []) (X := [17, 18, 19, 20, 21, 22]) (kd := 130) jIP_214_33 rfl rfl rfl rfl rfl ?_
      refine jT_eq (L' := [(3, (0, 3)), (2, (4, 23)), (0, (4, 0)), (1, (4, 1))]) (st' := [(4, 20), (4, 24), (4, 23)]) (hs' := [jzP_1, (101, [], [e0, e1, e2, e3, e4, e5]), jgh, jgh, jgh, jgh, jgh, (130, [], [17, 18, 19, 20, 21, 22]), jgh, jgh, jgh, jgh, jgh, jgh, jgh, jgh, jgh, (100, [], (jenc (jlg 0))), (100, [], (jenc (jlg 1))), (100, [], (jenc (jlg 2))), (100, [], (jenc (jlg 3))), (100, [], (jenc (jlg 4))), (100, [], (jenc (jlg 5))), (100, [], (jenc a)), (100, [], (jenc e3))]) rfl rfl rfl ?_
      refine jT_callA [24, 20] (y := 179) (pc' := 37) (dC := 1) (bc1 := 1) (bc2 := 56) (c1 := (b1 + 7)) (c2 := (b2 + 392)) (as := [(4, 24), (4, 20)]) (asC := [(4, 0), (4, 1)]) (L' := [(3, (0, 3)), (2, (4, 23)), (0, (4, 0)), (1, (4, 1))]) (st' := [(4, 23)]) (hsC := [(100, [], (jenc e3)), (100, [], (jenc (jlg 3)))]) (ex := [(100, [], (jenc (e3 * jlg 3)))]) (v := (4, 2)) (st2 := [(4, 25), (4, 23)]) (hs2 := [jzP_1, (101, [], [e0, e1, e2, e3, e4, e5]), jgh, jgh, jgh, jgh, jgh, (130, [], [17, 18, 19, 20, 21, 22]), jgh, jgh, jgh, jgh, jgh, jgh, jgh, jgh, jgh, (100, [], (jenc (jlg 0))), (100, [], (jenc (jlg 1))), (100, [], (jenc (jlg 2))), (100, [], (jenc (jlg 3))), (100, [], (jenc (jlg 4))), (100, [], (jenc (jlg 5))), (100, [], (jenc a)), (100, [], (jenc e3)), (100, [], (jenc (e3 * jlg 3)))]) (jT_product (d := 0) (a := e3) (b := jlg 3) (jb54 (by omega) (by omega)) hp.1) (by rfl) (by rfl) (by rfl) (by rfl) ⟨rfl, rfl, trivial⟩ (by rfl) (by rfl) (by omega) (by show 23 ≤ 25; omega) (by omega) (by omega) rfl rfl ?_
      refine jT_callA [23, 25] (y := 181) (pc' := 40) (dC := 1) (bc1 := 1) (bc2 := 56) (c1 := (b1 + 6)) (c2 := (b2 + 336)) (as := [(4, 23), (4, 25)]) (asC := [(4, 0), (4, 1)]) (L' := [(3, (0, 3)), (2, (4, 23)), (0, (4, 0)), (1, (4, 1))]) (st' := []) (hsC := [(100, [], (jenc a)), (100, [], (jenc (e3 * jlg 3)))]) (ex := [(100, [], (jenc (a + (e3 * jlg 3))))]) (v := (4, 2)) (st2 := [(4, 26)]) (hs2 := [jzP_1, (101, [], [e0, e1, e2, e3, e4, e5]), jgh, jgh, jgh, jgh, jgh, (130, [], [17, 18, 19, 20, 21, 22]), jgh, jgh, jgh, jgh, jgh, jgh, jgh, jgh, jgh, (100, [], (jenc (jlg 0))), (100, [], (jenc (jlg 1))), (100, [], (jenc (jlg 2))), (100, [], (jenc (jlg 3))), (100, [], (jenc (jlg 4))), (100, [], (jenc (jlg 5))), (100, [], (jenc a)), (100, [], (jenc e3)), (100, [], (jenc (e3 * jlg 3))), (100, [], (jenc (a + (e3 * jlg 3))))]) (jT_added (d := 0) (a := a) (b := e3 * jlg 3) ga hp.2.1 (jb54k ha (by decide)) hp.1 (jb54a ha hp.2.2 (by decide))) (by rfl) (by rfl) (by rfl) (by rfl) ⟨rfl, rfl, trivial⟩ (by rfl) (by rfl) (by omega) (by show 23 ≤ 26; omega) (by omega) (by omega) rfl rfl ?_
      refine jT_xastore_n (v := (4, 26)) (L' := [(2, (4, 26)), (3, (0, 3)), (0, (4, 0)), (1, (4, 1))]) (pc' := 41) jIP_214_40 rfl rfl rfl rfl ?_
      refine jT_xiinc (x := 3) (z := 4) (L' := [(3, (0, 4)), (2, (4, 26)), (0, (4, 0)), (1, (4, 1))]) (pc' := 44) jIP_214_41 rfl rfl (by decide) rfl rfl ?_
      refine jT_xgoto (pc' := 7) jIP_214_44 rfl ?_
      refine jT_loc (L' := [(3, (0, 4)), (2, (4, 26)), (0, (4, 0)), (1, (4, 1))]) (by show List.Nodup [3, 2, 0, 1]; decide) (by intro q hq; simp only [List.mem_cons, List.not_mem_nil, or_false] at hq; rcases hq with rfl | rfl | rfl | rfl <;> rfl) ?_
      refine jT_gc [0, 1, 2, 3, 4, 5, 6, 7, 8, 9, 10, 11, 12, 13, 14, 15, 16, 17, 18, 19, 20, 21, 22, 26] (hs0 := [jzP_1, (101, [], [e0, e1, e2, e3, e4, e5]), jgh, jgh, jgh, jgh, jgh, (130, [], [17, 18, 19, 20, 21, 22]), jgh, jgh, jgh, jgh, jgh, jgh, jgh, jgh, jgh, (100, [], (jenc (jlg 0))), (100, [], (jenc (jlg 1))), (100, [], (jenc (jlg 2))), (100, [], (jenc (jlg 3))), (100, [], (jenc (jlg 4))), (100, [], (jenc (jlg 5))), (100, [], jenc (a + (e3 * jlg 3)))]) (L0 := [(3, (0, 4)), (2, (4, 23)), (0, (4, 0)), (1, (4, 1))]) (st0 := []) (by decide) rfl ⟨rfl, rfl, rfl, rfl, rfl, rfl, rfl, rfl, rfl, rfl, rfl, rfl, rfl, rfl, rfl, rfl, rfl, rfl, rfl, rfl, rfl, rfl, rfl, rfl, trivial⟩ rfl rfl (by decide) ?_
      exact jT.mono (jPl_lg_3_4 hd h_e0 h_e1 h_e2 h_e3 h_e4 h_e5 (jb1c ha hp.2.2 (by decide)) (by rw [← Int.add_assoc] at hw; exact hw) h) (Nat.le_refl _) (by omega) (by omega) (fun _ _ _ z => z)
  · refine jT_xiload_n (v := (0, 3)) (pc' := 8) jIP_214_7 rfl rfl rfl ?_
    refine jT_xbipush (k := 6) (pc' := 10) jIP_214_8 (by decide) rfl ?_
    refine jT_xicF (t := 47) (pc' := 13) jIP_214_10 rfl (by decide +kernel) rfl rfl ?_
    refine jT_xaload_n (v := (4, 1)) (pc' := 14) jIP_214_13 rfl rfl rfl ?_
    refine jT_xiload_n (v := (0, 3)) (pc' := 15) jIP_214_14 rfl rfl rfl ?_
    refine jT_lald (x := e3) (a := 1) (j := 3) (fs := []) (X := [e0, e1, e2, e3, e4, e5]) jIP_214_15 rfl rfl rfl rfl ?_
    refine jT_eq (L' := [(3, (0, 3)), (2, (4, 23)), (0, (4, 0)), (1, (4, 1))]) (st' := [(1, e3)]) (hs' := [jzP_1, (101, [], [e0, e1, e2, e3, e4, e5]), jgh, jgh, jgh, jgh, jgh, (130, [], [17, 18, 19, 20, 21, 22]), jgh, jgh, jgh, jgh, jgh, jgh, jgh, jgh, jgh, (100, [], (jenc (jlg 0))), (100, [], (jenc (jlg 1))), (100, [], (jenc (jlg 2))), (100, [], (jenc (jlg 3))), (100, [], (jenc (jlg 4))), (100, [], (jenc (jlg 5))), (100, [], (jenc a))]) rfl rfl rfl ?_
    refine jT_xlconst (z := 0) (pc' := 17) jIP_214_16 rfl rfl ?_
    refine jT_lcmp (a := e3) (b := 0) (z := 0) (by rfl) (by rfl) (jwl_idd (by omega) (by omega)) (jwl_idd (by omega) (by omega)) (by rw [decide_eq_false (show ¬ ((0 : Int) < e3) by omega), decide_eq_true (show (e3 : Int) = 0 by omega)]; rfl) ?_
    refine jT_xifT (pc' := 41) jIP_214_18 rfl (by decide +kernel) rfl ?_
    refine jT_xiinc (x := 3) (z := 4) (L' := [(3, (0, 4)), (2, (4, 23)), (0, (4, 0)), (1, (4, 1))]) (pc' := 44) jIP_214_41 rfl rfl (by decide) rfl rfl ?_
    refine jT_xgoto (pc' := 7) jIP_214_44 rfl ?_
    refine jT_loc (L' := [(3, (0, 4)), (2, (4, 23)), (0, (4, 0)), (1, (4, 1))]) (by show List.Nodup [3, 2, 0, 1]; decide) (by intro q hq; simp only [List.mem_cons, List.not_mem_nil, or_false] at hq; rcases hq with rfl | rfl | rfl | rfl <;> rfl) ?_
    exact jT.mono (jPl_lg_3_4 hd h_e0 h_e1 h_e2 h_e3 h_e4 h_e5 (by omega) (by rw [g_0, Int.zero_mul] at hw; omega) h) (Nat.le_refl _) (by omega) (by omega) (fun _ _ _ z => z)
  · have hp := jlt_m (k := 3) (e := e3) (by decide) (by omega) (by omega)
    rcases (show (a = 0) ∨ (a ≠ 0) by omega) with ga | ga
    · subst ga
      refine jT_xiload_n (v := (0, 3)) (pc' := 8) jIP_214_7 rfl rfl rfl ?_
      refine jT_xbipush (k := 6) (pc' := 10) jIP_214_8 (by decide) rfl ?_
      refine jT_xicF (t := 47) (pc' := 13) jIP_214_10 rfl (by decide +kernel) rfl rfl ?_
      refine jT_xaload_n (v := (4, 1)) (pc' := 14) jIP_214_13 rfl rfl rfl ?_
      refine jT_xiload_n (v := (0, 3)) (pc' := 15) jIP_214_14 rfl rfl rfl ?_
      refine jT_lald (x := e3) (a := 1) (j := 3) (fs := []) (X := [e0, e1, e2, e3, e4, e5]) jIP_214_15 rfl rfl rfl rfl ?_
      refine jT_eq (L' := [(3, (0, 3)), (2, (4, 23)), (0, (4, 0)), (1, (4, 1))]) (st' := [(1, e3)]) (hs' := [jzP_1, (101, [], [e0, e1, e2, e3, e4, e5]), jgh, jgh, jgh, jgh, jgh, (130, [], [17, 18, 19, 20, 21, 22]), jgh, jgh, jgh, jgh, jgh, jgh, jgh, jgh, jgh, (100, [], (jenc (jlg 0))), (100, [], (jenc (jlg 1))), (100, [], (jenc (jlg 2))), (100, [], (jenc (jlg 3))), (100, [], (jenc (jlg 4))), (100, [], (jenc (jlg 5))), (100, [], (jenc 0))]) rfl rfl rfl ?_
      refine jT_xlconst (z := 0) (pc' := 17) jIP_214_16 rfl rfl ?_
      refine jT_lcmp (a := e3) (b := 0) (z := 1) (by rfl) (by rfl) (jwl_idd (by omega) (by omega)) (jwl_idd (by omega) (by omega)) (by rw [decide_eq_true (show (0 : Int) < e3 by omega)]; rfl) ?_
      refine jT_xifF (t := 41) (pc' := 21) jIP_214_18 rfl (by decide +kernel) rfl rfl ?_
      refine jT_xaload_n (v := (4, 23)) (pc' := 22) jIP_214_21 rfl rfl rfl ?_
      refine jT_xaload_n (v := (4, 1)) (pc' := 23) jIP_214_22 rfl rfl rfl ?_
      refine jT_xiload_n (v := (0, 3)) (pc' := 24) jIP_214_23 rfl rfl rfl ?_
      refine jT_lald (x := e3) (a := 1) (j := 3) (fs := []) (X := [e0, e1, e2, e3, e4, e5]) jIP_214_24 rfl rfl rfl rfl ?_
      refine jT_eq (L' := [(3, (0, 3)), (2, (4, 23)), (0, (4, 0)), (1, (4, 1))]) (st' := [(1, e3), (4, 23)]) (hs' := [jzP_1, (101, [], [e0, e1, e2, e3, e4, e5]), jgh, jgh, jgh, jgh, jgh, (130, [], [17, 18, 19, 20, 21, 22]), jgh, jgh, jgh, jgh, jgh, jgh, jgh, jgh, jgh, (100, [], (jenc (jlg 0))), (100, [], (jenc (jlg 1))), (100, [], (jenc (jlg 2))), (100, [], (jenc (jlg 3))), (100, [], (jenc (jlg 4))), (100, [], (jenc (jlg 5))), (100, [], (jenc 0))]) rfl rfl rfl ?_
      refine jT_callA [] (y := 178) (pc' := 28) (dC := 1) (bc1 := 1) (bc2 := 56) (c1 := (b1 + 8)) (c2 := (b2 + 448)) (as := [(1, e3)]) (asC := [(1, e3)]) (L' := [(3, (0, 3)), (2, (4, 23)), (0, (4, 0)), (1, (4, 1))]) (st' := [(4, 23)]) (hsC := []) (ex := [(100, [], (jenc e3))]) (v := (4, 0)) (st2 := [(4, 24), (4, 23)]) (hs2 := [jzP_1, (101, [], [e0, e1, e2, e3, e4, e5]), jgh, jgh, jgh, jgh, jgh, (130, [], [17, 18, 19, 20, 21, 22]), jgh, jgh, jgh, jgh, jgh, jgh, jgh, jgh, jgh, (100, [], (jenc (jlg 0))), (100, [], (jenc (jlg 1))), (100, [], (jenc (jlg 2))), (100, [], (jenc (jlg 3))), (100, [], (jenc (jlg 4))), (100, [], (jenc (jlg 5))), (100, [], (jenc 0)), (100, [], (jenc e3))]) (jT_big (d := 0) (v := e3) (by omega) (by omega)) (by rfl) (by rfl) (by rfl) (by rfl) trivial (by rfl) (by rfl) (by omega) (by show 23 ≤ 24; omega) (by omega) (by omega) rfl rfl ?_
      refine jT_xaload_n (v := (4, 0)) (pc' := 29) jIP_214_28 rfl rfl rfl ?_
      refine jT_xgetf (a := 0) (t := 1) (ci := 14) (fi := 8) (c := jzP_1) (v := (4, 7)) (pc' := 32) jIP_214_29 rfl rfl rfl rfl rfl rfl rfl ?_
      refine jT_xiload_n (v := (0, 3)) (pc' := 33) jIP_214_32 rfl rfl rfl ?_
      refine jT_aald (x := 20) (a := 7) (j := 3) (fs := []) (X := [17, 18, 19, 20, 21, 22]) (kd := 130) jIP_214_33 rfl rfl rfl rfl rfl ?_
      refine jT_eq (L' := [(3, (0, 3)), (2, (4, 23)), (0, (4, 0)), (1, (4, 1))]) (st' := [(4, 20), (4, 24), (4, 23)]) (hs' := [jzP_1, (101, [], [e0, e1, e2, e3, e4, e5]), jgh, jgh, jgh, jgh, jgh, (130, [], [17, 18, 19, 20, 21, 22]), jgh, jgh, jgh, jgh, jgh, jgh, jgh, jgh, jgh, (100, [], (jenc (jlg 0))), (100, [], (jenc (jlg 1))), (100, [], (jenc (jlg 2))), (100, [], (jenc (jlg 3))), (100, [], (jenc (jlg 4))), (100, [], (jenc (jlg 5))), (100, [], (jenc 0)), (100, [], (jenc e3))]) rfl rfl rfl ?_
      refine jT_callA [24, 20] (y := 179) (pc' := 37) (dC := 1) (bc1 := 1) (bc2 := 56) (c1 := (b1 + 7)) (c2 := (b2 + 392)) (as := [(4, 24), (4, 20)]) (asC := [(4, 0), (4, 1)]) (L' := [(3, (0, 3)), (2, (4, 23)), (0, (4, 0)), (1, (4, 1))]) (st' := [(4, 23)]) (hsC := [(100, [], (jenc e3)), (100, [], (jenc (jlg 3)))]) (ex := [(100, [], (jenc (e3 * jlg 3)))]) (v := (4, 2)) (st2 := [(4, 25), (4, 23)]) (hs2 := [jzP_1, (101, [], [e0, e1, e2, e3, e4, e5]), jgh, jgh, jgh, jgh, jgh, (130, [], [17, 18, 19, 20, 21, 22]), jgh, jgh, jgh, jgh, jgh, jgh, jgh, jgh, jgh, (100, [], (jenc (jlg 0))), (100, [], (jenc (jlg 1))), (100, [], (jenc (jlg 2))), (100, [], (jenc (jlg 3))), (100, [], (jenc (jlg 4))), (100, [], (jenc (jlg 5))), (100, [], (jenc 0)), (100, [], (jenc e3)), (100, [], (jenc (e3 * jlg 3)))]) (jT_product (d := 0) (a := e3) (b := jlg 3) (jb54 (by omega) (by omega)) hp.1) (by rfl) (by rfl) (by rfl) (by rfl) ⟨rfl, rfl, trivial⟩ (by rfl) (by rfl) (by omega) (by show 23 ≤ 25; omega) (by omega) (by omega) rfl rfl ?_
      refine jT_callA [23, 25] (y := 181) (pc' := 40) (dC := 0) (bc1 := 0) (bc2 := 0) (c1 := (b1 + 7)) (c2 := (b2 + 392)) (as := [(4, 23), (4, 25)]) (asC := [(4, 0), (4, 1)]) (L' := [(3, (0, 3)), (2, (4, 23)), (0, (4, 0)), (1, (4, 1))]) (st' := []) (hsC := [(100, [], (jenc 0)), (100, [], (jenc (e3 * jlg 3)))]) (ex := []) (v := (4, 1)) (st2 := [(4, 25)]) (hs2 := [jzP_1, (101, [], [e0, e1, e2, e3, e4, e5]), jgh, jgh, jgh, jgh, jgh, (130, [], [17, 18, 19, 20, 21, 22]), jgh, jgh, jgh, jgh, jgh, jgh, jgh, jgh, jgh, (100, [], (jenc (jlg 0))), (100, [], (jenc (jlg 1))), (100, [], (jenc (jlg 2))), (100, [], (jenc (jlg 3))), (100, [], (jenc (jlg 4))), (100, [], (jenc (jlg 5))), (100, [], (jenc 0)), (100, [], (jenc e3)), (100, [], (jenc (e3 * jlg 3)))]) (jT_added_0l (d := 0) (b := e3 * jlg 3)) (by rfl) (by rfl) (by rfl) (by rfl) ⟨rfl, rfl, trivial⟩ (by rfl) (by rfl) (by omega) (by show 23 ≤ 26; omega) (by omega) (by omega) rfl rfl ?_
      refine jT_xastore_n (v := (4, 25)) (L' := [(2, (4, 25)), (3, (0, 3)), (0, (4, 0)), (1, (4, 1))]) (pc' := 41) jIP_214_40 rfl rfl rfl rfl ?_
      refine jT_xiinc (x := 3) (z := 4) (L' := [(3, (0, 4)), (2, (4, 25)), (0, (4, 0)), (1, (4, 1))]) (pc' := 44) jIP_214_41 rfl rfl (by decide) rfl rfl ?_
      refine jT_xgoto (pc' := 7) jIP_214_44 rfl ?_
      refine jT_loc (L' := [(3, (0, 4)), (2, (4, 25)), (0, (4, 0)), (1, (4, 1))]) (by show List.Nodup [3, 2, 0, 1]; decide) (by intro q hq; simp only [List.mem_cons, List.not_mem_nil, or_false] at hq; rcases hq with rfl | rfl | rfl | rfl <;> rfl) ?_
      refine jT_gc [0, 1, 2, 3, 4, 5, 6, 7, 8, 9, 10, 11, 12, 13, 14, 15, 16, 17, 18, 19, 20, 21, 22, 25] (hs0 := [jzP_1, (101, [], [e0, e1, e2, e3, e4, e5]), jgh, jgh, jgh, jgh, jgh, (130, [], [17, 18, 19, 20, 21, 22]), jgh, jgh, jgh, jgh, jgh, jgh, jgh, jgh, jgh, (100, [], (jenc (jlg 0))), (100, [], (jenc (jlg 1))), (100, [], (jenc (jlg 2))), (100, [], (jenc (jlg 3))), (100, [], (jenc (jlg 4))), (100, [], (jenc (jlg 5))), (100, [], jenc (e3 * jlg 3))]) (L0 := [(3, (0, 4)), (2, (4, 23)), (0, (4, 0)), (1, (4, 1))]) (st0 := []) (by decide) rfl ⟨rfl, rfl, rfl, rfl, rfl, rfl, rfl, rfl, rfl, rfl, rfl, rfl, rfl, rfl, rfl, rfl, rfl, rfl, rfl, rfl, rfl, rfl, rfl, rfl, trivial⟩ rfl rfl (by decide) ?_
      exact jT.mono (jPl_lg_3_4 hd h_e0 h_e1 h_e2 h_e3 h_e4 h_e5 (Nat.le_trans hp.2.2 (by decide)) (by rw [Int.zero_add] at hw; exact hw) h) (Nat.le_refl _) (by omega) (by omega) (fun _ _ _ z => z)
    · refine jT_xiload_n (v := (0, 3)) (pc' := 8) jIP_214_7 rfl rfl rfl ?_
      refine jT_xbipush (k := 6) (pc' := 10) jIP_214_8 (by decide) rfl ?_
      refine jT_xicF (t := 47) (pc' := 13) jIP_214_10 rfl (by decide +kernel) rfl rfl ?_
      refine jT_xaload_n (v := (4, 1)) (pc' := 14) jIP_214_13 rfl rfl rfl ?_
      refine jT_xiload_n (v := (0, 3)) (pc' := 15) jIP_214_14 rfl rfl rfl ?_
      refine jT_lald (x := e3) (a := 1) (j := 3) (fs := []) (X := [e0, e1, e2, e3, e4, e5]) jIP_214_15 rfl rfl rfl rfl ?_
      refine jT_eq (L' := [(3, (0, 3)), (2, (4, 23)), (0, (4, 0)), (1, (4, 1))]) (st' := [(1, e3)]) (hs' := [jzP_1, (101, [], [e0, e1, e2, e3, e4, e5]), jgh, jgh, jgh, jgh, jgh, (130, [], [17, 18, 19, 20, 21, 22]), jgh, jgh, jgh, jgh, jgh, jgh, jgh, jgh, jgh, (100, [], (jenc (jlg 0))), (100, [], (jenc (jlg 1))), (100, [], (jenc (jlg 2))), (100, [], (jenc (jlg 3))), (100, [], (jenc (jlg 4))), (100, [], (jenc (jlg 5))), (100, [], (jenc a))]) rfl rfl rfl ?_
      refine jT_xlconst (z := 0) (pc' := 17) jIP_214_16 rfl rfl ?_
      refine jT_lcmp (a := e3) (b := 0) (z := 1) (by rfl) (by rfl) (jwl_idd (by omega) (by omega)) (jwl_idd (by omega) (by omega)) (by rw [decide_eq_true (show (0 : Int) < e3 by omega)]; rfl) ?_
      refine jT_xifF (t := 41) (pc' := 21) jIP_214_18 rfl (by decide +kernel) rfl rfl ?_
      refine jT_xaload_n (v := (4, 23)) (pc' := 22) jIP_214_21 rfl rfl rfl ?_
      refine jT_xaload_n (v := (4, 1)) (pc' := 23) jIP_214_22 rfl rfl rfl ?_
      refine jT_xiload_n (v := (0, 3)) (pc' := 24) jIP_214_23 rfl rfl rfl ?_
      refine jT_lald (x := e3) (a := 1) (j := 3) (fs := []) (X := [e0, e1, e2, e3, e4, e5]) jIP_214_24 rfl rfl rfl rfl ?_
      refine jT_eq (L' := [(3, (0, 3)), (2, (4, 23)), (0, (4, 0)), (1, (4, 1))]) (st' := [(1, e3), (4, 23)]) (hs' := [jzP_1, (101, [], [e0, e1, e2, e3, e4, e5]), jgh, jgh, jgh, jgh, jgh, (130, [], [17, 18, 19, 20, 21, 22]), jgh, jgh, jgh, jgh, jgh, jgh, jgh, jgh, jgh, (100, [], (jenc (jlg 0))), (100, [], (jenc (jlg 1))), (100, [], (jenc (jlg 2))), (100, [], (jenc (jlg 3))), (100, [], (jenc (jlg 4))), (100, [], (jenc (jlg 5))), (100, [], (jenc a))]) rfl rfl rfl ?_
      refine jT_callA [] (y := 178) (pc' := 28) (dC := 1) (bc1 := 1) (bc2 := 56) (c1 := (b1 + 8)) (c2 := (b2 + 448)) (as := [(1, e3)]) (asC := [(1, e3)]) (L' := [(3, (0, 3)), (2, (4, 23)), (0, (4, 0)), (1, (4, 1))]) (st' := [(4, 23)]) (hsC := []) (ex := [(100, [], (jenc e3))]) (v := (4, 0)) (st2 := [(4, 24), (4, 23)]) (hs2 := [jzP_1, (101, [], [e0, e1, e2, e3, e4, e5]), jgh, jgh, jgh, jgh, jgh, (130, [], [17, 18, 19, 20, 21, 22]), jgh, jgh, jgh, jgh, jgh, jgh, jgh, jgh, jgh, (100, [], (jenc (jlg 0))), (100, [], (jenc (jlg 1))), (100, [], (jenc (jlg 2))), (100, [], (jenc (jlg 3))), (100, [], (jenc (jlg 4))), (100, [], (jenc (jlg 5))), (100, [], (jenc a)), (100, [], (jenc e3))]) (jT_big (d := 0) (v := e3) (by omega) (by omega)) (by rfl) (by rfl) (by rfl) (by rfl) trivial (by rfl) (by rfl) (by omega) (by show 23 ≤ 24; omega) (by omega) (by omega) rfl rfl ?_
      refine jT_xaload_n (v := (4, 0)) (pc' := 29) jIP_214_28 rfl rfl rfl ?_
      refine jT_xgetf (a := 0) (t := 1) (ci := 14) (fi := 8) (c := jzP_1) (v := (4, 7)) (pc' := 32) jIP_214_29 rfl rfl rfl rfl rfl rfl rfl ?_
      refine jT_xiload_n (v := (0, 3)) (pc' := 33) jIP_214_32 rfl rfl rfl ?_
      refine jT_aald (x := 20) (a := 7) (j := 3) (fs := []) (X := [17, 18, 19, 20, 21, 22]) (kd := 130) jIP_214_33 rfl rfl rfl rfl rfl ?_
      refine jT_eq (L' := [(3, (0, 3)), (2, (4, 23)), (0, (4, 0)), (1, (4, 1))]) (st' := [(4, 20), (4, 24), (4, 23)]) (hs' := [jzP_1, (101, [], [e0, e1, e2, e3, e4, e5]), jgh, jgh, jgh, jgh, jgh, (130, [], [17, 18, 19, 20, 21, 22]), jgh, jgh, jgh, jgh, jgh, jgh, jgh, jgh, jgh, (100, [], (jenc (jlg 0))), (100, [], (jenc (jlg 1))), (100, [], (jenc (jlg 2))), (100, [], (jenc (jlg 3))), (100, [], (jenc (jlg 4))), (100, [], (jenc (jlg 5))), (100, [], (jenc a)), (100, [], (jenc e3))]) rfl rfl rfl ?_
      refine jT_callA [24, 20] (y := 179) (pc' := 37) (dC := 1) (bc1 := 1) (bc2 := 56) (c1 := (b1 + 7)) (c2 := (b2 + 392)) (as := [(4, 24), (4, 20)]) (asC := [(4, 0), (4, 1)]) (L' := [(3, (0, 3)), (2, (4, 23)), (0, (4, 0)), (1, (4, 1))]) (st' := [(4, 23)]) (hsC := [(100, [], (jenc e3)), (100, [], (jenc (jlg 3)))]) (ex := [(100, [], (jenc (e3 * jlg 3)))]) (v := (4, 2)) (st2 := [(4, 25), (4, 23)]) (hs2 := [jzP_1, (101, [], [e0, e1, e2, e3, e4, e5]), jgh, jgh, jgh, jgh, jgh, (130, [], [17, 18, 19, 20, 21, 22]), jgh, jgh, jgh, jgh, jgh, jgh, jgh, jgh, jgh, (100, [], (jenc (jlg 0))), (100, [], (jenc (jlg 1))), (100, [], (jenc (jlg 2))), (100, [], (jenc (jlg 3))), (100, [], (jenc (jlg 4))), (100, [], (jenc (jlg 5))), (100, [], (jenc a)), (100, [], (jenc e3)), (100, [], (jenc (e3 * jlg 3)))]) (jT_product (d := 0) (a := e3) (b := jlg 3) (jb54 (by omega) (by omega)) hp.1) (by rfl) (by rfl) (by rfl) (by rfl) ⟨rfl, rfl, trivial⟩ (by rfl) (by rfl) (by omega) (by show 23 ≤ 25; omega) (by omega) (by omega) rfl rfl ?_
      refine jT_callA [23, 25] (y := 181) (pc' := 40) (dC := 1) (bc1 := 1) (bc2 := 56) (c1 := (b1 + 6)) (c2 := (b2 + 336)) (as := [(4, 23), (4, 25)]) (asC := [(4, 0), (4, 1)]) (L' := [(3, (0, 3)), (2, (4, 23)), (0, (4, 0)), (1, (4, 1))]) (st' := []) (hsC := [(100, [], (jenc a)), (100, [], (jenc (e3 * jlg 3)))]) (ex := [(100, [], (jenc (a + (e3 * jlg 3))))]) (v := (4, 2)) (st2 := [(4, 26)]) (hs2 := [jzP_1, (101, [], [e0, e1, e2, e3, e4, e5]), jgh, jgh, jgh, jgh, jgh, (130, [], [17, 18, 19, 20, 21, 22]), jgh, jgh, jgh, jgh, jgh, jgh, jgh, jgh, jgh, (100, [], (jenc (jlg 0))), (100, [], (jenc (jlg 1))), (100, [], (jenc (jlg 2))), (100, [], (jenc (jlg 3))), (100, [], (jenc (jlg 4))), (100, [], (jenc (jlg 5))), (100, [], (jenc a)), (100, [], (jenc e3)), (100, [], (jenc (e3 * jlg 3))), (100, [], (jenc (a + (e3 * jlg 3))))]) (jT_added (d := 0) (a := a) (b := e3 * jlg 3) ga hp.2.1 (jb54k ha (by decide)) hp.1 (jb54a ha hp.2.2 (by decide))) (by rfl) (by rfl) (by rfl) (by rfl) ⟨rfl, rfl, trivial⟩ (by rfl) (by rfl) (by omega) (by show 23 ≤ 26; omega) (by omega) (by omega) rfl rfl ?_
      refine jT_xastore_n (v := (4, 26)) (L' := [(2, (4, 26)), (3, (0, 3)), (0, (4, 0)), (1, (4, 1))]) (pc' := 41) jIP_214_40 rfl rfl rfl rfl ?_
      refine jT_xiinc (x := 3) (z := 4) (L' := [(3, (0, 4)), (2, (4, 26)), (0, (4, 0)), (1, (4, 1))]) (pc' := 44) jIP_214_41 rfl rfl (by decide) rfl rfl ?_
      refine jT_xgoto (pc' := 7) jIP_214_44 rfl ?_
      refine jT_loc (L' := [(3, (0, 4)), (2, (4, 26)), (0, (4, 0)), (1, (4, 1))]) (by show List.Nodup [3, 2, 0, 1]; decide) (by intro q hq; simp only [List.mem_cons, List.not_mem_nil, or_false] at hq; rcases hq with rfl | rfl | rfl | rfl <;> rfl) ?_
      refine jT_gc [0, 1, 2, 3, 4, 5, 6, 7, 8, 9, 10, 11, 12, 13, 14, 15, 16, 17, 18, 19, 20, 21, 22, 26] (hs0 := [jzP_1, (101, [], [e0, e1, e2, e3, e4, e5]), jgh, jgh, jgh, jgh, jgh, (130, [], [17, 18, 19, 20, 21, 22]), jgh, jgh, jgh, jgh, jgh, jgh, jgh, jgh, jgh, (100, [], (jenc (jlg 0))), (100, [], (jenc (jlg 1))), (100, [], (jenc (jlg 2))), (100, [], (jenc (jlg 3))), (100, [], (jenc (jlg 4))), (100, [], (jenc (jlg 5))), (100, [], jenc (a + (e3 * jlg 3)))]) (L0 := [(3, (0, 4)), (2, (4, 23)), (0, (4, 0)), (1, (4, 1))]) (st0 := []) (by decide) rfl ⟨rfl, rfl, rfl, rfl, rfl, rfl, rfl, rfl, rfl, rfl, rfl, rfl, rfl, rfl, rfl, rfl, rfl, rfl, rfl, rfl, rfl, rfl, rfl, rfl, trivial⟩ rfl rfl (by decide) ?_
      exact jT.mono (jPl_lg_3_4 hd h_e0 h_e1 h_e2 h_e3 h_e4 h_e5 (jb1c ha hp.2.2 (by decide)) (by rw [← Int.add_assoc] at hw; exact hw) h) (Nat.le_refl _) (by omega) (by omega) (fun _ _ _ z => z)
theorem jPl_lg_3_2 {xs : List Int} {d b1 b2 : Nat} {Q : Nat → JV → List JC → Prop} (hd : 1 < d) {a w e0 e1 e2 e3 e4 e5 : Int} (h_e0 : -4611686018427387903 ≤ e0 ∧ e0 ≤ 4611686018427387903) (h_e1 : -4611686018427387903 ≤ e1 ∧ e1 ≤ 4611686018427387903) (h_e2 : -4611686018427387903 ≤ e2 ∧ e2 ≤ 4611686018427387903) (h_e3 : -4611686018427387903 ≤ e3 ∧ e3 ≤ 4611686018427387903) (h_e4 : -4611686018427387903 ≤ e4 ∧ e4 ≤ 4611686018427387903) (h_e5 : -4611686018427387903 ≤ e5 ∧ e5 ≤ 4611686018427387903) (ha : a.natAbs ≤ 2 * 10 ^ 220) (hw : a + (e2 * jlg 2 + (e3 * jlg 3 + (e4 * jlg 4 + (e5 * jlg 5)))) = w) (h : jT xs d 214 23 47 [(2, (4, 23))] [] [jzP_1, (101, [], [e0, e1, e2, e3, e4, e5]), jgh, jgh, jgh, jgh, jgh, (130, [], [17, 18, 19, 20, 21, 22]), jgh, jgh, jgh, jgh, jgh, jgh, jgh, jgh, jgh, (100, [], (jenc (jlg 0))), (100, [], (jenc (jlg 1))), (100, [], (jenc (jlg 2))), (100, [], (jenc (jlg 3))), (100, [], (jenc (jlg 4))), (100, [], (jenc (jlg 5))), (100, [], jenc w)] b1 b2 Q) : jT xs d 214 23 7 [(3, (0, 2)), (2, (4, 23)), (0, (4, 0)), (1, (4, 1))] [] [jzP_1, (101, [], [e0, e1, e2, e3, e4, e5]), jgh, jgh, jgh, jgh, jgh, (130, [], [17, 18, 19, 20, 21, 22]), jgh, jgh, jgh, jgh, jgh, jgh, jgh, jgh, jgh, (100, [], (jenc (jlg 0))), (100, [], (jenc (jlg 1))), (100, [], (jenc (jlg 2))), (100, [], (jenc (jlg 3))), (100, [], (jenc (jlg 4))), (100, [], (jenc (jlg 5))), (100, [], jenc a)] (b1 + 12) (b2 + 672) Q := by
  rcases (show (e2 < 0) ∨ (e2 = 0) ∨ (0 < e2) by omega) with g_0 | g_0 | g_0
  · have hp := jlt_m (k := 2) (e := e2) (by decide) (by omega) (by omega)
    rcases (show (a = 0) ∨ (a ≠ 0) by omega) with ga | ga
    · subst ga
      refine jT_xiload_n (v := (0, 2)) (pc' := 8) jIP_214_7 rfl rfl rfl ?_
      refine jT_xbipush (k := 6) (pc' := 10) jIP_214_8 (by decide) rfl ?_
      refine jT_xicF (t := 47) (pc' := 13) jIP_214_10 rfl (by decide +kernel) rfl rfl ?_
      refine jT_xaload_n (v := (4, 1)) (pc' := 14) jIP_214_13 rfl rfl rfl ?_
      refine jT_xiload_n (v := (0, 2)) (pc' := 15) jIP_214_14 rfl rfl rfl ?_
      refine jT_lald (x := e2) (a := 1) (j := 2) (fs := []) (X := [e0, e1, e2, e3, e4, e5]) jIP_214_15 rfl rfl rfl rfl ?_
      refine jT_eq (L' := [(3, (0, 2)), (2, (4, 23)), (0, (4, 0)), (1, (4, 1))]) (st' := [(1, e2)]) (hs' := [jzP_1, (101, [], [e0, e1, e2, e3, e4, e5]), jgh, jgh, jgh, jgh, jgh, (130, [], [17, 18, 19, 20, 21, 22]), jgh, jgh, jgh, jgh, jgh, jgh, jgh, jgh, jgh, (100, [], (jenc (jlg 0))), (100, [], (jenc (jlg 1))), (100, [], (jenc (jlg 2))), (100, [], (jenc (jlg 3))), (100, [], (jenc (jlg 4))), (100, [], (jenc (jlg 5))), (100, [], (jenc 0))]) rfl rfl rfl ?_
      refine jT_xlconst (z := 0) (pc' := 17) jIP_214_16 rfl rfl ?_
      refine jT_lcmp (a := e2) (b := 0) (z := (-1)) (by rfl) (by rfl) (jwl_idd (by omega) (by omega)) (jwl_idd (by omega) (by omega)) (by rw [decide_eq_false (show ¬ ((0 : Int) < e2) by omega), decide_eq_false (show ¬ ((e2 : Int) = 0) by omega)]; rfl) ?_
      refine jT_xifF (t := 41) (pc' := 21) jIP_214_18 rfl (by decide +kernel) rfl rfl ?_
      refine jT_xaload_n (v := (4, 23)) (pc' := 22) jIP_214_21 rfl rfl rfl ?_
      refine jT_xaload_n (v := (4, 1)) (pc' := 23) jIP_214_22 rfl rfl rfl ?_
      refine jT_xiload_n (v := (0, 2)) (pc' := 24) jIP_214_23 rfl rfl rfl ?_
      refine jT_lald (x := e2) (a := 1) (j := 2) (fs := []) (X := [e0, e1, e2, e3, e4, e5]) jIP_214_24 rfl rfl rfl rfl ?_
      refine jT_eq (L' := [(3, (0, 2)), (2, (4, 23)), (0, (4, 0)), (1, (4, 1))]) (st' := [(1, e2), (4, 23)]) (hs' := [jzP_1, (101, [], [e0, e1, e2, e3, e4, e5]), jgh, jgh, jgh, jgh, jgh, (130, [], [17, 18, 19, 20, 21, 22]), jgh, jgh, jgh, jgh, jgh, jgh, jgh, jgh, jgh, (100, [], (jenc (jlg 0))), (100, [], (jenc (jlg 1))), (100, [], (jenc (jlg 2))), (100, [], (jenc (jlg 3))), (100, [], (jenc (jlg 4))), (100, [], (jenc (jlg 5))), (100, [], (jenc 0))]) rfl rfl rfl ?_
      refine jT_callA [] (y := 178) (pc' := 28) (dC := 1) (bc1 := 1) (bc2 := 56) (c1 := (b1 + 11)) (c2 := (b2 + 616)) (as := [(1, e2)]) (asC := [(1, e2)]) (L' := [(3, (0, 2)), (2, (4, 23)), (0, (4, 0)), (1, (4, 1))]) (st' := [(4, 23)]) (hsC := []) (ex := [(100, [], (jenc e2))]) (v := (4, 0)) (st2 := [(4, 24), (4, 23)]) (hs2 := [jzP_1, (101, [], [e0, e1, e2, e3, e4, e5]), jgh, jgh, jgh, jgh, jgh, (130, [], [17, 18, 19, 20, 21, 22]), jgh, jgh, jgh, jgh, jgh, jgh, jgh, jgh, jgh, (100, [], (jenc (jlg 0))), (100, [], (jenc (jlg 1))), (100, [], (jenc (jlg 2))), (100, [], (jenc (jlg 3))), (100, [], (jenc (jlg 4))), (100, [], (jenc (jlg 5))), (100, [], (jenc 0)), (100, [], (jenc e2))]) (jT_big (d := 0) (v := e2) (by omega) (by omega)) (by rfl) (by rfl) (by rfl) (by rfl) trivial (by rfl) (by rfl) (by omega) (by show 23 ≤ 24; omega) (by omega) (by omega) rfl rfl ?_
      refine jT_xaload_n (v := (4, 0)) (pc' := 29) jIP_214_28 rfl rfl rfl ?_
      refine jT_xgetf (a := 0) (t := 1) (ci := 14) (fi := 8) (c := jzP_1) (v := (4, 7)) (pc' := 32) jIP_214_29 rfl rfl rfl rfl rfl rfl rfl ?_
      refine jT_xiload_n (v := (0, 2)) (pc' := 33) jIP_214_32 rfl rfl rfl ?_
      refine jT_aald (x := 19) (a := 7) (j := 2) (fs := []) (X := [17, 18, 19, 20, 21, 22]) (kd := 130) jIP_214_33 rfl rfl rfl rfl rfl ?_
      refine jT_eq (L' := [(3, (0, 2)), (2, (4, 23)), (0, (4, 0)), (1, (4, 1))]) (st' := [(4, 19), (4, 24), (4, 23)]) (hs' := [jzP_1, (101, [], [e0, e1, e2, e3, e4, e5]), jgh, jgh, jgh, jgh, jgh, (130, [], [17, 18, 19, 20, 21, 22]), jgh, jgh, jgh, jgh, jgh, jgh, jgh, jgh, jgh, (100, [], (jenc (jlg 0))), (100, [], (jenc (jlg 1))), (100, [], (jenc (jlg 2))), (100, [], (jenc (jlg 3))), (100, [], (jenc (jlg 4))), (100, [], (jenc (jlg 5))), (100, [], (jenc 0)), (100, [], (jenc e2))]) rfl rfl rfl ?_
      refine jT_callA [24, 19] (y := 179) (pc' := 37) (dC := 1) (bc1 := 1) (bc2 := 56) (c1 := (b1 + 10)) (c2 := (b2 + 560)) (as := [(4, 24), (4, 19)]) (asC := [(4, 0), (4, 1)]) (L' := [(3, (0, 2)), (2, (4, 23)), (0, (4, 0)), (1, (4, 1))]) (st' := [(4, 23)]) (hsC := [(100, [], (jenc e2)), (100, [], (jenc (jlg 2)))]) (ex := [(100, [], (jenc (e2 * jlg 2)))]) (v := (4, 2)) (st2 := [(4, 25), (4, 23)]) (hs2 := [jzP_1, (101, [], [e0, e1, e2, e3, e4, e5]), jgh, jgh, jgh, jgh, jgh, (130, [], [17, 18, 19, 20, 21, 22]), jgh, jgh, jgh, jgh, jgh, jgh, jgh, jgh, jgh, (100, [], (jenc (jlg 0))), (100, [], (jenc (jlg 1))), (100, [], (jenc (jlg 2))), (100, [], (jenc (jlg 3))), (100, [], (jenc (jlg 4))), (100, [], (jenc (jlg 5))), (100, [], (jenc 0)), (100, [], (jenc e2)), (100, [], (jenc (e2 * jlg 2)))]) (jT_product (d := 0) (a := e2) (b := jlg 2) (jb54 (by omega) (by omega)) hp.1) (by rfl) (by rfl) (by rfl) (by rfl) ⟨rfl, rfl, trivial⟩ (by rfl) (by rfl) (by omega) (by show 23 ≤ 25; omega) (by omega) (by omega) rfl rfl ?_
      refine jT_callA [23, 25] (y := 181) (pc' := 40) (dC := 0) (bc1 := 0) (bc2 := 0) (c1 := (b1 + 10)) (c2 := (b2 + 560)) (as := [(4, 23), (4, 25)]) (asC := [(4, 0), (4, 1)]) (L' := [(3, (0, 2)), (2, (4, 23)), (0, (4, 0)), (1, (4, 1))]) (st' := []) (hsC := [(100, [], (jenc 0)), (100, [], (jenc (e2 * jlg 2)))]) (ex := []) (v := (4, 1)) (st2 := [(4, 25)]) (hs2 := [jzP_1, (101, [], [e0, e1, e2, e3, e4, e5]), jgh, jgh, jgh, jgh, jgh, (130, [], [17, 18, 19, 20, 21, 22]), jgh, jgh, jgh, jgh, jgh, jgh, jgh, jgh, jgh, (100, [], (jenc (jlg 0))), (100, [], (jenc (jlg 1))), (100, [], (jenc (jlg 2))), (100, [], (jenc (jlg 3))), (100, [], (jenc (jlg 4))), (100, [], (jenc (jlg 5))), (100, [], (jenc 0)), (100, [], (jenc e2)), (100, [], (jenc (e2 * jlg 2)))]) (jT_added_0l (d := 0) (b := e2 * jlg 2)) (by rfl) (by rfl) (by rfl) (by rfl) ⟨rfl, rfl, trivial⟩ (by rfl) (by rfl) (by omega) (by show 23 ≤ 26; omega) (by omega) (by omega) rfl rfl ?_
      refine jT_xastore_n (v := (4, 25)) (L' := [(2, (4, 25)), (3, (0, 2)), (0, (4, 0)), (1, (4, 1))]) (pc' := 41) jIP_214_40 rfl rfl rfl rfl ?_
      refine jT_xiinc (x := 2) (z := 3) (L' := [(3, (0, 3)), (2, (4, 25)), (0, (4, 0)), (1, (4, 1))]) (pc' := 44) jIP_214_41 rfl rfl (by decide) rfl rfl ?_
      refine jT_xgoto (pc' := 7) jIP_214_44 rfl ?_
      refine jT_loc (L' := [(3, (0, 3)), (2, (4, 25)), (0, (4, 0)), (1, (4, 1))]) (by show List.Nodup [3, 2, 0, 1]; decide) (by intro q hq; simp only [List.mem_cons, List.not_mem_nil, or_false] at hq; rcases hq with rfl | rfl | rfl | rfl <;> rfl) ?_
      refine jT_gc [0, 1, 2, 3, 4, 5, 6, 7, 8, 9, 10, 11, 12, 13, 14, 15, 16, 17, 18, 19, 20, 21, 22, 25] (hs0 := [jzP_1, (101, [], [e0, e1, e2, e3, e4, e5]), jgh, jgh, jgh, jgh, jgh, (130, [], [17, 18, 19, 20, 21, 22]), jgh, jgh, jgh, jgh, jgh, jgh, jgh, jgh, jgh, (100, [], (jenc (jlg 0))), (100, [], (jenc (jlg 1))), (100, [], (jenc (jlg 2))), (100, [], (jenc (jlg 3))), (100, [], (jenc (jlg 4))), (100, [], (jenc (jlg 5))), (100, [], jenc (e2 * jlg 2))]) (L0 := [(3, (0, 3)), (2, (4, 23)), (0, (4, 0)), (1, (4, 1))]) (st0 := []) (by decide) rfl ⟨rfl, rfl, rfl, rfl, rfl, rfl, rfl, rfl, rfl, rfl, rfl, rfl, rfl, rfl, rfl, rfl, rfl, rfl, rfl, rfl, rfl, rfl, rfl, rfl, trivial⟩ rfl rfl (by decide) ?_
      exact jT.mono (jPl_lg_3_3 hd h_e0 h_e1 h_e2 h_e3 h_e4 h_e5 (Nat.le_trans hp.2.2 (by decide)) (by rw [Int.zero_add] at hw; exact hw) h) (Nat.le_refl _) (by omega) (by omega) (fun _ _ _ z => z)
    · refine jT_xiload_n (v := (0, 2)) (pc' := 8) jIP_214_7 rfl rfl rfl ?_
      refine jT_xbipush (k := 6) (pc' := 10) jIP_214_8 (by decide) rfl ?_
      refine jT_xicF (t := 47) (pc' := 13) jIP_214_10 rfl (by decide +kernel) rfl rfl ?_
      refine jT_xaload_n (v := (4, 1)) (pc' := 14) jIP_214_13 rfl rfl rfl ?_
      refine jT_xiload_n (v := (0, 2)) (pc' := 15) jIP_214_14 rfl rfl rfl ?_
      refine jT_lald (x := e2) (a := 1) (j := 2) (fs := []) (X := [e0, e1, e2, e3, e4, e5]) jIP_214_15 rfl rfl rfl rfl ?_
      refine jT_eq (L' := [(3, (0, 2)), (2, (4, 23)), (0, (4, 0)), (1, (4, 1))]) (st' := [(1, e2)]) (hs' := [jzP_1, (101, [], [e0, e1, e2, e3, e4, e5]), jgh, jgh, jgh, jgh, jgh, (130, [], [17, 18, 19, 20, 21, 22]), jgh, jgh, jgh, jgh, jgh, jgh, jgh, jgh, jgh, (100, [], (jenc (jlg 0))), (100, [], (jenc (jlg 1))), (100, [], (jenc (jlg 2))), (100, [], (jenc (jlg 3))), (100, [], (jenc (jlg 4))), (100, [], (jenc (jlg 5))), (100, [], (jenc a))]) rfl rfl rfl ?_
      refine jT_xlconst (z := 0) (pc' := 17) jIP_214_16 rfl rfl ?_
      refine jT_lcmp (a := e2) (b := 0) (z := (-1)) (by rfl) (by rfl) (jwl_idd (by omega) (by omega)) (jwl_idd (by omega) (by omega)) (by rw [decide_eq_false (show ¬ ((0 : Int) < e2) by omega), decide_eq_false (show ¬ ((e2 : Int) = 0) by omega)]; rfl) ?_
      refine jT_xifF (t := 41) (pc' := 21) jIP_214_18 rfl (by decide +kernel) rfl rfl ?_
      refine jT_xaload_n (v := (4, 23)) (pc' := 22) jIP_214_21 rfl rfl rfl ?_
      refine jT_xaload_n (v := (4, 1)) (pc' := 23) jIP_214_22 rfl rfl rfl ?_
      refine jT_xiload_n (v := (0, 2)) (pc' := 24) jIP_214_23 rfl rfl rfl ?_
      refine jT_lald (x := e2) (a := 1) (j := 2) (fs := []) (X := [e0, e1, e2, e3, e4, e5]) jIP_214_24 rfl rfl rfl rfl ?_
      refine jT_eq (L' := [(3, (0, 2)), (2, (4, 23)), (0, (4, 0)), (1, (4, 1))]) (st' := [(1, e2), (4, 23)]) (hs' := [jzP_1, (101, [], [e0, e1, e2, e3, e4, e5]), jgh, jgh, jgh, jgh, jgh, (130, [], [17, 18, 19, 20, 21, 22]), jgh, jgh, jgh, jgh, jgh, jgh, jgh, jgh, jgh, (100, [], (jenc (jlg 0))), (100, [], (jenc (jlg 1))), (100, [], (jenc (jlg 2))), (100, [], (jenc (jlg 3))), (100, [], (jenc (jlg 4))), (100, [], (jenc (jlg 5))), (100, [], (jenc a))]) rfl rfl rfl ?_
      refine jT_callA [] (y := 178) (pc' := 28) (dC := 1) (bc1 := 1) (bc2 := 56) (c1 := (b1 + 11)) (c2 := (b2 + 616)) (as := [(1, e2)]) (asC := [(1, e2)]) (L' := [(3, (0, 2)), (2, (4, 23)), (0, (4, 0)), (1, (4, 1))]) (st' := [(4, 23)]) (hsC := []) (ex := [(100, [], (jenc e2))]) (v := (4, 0)) (st2 := [(4, 24), (4, 23)]) (hs2 := [jzP_1, (101, [], [e0, e1, e2, e3, e4, e5]), jgh, jgh, jgh, jgh, jgh, (130, [], [17, 18, 19, 20, 21, 22]), jgh, jgh, jgh, jgh, jgh, jgh, jgh, jgh, jgh, (100, [], (jenc (jlg 0))), (100, [], (jenc (jlg 1))), (100, [], (jenc (jlg 2))), (100, [], (jenc (jlg 3))), (100, [], (jenc (jlg 4))), (100, [], (jenc (jlg 5))), (100, [], (jenc a)), (100, [], (jenc e2))]) (jT_big (d := 0) (v := e2) (by omega) (by omega)) (by rfl) (by rfl) (by rfl) (by rfl) trivial (by rfl) (by rfl) (by omega) (by show 23 ≤ 24; omega) (by omega) (by omega) rfl rfl ?_
      refine jT_xaload_n (v := (4, 0)) (pc' := 29) jIP_214_28 rfl rfl rfl ?_
      refine jT_xgetf (a := 0) (t := 1) (ci := 14) (fi := 8) (c := jzP_1) (v := (4, 7)) (pc' := 32) jIP_214_29 rfl rfl rfl rfl rfl rfl rfl ?_
      refine jT_xiload_n (v := (0, 2)) (pc' := 33) jIP_214_32 rfl rfl rfl ?_
      refine jT_aald (x := 19) (a := 7) (j := 2) (fs := []) (X := [17, 18, 19, 20, 21, 22]) (kd := 130) jIP_214_33 rfl rfl rfl rfl rfl ?_
      refine jT_eq (L' := [(3, (0, 2)), (2, (4, 23)), (0, (4, 0)), (1, (4, 1))]) (st' := [(4, 19), (4, 24), (4, 23)]) (hs' := [jzP_1, (101, [], [e0, e1, e2, e3, e4, e5]), jgh, jgh, jgh, jgh, jgh, (130, [], [17, 18, 19, 20, 21, 22]), jgh, jgh, jgh, jgh, jgh, jgh, jgh, jgh, jgh, (100, [], (jenc (jlg 0))), (100, [], (jenc (jlg 1))), (100, [], (jenc (jlg 2))), (100, [], (jenc (jlg 3))), (100, [], (jenc (jlg 4))), (100, [], (jenc (jlg 5))), (100, [], (jenc a)), (100, [], (jenc e2))]) rfl rfl rfl ?_
      refine jT_callA [24, 19] (y := 179) (pc' := 37) (dC := 1) (bc1 := 1) (bc2 := 56) (c1 := (b1 + 10)) (c2 := (b2 + 560)) (as := [(4, 24), (4, 19)]) (asC := [(4, 0), (4, 1)]) (L' := [(3, (0, 2)), (2, (4, 23)), (0, (4, 0)), (1, (4, 1))]) (st' := [(4, 23)]) (hsC := [(100, [], (jenc e2)), (100, [], (jenc (jlg 2)))]) (ex := [(100, [], (jenc (e2 * jlg 2)))]) (v := (4, 2)) (st2 := [(4, 25), (4, 23)]) (hs2 := [jzP_1, (101, [], [e0, e1, e2, e3, e4, e5]), jgh, jgh, jgh, jgh, jgh, (130, [], [17, 18, 19, 20, 21, 22]), jgh, jgh, jgh, jgh, jgh, jgh, jgh, jgh, jgh, (100, [], (jenc (jlg 0))), (100, [], (jenc (jlg 1))), (100, [], (jenc (jlg 2))), (100, [], (jenc (jlg 3))), (100, [], (jenc (jlg 4))), (100, [], (jenc (jlg 5))), (100, [], (jenc a)), (100, [], (jenc e2)), (100, [], (jenc (e2 * jlg 2)))]) (jT_product (d := 0) (a := e2) (b := jlg 2) (jb54 (by omega) (by omega)) hp.1) (by rfl) (by rfl) (by rfl) (by rfl) ⟨rfl, rfl, trivial⟩ (by rfl) (by rfl) (by omega) (by show 23 ≤ 25; omega) (by omega) (by omega) rfl rfl ?_
      refine jT_callA [23, 25] (y := 181) (pc' := 40) (dC := 1) (bc1 := 1) (bc2 := 56) (c1 := (b1 + 9)) (c2 := (b2 + 504)) (as := [(4, 23), (4, 25)]) (asC := [(4, 0), (4, 1)]) (L' := [(3, (0, 2)), (2, (4, 23)), (0, (4, 0)), (1, (4, 1))]) (st' := []) (hsC := [(100, [], (jenc a)), (100, [], (jenc (e2 * jlg 2)))]) (ex := [(100, [], (jenc (a + (e2 * jlg 2))))]) (v := (4, 2)) (st2 := [(4, 26)]) (hs2 := [jzP_1, (101, [], [e0, e1, e2, e3, e4, e5]), jgh, jgh, jgh, jgh, jgh, (130, [], [17, 18, 19, 20, 21, 22]), jgh, jgh, jgh, jgh, jgh, jgh, jgh, jgh, jgh, (100, [], (jenc (jlg 0))), (100, [], (jenc (jlg 1))), (100, [], (jenc (jlg 2))), (100, [], (jenc (jlg 3))), (100, [], (jenc (jlg 4))), (100, [], (jenc (jlg 5))), (100, [], (jenc a)), (100, [], (jenc e2)), (100, [], (jenc (e2 * jlg 2))), (100, [], (jenc (a + (e2 * jlg 2))))]) (jT_added (d := 0) (a := a) (b := e2 * jlg 2) ga hp.2.1 (jb54k ha (by decide)) hp.1 (jb54a ha hp.2.2 (by decide))) (by rfl) (by rfl) (by rfl) (by rfl) ⟨rfl, rfl, trivial⟩ (by rfl) (by rfl) (by omega) (by show 23 ≤ 26; omega) (by omega) (by omega) rfl rfl ?_
      refine jT_xastore_n (v := (4, 26)) (L' := [(2, (4, 26)), (3, (0, 2)), (0, (4, 0)), (1, (4, 1))]) (pc' := 41) jIP_214_40 rfl rfl rfl rfl ?_
      refine jT_xiinc (x := 2) (z := 3) (L' := [(3, (0, 3)), (2, (4, 26)), (0, (4, 0)), (1, (4, 1))]) (pc' := 44) jIP_214_41 rfl rfl (by decide) rfl rfl ?_
      refine jT_xgoto (pc' := 7) jIP_214_44 rfl ?_
      refine jT_loc (L' := [(3, (0, 3)), (2, (4, 26)), (0, (4, 0)), (1, (4, 1))]) (by show List.Nodup [3, 2, 0, 1]; decide) (by intro q hq; simp only [List.mem_cons, List.not_mem_nil, or_false] at hq; rcases hq with rfl | rfl | rfl | rfl <;> rfl) ?_
      refine jT_gc [0, 1, 2, 3, 4, 5, 6, 7, 8, 9, 10, 11, 12, 13, 14, 15, 16, 17, 18, 19, 20, 21, 22, 26] (hs0 := [jzP_1, (101, [], [e0, e1, e2, e3, e4, e5]), jgh, jgh, jgh, jgh, jgh, (130, [], [17, 18, 19, 20, 21, 22]), jgh, jgh, jgh, jgh, jgh, jgh, jgh, jgh, jgh, (100, [], (jenc (jlg 0))), (100, [], (jenc (jlg 1))), (100, [], (jenc (jlg 2))), (100, [], (jenc (jlg 3))), (100, [], (jenc (jlg 4))), (100, [], (jenc (jlg 5))), (100, [], jenc (a + (e2 * jlg 2)))]) (L0 := [(3, (0, 3)), (2, (4, 23)), (0, (4, 0)), (1, (4, 1))]) (st0 := []) (by decide) rfl ⟨rfl, rfl, rfl, rfl, rfl, rfl, rfl, rfl, rfl, rfl, rfl, rfl, rfl, rfl, rfl, rfl, rfl, rfl, rfl, rfl, rfl, rfl, rfl, rfl, trivial⟩ rfl rfl (by decide) ?_
      exact jT.mono (jPl_lg_3_3 hd h_e0 h_e1 h_e2 h_e3 h_e4 h_e5 (jb1c ha hp.2.2 (by decide)) (by rw [← Int.add_assoc] at hw; exact hw) h) (Nat.le_refl _) (by omega) (by omega) (fun _ _ _ z => z)
  · refine jT_xiload_n (v := (0, 2)) (pc' := 8) jIP_214_7 rfl rfl rfl ?_
    refine jT_xbipush (k := 6) (pc' := 10) jIP_214_8 (by decide) rfl ?_
    refine jT_xicF (t := 47) (pc' := 13) jIP_214_10 rfl (by decide +kernel) rfl rfl ?_
    refine jT_xaload_n (v := (4, 1)) (pc' := 14) jIP_214_13 rfl rfl rfl ?_
    refine jT_xiload_n (v := (0, 2)) (pc' := 15) jIP_214_14 rfl rfl rfl ?_
    refine jT_lald (x := e2) (a := 1) (j := 2) (fs := []) (X := [e0, e1, e2, e3, e4, e5]) jIP_214_15 rfl rfl rfl rfl ?_
    refine jT_eq (L' := [(3, (0, 2)), (2, (4, 23)), (0, (4, 0)), (1, (4, 1))]) (st' := [(1, e2)]) (hs' := [jzP_1, (101, [], [e0, e1, e2, e3, e4, e5]), jgh, jgh, jgh, jgh, jgh, (130, [], [17, 18, 19, 20, 21, 22]), jgh, jgh, jgh, jgh, jgh, jgh, jgh, jgh, jgh, (100, [], (jenc (jlg 0))), (100, [], (jenc (jlg 1))), (100, [], (jenc (jlg 2))), (100, [], (jenc (jlg 3))), (100, [], (jenc (jlg 4))), (100, [], (jenc (jlg 5))), (100, [], (jenc a))]) rfl rfl rfl ?_
    refine jT_xlconst (z := 0) (pc' := 17) jIP_214_16 rfl rfl ?_
    refine jT_lcmp (a := e2) (b := 0) (z := 0) (by rfl) (by rfl) (jwl_idd (by omega) (by omega)) (jwl_idd (by omega) (by omega)) (by rw [decide_eq_false (show ¬ ((0 : Int) < e2) by omega), decide_eq_true (show (e2 : Int) = 0 by omega)]; rfl) ?_
    refine jT_xifT (pc' := 41) jIP_214_18 rfl (by decide +kernel) rfl ?_
    refine jT_xiinc (x := 2) (z := 3) (L' := [(3, (0, 3)), (2, (4, 23)), (0, (4, 0)), (1, (4, 1))]) (pc' := 44) jIP_214_41 rfl rfl (by decide) rfl rfl ?_
    refine jT_xgoto (pc' := 7) jIP_214_44 rfl ?_
    refine jT_loc (L' := [(3, (0, 3)), (2, (4, 23)), (0, (4, 0)), (1, (4, 1))]) (by show List.Nodup [3, 2, 0, 1]; decide) (by intro q hq; simp only [List.mem_cons, List.not_mem_nil, or_false] at hq; rcases hq with rfl | rfl | rfl | rfl <;> rfl) ?_
    exact jT.mono (jPl_lg_3_3 hd h_e0 h_e1 h_e2 h_e3 h_e4 h_e5 (by omega) (by rw [g_0, Int.zero_mul] at hw; omega) h) (Nat.le_refl _) (by omega) (by omega) (fun _ _ _ z => z)
  · have hp := jlt_m (k := 2) (e := e2) (by decide) (by omega) (by omega)
    rcases (show (a = 0) ∨ (a ≠ 0) by omega) with ga | ga
    · subst ga
      refine jT_xiload_n (v := (0, 2)) (pc' := 8) jIP_214_7 rfl rfl rfl ?_
      refine jT_xbipush (k := 6) (pc' := 10) jIP_214_8 (by decide) rfl ?_
      refine jT_xicF (t := 47) (pc' := 13) jIP_214_10 rfl (by decide +kernel) rfl rfl ?_
      refine jT_xaload_n (v := (4, 1)) (pc' := 14) jIP_214_13 rfl rfl rfl ?_
      refine jT_xiload_n (v := (0, 2)) (pc' := 15) jIP_214_14 rfl rfl rfl ?_
      refine jT_lald (x := e2) (a := 1) (j := 2) (fs := []) (X := [e0, e1, e2, e3, e4, e5]) jIP_214_15 rfl rfl rfl rfl ?_
      refine jT_eq (L' := [(3, (0, 2)), (2, (4, 23)), (0, (4, 0)), (1, (4, 1))]) (st' := [(1, e2)]) (hs' := [jzP_1, (101, [], [e0, e1, e2, e3, e4, e5]), jgh, jgh, jgh, jgh, jgh, (130, [], [17, 18, 19, 20, 21, 22]), jgh, jgh, jgh, jgh, jgh, jgh, jgh, jgh, jgh, (100, [], (jenc (jlg 0))), (100, [], (jenc (jlg 1))), (100, [], (jenc (jlg 2))), (100, [], (jenc (jlg 3))), (100, [], (jenc (jlg 4))), (100, [], (jenc (jlg 5))), (100, [], (jenc 0))]) rfl rfl rfl ?_
      refine jT_xlconst (z := 0) (pc' := 17) jIP_214_16 rfl rfl ?_
      refine jT_lcmp (a := e2) (b := 0) (z := 1) (by rfl) (by rfl) (jwl_idd (by omega) (by omega)) (jwl_idd (by omega) (by omega)) (by rw [decide_eq_true (show (0 : Int) < e2 by omega)]; rfl) ?_
      refine jT_xifF (t := 41) (pc' := 21) jIP_214_18 rfl (by decide +kernel) rfl rfl ?_
      refine jT_xaload_n (v := (4, 23)) (pc' := 22) jIP_214_21 rfl rfl rfl ?_
      refine jT_xaload_n (v := (4, 1)) (pc' := 23) jIP_214_22 rfl rfl rfl ?_
      refine jT_xiload_n (v := (0, 2)) (pc' := 24) jIP_214_23 rfl rfl rfl ?_
      refine jT_lald (x := e2) (a := 1) (j := 2) (fs := []) (X := [e0, e1, e2, e3, e4, e5]) jIP_214_24 rfl rfl rfl rfl ?_
      refine jT_eq (L' := [(3, (0, 2)), (2, (4, 23)), (0, (4, 0)), (1, (4, 1))]) (st' := [(1, e2), (4, 23)]) (hs' := [jzP_1, (101, [], [e0, e1, e2, e3, e4, e5]), jgh, jgh, jgh, jgh, jgh, (130, [], [17, 18, 19, 20, 21, 22]), jgh, jgh, jgh, jgh, jgh, jgh, jgh, jgh, jgh, (100, [], (jenc (jlg 0))), (100, [], (jenc (jlg 1))), (100, [], (jenc (jlg 2))), (100, [], (jenc (jlg 3))), (100, [], (jenc (jlg 4))), (100, [], (jenc (jlg 5))), (100, [], (jenc 0))]) rfl rfl rfl ?_
      refine jT_callA [] (y := 178) (pc' := 28) (dC := 1) (bc1 := 1) (bc2 := 56) (c1 := (b1 + 11)) (c2 := (b2 + 616)) (as := [(1, e2)]) (asC := [(1, e2)]) (L' := [(3, (0, 2)), (2, (4, 23)), (0, (4, 0)), (1, (4, 1))]) (st' := [(4, 23)]) (hsC := []) (ex := [(100, [], (jenc e2))]) (v := (4, 0)) (st2 := [(4, 24), (4, 23)]) (hs2 := [jzP_1, (101, [], [e0, e1, e2, e3, e4, e5]), jgh, jgh, jgh, jgh, jgh, (130, [], [17, 18, 19, 20, 21, 22]), jgh, jgh, jgh, jgh, jgh, jgh, jgh, jgh, jgh, (100, [], (jenc (jlg 0))), (100, [], (jenc (jlg 1))), (100, [], (jenc (jlg 2))), (100, [], (jenc (jlg 3))), (100, [], (jenc (jlg 4))), (100, [], (jenc (jlg 5))), (100, [], (jenc 0)), (100, [], (jenc e2))]) (jT_big (d := 0) (v := e2) (by omega) (by omega)) (by rfl) (by rfl) (by rfl) (by rfl) trivial (by rfl) (by rfl) (by omega) (by show 23 ≤ 24; omega) (by omega) (by omega) rfl rfl ?_
      refine jT_xaload_n (v := (4, 0)) (pc' := 29) jIP_214_28 rfl rfl rfl ?_
      refine jT_xgetf (a := 0) (t := 1) (ci := 14) (fi := 8) (c := jzP_1) (v := (4, 7)) (pc' := 32) jIP_214_29 rfl rfl rfl rfl rfl rfl rfl ?_
      refine jT_xiload_n (v := (0, 2)) (pc' := 33) jIP_214_32 rfl rfl rfl ?_
      refine jT_aald (x := 19) (a := 7) (j := 2) (fs := []) (X := [17, 18, 19, 20, 21, 22]) (kd := 130) jIP_214_33 rfl rfl rfl rfl rfl ?_
      refine jT_eq (L' := [(3, (0, 2)), (2, (4, 23)), (0, (4, 0)), (1, (4, 1))]) (st' := [(4, 19), (4, 24), (4, 23)]) (hs' := [jzP_1, (101, [], [e0, e1, e2, e3, e4, e5]), jgh, jgh, jgh, jgh, jgh, (130, [], [17, 18, 19, 20, 21, 22]), jgh, jgh, jgh, jgh, jgh, jgh, jgh, jgh, jgh, (100, [], (jenc (jlg 0))), (100, [], (jenc (jlg 1))), (100, [], (jenc (jlg 2))), (100, [], (jenc (jlg 3))), (100, [], (jenc (jlg 4))), (100, [], (jenc (jlg 5))), (100, [], (jenc 0)), (100, [], (jenc e2))]) rfl rfl rfl ?_
      refine jT_callA [24, 19] (y := 179) (pc' := 37) (dC := 1) (bc1 := 1) (bc2 := 56) (c1 := (b1 + 10)) (c2 := (b2 + 560)) (as := [(4, 24), (4, 19)]) (asC := [(4, 0), (4, 1)]) (L' := [(3, (0, 2)), (2, (4, 23)), (0, (4, 0)), (1, (4, 1))]) (st' := [(4, 23)]) (hsC := [(100, [], (jenc e2)), (100, [], (jenc (jlg 2)))]) (ex := [(100, [], (jenc (e2 * jlg 2)))]) (v := (4, 2)) (st2 := [(4, 25), (4, 23)]) (hs2 := [jzP_1, (101, [], [e0, e1, e2, e3, e4, e5]), jgh, jgh, jgh, jgh, jgh, (130, [], [17, 18, 19, 20, 21, 22]), jgh, jgh, jgh, jgh, jgh, jgh, jgh, jgh, jgh, (100, [], (jenc (jlg 0))), (100, [], (jenc (jlg 1))), (100, [], (jenc (jlg 2))), (100, [], (jenc (jlg 3))), (100, [], (jenc (jlg 4))), (100, [], (jenc (jlg 5))), (100, [], (jenc 0)), (100, [], (jenc e2)), (100, [], (jenc (e2 * jlg 2)))]) (jT_product (d := 0) (a := e2) (b := jlg 2) (jb54 (by omega) (by omega)) hp.1) (by rfl) (by rfl) (by rfl) (by rfl) ⟨rfl, rfl, trivial⟩ (by rfl) (by rfl) (by omega) (by show 23 ≤ 25; omega) (by omega) (by omega) rfl rfl ?_
      refine jT_callA [23, 25] (y := 181) (pc' := 40) (dC := 0) (bc1 := 0) (bc2 := 0) (c1 := (b1 + 10)) (c2 := (b2 + 560)) (as := [(4, 23), (4, 25)]) (asC := [(4, 0), (4, 1)]) (L' := [(3, (0, 2)), (2, (4, 23)), (0, (4, 0)), (1, (4, 1))]) (st' := []) (hsC := [(100, [], (jenc 0)), (100, [], (jenc (e2 * jlg 2)))]) (ex := []) (v := (4, 1)) (st2 := [(4, 25)]) (hs2 := [jzP_1, (101, [], [e0, e1, e2, e3, e4, e5]), jgh, jgh, jgh, jgh, jgh, (130, [], [17, 18, 19, 20, 21, 22]), jgh, jgh, jgh, jgh, jgh, jgh, jgh, jgh, jgh, (100, [], (jenc (jlg 0))), (100, [], (jenc (jlg 1))), (100, [], (jenc (jlg 2))), (100, [], (jenc (jlg 3))), (100, [], (jenc (jlg 4))), (100, [], (jenc (jlg 5))), (100, [], (jenc 0)), (100, [], (jenc e2)), (100, [], (jenc (e2 * jlg 2)))]) (jT_added_0l (d := 0) (b := e2 * jlg 2)) (by rfl) (by rfl) (by rfl) (by rfl) ⟨rfl, rfl, trivial⟩ (by rfl) (by rfl) (by omega) (by show 23 ≤ 26; omega) (by omega) (by omega) rfl rfl ?_
      refine jT_xastore_n (v := (4, 25)) (L' := [(2, (4, 25)), (3, (0, 2)), (0, (4, 0)), (1, (4, 1))]) (pc' := 41) jIP_214_40 rfl rfl rfl rfl ?_
      refine jT_xiinc (x := 2) (z := 3) (L' := [(3, (0, 3)), (2, (4, 25)), (0, (4, 0)), (1, (4, 1))]) (pc' := 44) jIP_214_41 rfl rfl (by decide) rfl rfl ?_
      refine jT_xgoto (pc' := 7) jIP_214_44 rfl ?_
      refine jT_loc (L' := [(3, (0, 3)), (2, (4, 25)), (0, (4, 0)), (1, (4, 1))]) (by show List.Nodup [3, 2, 0, 1]; decide) (by intro q hq; simp only [List.mem_cons, List.not_mem_nil, or_false] at hq; rcases hq with rfl | rfl | rfl | rfl <;> rfl) ?_
      refine jT_gc [0, 1, 2, 3, 4, 5, 6, 7, 8, 9, 10, 11, 12, 13, 14, 15, 16, 17, 18, 19, 20, 21, 22, 25] (hs0 := [jzP_1, (101, [], [e0, e1, e2, e3, e4, e5]), jgh, jgh, jgh, jgh, jgh, (130, [], [17, 18, 19, 20, 21, 22]), jgh, jgh, jgh, jgh, jgh, jgh, jgh, jgh, jgh, (100, [], (jenc (jlg 0))), (100, [], (jenc (jlg 1))), (100, [], (jenc (jlg 2))), (100, [], (jenc (jlg 3))), (100, [], (jenc (jlg 4))), (100, [], (jenc (jlg 5))), (100, [], jenc (e2 * jlg 2))]) (L0 := [(3, (0, 3)), (2, (4, 23)), (0, (4, 0)), (1, (4, 1))]) (st0 := []) (by decide) rfl ⟨rfl, rfl, rfl, rfl, rfl, rfl, rfl, rfl, rfl, rfl, rfl, rfl, rfl, rfl, rfl, rfl, rfl, rfl, rfl, rfl, rfl, rfl, rfl, rfl, trivial⟩ rfl rfl (by decide) ?_
      exact jT.mono (jPl_lg_3_3 hd h_e0 h_e1 h_e2 h_e3 h_e4 h_e5 (Nat.le_trans hp.2.2 (by decide)) (by rw [Int.zero_add] at hw; exact hw) h) (Nat.le_refl _) (by omega) (by omega) (fun _ _ _ z => z)
    · refine jT_xiload_n (v := (0, 2)) (pc' := 8) jIP_214_7 rfl rfl rfl ?_
      refine jT_xbipush (k := 6) (pc' := 10) jIP_214_8 (by decide) rfl ?_
      refine jT_xicF (t := 47) (pc' := 13) jIP_214_10 rfl (by decide +kernel) rfl rfl ?_
      refine jT_xaload_n (v := (4, 1)) (pc' := 14) jIP_214_13 rfl rfl rfl ?_
      refine jT_xiload_n (v := (0, 2)) (pc' := 15) jIP_214_14 rfl rfl rfl ?_
      refine jT_lald (x := e2) (a := 1) (j := 2) (fs := []) (X := [e0, e1, e2, e3, e4, e5]) jIP_214_15 rfl rfl rfl rfl ?_
      refine jT_eq (L' := [(3, (0, 2)), (2, (4, 23)), (0, (4, 0)), (1, (4, 1))]) (st' := [(1, e2)]) (hs' := [jzP_1, (101, [], [e0, e1, e2, e3, e4, e5]), jgh, jgh, jgh, jgh, jgh, (130, [], [17, 18, 19, 20, 21, 22]), jgh, jgh, jgh, jgh, jgh, jgh, jgh, jgh, jgh, (100, [], (jenc (jlg 0))), (100, [], (jenc (jlg 1))), (100, [], (jenc (jlg 2))), (100, [], (jenc (jlg 3))), (100, [], (jenc (jlg 4))), (100, [], (jenc (jlg 5))), (100, [], (jenc a))]) rfl rfl rfl ?_
      refine jT_xlconst (z := 0) (pc' := 17) jIP_214_16 rfl rfl ?_
      refine jT_lcmp (a := e2) (b := 0) (z := 1) (by rfl) (by rfl) (jwl_idd (by omega) (by omega)) (jwl_idd (by omega) (by omega)) (by rw [decide_eq_true (show (0 : Int) < e2 by omega)]; rfl) ?_
      refine jT_xifF (t := 41) (pc' := 21) jIP_214_18 rfl (by decide +kernel) rfl rfl ?_
      refine jT_xaload_n (v := (4, 23)) (pc' := 22) jIP_214_21 rfl rfl rfl ?_
      refine jT_xaload_n (v := (4, 1)) (pc' := 23) jIP_214_22 rfl rfl rfl ?_
      refine jT_xiload_n (v := (0, 2)) (pc' := 24) jIP_214_23 rfl rfl rfl ?_
      refine jT_lald (x := e2) (a := 1) (j := 2) (fs := []) (X := [e0, e1, e2, e3, e4, e5]) jIP_214_24 rfl rfl rfl rfl ?_
      refine jT_eq (L' := [(3, (0, 2)), (2, (4, 23)), (0, (4, 0)), (1, (4, 1))]) (st' := [(1, e2), (4, 23)]) (hs' := [jzP_1, (101, [], [e0, e1, e2, e3, e4, e5]), jgh, jgh, jgh, jgh, jgh, (130, [], [17, 18, 19, 20, 21, 22]), jgh, jgh, jgh, jgh, jgh, jgh, jgh, jgh, jgh, (100, [], (jenc (jlg 0))), (100, [], (jenc (jlg 1))), (100, [], (jenc (jlg 2))), (100, [], (jenc (jlg 3))), (100, [], (jenc (jlg 4))), (100, [], (jenc (jlg 5))), (100, [], (jenc a))]) rfl rfl rfl ?_
      refine jT_callA [] (y := 178) (pc' := 28) (dC := 1) (bc1 := 1) (bc2 := 56) (c1 := (b1 + 11)) (c2 := (b2 + 616)) (as := [(1, e2)]) (asC := [(1, e2)]) (L' := [(3, (0, 2)), (2, (4, 23)), (0, (4, 0)), (1, (4, 1))]) (st' := [(4, 23)]) (hsC := []) (ex := [(100, [], (jenc e2))]) (v := (4, 0)) (st2 := [(4, 24), (4, 23)]) (hs2 := [jzP_1, (101, [], [e0, e1, e2, e3, e4, e5]), jgh, jgh, jgh, jgh, jgh, (130, [], [17, 18, 19, 20, 21, 22]), jgh, jgh, jgh, jgh, jgh, jgh, jgh, jgh, jgh, (100, [], (jenc (jlg 0))), (100, [], (jenc (jlg 1))), (100, [], (jenc (jlg 2))), (100, [], (jenc (jlg 3))), (100, [], (jenc (jlg 4))), (100, [], (jenc (jlg 5))), (100, [], (jenc a)), (100, [], (jenc e2))]) (jT_big (d := 0) (v := e2) (by omega) (by omega)) (by rfl) (by rfl) (by rfl) (by rfl) trivial (by rfl) (by rfl) (by omega) (by show 23 ≤ 24; omega) (by omega) (by omega) rfl rfl ?_
      refine jT_xaload_n (v := (4, 0)) (pc' := 29) jIP_214_28 rfl rfl rfl ?_
      refine jT_xgetf (a := 0) (t := 1) (ci := 14) (fi := 8) (c := jzP_1) (v := (4, 7)) (pc' := 32) jIP_214_29 rfl rfl rfl rfl rfl rfl rfl ?_
      refine jT_xiload_n (v := (0, 2)) (pc' := 33) jIP_214_32 rfl rfl rfl ?_
      refine jT_aald (x := 19) (a := 7) (j := 2) (fs := []) (X := [17, 18, 19, 20, 21, 22]) (kd := 130) jIP_214_33 rfl rfl rfl rfl rfl ?_
      refine jT_eq (L' := [(3, (0, 2)), (2, (4, 23)), (0, (4, 0)), (1, (4, 1))]) (st' := [(4, 19), (4, 24), (4, 23)]) (hs' := [jzP_1, (101, [], [e0, e1, e2, e3, e4, e5]), jgh, jgh, jgh, jgh, jgh, (130, [], [17, 18, 19, 20, 21, 22]), jgh, jgh, jgh, jgh, jgh, jgh, jgh, jgh, jgh, (100, [], (jenc (jlg 0))), (100, [], (jenc (jlg 1))), (100, [], (jenc (jlg 2))), (100, [], (jenc (jlg 3))), (100, [], (jenc (jlg 4))), (100, [], (jenc (jlg 5))), (100, [], (jenc a)), (100, [], (jenc e2))]) rfl rfl rfl ?_
      refine jT_callA [24, 19] (y := 179) (pc' := 37) (dC := 1) (bc1 := 1) (bc2 := 56) (c1 := (b1 + 10)) (c2 := (b2 + 560)) (as := [(4, 24), (4, 19)]) (asC := [(4, 0), (4, 1)]) (L' := [(3, (0, 2)), (2, (4, 23)), (0, (4, 0)), (1, (4, 1))]) (st' := [(4, 23)]) (hsC := [(100, [], (jenc e2)), (100, [], (jenc (jlg 2)))]) (ex := [(100, [], (jenc (e2 * jlg 2)))]) (v := (4, 2)) (st2 := [(4, 25), (4, 23)]) (hs2 := [jzP_1, (101, [], [e0, e1, e2, e3, e4, e5]), jgh, jgh, jgh, jgh, jgh, (130, [], [17, 18, 19, 20, 21, 22]), jgh, jgh, jgh, jgh, jgh, jgh, jgh, jgh, jgh, (100, [], (jenc (jlg 0))), (100, [], (jenc (jlg 1))), (100, [], (jenc (jlg 2))), (100, [], (jenc (jlg 3))), (100, [], (jenc (jlg 4))), (100, [], (jenc (jlg 5))), (100, [], (jenc a)), (100, [], (jenc e2)), (100, [], (jenc (e2 * jlg 2)))]) (jT_product (d := 0) (a := e2) (b := jlg 2) (jb54 (by omega) (by omega)) hp.1) (by rfl) (by rfl) (by rfl) (by rfl) ⟨rfl, rfl, trivial⟩ (by rfl) (by rfl) (by omega) (by show 23 ≤ 25; omega) (by omega) (by omega) rfl rfl ?_
      refine jT_callA [23, 25] (y := 181) (pc' := 40) (dC := 1) (bc1 := 1) (bc2 := 56) (c1 := (b1 + 9)) (c2 := (b2 + 504)) (as := [(4, 23), (4, 25)]) (asC := [(4, 0), (4, 1)]) (L' := [(3, (0, 2)), (2, (4, 23)), (0, (4, 0)), (1, (4, 1))]) (st' := []) (hsC := [(100, [], (jenc a)), (100, [], (jenc (e2 * jlg 2)))]) (ex := [(100, [], (jenc (a + (e2 * jlg 2))))]) (v := (4, 2)) (st2 := [(4, 26)]) (hs2 := [jzP_1, (101, [], [e0, e1, e2, e3, e4, e5]), jgh, jgh, jgh, jgh, jgh, (130, [], [17, 18, 19, 20, 21, 22]), jgh, jgh, jgh, jgh, jgh, jgh, jgh, jgh, jgh, (100, [], (jenc (jlg 0))), (100, [], (jenc (jlg 1))), (100, [], (jenc (jlg 2))), (100, [], (jenc (jlg 3))), (100, [], (jenc (jlg 4))), (100, [], (jenc (jlg 5))), (100, [], (jenc a)), (100, [], (jenc e2)), (100, [], (jenc (e2 * jlg 2))), (100, [], (jenc (a + (e2 * jlg 2))))]) (jT_added (d := 0) (a := a) (b := e2 * jlg 2) ga hp.2.1 (jb54k ha (by decide)) hp.1 (jb54a ha hp.2.2 (by decide))) (by rfl) (by rfl) (by rfl) (by rfl) ⟨rfl, rfl, trivial⟩ (by rfl) (by rfl) (by omega) (by show 23 ≤ 26; omega) (by omega) (by omega) rfl rfl ?_
      refine jT_xastore_n (v := (4, 26)) (L' := [(2, (4, 26)), (3, (0, 2)), (0, (4, 0)), (1, (4, 1))]) (pc' := 41) jIP_214_40 rfl rfl rfl rfl ?_
      refine jT_xiinc (x := 2) (z := 3) (L' := [(3, (0, 3)), (2, (4, 26)), (0, (4, 0)), (1, (4, 1))]) (pc' := 44) jIP_214_41 rfl rfl (by decide) rfl rfl ?_
      refine jT_xgoto (pc' := 7) jIP_214_44 rfl ?_
      refine jT_loc (L' := [(3, (0, 3)), (2, (4, 26)), (0, (4, 0)), (1, (4, 1))]) (by show List.Nodup [3, 2, 0, 1]; decide) (by intro q hq; simp only [List.mem_cons, List.not_mem_nil, or_false] at hq; rcases hq with rfl | rfl | rfl | rfl <;> rfl) ?_
      refine jT_gc [0, 1, 2, 3, 4, 5, 6, 7, 8, 9, 10, 11, 12, 13, 14, 15, 16, 17, 18, 19, 20, 21, 22, 26] (hs0 := [jzP_1, (101, [], [e0, e1, e2, e3, e4, e5]), jgh, jgh, jgh, jgh, jgh, (130, [], [17, 18, 19, 20, 21, 22]), jgh, jgh, jgh, jgh, jgh, jgh, jgh, jgh, jgh, (100, [], (jenc (jlg 0))), (100, [], (jenc (jlg 1))), (100, [], (jenc (jlg 2))), (100, [], (jenc (jlg 3))), (100, [], (jenc (jlg 4))), (100, [], (jenc (jlg 5))), (100, [], jenc (a + (e2 * jlg 2)))]) (L0 := [(3, (0, 3)), (2, (4, 23)), (0, (4, 0)), (1, (4, 1))]) (st0 := []) (by decide) rfl ⟨rfl, rfl, rfl, rfl, rfl, rfl, rfl, rfl, rfl, rfl, rfl, rfl, rfl, rfl, rfl, rfl, rfl, rfl, rfl, rfl, rfl, rfl, rfl, rfl, trivial⟩ rfl rfl (by decide) ?_
      exact jT.mono (jPl_lg_3_3 hd h_e0 h_e1 h_e2 h_e3 h_e4 h_e5 (jb1c ha hp.2.2 (by decide)) (by rw [← Int.add_assoc] at hw; exact hw) h) (Nat.le_refl _) (by omega) (by omega) (fun _ _ _ z => z)
theorem jPl_lg_3_1 {xs : List Int} {d b1 b2 : Nat} {Q : Nat → JV → List JC → Prop} (hd : 1 < d) {a w e0 e1 e2 e3 e4 e5 : Int} (h_e0 : -4611686018427387903 ≤ e0 ∧ e0 ≤ 4611686018427387903) (h_e1 : -4611686018427387903 ≤ e1 ∧ e1 ≤ 4611686018427387903) (h_e2 : -4611686018427387903 ≤ e2 ∧ e2 ≤ 4611686018427387903) (h_e3 : -4611686018427387903 ≤ e3 ∧ e3 ≤ 4611686018427387903) (h_e4 : -4611686018427387903 ≤ e4 ∧ e4 ≤ 4611686018427387903) (h_e5 : -4611686018427387903 ≤ e5 ∧ e5 ≤ 4611686018427387903) (ha : a.natAbs ≤ 1 * 10 ^ 220) (hw : a + (e1 * jlg 1 + (e2 * jlg 2 + (e3 * jlg 3 + (e4 * jlg 4 + (e5 * jlg 5))))) = w) (h : jT xs d 214 23 47 [(2, (4, 23))] [] [jzP_1, (101, [], [e0, e1, e2, e3, e4, e5]), jgh, jgh, jgh, jgh, jgh, (130, [], [17, 18, 19, 20, 21, 22]), jgh, jgh, jgh, jgh, jgh, jgh, jgh, jgh, jgh, (100, [], (jenc (jlg 0))), (100, [], (jenc (jlg 1))), (100, [], (jenc (jlg 2))), (100, [], (jenc (jlg 3))), (100, [], (jenc (jlg 4))), (100, [], (jenc (jlg 5))), (100, [], jenc w)] b1 b2 Q) : jT xs d 214 23 7 [(3, (0, 1)), (2, (4, 23)), (0, (4, 0)), (1, (4, 1))] [] [jzP_1, (101, [], [e0, e1, e2, e3, e4, e5]), jgh, jgh, jgh, jgh, jgh, (130, [], [17, 18, 19, 20, 21, 22]), jgh, jgh, jgh, jgh, jgh, jgh, jgh, jgh, jgh, (100, [], (jenc (jlg 0))), (100, [], (jenc (jlg 1))), (100, [], (jenc (jlg 2))), (100, [], (jenc (jlg 3))), (100, [], (jenc (jlg 4))), (100, [], (jenc (jlg 5))), (100, [], jenc a)] (b1 + 15) (b2 + 840) Q := by
  rcases (show (e1 < 0) ∨ (e1 = 0) ∨ (0 < e1) by omega) with g_0 | g_0 | g_0
  · have hp := jlt_m (k := 1) (e := e1) (by decide) (by omega) (by omega)
    rcases (show (a = 0) ∨ (a ≠ 0) by omega) with ga | ga
    · subst ga
      refine jT_xiload_n (v := (0, 1)) (pc' := 8) jIP_214_7 rfl rfl rfl ?_
      refine jT_xbipush (k := 6) (pc' := 10) jIP_214_8 (by decide) rfl ?_
      refine jT_xicF (t := 47) (pc' := 13) jIP_214_10 rfl (by decide +kernel) rfl rfl ?_
      refine jT_xaload_n (v := (4, 1)) (pc' := 14) jIP_214_13 rfl rfl rfl ?_
      refine jT_xiload_n (v := (0, 1)) (pc' := 15) jIP_214_14 rfl rfl rfl ?_
      refine jT_lald (x := e1) (a := 1) (j := 1) (fs := []) (X := [e0, e1, e2, e3, e4, e5]) jIP_214_15 rfl rfl rfl rfl ?_
      refine jT_eq (L' := [(3, (0, 1)), (2, (4, 23)), (0, (4, 0)), (1, (4, 1))]) (st' := [(1, e1)]) (hs' := [jzP_1, (101, [], [e0, e1, e2, e3, e4, e5]), jgh, jgh, jgh, jgh, jgh, (130, [], [17, 18, 19, 20, 21, 22]), jgh, jgh, jgh, jgh, jgh, jgh, jgh, jgh, jgh, (100, [], (jenc (jlg 0))), (100, [], (jenc (jlg 1))), (100, [], (jenc (jlg 2))), (100, [], (jenc (jlg 3))), (100, [], (jenc (jlg 4))), (100, [], (jenc (jlg 5))), (100, [], (jenc 0))]) rfl rfl rfl ?_
      refine jT_xlconst (z := 0) (pc' := 17) jIP_214_16 rfl rfl ?_
      refine jT_lcmp (a := e1) (b := 0) (z := (-1)) (by rfl) (by rfl) (jwl_idd (by omega) (by omega)) (jwl_idd (by omega) (by omega)) (by rw [decide_eq_false (show ¬ ((0 : Int) < e1) by omega), decide_eq_false (show ¬ ((e1 : Int) = 0) by omega)]; rfl) ?_
      refine jT_xifF (t := 41) (pc' := 21) jIP_214_18 rfl (by decide +kernel) rfl rfl ?_
      refine jT_xaload_n (v := (4, 23)) (pc' := 22) jIP_214_21 rfl rfl rfl ?_
      refine jT_xaload_n (v := (4, 1)) (pc' := 23) jIP_214_22 rfl rfl rfl ?_
      refine jT_xiload_n (v := (0, 1)) (pc' := 24) jIP_214_23 rfl rfl rfl ?_
      refine jT_lald (x := e1) (a := 1) (j := 1) (fs := []) (X := [e0, e1, e2, e3, e4, e5]) jIP_214_24 rfl rfl rfl rfl ?_
      refine jT_eq (L' := [(3, (0, 1)), (2, (4, 23)), (0, (4, 0)), (1, (4, 1))]) (st' := [(1, e1), (4, 23)]) (hs' := [jzP_1, (101, [], [e0, e1, e2, e3, e4, e5]), jgh, jgh, jgh, jgh, jgh, (130, [], [17, 18, 19, 20, 21, 22]), jgh, jgh, jgh, jgh, jgh, jgh, jgh, jgh, jgh, (100, [], (jenc (jlg 0))), (100, [], (jenc (jlg 1))), (100, [], (jenc (jlg 2))), (100, [], (jenc (jlg 3))), (100, [], (jenc (jlg 4))), (100, [], (jenc (jlg 5))), (100, [], (jenc 0))]) rfl rfl rfl ?_
      refine jT_callA [] (y := 178) (pc' := 28) (dC := 1) (bc1 := 1) (bc2 := 56) (c1 := (b1 + 14)) (c2 := (b2 + 784)) (as := [(1, e1)]) (asC := [(1, e1)]) (L' := [(3, (0, 1)), (2, (4, 23)), (0, (4, 0)), (1, (4, 1))]) (st' := [(4, 23)]) (hsC := []) (ex := [(100, [], (jenc e1))]) (v := (4, 0)) (st2 := [(4, 24), (4, 23)]) (hs2 := [jzP_1, (101, [], [e0, e1, e2, e3, e4, e5]), jgh, jgh, jgh, jgh, jgh, (130, [], [17, 18, 19, 20, 21, 22]), jgh, jgh, jgh, jgh, jgh, jgh, jgh, jgh, jgh, (100, [], (jenc (jlg 0))), (100, [], (jenc (jlg 1))), (100, [], (jenc (jlg 2))), (100, [], (jenc (jlg 3))), (100, [], (jenc (jlg 4))), (100, [], (jenc (jlg 5))), (100, [], (jenc 0)), (100, [], (jenc e1))]) (jT_big (d := 0) (v := e1) (by omega) (by omega)) (by rfl) (by rfl) (by rfl) (by rfl) trivial (by rfl) (by rfl) (by omega) (by show 23 ≤ 24; omega) (by omega) (by omega) rfl rfl ?_
      refine jT_xaload_n (v := (4, 0)) (pc' := 29) jIP_214_28 rfl rfl rfl ?_
      refine jT_xgetf (a := 0) (t := 1) (ci := 14) (fi := 8) (c := jzP_1) (v := (4, 7)) (pc' := 32) jIP_214_29 rfl rfl rfl rfl rfl rfl rfl ?_
      refine jT_xiload_n (v := (0, 1)) (pc' := 33) jIP_214_32 rfl rfl rfl ?_
      refine jT_aald (x := 18) (a := 7) (j := 1) (fs := []) (X := [17, 18, 19, 20, 21, 22]) (kd := 130) jIP_214_33 rfl rfl rfl rfl rfl ?_
      refine jT_eq (L' := [(3, (0, 1)), (2, (4, 23)), (0, (4, 0)), (1, (4, 1))]) (st' := [(4, 18), (4, 24), (4, 23)]) (hs' := [jzP_1, (101, [], [e0, e1, e2, e3, e4, e5]), jgh, jgh, jgh, jgh, jgh, (130, [], [17, 18, 19, 20, 21, 22]), jgh, jgh, jgh, jgh, jgh, jgh, jgh, jgh, jgh, (100, [], (jenc (jlg 0))), (100, [], (jenc (jlg 1))), (100, [], (jenc (jlg 2))), (100, [], (jenc (jlg 3))), (100, [], (jenc (jlg 4))), (100, [], (jenc (jlg 5))), (100, [], (jenc 0)), (100, [], (jenc e1))]) rfl rfl rfl ?_
      refine jT_callA [24, 18] (y := 179) (pc' := 37) (dC := 1) (bc1 := 1) (bc2 := 56) (c1 := (b1 + 13)) (c2 := (b2 + 728)) (as := [(4, 24), (4, 18)]) (asC := [(4, 0), (4, 1)]) (L' := [(3, (0, 1)), (2, (4, 23)), (0, (4, 0)), (1, (4, 1))]) (st' := [(4, 23)]) (hsC := [(100, [], (jenc e1)), (100, [], (jenc (jlg 1)))]) (ex := [(100, [], (jenc (e1 * jlg 1)))]) (v := (4, 2)) (st2 := [(4, 25), (4, 23)]) (hs2 := [jzP_1, (101, [], [e0, e1, e2, e3, e4, e5]), jgh, jgh, jgh, jgh, jgh, (130, [], [17, 18, 19, 20, 21, 22]), jgh, jgh, jgh, jgh, jgh, jgh, jgh, jgh, jgh, (100, [], (jenc (jlg 0))), (100, [], (jenc (jlg 1))), (100, [], (jenc (jlg 2))), (100, [], (jenc (jlg 3))), (100, [], (jenc (jlg 4))), (100, [], (jenc (jlg 5))), (100, [], (jenc 0)), (100, [], (jenc e1)), (100, [], (jenc (e1 * jlg 1)))]) (jT_product (d := 0) (a := e1) (b := jlg 1) (jb54 (by omega) (by omega)) hp.1) (by rfl) (by rfl) (by rfl) (by rfl) ⟨rfl, rfl, trivial⟩ (by rfl) (by rfl) (by omega) (by show 23 ≤ 25; omega) (by omega) (by omega) rfl rfl ?_
      refine jT_callA [23, 25] (y := 181) (pc' := 40) (dC := 0) (bc1 := 0) (bc2 := 0) (c1 := (b1 + 13)) (c2 := (b2 + 728)) (as := [(4, 23), (4, 25)]) (asC := [(4, 0), (4, 1)]) (L' := [(3, (0, 1)), (2, (4, 23)), (0, (4, 0)), (1, (4, 1))]) (st' := []) (hsC := [(100, [], (jenc 0)), (100, [], (jenc (e1 * jlg 1)))]) (ex := []) (v := (4, 1)) (st2 := [(4, 25)]) (hs2 := [jzP_1, (101, [], [e0, e1, e2, e3, e4, e5]), jgh, jgh, jgh, jgh, jgh, (130, [], [17, 18, 19, 20, 21, 22]), jgh, jgh, jgh, jgh, jgh, jgh, jgh, jgh, jgh, (100, [], (jenc (jlg 0))), (100, [], (jenc (jlg 1))), (100, [], (jenc (jlg 2))), (100, [], (jenc (jlg 3))), (100, [], (jenc (jlg 4))), (100, [], (jenc (jlg 5))), (100, [], (jenc 0)), (100, [], (jenc e1)), (100, [], (jenc (e1 * jlg 1)))]) (jT_added_0l (d := 0) (b := e1 * jlg 1)) (by rfl) (by rfl) (by rfl) (by rfl) ⟨rfl, rfl, trivial⟩ (by rfl) (by rfl) (by omega) (by show 23 ≤ 26; omega) (by omega) (by omega) rfl rfl ?_
      refine jT_xastore_n (v := (4, 25)) (L' := [(2, (4, 25)), (3, (0, 1)), (0, (4, 0)), (1, (4, 1))]) (pc' := 41) jIP_214_40 rfl rfl rfl rfl ?_
      refine jT_xiinc (x := 1) (z := 2) (L' := [(3, (0, 2)), (2, (4, 25)), (0, (4, 0)), (1, (4, 1))]) (pc' := 44) jIP_214_41 rfl rfl (by decide) rfl rfl ?_
      refine jT_xgoto (pc' := 7) jIP_214_44 rfl ?_
      refine jT_loc (L' := [(3, (0, 2)), (2, (4, 25)), (0, (4, 0)), (1, (4, 1))]) (by show List.Nodup [3, 2, 0, 1]; decide) (by intro q hq; simp only [List.mem_cons, List.not_mem_nil, or_false] at hq; rcases hq with rfl | rfl | rfl | rfl <;> rfl) ?_
      refine jT_gc [0, 1, 2, 3, 4, 5, 6, 7, 8, 9, 10, 11, 12, 13, 14, 15, 16, 17, 18, 19, 20, 21, 22, 25] (hs0 := [jzP_1, (101, [], [e0, e1, e2, e3, e4, e5]), jgh, jgh, jgh, jgh, jgh, (130, [], [17, 18, 19, 20, 21, 22]), jgh, jgh, jgh, jgh, jgh, jgh, jgh, jgh, jgh, (100, [], (jenc (jlg 0))), (100, [], (jenc (jlg 1))), (100, [], (jenc (jlg 2))), (100, [], (jenc (jlg 3))), (100, [], (jenc (jlg 4))), (100, [], (jenc (jlg 5))), (100, [], jenc (e1 * jlg 1))]) (L0 := [(3, (0, 2)), (2, (4, 23)), (0, (4, 0)), (1, (4, 1))]) (st0 := []) (by decide) rfl ⟨rfl, rfl, rfl, rfl, rfl, rfl, rfl, rfl, rfl, rfl, rfl, rfl, rfl, rfl, rfl, rfl, rfl, rfl, rfl, rfl, rfl, rfl, rfl, rfl, trivial⟩ rfl rfl (by decide) ?_
      exact jT.mono (jPl_lg_3_2 hd h_e0 h_e1 h_e2 h_e3 h_e4 h_e5 (Nat.le_trans hp.2.2 (by decide)) (by rw [Int.zero_add] at hw; exact hw) h) (Nat.le_refl _) (by omega) (by omega) (fun _ _ _ z => z)
    · refine jT_xiload_n (v := (0, 1)) (pc' := 8) jIP_214_7 rfl rfl rfl ?_
      refine jT_xbipush (k := 6) (pc' := 10) jIP_214_8 (by decide) rfl ?_
      refine jT_xicF (t := 47) (pc' := 13) jIP_214_10 rfl (by decide +kernel) rfl rfl ?_
      refine jT_xaload_n (v := (4, 1)) (pc' := 14) jIP_214_13 rfl rfl rfl ?_
      refine jT_xiload_n (v := (0, 1)) (pc' := 15) jIP_214_14 rfl rfl rfl ?_
      refine jT_lald (x := e1) (a := 1) (j := 1) (fs := []) (X := [e0, e1, e2, e3, e4, e5]) jIP_214_15 rfl rfl rfl rfl ?_
      refine jT_eq (L' := [(3, (0, 1)), (2, (4, 23)), (0, (4, 0)), (1, (4, 1))]) (st' := [(1, e1)]) (hs' := [jzP_1, (101, [], [e0, e1, e2, e3, e4, e5]), jgh, jgh, jgh, jgh, jgh, (130, [], [17, 18, 19, 20, 21, 22]), jgh, jgh, jgh, jgh, jgh, jgh, jgh, jgh, jgh, (100, [], (jenc (jlg 0))), (100, [], (jenc (jlg 1))), (100, [], (jenc (jlg 2))), (100, [], (jenc (jlg 3))), (100, [], (jenc (jlg 4))), (100, [], (jenc (jlg 5))), (100, [], (jenc a))]) rfl rfl rfl ?_
      refine jT_xlconst (z := 0) (pc' := 17) jIP_214_16 rfl rfl ?_
      refine jT_lcmp (a := e1) (b := 0) (z := (-1)) (by rfl) (by rfl) (jwl_idd (by omega) (by omega)) (jwl_idd (by omega) (by omega)) (by rw [decide_eq_false (show ¬ ((0 : Int) < e1) by omega), decide_eq_false (show ¬ ((e1 : Int) = 0) by omega)]; rfl) ?_
      refine jT_xifF (t := 41) (pc' := 21) jIP_214_18 rfl (by decide +kernel) rfl rfl ?_
      refine jT_xaload_n (v := (4, 23)) (pc' := 22) jIP_214_21 rfl rfl rfl ?_
      refine jT_xaload_n (v := (4, 1)) (pc' := 23) jIP_214_22 rfl rfl rfl ?_
      refine jT_xiload_n (v := (0, 1)) (pc' := 24) jIP_214_23 rfl rfl rfl ?_
      refine jT_lald (x := e1) (a := 1) (j := 1) (fs := []) (X := [e0, e1, e2, e3, e4, e5]) jIP_214_24 rfl rfl rfl rfl ?_
      refine jT_eq (L' := [(3, (0, 1)), (2, (4, 23)), (0, (4, 0)), (1, (4, 1))]) (st' := [(1, e1), (4, 23)]) (hs' := [jzP_1, (101, [], [e0, e1, e2, e3, e4, e5]), jgh, jgh, jgh, jgh, jgh, (130, [], [17, 18, 19, 20, 21, 22]), jgh, jgh, jgh, jgh, jgh, jgh, jgh, jgh, jgh, (100, [], (jenc (jlg 0))), (100, [], (jenc (jlg 1))), (100, [], (jenc (jlg 2))), (100, [], (jenc (jlg 3))), (100, [], (jenc (jlg 4))), (100, [], (jenc (jlg 5))), (100, [], (jenc a))]) rfl rfl rfl ?_
      refine jT_callA [] (y := 178) (pc' := 28) (dC := 1) (bc1 := 1) (bc2 := 56) (c1 := (b1 + 14)) (c2 := (b2 + 784)) (as := [(1, e1)]) (asC := [(1, e1)]) (L' := [(3, (0, 1)), (2, (4, 23)), (0, (4, 0)), (1, (4, 1))]) (st' := [(4, 23)]) (hsC := []) (ex := [(100, [], (jenc e1))]) (v := (4, 0)) (st2 := [(4, 24), (4, 23)]) (hs2 := [jzP_1, (101, [], [e0, e1, e2, e3, e4, e5]), jgh, jgh, jgh, jgh, jgh, (130, [], [17, 18, 19, 20, 21, 22]), jgh, jgh, jgh, jgh, jgh, jgh, jgh, jgh, jgh, (100, [], (jenc (jlg 0))), (100, [], (jenc (jlg 1))), (100, [], (jenc (jlg 2))), (100, [], (jenc (jlg 3))), (100, [], (jenc (jlg 4))), (100, [], (jenc (jlg 5))), (100, [], (jenc a)), (100, [], (jenc e1))]) (jT_big (d := 0) (v := e1) (by omega) (by omega)) (by rfl) (by rfl) (by rfl) (by rfl) trivial (by rfl) (by rfl) (by omega) (by show 23 ≤ 24; omega) (by omega) (by omega) rfl rfl ?_
      refine jT_xaload_n (v := (4, 0)) (pc' := 29) jIP_214_28 rfl rfl rfl ?_
      refine jT_xgetf (a := 0) (t := 1) (ci := 14) (fi := 8) (c := jzP_1) (v := (4, 7)) (pc' := 32) jIP_214_29 rfl rfl rfl rfl rfl rfl rfl ?_
      refine jT_xiload_n (v := (0, 1)) (pc' := 33) jIP_214_32 rfl rfl rfl ?_
      refine jT_aald (x := 18) (a := 7) (j := 1) (fs := []) (X := [17, 18, 19, 20, 21, 22]) (kd := 130) jIP_214_33 rfl rfl rfl rfl rfl ?_
      refine jT_eq (L' := [(3, (0, 1)), (2, (4, 23)), (0, (4, 0)), (1, (4, 1))]) (st' := [(4, 18), (4, 24), (4, 23)]) (hs' := [jzP_1, (101, [], [e0, e1, e2, e3, e4, e5]), jgh, jgh, jgh, jgh, jgh, (130, [], [17, 18, 19, 20, 21, 22]), jgh, jgh, jgh, jgh, jgh, jgh, jgh, jgh, jgh, (100, [], (jenc (jlg 0))), (100, [], (jenc (jlg 1))), (100, [], (jenc (jlg 2))), (100, [], (jenc (jlg 3))), (100, [], (jenc (jlg 4))), (100, [], (jenc (jlg 5))), (100, [], (jenc a)), (100, [], (jenc e1))]) rfl rfl rfl ?_
      refine jT_callA [24, 18] (y := 179) (pc' := 37) (dC := 1) (bc1 := 1) (bc2 := 56) (c1 := (b1 + 13)) (c2 := (b2 + 728)) (as := [(4, 24), (4, 18)]) (asC := [(4, 0), (4, 1)]) (L' := [(3, (0, 1)), (2, (4, 23)), (0, (4, 0)), (1, (4, 1))]) (st' := [(4, 23)]) (hsC := [(100, [], (jenc e1)), (100, [], (jenc (jlg 1)))]) (ex := [(100, [], (jenc (e1 * jlg 1)))]) (v := (4, 2)) (st2 := [(4, 25), (4, 23)]) (hs2 := [jzP_1, (101, [], [e0, e1, e2, e3, e4, e5]), jgh, jgh, jgh, jgh, jgh, (130, [], [17, 18, 19, 20, 21, 22]), jgh, jgh, jgh, jgh, jgh, jgh, jgh, jgh, jgh, (100, [], (jenc (jlg 0))), (100, [], (jenc (jlg 1))), (100, [], (jenc (jlg 2))), (100, [], (jenc (jlg 3))), (100, [], (jenc (jlg 4))), (100, [], (jenc (jlg 5))), (100, [], (jenc a)), (100, [], (jenc e1)), (100, [], (jenc (e1 * jlg 1)))]) (jT_product (d := 0) (a := e1) (b := jlg 1) (jb54 (by omega) (by omega)) hp.1) (by rfl) (by rfl) (by rfl) (by rfl) ⟨rfl, rfl, trivial⟩ (by rfl) (by rfl) (by omega) (by show 23 ≤ 25; omega) (by omega) (by omega) rfl rfl ?_
      refine jT_callA [23, 25] (y := 181) (pc' := 40) (dC := 1) (bc1 := 1) (bc2 := 56) (c1 := (b1 + 12)) (c2 := (b2 + 672)) (as := [(4, 23), (4, 25)]) (asC := [(4, 0), (4, 1)]) (L' := [(3, (0, 1)), (2, (4, 23)), (0, (4, 0)), (1, (4, 1))]) (st' := []) (hsC := [(100, [], (jenc a)), (100, [], (jenc (e1 * jlg 1)))]) (ex := [(100, [], (jenc (a + (e1 * jlg 1))))]) (v := (4, 2)) (st2 := [(4, 26)]) (hs2 := [jzP_1, (101, [], [e0, e1, e2, e3, e4, e5]), jgh, jgh, jgh, jgh, jgh, (130, [], [17, 18, 19, 20, 21, 22]), jgh, jgh, jgh, jgh, jgh, jgh, jgh, jgh, jgh, (100, [], (jenc (jlg 0))), (100, [], (jenc (jlg 1))), (100, [], (jenc (jlg 2))), (100, [], (jenc (jlg 3))), (100, [], (jenc (jlg 4))), (100, [], (jenc (jlg 5))), (100, [], (jenc a)), (100, [], (jenc e1)), (100, [], (jenc (e1 * jlg 1))), (100, [], (jenc (a + (e1 * jlg 1))))]) (jT_added (d := 0) (a := a) (b := e1 * jlg 1) ga hp.2.1 (jb54k ha (by decide)) hp.1 (jb54a ha hp.2.2 (by decide))) (by rfl) (by rfl) (by rfl) (by rfl) ⟨rfl, rfl, trivial⟩ (by rfl) (by rfl) (by omega) (by show 23 ≤ 26; omega) (by omega) (by omega) rfl rfl ?_
      refine jT_xastore_n (v := (4, 26)) (L' := [(2, (4, 26)), (3, (0, 1)), (0, (4, 0)), (1, (4, 1))]) (pc' := 41) jIP_214_40 rfl rfl rfl rfl ?_
      refine jT_xiinc (x := 1) (z := 2) (L' := [(3, (0, 2)), (2, (4, 26)), (0, (4, 0)), (1, (4, 1))]) (pc' := 44) jIP_214_41 rfl rfl (by decide) rfl rfl ?_
      refine jT_xgoto (pc' := 7) jIP_214_44 rfl ?_
      refine jT_loc (L' := [(3, (0, 2)), (2, (4, 26)), (0, (4, 0)), (1, (4, 1))]) (by show List.Nodup [3, 2, 0, 1]; decide) (by intro q hq; simp only [List.mem_cons, List.not_mem_nil, or_false] at hq; rcases hq with rfl | rfl | rfl | rfl <;> rfl) ?_
      refine jT_gc [0, 1, 2, 3, 4, 5, 6, 7, 8, 9, 10, 11, 12, 13, 14, 15, 16, 17, 18, 19, 20, 21, 22, 26] (hs0 := [jzP_1, (101, [], [e0, e1, e2, e3, e4, e5]), jgh, jgh, jgh, jgh, jgh, (130, [], [17, 18, 19, 20, 21, 22]), jgh, jgh, jgh, jgh, jgh, jgh, jgh, jgh, jgh, (100, [], (jenc (jlg 0))), (100, [], (jenc (jlg 1))), (100, [], (jenc (jlg 2))), (100, [], (jenc (jlg 3))), (100, [], (jenc (jlg 4))), (100, [], (jenc (jlg 5))), (100, [], jenc (a + (e1 * jlg 1)))]) (L0 := [(3, (0, 2)), (2, (4, 23)), (0, (4, 0)), (1, (4, 1))]) (st0 := []) (by decide) rfl ⟨rfl, rfl, rfl, rfl, rfl, rfl, rfl, rfl, rfl, rfl, rfl, rfl, rfl, rfl, rfl, rfl, rfl, rfl, rfl, rfl, rfl, rfl, rfl, rfl, trivial⟩ rfl rfl (by decide) ?_
      exact jT.mono (jPl_lg_3_2 hd h_e0 h_e1 h_e2 h_e3 h_e4 h_e5 (jb1c ha hp.2.2 (by decide)) (by rw [← Int.add_assoc] at hw; exact hw) h) (Nat.le_refl _) (by omega) (by omega) (fun _ _ _ z => z)
  · refine jT_xiload_n (v := (0, 1)) (pc' := 8) jIP_214_7 rfl rfl rfl ?_
    refine jT_xbipush (k := 6) (pc' := 10) jIP_214_8 (by decide) rfl ?_
    refine jT_xicF (t := 47) (pc' := 13) jIP_214_10 rfl (by decide +kernel) rfl rfl ?_
    refine jT_xaload_n (v := (4, 1)) (pc' := 14) jIP_214_13 rfl rfl rfl ?_
    refine jT_xiload_n (v := (0, 1)) (pc' := 15) jIP_214_14 rfl rfl rfl ?_
    refine jT_lald (x := e1) (a := 1) (j := 1) (fs := []) (X := [e0, e1, e2, e3, e4, e5]) jIP_214_15 rfl rfl rfl rfl ?_
    refine jT_eq (L' := [(3, (0, 1)), (2, (4, 23)), (0, (4, 0)), (1, (4, 1))]) (st' := [(1, e1)]) (hs' := [jzP_1, (101, [], [e0, e1, e2, e3, e4, e5]), jgh, jgh, jgh, jgh, jgh, (130, [], [17, 18, 19, 20, 21, 22]), jgh, jgh, jgh, jgh, jgh, jgh, jgh, jgh, jgh, (100, [], (jenc (jlg 0))), (100, [], (jenc (jlg 1))), (100, [], (jenc (jlg 2))), (100, [], (jenc (jlg 3))), (100, [], (jenc (jlg 4))), (100, [], (jenc (jlg 5))), (100, [], (jenc a))]) rfl rfl rfl ?_
    refine jT_xlconst (z := 0) (pc' := 17) jIP_214_16 rfl rfl ?_
    refine jT_lcmp (a := e1) (b := 0) (z := 0) (by rfl) (by rfl) (jwl_idd (by omega) (by omega)) (jwl_idd (by omega) (by omega)) (by rw [decide_eq_false (show ¬ ((0 : Int) < e1) by omega), decide_eq_true (show (e1 : Int) = 0 by omega)]; rfl) ?_
    refine jT_xifT (pc' := 41) jIP_214_18 rfl (by decide +kernel) rfl ?_
    refine jT_xiinc (x := 1) (z := 2) (L' := [(3, (0, 2)), (2, (4, 23)), (0, (4, 0)), (1, (4, 1))]) (pc' := 44) jIP_214_41 rfl rfl (by decide) rfl rfl ?_
    refine jT_xgoto (pc' := 7) jIP_214_44 rfl ?_
    refine jT_loc (L' := [(3, (0, 2)), (2, (4, 23)), (0, (4, 0)), (1, (4, 1))]) (by show List.Nodup [3, 2, 0, 1]; decide) (by intro q hq; simp only [List.mem_cons, List.not_mem_nil, or_false] at hq; rcases hq with rfl | rfl | rfl | rfl <;> rfl) ?_
    exact jT.mono (jPl_lg_3_2 hd h_e0 h_e1 h_e2 h_e3 h_e4 h_e5 (by omega) (by rw [g_0, Int.zero_mul] at hw; omega) h) (Nat.le_refl _) (by omega) (by omega) (fun _ _ _ z => z)
  · have hp := jlt_m (k := 1) (e := e1) (by decide) (by omega) (by omega)
    rcases (show (a = 0) ∨ (a ≠ 0) by omega) with ga | ga
    · subst ga
      refine jT_xiload_n (v := (0, 1)) (pc' := 8) jIP_214_7 rfl rfl rfl ?_
      refine jT_xbipush (k := 6) (pc' := 10) jIP_214_8 (by decide) rfl ?_
      refine jT_xicF (t := 47) (pc' := 13) jIP_214_10 rfl (by decide +kernel) rfl rfl ?_
      refine jT_xaload_n (v := (4, 1)) (pc' := 14) jIP_214_13 rfl rfl rfl ?_
      refine jT_xiload_n (v := (0, 1)) (pc' := 15) jIP_214_14 rfl rfl rfl ?_
      refine jT_lald (x := e1) (a := 1) (j := 1) (fs := []) (X := [e0, e1, e2, e3, e4, e5]) jIP_214_15 rfl rfl rfl rfl ?_
      refine jT_eq (L' := [(3, (0, 1)), (2, (4, 23)), (0, (4, 0)), (1, (4, 1))]) (st' := [(1, e1)]) (hs' := [jzP_1, (101, [], [e0, e1, e2, e3, e4, e5]), jgh, jgh, jgh, jgh, jgh, (130, [], [17, 18, 19, 20, 21, 22]), jgh, jgh, jgh, jgh, jgh, jgh, jgh, jgh, jgh, (100, [], (jenc (jlg 0))), (100, [], (jenc (jlg 1))), (100, [], (jenc (jlg 2))), (100, [], (jenc (jlg 3))), (100, [], (jenc (jlg 4))), (100, [], (jenc (jlg 5))), (100, [], (jenc 0))]) rfl rfl rfl ?_
      refine jT_xlconst (z := 0) (pc' := 17) jIP_214_16 rfl rfl ?_
      refine jT_lcmp (a := e1) (b := 0) (z := 1) (by rfl) (by rfl) (jwl_idd (by omega) (by omega)) (jwl_idd (by omega) (by omega)) (by rw [decide_eq_true (show (0 : Int) < e1 by omega)]; rfl) ?_
      refine jT_xifF (t := 41) (pc' := 21) jIP_214_18 rfl (by decide +kernel) rfl rfl ?_
      refine jT_xaload_n (v := (4, 23)) (pc' := 22) jIP_214_21 rfl rfl rfl ?_
      refine jT_xaload_n (v := (4, 1)) (pc' := 23) jIP_214_22 rfl rfl rfl ?_
      refine jT_xiload_n (v := (0, 1)) (pc' := 24) jIP_214_23 rfl rfl rfl ?_
      refine jT_lald (x := e1) (a := 1) (j := 1) (fs := []) (X := [e0, e1, e2, e3, e4, e5]) jIP_214_24 rfl rfl rfl rfl ?_
      refine jT_eq (L' := [(3, (0, 1)), (2, (4, 23)), (0, (4, 0)), (1, (4, 1))]) (st' := [(1, e1), (4, 23)]) (hs' := [jzP_1, (101, [], [e0, e1, e2, e3, e4, e5]), jgh, jgh, jgh, jgh, jgh, (130, [], [17, 18, 19, 20, 21, 22]), jgh, jgh, jgh, jgh, jgh, jgh, jgh, jgh, jgh, (100, [], (jenc (jlg 0))), (100, [], (jenc (jlg 1))), (100, [], (jenc (jlg 2))), (100, [], (jenc (jlg 3))), (100, [], (jenc (jlg 4))), (100, [], (jenc (jlg 5))), (100, [], (jenc 0))]) rfl rfl rfl ?_
      refine jT_callA [] (y := 178) (pc' := 28) (dC := 1) (bc1 := 1) (bc2 := 56) (c1 := (b1 + 14)) (c2 := (b2 + 784)) (as := [(1, e1)]) (asC := [(1, e1)]) (L' := [(3, (0, 1)), (2, (4, 23)), (0, (4, 0)), (1, (4, 1))]) (st' := [(4, 23)]) (hsC := []) (ex := [(100, [], (jenc e1))]) (v := (4, 0)) (st2 := [(4, 24), (4, 23)]) (hs2 := [jzP_1, (101, [], [e0, e1, e2, e3, e4, e5]), jgh, jgh, jgh, jgh, jgh, (130, [], [17, 18, 19, 20, 21, 22]), jgh, jgh, jgh, jgh, jgh, jgh, jgh, jgh, jgh, (100, [], (jenc (jlg 0))), (100, [], (jenc (jlg 1))), (100, [], (jenc (jlg 2))), (100, [], (jenc (jlg 3))), (100, [], (jenc (jlg 4))), (100, [], (jenc (jlg 5))), (100, [], (jenc 0)), (100, [], (jenc e1))]) (jT_big (d := 0) (v := e1) (by omega) (by omega)) (by rfl) (by rfl) (by rfl) (by rfl) trivial (by rfl) (by rfl) (by omega) (by show 23 ≤ 24; omega) (by omega) (by omega) rfl rfl ?_
      refine jT_xaload_n (v := (4, 0)) (pc' := 29) jIP_214_28 rfl rfl rfl ?_
      refine jT_xgetf (a := 0) (t := 1) (ci := 14) (fi := 8) (c := jzP_1) (v := (4, 7)) (pc' := 32) jIP_214_29 rfl rfl rfl rfl rfl rfl rfl ?_
      refine jT_xiload_n (v := (0, 1)) (pc' := 33) jIP_214_32 rfl rfl rfl ?_
      refine jT_aald (x := 18) (a := 7) (j := 1) (fs := []) (X := [17, 18, 19, 20, 21, 22]) (kd := 130) jIP_214_33 rfl rfl rfl rfl rfl ?_
      refine jT_eq (L' := [(3, (0, 1)), (2, (4, 23)), (0, (4, 0)), (1, (4, 1))]) (st' := [(4, 18), (4, 24), (4, 23)]) (hs' := [jzP_1, (101, [], [e0, e1, e2, e3, e4, e5]), jgh, jgh, jgh, jgh, jgh, (130, [], [17, 18, 19, 20, 21, 22]), jgh, jgh, jgh, jgh, jgh, jgh, jgh, jgh, jgh, (100, [], (jenc (jlg 0))), (100, [], (jenc (jlg 1))), (100, [], (jenc (jlg 2))), (100, [], (jenc (jlg 3))), (100, [], (jenc (jlg 4))), (100, [], (jenc (jlg 5))), (100, [], (jenc 0)), (100, [], (jenc e1))]) rfl rfl rfl ?_
      refine jT_callA [24, 18] (y := 179) (pc' := 37) (dC := 1) (bc1 := 1) (bc2 := 56) (c1 := (b1 + 13)) (c2 := (b2 + 728)) (as := [(4, 24), (4, 18)]) (asC := [(4, 0), (4, 1)]) (L' := [(3, (0, 1)), (2, (4, 23)), (0, (4, 0)), (1, (4, 1))]) (st' := [(4, 23)]) (hsC := [(100, [], (jenc e1)), (100, [], (jenc (jlg 1)))]) (ex := [(100, [], (jenc (e1 * jlg 1)))]) (v := (4, 2)) (st2 := [(4, 25), (4, 23)]) (hs2 := [jzP_1, (101, [], [e0, e1, e2, e3, e4, e5]), jgh, jgh, jgh, jgh, jgh, (130, [], [17, 18, 19, 20, 21, 22]), jgh, jgh, jgh, jgh, jgh, jgh, jgh, jgh, jgh, (100, [], (jenc (jlg 0))), (100, [], (jenc (jlg 1))), (100, [], (jenc (jlg 2))), (100, [], (jenc (jlg 3))), (100, [], (jenc (jlg 4))), (100, [], (jenc (jlg 5))), (100, [], (jenc 0)), (100, [], (jenc e1)), (100, [], (jenc (e1 * jlg 1)))]) (jT_product (d := 0) (a := e1) (b := jlg 1) (jb54 (by omega) (by omega)) hp.1) (by rfl) (by rfl) (by rfl) (by rfl) ⟨rfl, rfl, trivial⟩ (by rfl) (by rfl) (by omega) (by show 23 ≤ 25; omega) (by omega) (by omega) rfl rfl ?_
      refine jT_callA [23, 25] (y := 181) (pc' := 40) (dC := 0) (bc1 := 0) (bc2 := 0) (c1 := (b1 + 13)) (c2 := (b2 + 728)) (as := [(4, 23), (4, 25)]) (asC := [(4, 0), (4, 1)]) (L' := [(3, (0, 1)), (2, (4, 23)), (0, (4, 0)), (1, (4, 1))]) (st' := []) (hsC := [(100, [], (jenc 0)), (100, [], (jenc (e1 * jlg 1)))]) (ex := []) (v := (4, 1)) (st2 := [(4, 25)]) (hs2 := [jzP_1, (101, [], [e0, e1, e2, e3, e4, e5]), jgh, jgh, jgh, jgh, jgh, (130, [], [17, 18, 19, 20, 21, 22]), jgh, jgh, jgh, jgh, jgh, jgh, jgh, jgh, jgh, (100, [], (jenc (jlg 0))), (100, [], (jenc (jlg 1))), (100, [], (jenc (jlg 2))), (100, [], (jenc (jlg 3))), (100, [], (jenc (jlg 4))), (100, [], (jenc (jlg 5))), (100, [], (jenc 0)), (100, [], (jenc e1)), (100, [], (jenc (e1 * jlg 1)))]) (jT_added_0l (d := 0) (b := e1 * jlg 1)) (by rfl) (by rfl) (by rfl) (by rfl) ⟨rfl, rfl, trivial⟩ (by rfl) (by rfl) (by omega) (by show 23 ≤ 26; omega) (by omega) (by omega) rfl rfl ?_
      refine jT_xastore_n (v := (4, 25)) (L' := [(2, (4, 25)), (3, (0, 1)), (0, (4, 0)), (1, (4, 1))]) (pc' := 41) jIP_214_40 rfl rfl rfl rfl ?_
      refine jT_xiinc (x := 1) (z := 2) (L' := [(3, (0, 2)), (2, (4, 25)), (0, (4, 0)), (1, (4, 1))]) (pc' := 44) jIP_214_41 rfl rfl (by decide) rfl rfl ?_
      refine jT_xgoto (pc' := 7) jIP_214_44 rfl ?_
      refine jT_loc (L' := [(3, (0, 2)), (2, (4, 25)), (0, (4, 0)), (1, (4, 1))]) (by show List.Nodup [3, 2, 0, 1]; decide) (by intro q hq; simp only [List.mem_cons, List.not_mem_nil, or_false] at hq; rcases hq with rfl | rfl | rfl | rfl <;> rfl) ?_
      refine jT_gc [0, 1, 2, 3, 4, 5, 6, 7, 8, 9, 10, 11, 12, 13, 14, 15, 16, 17, 18, 19, 20, 21, 22, 25] (hs0 := [jzP_1, (101, [], [e0, e1, e2, e3, e4, e5]), jgh, jgh, jgh, jgh, jgh, (130, [], [17, 18, 19, 20, 21, 22]), jgh, jgh, jgh, jgh, jgh, jgh, jgh, jgh, jgh, (100, [], (jenc (jlg 0))), (100, [], (jenc (jlg 1))), (100, [], (jenc (jlg 2))), (100, [], (jenc (jlg 3))), (100, [], (jenc (jlg 4))), (100, [], (jenc (jlg 5))), (100, [], jenc (e1 * jlg 1))]) (L0 := [(3, (0, 2)), (2, (4, 23)), (0, (4, 0)), (1, (4, 1))]) (st0 := []) (by decide) rfl ⟨rfl, rfl, rfl, rfl, rfl, rfl, rfl, rfl, rfl, rfl, rfl, rfl, rfl, rfl, rfl, rfl, rfl, rfl, rfl, rfl, rfl, rfl, rfl, rfl, trivial⟩ rfl rfl (by decide) ?_
      exact jT.mono (jPl_lg_3_2 hd h_e0 h_e1 h_e2 h_e3 h_e4 h_e5 (Nat.le_trans hp.2.2 (by decide)) (by rw [Int.zero_add] at hw; exact hw) h) (Nat.le_refl _) (by omega) (by omega) (fun _ _ _ z => z)
    · refine jT_xiload_n (v := (0, 1)) (pc' := 8) jIP_214_7 rfl rfl rfl ?_
      refine jT_xbipush (k := 6) (pc' := 10) jIP_214_8 (by decide) rfl ?_
      refine jT_xicF (t := 47) (pc' := 13) jIP_214_10 rfl (by decide +kernel) rfl rfl ?_
      refine jT_xaload_n (v := (4, 1)) (pc' := 14) jIP_214_13 rfl rfl rfl ?_
      refine jT_xiload_n (v := (0, 1)) (pc' := 15) jIP_214_14 rfl rfl rfl ?_
      refine jT_lald (x := e1) (a := 1) (j := 1) (fs := []) (X := [e0, e1, e2, e3, e4, e5]) jIP_214_15 rfl rfl rfl rfl ?_
      refine jT_eq (L' := [(3, (0, 1)), (2, (4, 23)), (0, (4, 0)), (1, (4, 1))]) (st' := [(1, e1)]) (hs' := [jzP_1, (101, [], [e0, e1, e2, e3, e4, e5]), jgh, jgh, jgh, jgh, jgh, (130, [], [17, 18, 19, 20, 21, 22]), jgh, jgh, jgh, jgh, jgh, jgh, jgh, jgh, jgh, (100, [], (jenc (jlg 0))), (100, [], (jenc (jlg 1))), (100, [], (jenc (jlg 2))), (100, [], (jenc (jlg 3))), (100, [], (jenc (jlg 4))), (100, [], (jenc (jlg 5))), (100, [], (jenc a))]) rfl rfl rfl ?_
      refine jT_xlconst (z := 0) (pc' := 17) jIP_214_16 rfl rfl ?_
      refine jT_lcmp (a := e1) (b := 0) (z := 1) (by rfl) (by rfl) (jwl_idd (by omega) (by omega)) (jwl_idd (by omega) (by omega)) (by rw [decide_eq_true (show (0 : Int) < e1 by omega)]; rfl) ?_
      refine jT_xifF (t := 41) (pc' := 21) jIP_214_18 rfl (by decide +kernel) rfl rfl ?_
      refine jT_xaload_n (v := (4, 23)) (pc' := 22) jIP_214_21 rfl rfl rfl ?_
      refine jT_xaload_n (v := (4, 1)) (pc' := 23) jIP_214_22 rfl rfl rfl ?_
      refine jT_xiload_n (v := (0, 1)) (pc' := 24) jIP_214_23 rfl rfl rfl ?_
      refine jT_lald (x := e1) (a := 1) (j := 1) (fs := []) (X := [e0, e1, e2, e3, e4, e5]) jIP_214_24 rfl rfl rfl rfl ?_
      refine jT_eq (L' := [(3, (0, 1)), (2, (4, 23)), (0, (4, 0)), (1, (4, 1))]) (st' := [(1, e1), (4, 23)]) (hs' := [jzP_1, (101, [], [e0, e1, e2, e3, e4, e5]), jgh, jgh, jgh, jgh, jgh, (130, [], [17, 18, 19, 20, 21, 22]), jgh, jgh, jgh, jgh, jgh, jgh, jgh, jgh, jgh, (100, [], (jenc (jlg 0))), (100, [], (jenc (jlg 1))), (100, [], (jenc (jlg 2))), (100, [], (jenc (jlg 3))), (100, [], (jenc (jlg 4))), (100, [], (jenc (jlg 5))), (100, [], (jenc a))]) rfl rfl rfl ?_
      refine jT_callA [] (y := 178) (pc' := 28) (dC := 1) (bc1 := 1) (bc2 := 56) (c1 := (b1 + 14)) (c2 := (b2 + 784)) (as := [(1, e1)]) (asC := [(1, e1)]) (L' := [(3, (0, 1)), (2, (4, 23)), (0, (4, 0)), (1, (4, 1))]) (st' := [(4, 23)]) (hsC := []) (ex := [(100, [], (jenc e1))]) (v := (4, 0)) (st2 := [(4, 24), (4, 23)]) (hs2 := [jzP_1, (101, [], [e0, e1, e2, e3, e4, e5]), jgh, jgh, jgh, jgh, jgh, (130, [], [17, 18, 19, 20, 21, 22]), jgh, jgh, jgh, jgh, jgh, jgh, jgh, jgh, jgh, (100, [], (jenc (jlg 0))), (100, [], (jenc (jlg 1))), (100, [], (jenc (jlg 2))), (100, [], (jenc (jlg 3))), (100, [], (jenc (jlg 4))), (100, [], (jenc (jlg 5))), (100, [], (jenc a)), (100, [], (jenc e1))]) (jT_big (d := 0) (v := e1) (by omega) (by omega)) (by rfl) (by rfl) (by rfl) (by rfl) trivial (by rfl) (by rfl) (by omega) (by show 23 ≤ 24; omega) (by omega) (by omega) rfl rfl ?_
      refine jT_xaload_n (v := (4, 0)) (pc' := 29) jIP_214_28 rfl rfl rfl ?_
      refine jT_xgetf (a := 0) (t := 1) (ci := 14) (fi := 8) (c := jzP_1) (v := (4, 7)) (pc' := 32) jIP_214_29 rfl rfl rfl rfl rfl rfl rfl ?_
      refine jT_xiload_n (v := (0, 1)) (pc' := 33) jIP_214_32 rfl rfl rfl ?_
      refine jT_aald (x := 18) (a := 7) (j := 1) (fs := []) (X := [17, 18, 19, 20, 21, 22]) (kd := 130) jIP_214_33 rfl rfl rfl rfl rfl ?_
      refine jT_eq (L' := [(3, (0, 1)), (2, (4, 23)), (0, (4, 0)), (1, (4, 1))]) (st' := [(4, 18), (4, 24), (4, 23)]) (hs' := [jzP_1, (101, [], [e0, e1, e2, e3, e4, e5]), jgh, jgh, jgh, jgh, jgh, (130, [], [17, 18, 19, 20, 21, 22]), jgh, jgh, jgh, jgh, jgh, jgh, jgh, jgh, jgh, (100, [], (jenc (jlg 0))), (100, [], (jenc (jlg 1))), (100, [], (jenc (jlg 2))), (100, [], (jenc (jlg 3))), (100, [], (jenc (jlg 4))), (100, [], (jenc (jlg 5))), (100, [], (jenc a)), (100, [], (jenc e1))]) rfl rfl rfl ?_
      refine jT_callA [24, 18] (y := 179) (pc' := 37) (dC := 1) (bc1 := 1) (bc2 := 56) (c1 := (b1 + 13)) (c2 := (b2 + 728)) (as := [(4, 24), (4, 18)]) (asC := [(4, 0), (4, 1)]) (L' := [(3, (0, 1)), (2, (4, 23)), (0, (4, 0)), (1, (4, 1))]) (st' := [(4, 23)]) (hsC := [(100, [], (jenc e1)), (100, [], (jenc (jlg 1)))]) (ex := [(100, [], (jenc (e1 * jlg 1)))]) (v := (4, 2)) (st2 := [(4, 25), (4, 23)]) (hs2 := [jzP_1, (101, [], [e0, e1, e2, e3, e4, e5]), jgh, jgh, jgh, jgh, jgh, (130, [], [17, 18, 19, 20, 21, 22]), jgh, jgh, jgh, jgh, jgh, jgh, jgh, jgh, jgh, (100, [], (jenc (jlg 0))), (100, [], (jenc (jlg 1))), (100, [], (jenc (jlg 2))), (100, [], (jenc (jlg 3))), (100, [], (jenc (jlg 4))), (100, [], (jenc (jlg 5))), (100, [], (jenc a)), (100, [], (jenc e1)), (100, [], (jenc (e1 * jlg 1)))]) (jT_product (d := 0) (a := e1) (b := jlg 1) (jb54 (by omega) (by omega)) hp.1) (by rfl) (by rfl) (by rfl) (by rfl) ⟨rfl, rfl, trivial⟩ (by rfl) (by rfl) (by omega) (by show 23 ≤ 25; omega) (by omega) (by omega) rfl rfl ?_
      refine jT_callA [23, 25] (y := 181) (pc' := 40) (dC := 1) (bc1 := 1) (bc2 := 56) (c1 := (b1 + 12)) (c2 := (b2 + 672)) (as := [(4, 23), (4, 25)]) (asC := [(4, 0), (4, 1)]) (L' := [(3, (0, 1)), (2, (4, 23)), (0, (4, 0)), (1, (4, 1))]) (st' := []) (hsC := [(100, [], (jenc a)), (100, [], (jenc (e1 * jlg 1)))]) (ex := [(100, [], (jenc (a + (e1 * jlg 1))))]) (v := (4, 2)) (st2 := [(4, 26)]) (hs2 := [jzP_1, (101, [], [e0, e1, e2, e3, e4, e5]), jgh, jgh, jgh, jgh, jgh, (130, [], [17, 18, 19, 20, 21, 22]), jgh, jgh, jgh, jgh, jgh, jgh, jgh, jgh, jgh, (100, [], (jenc (jlg 0))), (100, [], (jenc (jlg 1))), (100, [], (jenc (jlg 2))), (100, [], (jenc (jlg 3))), (100, [], (jenc (jlg 4))), (100, [], (jenc (jlg 5))), (100, [], (jenc a)), (100, [], (jenc e1)), (100, [], (jenc (e1 * jlg 1))), (100, [], (jenc (a + (e1 * jlg 1))))]) (jT_added (d := 0) (a := a) (b := e1 * jlg 1) ga hp.2.1 (jb54k ha (by decide)) hp.1 (jb54a ha hp.2.2 (by decide))) (by rfl) (by rfl) (by rfl) (by rfl) ⟨rfl, rfl, trivial⟩ (by rfl) (by rfl) (by omega) (by show 23 ≤ 26; omega) (by omega) (by omega) rfl rfl ?_
      refine jT_xastore_n (v := (4, 26)) (L' := [(2, (4, 26)), (3, (0, 1)), (0, (4, 0)), (1, (4, 1))]) (pc' := 41) jIP_214_40 rfl rfl rfl rfl ?_
      refine jT_xiinc (x := 1) (z := 2) (L' := [(3, (0, 2)), (2, (4, 26)), (0, (4, 0)), (1, (4, 1))]) (pc' := 44) jIP_214_41 rfl rfl (by decide) rfl rfl ?_
      refine jT_xgoto (pc' := 7) jIP_214_44 rfl ?_
      refine jT_loc (L' := [(3, (0, 2)), (2, (4, 26)), (0, (4, 0)), (1, (4, 1))]) (by show List.Nodup [3, 2, 0, 1]; decide) (by intro q hq; simp only [List.mem_cons, List.not_mem_nil, or_false] at hq; rcases hq with rfl | rfl | rfl | rfl <;> rfl) ?_
      refine jT_gc [0, 1, 2, 3, 4, 5, 6, 7, 8, 9, 10, 11, 12, 13, 14, 15, 16, 17, 18, 19, 20, 21, 22, 26] (hs0 := [jzP_1, (101, [], [e0, e1, e2, e3, e4, e5]), jgh, jgh, jgh, jgh, jgh, (130, [], [17, 18, 19, 20, 21, 22]), jgh, jgh, jgh, jgh, jgh, jgh, jgh, jgh, jgh, (100, [], (jenc (jlg 0))), (100, [], (jenc (jlg 1))), (100, [], (jenc (jlg 2))), (100, [], (jenc (jlg 3))), (100, [], (jenc (jlg 4))), (100, [], (jenc (jlg 5))), (100, [], jenc (a + (e1 * jlg 1)))]) (L0 := [(3, (0, 2)), (2, (4, 23)), (0, (4, 0)), (1, (4, 1))]) (st0 := []) (by decide) rfl ⟨rfl, rfl, rfl, rfl, rfl, rfl, rfl, rfl, rfl, rfl, rfl, rfl, rfl, rfl, rfl, rfl, rfl, rfl, rfl, rfl, rfl, rfl, rfl, rfl, trivial⟩ rfl rfl (by decide) ?_
      exact jT.mono (jPl_lg_3_2 hd h_e0 h_e1 h_e2 h_e3 h_e4 h_e5 (jb1c ha hp.2.2 (by decide)) (by rw [← Int.add_assoc] at hw; exact hw) h) (Nat.le_refl _) (by omega) (by omega) (fun _ _ _ z => z)
theorem jPl_lg_3_0 {xs : List Int} {d b1 b2 : Nat} {Q : Nat → JV → List JC → Prop} (hd : 1 < d) {a w e0 e1 e2 e3 e4 e5 : Int} (h_e0 : -4611686018427387903 ≤ e0 ∧ e0 ≤ 4611686018427387903) (h_e1 : -4611686018427387903 ≤ e1 ∧ e1 ≤ 4611686018427387903) (h_e2 : -4611686018427387903 ≤ e2 ∧ e2 ≤ 4611686018427387903) (h_e3 : -4611686018427387903 ≤ e3 ∧ e3 ≤ 4611686018427387903) (h_e4 : -4611686018427387903 ≤ e4 ∧ e4 ≤ 4611686018427387903) (h_e5 : -4611686018427387903 ≤ e5 ∧ e5 ≤ 4611686018427387903) (ha : a.natAbs ≤ 0 * 10 ^ 220) (hw : a + (e0 * jlg 0 + (e1 * jlg 1 + (e2 * jlg 2 + (e3 * jlg 3 + (e4 * jlg 4 + (e5 * jlg 5)))))) = w) (h : jT xs d 214 23 47 [(2, (4, 23))] [] [jzP_1, (101, [], [e0, e1, e2, e3, e4, e5]), jgh, jgh, jgh, jgh, jgh, (130, [], [17, 18, 19, 20, 21, 22]), jgh, jgh, jgh, jgh, jgh, jgh, jgh, jgh, jgh, (100, [], (jenc (jlg 0))), (100, [], (jenc (jlg 1))), (100, [], (jenc (jlg 2))), (100, [], (jenc (jlg 3))), (100, [], (jenc (jlg 4))), (100, [], (jenc (jlg 5))), (100, [], jenc w)] b1 b2 Q) : jT xs d 214 23 7 [(3, (0, 0)), (2, (4, 23)), (0, (4, 0)), (1, (4, 1))] [] [jzP_1, (101, [], [e0, e1, e2, e3, e4, e5]), jgh, jgh, jgh, jgh, jgh, (130, [], [17, 18, 19, 20, 21, 22]), jgh, jgh, jgh, jgh, jgh, jgh, jgh, jgh, jgh, (100, [], (jenc (jlg 0))), (100, [], (jenc (jlg 1))), (100, [], (jenc (jlg 2))), (100, [], (jenc (jlg 3))), (100, [], (jenc (jlg 4))), (100, [], (jenc (jlg 5))), (100, [], jenc a)] (b1 + 18) (b2 + 1008) Q := by
  rcases (show (e0 < 0) ∨ (e0 = 0) ∨ (0 < e0) by omega) with g_0 | g_0 | g_0
  · have hp := jlt_m (k := 0) (e := e0) (by decide) (by omega) (by omega)
    rcases (show (a = 0) ∨ (a ≠ 0) by omega) with ga | ga
    · subst ga
      refine jT_xiload_n (v := (0, 0)) (pc' := 8) jIP_214_7 rfl rfl rfl ?_
      refine jT_xbipush (k := 6) (pc' := 10) jIP_214_8 (by decide) rfl ?_
      refine jT_xicF (t := 47) (pc' := 13) jIP_214_10 rfl (by decide +kernel) rfl rfl ?_
      refine jT_xaload_n (v := (4, 1)) (pc' := 14) jIP_214_13 rfl rfl rfl ?_
      refine jT_xiload_n (v := (0, 0)) (pc' := 15) jIP_214_14 rfl rfl rfl ?_
      refine jT_lald (x := e0) (a := 1) (j := 0) (fs := []) (X := [e0, e1, e2, e3, e4, e5]) jIP_214_15 rfl rfl rfl rfl ?_
      refine jT_eq (L' := [(3, (0, 0)), (2, (4, 23)), (0, (4, 0)), (1, (4, 1))]) (st' := [(1, e0)]) (hs' := [jzP_1, (101, [], [e0, e1, e2, e3, e4, e5]), jgh, jgh, jgh, jgh, jgh, (130, [], [17, 18, 19, 20, 21, 22]), jgh, jgh, jgh, jgh, jgh, jgh, jgh, jgh, jgh, (100, [], (jenc (jlg 0))), (100, [], (jenc (jlg 1))), (100, [], (jenc (jlg 2))), (100, [], (jenc (jlg 3))), (100, [], (jenc (jlg 4))), (100, [], (jenc (jlg 5))), (100, [], (jenc 0))]) rfl rfl rfl ?_
      refine jT_xlconst (z := 0) (pc' := 17) jIP_214_16 rfl rfl ?_
      refine jT_lcmp (a := e0) (b := 0) (z := (-1)) (by rfl) (by rfl) (jwl_idd (by omega) (by omega)) (jwl_idd (by omega) (by omega)) (by rw [decide_eq_false (show ¬ ((0 : Int) < e0) by omega), decide_eq_false (show ¬ ((e0 : Int) = 0) by omega)]; rfl) ?_
      refine jT_xifF (t := 41) (pc' := 21) jIP_214_18 rfl (by decide +kernel) rfl rfl ?_
      refine jT_xaload_n (v := (4, 23)) (pc' := 22) jIP_214_21 rfl rfl rfl ?_
      refine jT_xaload_n (v := (4, 1)) (pc' := 23) jIP_214_22 rfl rfl rfl ?_
      refine jT_xiload_n (v := (0, 0)) (pc' := 24) jIP_214_23 rfl rfl rfl ?_
      refine jT_lald (x := e0) (a := 1) (j := 0) (fs := []) (X := [e0, e1, e2, e3, e4, e5]) jIP_214_24 rfl rfl rfl rfl ?_
      refine jT_eq (L' := [(3, (0, 0)), (2, (4, 23)), (0, (4, 0)), (1, (4, 1))]) (st' := [(1, e0), (4, 23)]) (hs' := [jzP_1, (101, [], [e0, e1, e2, e3, e4, e5]), jgh, jgh, jgh, jgh, jgh, (130, [], [17, 18, 19, 20, 21, 22]), jgh, jgh, jgh, jgh, jgh, jgh, jgh, jgh, jgh, (100, [], (jenc (jlg 0))), (100, [], (jenc (jlg 1))), (100, [], (jenc (jlg 2))), (100, [], (jenc (jlg 3))), (100, [], (jenc (jlg 4))), (100, [], (jenc (jlg 5))), (100, [], (jenc 0))]) rfl rfl rfl ?_
      refine jT_callA [] (y := 178) (pc' := 28) (dC := 1) (bc1 := 1) (bc2 := 56) (c1 := (b1 + 17)) (c2 := (b2 + 952)) (as := [(1, e0)]) (asC := [(1, e0)]) (L' := [(3, (0, 0)), (2, (4, 23)), (0, (4, 0)), (1, (4, 1))]) (st' := [(4, 23)]) (hsC := []) (ex := [(100, [], (jenc e0))]) (v := (4, 0)) (st2 := [(4, 24), (4, 23)]) (hs2 := [jzP_1, (101, [], [e0, e1, e2, e3, e4, e5]), jgh, jgh, jgh, jgh, jgh, (130, [], [17, 18, 19, 20, 21, 22]), jgh, jgh, jgh, jgh, jgh, jgh, jgh, jgh, jgh, (100, [], (jenc (jlg 0))), (100, [], (jenc (jlg 1))), (100, [], (jenc (jlg 2))), (100, [], (jenc (jlg 3))), (100, [], (jenc (jlg 4))), (100, [], (jenc (jlg 5))), (100, [], (jenc 0)), (100, [], (jenc e0))]) (jT_big (d := 0) (v := e0) (by omega) (by omega)) (by rfl) (by rfl) (by rfl) (by rfl) trivial (by rfl) (by rfl) (by omega) (by show 23 ≤ 24; omega) (by omega) (by omega) rfl rfl ?_
      refine jT_xaload_n (v := (4, 0)) (pc' := 29) jIP_214_28 rfl rfl rfl ?_
      refine jT_xgetf (a := 0) (t := 1) (ci := 14) (fi := 8) (c := jzP_1) (v := (4, 7)) (pc' := 32) jIP_214_29 rfl rfl rfl rfl rfl rfl rfl ?_
      refine jT_xiload_n (v := (0, 0)) (pc' := 33) jIP_214_32 rfl rfl rfl ?_
      refine jT_aald (x := 17) (a := 7) (j := 0) (fs := []) (X := [17, 18, 19, 20, 21, 22]) (kd := 130) jIP_214_33 rfl rfl rfl rfl rfl ?_
      refine jT_eq (L' := [(3, (0, 0)), (2, (4, 23)), (0, (4, 0)), (1, (4, 1))]) (st' := [(4, 17), (4, 24), (4, 23)]) (hs' := [jzP_1, (101, [], [e0, e1, e2, e3, e4, e5]), jgh, jgh, jgh, jgh, jgh, (130, [], [17, 18, 19, 20, 21, 22]), jgh, jgh, jgh, jgh, jgh, jgh, jgh, jgh, jgh, (100, [], (jenc (jlg 0))), (100, [], (jenc (jlg 1))), (100, [], (jenc (jlg 2))), (100, [], (jenc (jlg 3))), (100, [], (jenc (jlg 4))), (100, [], (jenc (jlg 5))), (100, [], (jenc 0)), (100, [], (jenc e0))]) rfl rfl rfl ?_
      refine jT_callA [24, 17] (y := 179) (pc' := 37) (dC := 1) (bc1 := 1) (bc2 := 56) (c1 := (b1 + 16)) (c2 := (b2 + 896)) (as := [(4, 24), (4, 17)]) (asC := [(4, 0), (4, 1)]) (L' := [(3, (0, 0)), (2, (4, 23)), (0, (4, 0)), (1, (4, 1))]) (st' := [(4, 23)]) (hsC := [(100, [], (jenc e0)), (100, [], (jenc (jlg 0)))]) (ex := [(100, [], (jenc (e0 * jlg 0)))]) (v := (4, 2)) (st2 := [(4, 25), (4, 23)]) (hs2 := [jzP_1, (101, [], [e0, e1, e2, e3, e4, e5]), jgh, jgh, jgh, jgh, jgh, (130, [], [17, 18, 19, 20, 21, 22]), jgh, jgh, jgh, jgh, jgh, jgh, jgh, jgh, jgh, (100, [], (jenc (jlg 0))), (100, [], (jenc (jlg 1))), (100, [], (jenc (jlg 2))), (100, [], (jenc (jlg 3))), (100, [], (jenc (jlg 4))), (100, [], (jenc (jlg 5))), (100, [], (jenc 0)), (100, [], (jenc e0)), (100, [], (jenc (e0 * jlg 0)))]) (jT_product (d := 0) (a := e0) (b := jlg 0) (jb54 (by omega) (by omega)) hp.1) (by rfl) (by rfl) (by rfl) (by rfl) ⟨rfl, rfl, trivial⟩ (by rfl) (by rfl) (by omega) (by show 23 ≤ 25; omega) (by omega) (by omega) rfl rfl ?_
      refine jT_callA [23, 25] (y := 181) (pc' := 40) (dC := 0) (bc1 := 0) (bc2 := 0) (c1 := (b1 + 16)) (c2 := (b2 + 896)) (as := [(4, 23), (4, 25)]) (asC := [(4, 0), (4, 1)]) (L' := [(3, (0, 0)), (2, (4, 23)), (0, (4, 0)), (1, (4, 1))]) (st' := []) (hsC := [(100, [], (jenc 0)), (100, [], (jenc (e0 * jlg 0)))]) (ex := []) (v := (4, 1)) (st2 := [(4, 25)]) (hs2 := [jzP_1, (101, [], [e0, e1, e2, e3, e4, e5]), jgh, jgh, jgh, jgh, jgh, (130, [], [17, 18, 19, 20, 21, 22]), jgh, jgh, jgh, jgh, jgh, jgh, jgh, jgh, jgh, (100, [], (jenc (jlg 0))), (100, [], (jenc (jlg 1))), (100, [], (jenc (jlg 2))), (100, [], (jenc (jlg 3))), (100, [], (jenc (jlg 4))), (100, [], (jenc (jlg 5))), (100, [], (jenc 0)), (100, [], (jenc e0)), (100, [], (jenc (e0 * jlg 0)))]) (jT_added_0l (d := 0) (b := e0 * jlg 0)) (by rfl) (by rfl) (by rfl) (by rfl) ⟨rfl, rfl, trivial⟩ (by rfl) (by rfl) (by omega) (by show 23 ≤ 26; omega) (by omega) (by omega) rfl rfl ?_
      refine jT_xastore_n (v := (4, 25)) (L' := [(2, (4, 25)), (3, (0, 0)), (0, (4, 0)), (1, (4, 1))]) (pc' := 41) jIP_214_40 rfl rfl rfl rfl ?_
      refine jT_xiinc (x := 0) (z := 1) (L' := [(3, (0, 1)), (2, (4, 25)), (0, (4, 0)), (1, (4, 1))]) (pc' := 44) jIP_214_41 rfl rfl (by decide) rfl rfl ?_
      refine jT_xgoto (pc' := 7) jIP_214_44 rfl ?_
      refine jT_loc (L' := [(3, (0, 1)), (2, (4, 25)), (0, (4, 0)), (1, (4, 1))]) (by show List.Nodup [3, 2, 0, 1]; decide) (by intro q hq; simp only [List.mem_cons, List.not_mem_nil, or_false] at hq; rcases hq with rfl | rfl | rfl | rfl <;> rfl) ?_
      refine jT_gc [0, 1, 2, 3, 4, 5, 6, 7, 8, 9, 10, 11, 12, 13, 14, 15, 16, 17, 18, 19, 20, 21, 22, 25] (hs0 := [jzP_1, (101, [], [e0, e1, e2, e3, e4, e5]), jgh, jgh, jgh, jgh, jgh, (130, [], [17, 18, 19, 20, 21, 22]), jgh, jgh, jgh, jgh, jgh, jgh, jgh, jgh, jgh, (100, [], (jenc (jlg 0))), (100, [], (jenc (jlg 1))), (100, [], (jenc (jlg 2))), (100, [], (jenc (jlg 3))), (100, [], (jenc (jlg 4))), (100, [], (jenc (jlg 5))), (100, [], jenc (e0 * jlg 0))]) (L0 := [(3, (0, 1)), (2, (4, 23)), (0, (4, 0)), (1, (4, 1))]) (st0 := []) (by decide) rfl ⟨rfl, rfl, rfl, rfl, rfl, rfl, rfl, rfl, rfl, rfl, rfl, rfl, rfl, rfl, rfl, rfl, rfl, rfl, rfl, rfl, rfl, rfl, rfl, rfl, trivial⟩ rfl rfl (by decide) ?_
      exact jT.mono (jPl_lg_3_1 hd h_e0 h_e1 h_e2 h_e3 h_e4 h_e5 (jb1z hp.2.2) (by rw [Int.zero_add] at hw; exact hw) h) (Nat.le_refl _) (by omega) (by omega) (fun _ _ _ z => z)
    · refine jT_xiload_n (v := (0, 0)) (pc' := 8) jIP_214_7 rfl rfl rfl ?_
      refine jT_xbipush (k := 6) (pc' := 10) jIP_214_8 (by decide) rfl ?_
      refine jT_xicF (t := 47) (pc' := 13) jIP_214_10 rfl (by decide +kernel) rfl rfl ?_
      refine jT_xaload_n (v := (4, 1)) (pc' := 14) jIP_214_13 rfl rfl rfl ?_
      refine jT_xiload_n (v := (0, 0)) (pc' := 15) jIP_214_14 rfl rfl rfl ?_
      refine jT_lald (x := e0) (a := 1) (j := 0) (fs := []) (X := [e0, e1, e2, e3, e4, e5]) jIP_214_15 rfl rfl rfl rfl ?_
      refine jT_eq (L' := [(3, (0, 0)), (2, (4, 23)), (0, (4, 0)), (1, (4, 1))]) (st' := [(1, e0)]) (hs' := [jzP_1, (101, [], [e0, e1, e2, e3, e4, e5]), jgh, jgh, jgh, jgh, jgh, (130, [], [17, 18, 19, 20, 21, 22]), jgh, jgh, jgh, jgh, jgh, jgh, jgh, jgh, jgh, (100, [], (jenc (jlg 0))), (100, [], (jenc (jlg 1))), (100, [], (jenc (jlg 2))), (100, [], (jenc (jlg 3))), (100, [], (jenc (jlg 4))), (100, [], (jenc (jlg 5))), (100, [], (jenc a))]) rfl rfl rfl ?_
      refine jT_xlconst (z := 0) (pc' := 17) jIP_214_16 rfl rfl ?_
      refine jT_lcmp (a := e0) (b := 0) (z := (-1)) (by rfl) (by rfl) (jwl_idd (by omega) (by omega)) (jwl_idd (by omega) (by omega)) (by rw [decide_eq_false (show ¬ ((0 : Int) < e0) by omega), decide_eq_false (show ¬ ((e0 : Int) = 0) by omega)]; rfl) ?_
      refine jT_xifF (t := 41) (pc' := 21) jIP_214_18 rfl (by decide +kernel) rfl rfl ?_
      refine jT_xaload_n (v := (4, 23)) (pc' := 22) jIP_214_21 rfl rfl rfl ?_
      refine jT_xaload_n (v := (4, 1)) (pc' := 23) jIP_214_22 rfl rfl rfl ?_
      refine jT_xiload_n (v := (0, 0)) (pc' := 24) jIP_214_23 rfl rfl rfl ?_
      refine jT_lald (x := e0) (a := 1) (j := 0) (fs := []) (X := [e0, e1, e2, e3, e4, e5]) jIP_214_24 rfl rfl rfl rfl ?_
      refine jT_eq (L' := [(3, (0, 0)), (2, (4, 23)), (0, (4, 0)), (1, (4, 1))]) (st' := [(1, e0), (4, 23)]) (hs' := [jzP_1, (101, [], [e0, e1, e2, e3, e4, e5]), jgh, jgh, jgh, jgh, jgh, (130, [], [17, 18, 19, 20, 21, 22]), jgh, jgh, jgh, jgh, jgh, jgh, jgh, jgh, jgh, (100, [], (jenc (jlg 0))), (100, [], (jenc (jlg 1))), (100, [], (jenc (jlg 2))), (100, [], (jenc (jlg 3))), (100, [], (jenc (jlg 4))), (100, [], (jenc (jlg 5))), (100, [], (jenc a))]) rfl rfl rfl ?_
      refine jT_callA [] (y := 178) (pc' := 28) (dC := 1) (bc1 := 1) (bc2 := 56) (c1 := (b1 + 17)) (c2 := (b2 + 952)) (as := [(1, e0)]) (asC := [(1, e0)]) (L' := [(3, (0, 0)), (2, (4, 23)), (0, (4, 0)), (1, (4, 1))]) (st' := [(4, 23)]) (hsC := []) (ex := [(100, [], (jenc e0))]) (v := (4, 0)) (st2 := [(4, 24), (4, 23)]) (hs2 := [jzP_1, (101, [], [e0, e1, e2, e3, e4, e5]), jgh, jgh, jgh, jgh, jgh, (130, [], [17, 18, 19, 20, 21, 22]), jgh, jgh, jgh, jgh, jgh, jgh, jgh, jgh, jgh, (100, [], (jenc (jlg 0))), (100, [], (jenc (jlg 1))), (100, [], (jenc (jlg 2))), (100, [], (jenc (jlg 3))), (100, [], (jenc (jlg 4))), (100, [], (jenc (jlg 5))), (100, [], (jenc a)), (100, [], (jenc e0))]) (jT_big (d := 0) (v := e0) (by omega) (by omega)) (by rfl) (by rfl) (by rfl) (by rfl) trivial (by rfl) (by rfl) (by omega) (by show 23 ≤ 24; omega) (by omega) (by omega) rfl rfl ?_
      refine jT_xaload_n (v := (4, 0)) (pc' := 29) jIP_214_28 rfl rfl rfl ?_
      refine jT_xgetf (a := 0) (t := 1) (ci := 14) (fi := 8) (c := jzP_1) (v := (4, 7)) (pc' := 32) jIP_214_29 rfl rfl rfl rfl rfl rfl rfl ?_
      refine jT_xiload_n (v := (0, 0)) (pc' := 33) jIP_214_32 rfl rfl rfl ?_
      refine jT_aald (x := 17) (a := 7) (j := 0) (fs := []) (X := [17, 18, 19, 20, 21, 22]) (kd := 130) jIP_214_33 rfl rfl rfl rfl rfl ?_
      refine jT_eq (L' := [(3, (0, 0)), (2, (4, 23)), (0, (4, 0)), (1, (4, 1))]) (st' := [(4, 17), (4, 24), (4, 23)]) (hs' := [jzP_1, (101, [], [e0, e1, e2, e3, e4, e5]), jgh, jgh, jgh, jgh, jgh, (130, [], [17, 18, 19, 20, 21, 22]), jgh, jgh, jgh, jgh, jgh, jgh, jgh, jgh, jgh, (100, [], (jenc (jlg 0))), (100, [], (jenc (jlg 1))), (100, [], (jenc (jlg 2))), (100, [], (jenc (jlg 3))), (100, [], (jenc (jlg 4))), (100, [], (jenc (jlg 5))), (100, [], (jenc a)), (100, [], (jenc e0))]) rfl rfl rfl ?_
      refine jT_callA [24, 17] (y := 179) (pc' := 37) (dC := 1) (bc1 := 1) (bc2 := 56) (c1 := (b1 + 16)) (c2 := (b2 + 896)) (as := [(4, 24), (4, 17)]) (asC := [(4, 0), (4, 1)]) (L' := [(3, (0, 0)), (2, (4, 23)), (0, (4, 0)), (1, (4, 1))]) (st' := [(4, 23)]) (hsC := [(100, [], (jenc e0)), (100, [], (jenc (jlg 0)))]) (ex := [(100, [], (jenc (e0 * jlg 0)))]) (v := (4, 2)) (st2 := [(4, 25), (4, 23)]) (hs2 := [jzP_1, (101, [], [e0, e1, e2, e3, e4, e5]), jgh, jgh, jgh, jgh, jgh, (130, [], [17, 18, 19, 20, 21, 22]), jgh, jgh, jgh, jgh, jgh, jgh, jgh, jgh, jgh, (100, [], (jenc (jlg 0))), (100, [], (jenc (jlg 1))), (100, [], (jenc (jlg 2))), (100, [], (jenc (jlg 3))), (100, [], (jenc (jlg 4))), (100, [], (jenc (jlg 5))), (100, [], (jenc a)), (100, [], (jenc e0)), (100, [], (jenc (e0 * jlg 0)))]) (jT_product (d := 0) (a := e0) (b := jlg 0) (jb54 (by omega) (by omega)) hp.1) (by rfl) (by rfl) (by rfl) (by rfl) ⟨rfl, rfl, trivial⟩ (by rfl) (by rfl) (by omega) (by show 23 ≤ 25; omega) (by omega) (by omega) rfl rfl ?_
      refine jT_callA [23, 25] (y := 181) (pc' := 40) (dC := 1) (bc1 := 1) (bc2 := 56) (c1 := (b1 + 15)) (c2 := (b2 + 840)) (as := [(4, 23), (4, 25)]) (asC := [(4, 0), (4, 1)]) (L' := [(3, (0, 0)), (2, (4, 23)), (0, (4, 0)), (1, (4, 1))]) (st' := []) (hsC := [(100, [], (jenc a)), (100, [], (jenc (e0 * jlg 0)))]) (ex := [(100, [], (jenc (a + (e0 * jlg 0))))]) (v := (4, 2)) (st2 := [(4, 26)]) (hs2 := [jzP_1, (101, [], [e0, e1, e2, e3, e4, e5]), jgh, jgh, jgh, jgh, jgh, (130, [], [17, 18, 19, 20, 21, 22]), jgh, jgh, jgh, jgh, jgh, jgh, jgh, jgh, jgh, (100, [], (jenc (jlg 0))), (100, [], (jenc (jlg 1))), (100, [], (jenc (jlg 2))), (100, [], (jenc (jlg 3))), (100, [], (jenc (jlg 4))), (100, [], (jenc (jlg 5))), (100, [], (jenc a)), (100, [], (jenc e0)), (100, [], (jenc (e0 * jlg 0))), (100, [], (jenc (a + (e0 * jlg 0))))]) (jT_added (d := 0) (a := a) (b := e0 * jlg 0) ga hp.2.1 (jb54k ha (by decide)) hp.1 (jb54a ha hp.2.2 (by decide))) (by rfl) (by rfl) (by rfl) (by rfl) ⟨rfl, rfl, trivial⟩ (by rfl) (by rfl) (by omega) (by show 23 ≤ 26; omega) (by omega) (by omega) rfl rfl ?_
      refine jT_xastore_n (v := (4, 26)) (L' := [(2, (4, 26)), (3, (0, 0)), (0, (4, 0)), (1, (4, 1))]) (pc' := 41) jIP_214_40 rfl rfl rfl rfl ?_
      refine jT_xiinc (x := 0) (z := 1) (L' := [(3, (0, 1)), (2, (4, 26)), (0, (4, 0)), (1, (4, 1))]) (pc' := 44) jIP_214_41 rfl rfl (by decide) rfl rfl ?_
      refine jT_xgoto (pc' := 7) jIP_214_44 rfl ?_
      refine jT_loc (L' := [(3, (0, 1)), (2, (4, 26)), (0, (4, 0)), (1, (4, 1))]) (by show List.Nodup [3, 2, 0, 1]; decide) (by intro q hq; simp only [List.mem_cons, List.not_mem_nil, or_false] at hq; rcases hq with rfl | rfl | rfl | rfl <;> rfl) ?_
      refine jT_gc [0, 1, 2, 3, 4, 5, 6, 7, 8, 9, 10, 11, 12, 13, 14, 15, 16, 17, 18, 19, 20, 21, 22, 26] (hs0 := [jzP_1, (101, [], [e0, e1, e2, e3, e4, e5]), jgh, jgh, jgh, jgh, jgh, (130, [], [17, 18, 19, 20, 21, 22]), jgh, jgh, jgh, jgh, jgh, jgh, jgh, jgh, jgh, (100, [], (jenc (jlg 0))), (100, [], (jenc (jlg 1))), (100, [], (jenc (jlg 2))), (100, [], (jenc (jlg 3))), (100, [], (jenc (jlg 4))), (100, [], (jenc (jlg 5))), (100, [], jenc (a + (e0 * jlg 0)))]) (L0 := [(3, (0, 1)), (2, (4, 23)), (0, (4, 0)), (1, (4, 1))]) (st0 := []) (by decide) rfl ⟨rfl, rfl, rfl, rfl, rfl, rfl, rfl, rfl, rfl, rfl, rfl, rfl, rfl, rfl, rfl, rfl, rfl, rfl, rfl, rfl, rfl, rfl, rfl, rfl, trivial⟩ rfl rfl (by decide) ?_
      exact jT.mono (jPl_lg_3_1 hd h_e0 h_e1 h_e2 h_e3 h_e4 h_e5 (jb1c ha hp.2.2 (by decide)) (by rw [← Int.add_assoc] at hw; exact hw) h) (Nat.le_refl _) (by omega) (by omega) (fun _ _ _ z => z)
  · refine jT_xiload_n (v := (0, 0)) (pc' := 8) jIP_214_7 rfl rfl rfl ?_
    refine jT_xbipush (k := 6) (pc' := 10) jIP_214_8 (by decide) rfl ?_
    refine jT_xicF (t := 47) (pc' := 13) jIP_214_10 rfl (by decide +kernel) rfl rfl ?_
    refine jT_xaload_n (v := (4, 1)) (pc' := 14) jIP_214_13 rfl rfl rfl ?_
    refine jT_xiload_n (v := (0, 0)) (pc' := 15) jIP_214_14 rfl rfl rfl ?_
    refine jT_lald (x := e0) (a := 1) (j := 0) (fs := []) (X := [e0, e1, e2, e3, e4, e5]) jIP_214_15 rfl rfl rfl rfl ?_
    refine jT_eq (L' := [(3, (0, 0)), (2, (4, 23)), (0, (4, 0)), (1, (4, 1))]) (st' := [(1, e0)]) (hs' := [jzP_1, (101, [], [e0, e1, e2, e3, e4, e5]), jgh, jgh, jgh, jgh, jgh, (130, [], [17, 18, 19, 20, 21, 22]), jgh, jgh, jgh, jgh, jgh, jgh, jgh, jgh, jgh, (100, [], (jenc (jlg 0))), (100, [], (jenc (jlg 1))), (100, [], (jenc (jlg 2))), (100, [], (jenc (jlg 3))), (100, [], (jenc (jlg 4))), (100, [], (jenc (jlg 5))), (100, [], (jenc a))]) rfl rfl rfl ?_
    refine jT_xlconst (z := 0) (pc' := 17) jIP_214_16 rfl rfl ?_
    refine jT_lcmp (a := e0) (b := 0) (z := 0) (by rfl) (by rfl) (jwl_idd (by omega) (by omega)) (jwl_idd (by omega) (by omega)) (by rw [decide_eq_false (show ¬ ((0 : Int) < e0) by omega), decide_eq_true (show (e0 : Int) = 0 by omega)]; rfl) ?_
    refine jT_xifT (pc' := 41) jIP_214_18 rfl (by decide +kernel) rfl ?_
    refine jT_xiinc (x := 0) (z := 1) (L' := [(3, (0, 1)), (2, (4, 23)), (0, (4, 0)), (1, (4, 1))]) (pc' := 44) jIP_214_41 rfl rfl (by decide) rfl rfl ?_
    refine jT_xgoto (pc' := 7) jIP_214_44 rfl ?_
    refine jT_loc (L' := [(3, (0, 1)), (2, (4, 23)), (0, (4, 0)), (1, (4, 1))]) (by show List.Nodup [3, 2, 0, 1]; decide) (by intro q hq; simp only [List.mem_cons, List.not_mem_nil, or_false] at hq; rcases hq with rfl | rfl | rfl | rfl <;> rfl) ?_
    exact jT.mono (jPl_lg_3_1 hd h_e0 h_e1 h_e2 h_e3 h_e4 h_e5 (by omega) (by rw [g_0, Int.zero_mul] at hw; omega) h) (Nat.le_refl _) (by omega) (by omega) (fun _ _ _ z => z)
  · have hp := jlt_m (k := 0) (e := e0) (by decide) (by omega) (by omega)
    rcases (show (a = 0) ∨ (a ≠ 0) by omega) with ga | ga
    · subst ga
      refine jT_xiload_n (v := (0, 0)) (pc' := 8) jIP_214_7 rfl rfl rfl ?_
      refine jT_xbipush (k := 6) (pc' := 10) jIP_214_8 (by decide) rfl ?_
      refine jT_xicF (t := 47) (pc' := 13) jIP_214_10 rfl (by decide +kernel) rfl rfl ?_
      refine jT_xaload_n (v := (4, 1)) (pc' := 14) jIP_214_13 rfl rfl rfl ?_
      refine jT_xiload_n (v := (0, 0)) (pc' := 15) jIP_214_14 rfl rfl rfl ?_
      refine jT_lald (x := e0) (a := 1) (j := 0) (fs := []) (X := [e0, e1, e2, e3, e4, e5]) jIP_214_15 rfl rfl rfl rfl ?_
      refine jT_eq (L' := [(3, (0, 0)), (2, (4, 23)), (0, (4, 0)), (1, (4, 1))]) (st' := [(1, e0)]) (hs' := [jzP_1, (101, [], [e0, e1, e2, e3, e4, e5]), jgh, jgh, jgh, jgh, jgh, (130, [], [17, 18, 19, 20, 21, 22]), jgh, jgh, jgh, jgh, jgh, jgh, jgh, jgh, jgh, (100, [], (jenc (jlg 0))), (100, [], (jenc (jlg 1))), (100, [], (jenc (jlg 2))), (100, [], (jenc (jlg 3))), (100, [], (jenc (jlg 4))), (100, [], (jenc (jlg 5))), (100, [], (jenc 0))]) rfl rfl rfl ?_
      refine jT_xlconst (z := 0) (pc' := 17) jIP_214_16 rfl rfl ?_
      refine jT_lcmp (a := e0) (b := 0) (z := 1) (by rfl) (by rfl) (jwl_idd (by omega) (by omega)) (jwl_idd (by omega) (by omega)) (by rw [decide_eq_true (show (0 : Int) < e0 by omega)]; rfl) ?_
      refine jT_xifF (t := 41) (pc' := 21) jIP_214_18 rfl (by decide +kernel) rfl rfl ?_
      refine jT_xaload_n (v := (4, 23)) (pc' := 22) jIP_214_21 rfl rfl rfl ?_
      refine jT_xaload_n (v := (4, 1)) (pc' := 23) jIP_214_22 rfl rfl rfl ?_
      refine jT_xiload_n (v := (0, 0)) (pc' := 24) jIP_214_23 rfl rfl rfl ?_
      refine jT_lald (x := e0) (a := 1) (j := 0) (fs := []) (X := [e0, e1, e2, e3, e4, e5]) jIP_214_24 rfl rfl rfl rfl ?_
      refine jT_eq (L' := [(3, (0, 0)), (2, (4, 23)), (0, (4, 0)), (1, (4, 1))]) (st' := [(1, e0), (4, 23)]) (hs' := [jzP_1, (101, [], [e0, e1, e2, e3, e4, e5]), jgh, jgh, jgh, jgh, jgh, (130, [], [17, 18, 19, 20, 21, 22]), jgh, jgh, jgh, jgh, jgh, jgh, jgh, jgh, jgh, (100, [], (jenc (jlg 0))), (100, [], (jenc (jlg 1))), (100, [], (jenc (jlg 2))), (100, [], (jenc (jlg 3))), (100, [], (jenc (jlg 4))), (100, [], (jenc (jlg 5))), (100, [], (jenc 0))]) rfl rfl rfl ?_
      refine jT_callA [] (y := 178) (pc' := 28) (dC := 1) (bc1 := 1) (bc2 := 56) (c1 := (b1 + 17)) (c2 := (b2 + 952)) (as := [(1, e0)]) (asC := [(1, e0)]) (L' := [(3, (0, 0)), (2, (4, 23)), (0, (4, 0)), (1, (4, 1))]) (st' := [(4, 23)]) (hsC := []) (ex := [(100, [], (jenc e0))]) (v := (4, 0)) (st2 := [(4, 24), (4, 23)]) (hs2 := [jzP_1, (101, [], [e0, e1, e2, e3, e4, e5]), jgh, jgh, jgh, jgh, jgh, (130, [], [17, 18, 19, 20, 21, 22]), jgh, jgh, jgh, jgh, jgh, jgh, jgh, jgh, jgh, (100, [], (jenc (jlg 0))), (100, [], (jenc (jlg 1))), (100, [], (jenc (jlg 2))), (100, [], (jenc (jlg 3))), (100, [], (jenc (jlg 4))), (100, [], (jenc (jlg 5))), (100, [], (jenc 0)), (100, [], (jenc e0))]) (jT_big (d := 0) (v := e0) (by omega) (by omega)) (by rfl) (by rfl) (by rfl) (by rfl) trivial (by rfl) (by rfl) (by omega) (by show 23 ≤ 24; omega) (by omega) (by omega) rfl rfl ?_
      refine jT_xaload_n (v := (4, 0)) (pc' := 29) jIP_214_28 rfl rfl rfl ?_
      refine jT_xgetf (a := 0) (t := 1) (ci := 14) (fi := 8) (c := jzP_1) (v := (4, 7)) (pc' := 32) jIP_214_29 rfl rfl rfl rfl rfl rfl rfl ?_
      refine jT_xiload_n (v := (0, 0)) (pc' := 33) jIP_214_32 rfl rfl rfl ?_
      refine jT_aald (x := 17) (a := 7) (j := 0) (fs := []) (X := [17, 18, 19, 20, 21, 22]) (kd := 130) jIP_214_33 rfl rfl rfl rfl rfl ?_
      refine jT_eq (L' := [(3, (0, 0)), (2, (4, 23)), (0, (4, 0)), (1, (4, 1))]) (st' := [(4, 17), (4, 24), (4, 23)]) (hs' := [jzP_1, (101, [], [e0, e1, e2, e3, e4, e5]), jgh, jgh, jgh, jgh, jgh, (130, [], [17, 18, 19, 20, 21, 22]), jgh, jgh, jgh, jgh, jgh, jgh, jgh, jgh, jgh, (100, [], (jenc (jlg 0))), (100, [], (jenc (jlg 1))), (100, [], (jenc (jlg 2))), (100, [], (jenc (jlg 3))), (100, [], (jenc (jlg 4))), (100, [], (jenc (jlg 5))), (100, [], (jenc 0)), (100, [], (jenc e0))]) rfl rfl rfl ?_
      refine jT_callA [24, 17] (y := 179) (pc' := 37) (dC := 1) (bc1 := 1) (bc2 := 56) (c1 := (b1 + 16)) (c2 := (b2 + 896)) (as := [(4, 24), (4, 17)]) (asC := [(4, 0), (4, 1)]) (L' := [(3, (0, 0)), (2, (4, 23)), (0, (4, 0)), (1, (4, 1))]) (st' := [(4, 23)]) (hsC := [(100, [], (jenc e0)), (100, [], (jenc (jlg 0)))]) (ex := [(100, [], (jenc (e0 * jlg 0)))]) (v := (4, 2)) (st2 := [(4, 25), (4, 23)]) (hs2 := [jzP_1, (101, [], [e0, e1, e2, e3, e4, e5]), jgh, jgh, jgh, jgh, jgh, (130, [], [17, 18, 19, 20, 21, 22]), jgh, jgh, jgh, jgh, jgh, jgh, jgh, jgh, jgh, (100, [], (jenc (jlg 0))), (100, [], (jenc (jlg 1))), (100, [], (jenc (jlg 2))), (100, [], (jenc (jlg 3))), (100, [], (jenc (jlg 4))), (100, [], (jenc (jlg 5))), (100, [], (jenc 0)), (100, [], (jenc e0)), (100, [], (jenc (e0 * jlg 0)))]) (jT_product (d := 0) (a := e0) (b := jlg 0) (jb54 (by omega) (by omega)) hp.1) (by rfl) (by rfl) (by rfl) (by rfl) ⟨rfl, rfl, trivial⟩ (by rfl) (by rfl) (by omega) (by show 23 ≤ 25; omega) (by omega) (by omega) rfl rfl ?_
      refine jT_callA [23, 25] (y := 181) (pc' := 40) (dC := 0) (bc1 := 0) (bc2 := 0) (c1 := (b1 + 16)) (c2 := (b2 + 896)) (as := [(4, 23), (4, 25)]) (asC := [(4, 0), (4, 1)]) (L' := [(3, (0, 0)), (2, (4, 23)), (0, (4, 0)), (1, (4, 1))]) (st' := []) (hsC := [(100, [], (jenc 0)), (100, [], (jenc (e0 * jlg 0)))]) (ex := []) (v := (4, 1)) (st2 := [(4, 25)]) (hs2 := [jzP_1, (101, [], [e0, e1, e2, e3, e4, e5]), jgh, jgh, jgh, jgh, jgh, (130, [], [17, 18, 19, 20, 21, 22]), jgh, jgh, jgh, jgh, jgh, jgh, jgh, jgh, jgh, (100, [], (jenc (jlg 0))), (100, [], (jenc (jlg 1))), (100, [], (jenc (jlg 2))), (100, [], (jenc (jlg 3))), (100, [], (jenc (jlg 4))), (100, [], (jenc (jlg 5))), (100, [], (jenc 0)), (100, [], (jenc e0)), (100, [], (jenc (e0 * jlg 0)))]) (jT_added_0l (d := 0) (b := e0 * jlg 0)) (by rfl) (by rfl) (by rfl) (by rfl) ⟨rfl, rfl, trivial⟩ (by rfl) (by rfl) (by omega) (by show 23 ≤ 26; omega) (by omega) (by omega) rfl rfl ?_
      refine jT_xastore_n (v := (4, 25)) (L' := [(2, (4, 25)), (3, (0, 0)), (0, (4, 0)), (1, (4, 1))]) (pc' := 41) jIP_214_40 rfl rfl rfl rfl ?_
      refine jT_xiinc (x := 0) (z := 1) (L' := [(3, (0, 1)), (2, (4, 25)), (0, (4, 0)), (1, (4, 1))]) (pc' := 44) jIP_214_41 rfl rfl (by decide) rfl rfl ?_
      refine jT_xgoto (pc' := 7) jIP_214_44 rfl ?_
      refine jT_loc (L' := [(3, (0, 1)), (2, (4, 25)), (0, (4, 0)), (1, (4, 1))]) (by show List.Nodup [3, 2, 0, 1]; decide) (by intro q hq; simp only [List.mem_cons, List.not_mem_nil, or_false] at hq; rcases hq with rfl | rfl | rfl | rfl <;> rfl) ?_
      refine jT_gc [0, 1, 2, 3, 4, 5, 6, 7, 8, 9, 10, 11, 12, 13, 14, 15, 16, 17, 18, 19, 20, 21, 22, 25] (hs0 := [jzP_1, (101, [], [e0, e1, e2, e3, e4, e5]), jgh, jgh, jgh, jgh, jgh, (130, [], [17, 18, 19, 20, 21, 22]), jgh, jgh, jgh, jgh, jgh, jgh, jgh, jgh, jgh, (100, [], (jenc (jlg 0))), (100, [], (jenc (jlg 1))), (100, [], (jenc (jlg 2))), (100, [], (jenc (jlg 3))), (100, [], (jenc (jlg 4))), (100, [], (jenc (jlg 5))), (100, [], jenc (e0 * jlg 0))]) (L0 := [(3, (0, 1)), (2, (4, 23)), (0, (4, 0)), (1, (4, 1))]) (st0 := []) (by decide) rfl ⟨rfl, rfl, rfl, rfl, rfl, rfl, rfl, rfl, rfl, rfl, rfl, rfl, rfl, rfl, rfl, rfl, rfl, rfl, rfl, rfl, rfl, rfl, rfl, rfl, trivial⟩ rfl rfl (by decide) ?_
      exact jT.mono (jPl_lg_3_1 hd h_e0 h_e1 h_e2 h_e3 h_e4 h_e5 (jb1z hp.2.2) (by rw [Int.zero_add] at hw; exact hw) h) (Nat.le_refl _) (by omega) (by omega) (fun _ _ _ z => z)
    · refine jT_xiload_n (v := (0, 0)) (pc' := 8) jIP_214_7 rfl rfl rfl ?_
      refine jT_xbipush (k := 6) (pc' := 10) jIP_214_8 (by decide) rfl ?_
      refine jT_xicF (t := 47) (pc' := 13) jIP_214_10 rfl (by decide +kernel) rfl rfl ?_
      refine jT_xaload_n (v := (4, 1)) (pc' := 14) jIP_214_13 rfl rfl rfl ?_
      refine jT_xiload_n (v := (0, 0)) (pc' := 15) jIP_214_14 rfl rfl rfl ?_
      refine jT_lald (x := e0) (a := 1) (j := 0) (fs := []) (X := [e0, e1, e2, e3, e4, e5]) jIP_214_15 rfl rfl rfl rfl ?_
      refine jT_eq (L' := [(3, (0, 0)), (2, (4, 23)), (0, (4, 0)), (1, (4, 1))]) (st' := [(1, e0)]) (hs' := [jzP_1, (101, [], [e0, e1, e2, e3, e4, e5]), jgh, jgh, jgh, jgh, jgh, (130, [], [17, 18, 19, 20, 21, 22]), jgh, jgh, jgh, jgh, jgh, jgh, jgh, jgh, jgh, (100, [], (jenc (jlg 0))), (100, [], (jenc (jlg 1))), (100, [], (jenc (jlg 2))), (100, [], (jenc (jlg 3))), (100, [], (jenc (jlg 4))), (100, [], (jenc (jlg 5))), (100, [], (jenc a))]) rfl rfl rfl ?_
      refine jT_xlconst (z := 0) (pc' := 17) jIP_214_16 rfl rfl ?_
      refine jT_lcmp (a := e0) (b := 0) (z := 1) (by rfl) (by rfl) (jwl_idd (by omega) (by omega)) (jwl_idd (by omega) (by omega)) (by rw [decide_eq_true (show (0 : Int) < e0 by omega)]; rfl) ?_
      refine jT_xifF (t := 41) (pc' := 21) jIP_214_18 rfl (by decide +kernel) rfl rfl ?_
      refine jT_xaload_n (v := (4, 23)) (pc' := 22) jIP_214_21 rfl rfl rfl ?_
      refine jT_xaload_n (v := (4, 1)) (pc' := 23) jIP_214_22 rfl rfl rfl ?_
      refine jT_xiload_n (v := (0, 0)) (pc' := 24) jIP_214_23 rfl rfl rfl ?_
      refine jT_lald (x := e0) (a := 1) (j := 0) (fs := []) (X := [e0, e1, e2, e3, e4, e5]) jIP_214_24 rfl rfl rfl rfl ?_
      refine jT_eq (L' := [(3, (0, 0)), (2, (4, 23)), (0, (4, 0)), (1, (4, 1))]) (st' := [(1, e0), (4, 23)]) (hs' := [jzP_1, (101, [], [e0, e1, e2, e3, e4, e5]), jgh, jgh, jgh, jgh, jgh, (130, [], [17, 18, 19, 20, 21, 22]), jgh, jgh, jgh, jgh, jgh, jgh, jgh, jgh, jgh, (100, [], (jenc (jlg 0))), (100, [], (jenc (jlg 1))), (100, [], (jenc (jlg 2))), (100, [], (jenc (jlg 3))), (100, [], (jenc (jlg 4))), (100, [], (jenc (jlg 5))), (100, [], (jenc a))]) rfl rfl rfl ?_
      refine jT_callA [] (y := 178) (pc' := 28) (dC := 1) (bc1 := 1) (bc2 := 56) (c1 := (b1 + 17)) (c2 := (b2 + 952)) (as := [(1, e0)]) (asC := [(1, e0)]) (L' := [(3, (0, 0)), (2, (4, 23)), (0, (4, 0)), (1, (4, 1))]) (st' := [(4, 23)]) (hsC := []) (ex := [(100, [], (jenc e0))]) (v := (4, 0)) (st2 := [(4, 24), (4, 23)]) (hs2 := [jzP_1, (101, [], [e0, e1, e2, e3, e4, e5]), jgh, jgh, jgh, jgh, jgh, (130, [], [17, 18, 19, 20, 21, 22]), jgh, jgh, jgh, jgh, jgh, jgh, jgh, jgh, jgh, (100, [], (jenc (jlg 0))), (100, [], (jenc (jlg 1))), (100, [], (jenc (jlg 2))), (100, [], (jenc (jlg 3))), (100, [], (jenc (jlg 4))), (100, [], (jenc (jlg 5))), (100, [], (jenc a)), (100, [], (jenc e0))]) (jT_big (d := 0) (v := e0) (by omega) (by omega)) (by rfl) (by rfl) (by rfl) (by rfl) trivial (by rfl) (by rfl) (by omega) (by show 23 ≤ 24; omega) (by omega) (by omega) rfl rfl ?_
      refine jT_xaload_n (v := (4, 0)) (pc' := 29) jIP_214_28 rfl rfl rfl ?_
      refine jT_xgetf (a := 0) (t := 1) (ci := 14) (fi := 8) (c := jzP_1) (v := (4, 7)) (pc' := 32) jIP_214_29 rfl rfl rfl rfl rfl rfl rfl ?_
      refine jT_xiload_n (v := (0, 0)) (pc' := 33) jIP_214_32 rfl rfl rfl ?_
      refine jT_aald (x := 17) (a := 7) (j := 0) (fs := []) (X := [17, 18, 19, 20, 21, 22]) (kd := 130) jIP_214_33 rfl rfl rfl rfl rfl ?_
      refine jT_eq (L' := [(3, (0, 0)), (2, (4, 23)), (0, (4, 0)), (1, (4, 1))]) (st' := [(4, 17), (4, 24), (4, 23)]) (hs' := [jzP_1, (101, [], [e0, e1, e2, e3, e4, e5]), jgh, jgh, jgh, jgh, jgh, (130, [], [17, 18, 19, 20, 21, 22]), jgh, jgh, jgh, jgh, jgh, jgh, jgh, jgh, jgh, (100, [], (jenc (jlg 0))), (100, [], (jenc (jlg 1))), (100, [], (jenc (jlg 2))), (100, [], (jenc (jlg 3))), (100, [], (jenc (jlg 4))), (100, [], (jenc (jlg 5))), (100, [], (jenc a)), (100, [], (jenc e0))]) rfl rfl rfl ?_
      refine jT_callA [24, 17] (y := 179) (pc' := 37) (dC := 1) (bc1 := 1) (bc2 := 56) (c1 := (b1 + 16)) (c2 := (b2 + 896)) (as := [(4, 24), (4, 17)]) (asC := [(4, 0), (4, 1)]) (L' := [(3, (0, 0)), (2, (4, 23)), (0, (4, 0)), (1, (4, 1))]) (st' := [(4, 23)]) (hsC := [(100, [], (jenc e0)), (100, [], (jenc (jlg 0)))]) (ex := [(100, [], (jenc (e0 * jlg 0)))]) (v := (4, 2)) (st2 := [(4, 25), (4, 23)]) (hs2 := [jzP_1, (101, [], [e0, e1, e2, e3, e4, e5]), jgh, jgh, jgh, jgh, jgh, (130, [], [17, 18, 19, 20, 21, 22]), jgh, jgh, jgh, jgh, jgh, jgh, jgh, jgh, jgh, (100, [], (jenc (jlg 0))), (100, [], (jenc (jlg 1))), (100, [], (jenc (jlg 2))), (100, [], (jenc (jlg 3))), (100, [], (jenc (jlg 4))), (100, [], (jenc (jlg 5))), (100, [], (jenc a)), (100, [], (jenc e0)), (100, [], (jenc (e0 * jlg 0)))]) (jT_product (d := 0) (a := e0) (b := jlg 0) (jb54 (by omega) (by omega)) hp.1) (by rfl) (by rfl) (by rfl) (by rfl) ⟨rfl, rfl, trivial⟩ (by rfl) (by rfl) (by omega) (by show 23 ≤ 25; omega) (by omega) (by omega) rfl rfl ?_
      refine jT_callA [23, 25] (y := 181) (pc' := 40) (dC := 1) (bc1 := 1) (bc2 := 56) (c1 := (b1 + 15)) (c2 := (b2 + 840)) (as := [(4, 23), (4, 25)]) (asC := [(4, 0), (4, 1)]) (L' := [(3, (0, 0)), (2, (4, 23)), (0, (4, 0)), (1, (4, 1))]) (st' := []) (hsC := [(100, [], (jenc a)), (100, [], (jenc (e0 * jlg 0)))]) (ex := [(100, [], (jenc (a + (e0 * jlg 0))))]) (v := (4, 2)) (st2 := [(4, 26)]) (hs2 := [jzP_1, (101, [], [e0, e1, e2, e3, e4, e5]), jgh, jgh, jgh, jgh, jgh, (130, [], [17, 18, 19, 20, 21, 22]), jgh, jgh, jgh, jgh, jgh, jgh, jgh, jgh, jgh, (100, [], (jenc (jlg 0))), (100, [], (jenc (jlg 1))), (100, [], (jenc (jlg 2))), (100, [], (jenc (jlg 3))), (100, [], (jenc (jlg 4))), (100, [], (jenc (jlg 5))), (100, [], (jenc a)), (100, [], (jenc e0)), (100, [], (jenc (e0 * jlg 0))), (100, [], (jenc (a + (e0 * jlg 0))))]) (jT_added (d := 0) (a := a) (b := e0 * jlg 0) ga hp.2.1 (jb54k ha (by decide)) hp.1 (jb54a ha hp.2.2 (by decide))) (by rfl) (by rfl) (by rfl) (by rfl) ⟨rfl, rfl, trivial⟩ (by rfl) (by rfl) (by omega) (by show 23 ≤ 26; omega) (by omega) (by omega) rfl rfl ?_
      refine jT_xastore_n (v := (4, 26)) (L' := [(2, (4, 26)), (3, (0, 0)), (0, (4, 0)), (1, (4, 1))]) (pc' := 41) jIP_214_40 rfl rfl rfl rfl ?_
      refine jT_xiinc (x := 0) (z := 1) (L' := [(3, (0, 1)), (2, (4, 26)), (0, (4, 0)), (1, (4, 1))]) (pc' := 44) jIP_214_41 rfl rfl (by decide) rfl rfl ?_
      refine jT_xgoto (pc' := 7) jIP_214_44 rfl ?_
      refine jT_loc (L' := [(3, (0, 1)), (2, (4, 26)), (0, (4, 0)), (1, (4, 1))]) (by show List.Nodup [3, 2, 0, 1]; decide) (by intro q hq; simp only [List.mem_cons, List.not_mem_nil, or_false] at hq; rcases hq with rfl | rfl | rfl | rfl <;> rfl) ?_
      refine jT_gc [0, 1, 2, 3, 4, 5, 6, 7, 8, 9, 10, 11, 12, 13, 14, 15, 16, 17, 18, 19, 20, 21, 22, 26] (hs0 := [jzP_1, (101, [], [e0, e1, e2, e3, e4, e5]), jgh, jgh, jgh, jgh, jgh, (130, [], [17, 18, 19, 20, 21, 22]), jgh, jgh, jgh, jgh, jgh, jgh, jgh, jgh, jgh, (100, [], (jenc (jlg 0))), (100, [], (jenc (jlg 1))), (100, [], (jenc (jlg 2))), (100, [], (jenc (jlg 3))), (100, [], (jenc (jlg 4))), (100, [], (jenc (jlg 5))), (100, [], jenc (a + (e0 * jlg 0)))]) (L0 := [(3, (0, 1)), (2, (4, 23)), (0, (4, 0)), (1, (4, 1))]) (st0 := []) (by decide) rfl ⟨rfl, rfl, rfl, rfl, rfl, rfl, rfl, rfl, rfl, rfl, rfl, rfl, rfl, rfl, rfl, rfl, rfl, rfl, rfl, rfl, rfl, rfl, rfl, rfl, trivial⟩ rfl rfl (by decide) ?_
      exact jT.mono (jPl_lg_3_1 hd h_e0 h_e1 h_e2 h_e3 h_e4 h_e5 (jb1c ha hp.2.2 (by decide)) (by rw [← Int.add_assoc] at hw; exact hw) h) (Nat.le_refl _) (by omega) (by omega) (fun _ _ _ z => z)
theorem jIP_214_0 : jmI (jm 214) 0 = (.bipush 56, 2) := by rfl
theorem jIP_214_4 : jmI (jm 214) 4 = (.astore_n 2, 1) := by rfl
theorem jIP_214_5 : jmI (jm 214) 5 = (.iconst 0, 1) := by rfl
theorem jIP_214_6 : jmI (jm 214) 6 = (.istore_n 3, 1) := by rfl
theorem jIP_214_47 : jmI (jm 214) 47 = (.aload_n 2, 1) := by rfl
theorem jPl_lg_3 {xs : List Int} {d : Nat} {e0 e1 e2 e3 e4 e5 : Int} (h_e0 : -4611686018427387903 ≤ e0 ∧ e0 ≤ 4611686018427387903) (h_e1 : -4611686018427387903 ≤ e1 ∧ e1 ≤ 4611686018427387903) (h_e2 : -4611686018427387903 ≤ e2 ∧ e2 ≤ 4611686018427387903) (h_e3 : -4611686018427387903 ≤ e3 ∧ e3 ≤ 4611686018427387903) (h_e4 : -4611686018427387903 ≤ e4 ∧ e4 ≤ 4611686018427387903) (h_e5 : -4611686018427387903 ≤ e5 ∧ e5 ≤ 4611686018427387903) : jT xs (d + 2) 214 23 0 [(0, (4, 0)), (1, (4, 1))] [] [jzP_1, (101, [], [e0, e1, e2, e3, e4, e5]), jgh, jgh, jgh, jgh, jgh, (130, [], [17, 18, 19, 20, 21, 22]), jgh, jgh, jgh, jgh, jgh, jgh, jgh, jgh, jgh, (100, [], (jenc (jlg 0))), (100, [], (jenc (jlg 1))), (100, [], (jenc (jlg 2))), (100, [], (jenc (jlg 3))), (100, [], (jenc (jlg 4))), (100, [], (jenc (jlg 5)))] 19 1064 (fun k v hs' => k = 0 ∧ v = (4, 23) ∧ hs' = [jzP_1, (101, [], [e0, e1, e2, e3, e4, e5]), jgh, jgh, jgh, jgh, jgh, (130, [], [17, 18, 19, 20, 21, 22]), jgh, jgh, jgh, jgh, jgh, jgh, jgh, jgh, jgh, (100, [], (jenc (jlg 0))), (100, [], (jenc (jlg 1))), (100, [], (jenc (jlg 2))), (100, [], (jenc (jlg 3))), (100, [], (jenc (jlg 4))), (100, [], (jenc (jlg 5))), (100, [], jenc (jlt e0 e1 e2 e3 e4 e5))]) := by
  refine jT_xbipush (k := 56) (pc' := 2) jIP_214_0 (by decide) rfl ?_
  refine jT_adv 1 (pc' := 4) (L' := [(0, (4, 0)), (1, (4, 1))]) (st' := [(4, 23)]) (hs' := [jzP_1, (101, [], [e0, e1, e2, e3, e4, e5]), jgh, jgh, jgh, jgh, jgh, (130, [], [17, 18, 19, 20, 21, 22]), jgh, jgh, jgh, jgh, jgh, jgh, jgh, jgh, jgh, (100, [], (jenc (jlg 0))), (100, [], (jenc (jlg 1))), (100, [], (jenc (jlg 2))), (100, [], (jenc (jlg 3))), (100, [], (jenc (jlg 4))), (100, [], (jenc (jlg 5))), (100, [], List.replicate 56 0)]) (c1 := 1) (s1 := 56) (c2 := 18) (s2 := 1008) (by exact rfl) ?_ (by omega) (by omega)
  refine jT_xastore_n (v := (4, 23)) (L' := [(2, (4, 23)), (0, (4, 0)), (1, (4, 1))]) (pc' := 5) jIP_214_4 rfl rfl rfl rfl ?_
  refine jT_xiconst (k := 0) (pc' := 6) jIP_214_5 rfl ?_
  refine jT_xistore_n (v := (0, 0)) (L' := [(3, (0, 0)), (2, (4, 23)), (0, (4, 0)), (1, (4, 1))]) (pc' := 7) jIP_214_6 rfl rfl rfl rfl ?_
  refine jT_loc (L' := [(3, (0, 0)), (2, (4, 23)), (0, (4, 0)), (1, (4, 1))]) (by show List.Nodup [3, 2, 0, 1]; decide) (by intro q hq; simp only [List.mem_cons, List.not_mem_nil, or_false] at hq; rcases hq with rfl | rfl | rfl | rfl <;> rfl) ?_
  refine jT_eq (L' := [(3, (0, 0)), (2, (4, 23)), (0, (4, 0)), (1, (4, 1))]) (st' := []) (hs' := [jzP_1, (101, [], [e0, e1, e2, e3, e4, e5]), jgh, jgh, jgh, jgh, jgh, (130, [], [17, 18, 19, 20, 21, 22]), jgh, jgh, jgh, jgh, jgh, jgh, jgh, jgh, jgh, (100, [], (jenc (jlg 0))), (100, [], (jenc (jlg 1))), (100, [], (jenc (jlg 2))), (100, [], (jenc (jlg 3))), (100, [], (jenc (jlg 4))), (100, [], (jenc (jlg 5))), (100, [], jenc 0)]) rfl rfl (by rw [← jrep56e]; rfl) ?_
  refine jPl_lg_3_0 (b1 := 0) (b2 := 0) (by omega) h_e0 h_e1 h_e2 h_e3 h_e4 h_e5 (by decide) (show 0 + (e0 * jlg 0 + (e1 * jlg 1 + (e2 * jlg 2 + (e3 * jlg 3 + (e4 * jlg 4 + (e5 * jlg 5)))))) = jlt e0 e1 e2 e3 e4 e5 from by unfold jlt; omega) ?_
  refine jT_xaload_n (v := (4, 23)) (pc' := 48) jIP_214_47 rfl rfl rfl ?_
  exact jT_ret rfl (by decide) (by show 23 ≤ 24; decide) (by omega) (by omega) ⟨rfl, rfl, rfl⟩
theorem jIP_213_16 : jmI (jm 213) 16 = (.iconst 0, 1) := by rfl
theorem jIP_213_17 : jmI (jm 213) 17 = (.iaload, 1) := by rfl
theorem jIP_200_18 : jmI (jm 200) 18 = (.iinc 1 1, 3) := by rfl
theorem jIP_200_21 : jmI (jm 200) 21 = (.goto (-19), 3) := by rfl
theorem jP_200_4 {xs : List Int} {d : Nat} {e0 e1 e2 e3 e4 e5 : Int} (h_e0 : (-4611686018427387903) ≤ e0 ∧ e0 ≤ 4611686018427387903) (h_e1 : (-4611686018427387903) ≤ e1 ∧ e1 ≤ 4611686018427387903) (h_e2 : (-4611686018427387903) ≤ e2 ∧ e2 ≤ 4611686018427387903) (h_e3 : (-4611686018427387903) ≤ e3 ∧ e3 ≤ 4611686018427387903) (h_e4 : (-4611686018427387903) ≤ e4 ∧ e4 ≤ 4611686018427387903) (h_e5 : (-4611686018427387903) ≤ e5 ∧ e5 ≤ 4611686018427387903) (g_0 : e0 - 1 < 0) (g_1 : 0 ≤ e0) (g_2 : 0 ≤ e1 - 1) : jT xs d 200 1 0 [(0, (4, 0))] [] [(101, [], [e0, e1, e2, e3, e4, e5])] 0 0 (fun k v hs' => k = 0 ∧ v = (0, 0) ∧ hs' = [(101, [], [e0, e1, e2, e3, e4, e5])] ++ []) := by
  refine jT_xiconst (k := 0) (pc' := 1) jIP_200_0 rfl ?_
  refine jT_xistore_n (v := (0, 0)) (L' := [(1, (0, 0)), (0, (4, 0))]) (pc' := 2) jIP_200_1 rfl rfl rfl rfl ?_
  refine jT_xiload_n (v := (0, 0)) (pc' := 3) jIP_200_2 rfl rfl rfl ?_
  refine jT_xbipush (k := 6) (pc' := 5) jIP_200_3 (by decide) rfl ?_
  refine jT_xicF (t := 24) (pc' := 8) jIP_200_5 rfl (by decide +kernel) rfl rfl ?_
  refine jT_xaload_n (v := (4, 0)) (pc' := 9) jIP_200_8 rfl rfl rfl ?_
  refine jT_xiload_n (v := (0, 0)) (pc' := 10) jIP_200_9 rfl rfl rfl ?_
  refine jT_lald (x := e0) (a := 0) (j := 0) (fs := []) (X := [e0, e1, e2, e3, e4, e5]) jIP_200_10 rfl rfl rfl rfl ?_
  refine jT_eq (L' := [(1, (0, 0)), (0, (4, 0))]) (st' := [(1, e0)]) (hs' := [(101, [], [e0, e1, e2, e3, e4, e5])]) rfl rfl rfl ?_
  refine jT_xlconst (z := 0) (pc' := 12) jIP_200_11 rfl rfl ?_
  refine jT_lcmp (a := e0) (b := 0) (z := 0) (by rfl) (by rfl) (jwl_idd (by omega) (by omega)) (jwl_idd (by omega) (by omega)) (by rw [decide_eq_false (show ¬ ((0 : Int) < e0) by omega), decide_eq_true (show (e0 : Int) = 0 by omega)]; rfl) ?_
  refine jT_xifT (pc' := 18) jIP_200_13 rfl (by decide +kernel) rfl ?_
  refine jT_xiinc (x := 0) (z := 1) (L' := [(1, (0, 1)), (0, (4, 0))]) (pc' := 21) jIP_200_18 rfl rfl (by decide) rfl rfl ?_
  refine jT_xgoto (pc' := 2) jIP_200_21 rfl ?_
  refine jT_xiload_n (v := (0, 1)) (pc' := 3) jIP_200_2 rfl rfl rfl ?_
  refine jT_xbipush (k := 6) (pc' := 5) jIP_200_3 (by decide) rfl ?_
  refine jT_xicF (t := 24) (pc' := 8) jIP_200_5 rfl (by decide +kernel) rfl rfl ?_
  refine jT_xaload_n (v := (4, 0)) (pc' := 9) jIP_200_8 rfl rfl rfl ?_
  refine jT_xiload_n (v := (0, 1)) (pc' := 10) jIP_200_9 rfl rfl rfl ?_
  refine jT_lald (x := e1) (a := 0) (j := 1) (fs := []) (X := [e0, e1, e2, e3, e4, e5]) jIP_200_10 rfl rfl rfl rfl ?_
  refine jT_eq (L' := [(1, (0, 1)), (0, (4, 0))]) (st' := [(1, e1)]) (hs' := [(101, [], [e0, e1, e2, e3, e4, e5])]) rfl rfl rfl ?_
  refine jT_xlconst (z := 0) (pc' := 12) jIP_200_11 rfl rfl ?_
  refine jT_lcmp (a := e1) (b := 0) (z := 1) (by rfl) (by rfl) (jwl_idd (by omega) (by omega)) (jwl_idd (by omega) (by omega)) (by rw [decide_eq_true (show (0 : Int) < e1 by omega)]; rfl) ?_
  refine jT_xifF (t := 18) (pc' := 16) jIP_200_13 rfl (by decide +kernel) rfl rfl ?_
  refine jT_xiconst (k := 0) (pc' := 17) jIP_200_16 rfl ?_
  exact jT_ret rfl (by decide) (by show 1 ≤ 1; omega) (by omega) (by omega) ⟨rfl, rfl, rfl⟩
theorem jP_200_5 {xs : List Int} {d : Nat} {e0 e1 e2 e3 e4 e5 : Int} (h_e0 : (-4611686018427387903) ≤ e0 ∧ e0 ≤ 4611686018427387903) (h_e1 : (-4611686018427387903) ≤ e1 ∧ e1 ≤ 4611686018427387903) (h_e2 : (-4611686018427387903) ≤ e2 ∧ e2 ≤ 4611686018427387903) (h_e3 : (-4611686018427387903) ≤ e3 ∧ e3 ≤ 4611686018427387903) (h_e4 : (-4611686018427387903) ≤ e4 ∧ e4 ≤ 4611686018427387903) (h_e5 : (-4611686018427387903) ≤ e5 ∧ e5 ≤ 4611686018427387903) (g_0 : e0 - 1 < 0) (g_1 : 0 ≤ e0) (g_2 : e1 - 1 < 0) (g_3 : 0 ≤ e1) (g_4 : 0 ≤ e2 - 1) : jT xs d 200 1 0 [(0, (4, 0))] [] [(101, [], [e0, e1, e2, e3, e4, e5])] 0 0 (fun k v hs' => k = 0 ∧ v = (0, 0) ∧ hs' = [(101, [], [e0, e1, e2, e3, e4, e5])] ++ []) := by
  refine jT_xiconst (k := 0) (pc' := 1) jIP_200_0 rfl ?_
  refine jT_xistore_n (v := (0, 0)) (L' := [(1, (0, 0)), (0, (4, 0))]) (pc' := 2) jIP_200_1 rfl rfl rfl rfl ?_
  refine jT_xiload_n (v := (0, 0)) (pc' := 3) jIP_200_2 rfl rfl rfl ?_
  refine jT_xbipush (k := 6) (pc' := 5) jIP_200_3 (by decide) rfl ?_
  refine jT_xicF (t := 24) (pc' := 8) jIP_200_5 rfl (by decide +kernel) rfl rfl ?_
  refine jT_xaload_n (v := (4, 0)) (pc' := 9) jIP_200_8 rfl rfl rfl ?_
  refine jT_xiload_n (v := (0, 0)) (pc' := 10) jIP_200_9 rfl rfl rfl ?_
  refine jT_lald (x := e0) (a := 0) (j := 0) (fs := []) (X := [e0, e1, e2, e3, e4, e5]) jIP_200_10 rfl rfl rfl rfl ?_
  refine jT_eq (L' := [(1, (0, 0)), (0, (4, 0))]) (st' := [(1, e0)]) (hs' := [(101, [], [e0, e1, e2, e3, e4, e5])]) rfl rfl rfl ?_
  refine jT_xlconst (z := 0) (pc' := 12) jIP_200_11 rfl rfl ?_
  refine jT_lcmp (a := e0) (b := 0) (z := 0) (by rfl) (by rfl) (jwl_idd (by omega) (by omega)) (jwl_idd (by omega) (by omega)) (by rw [decide_eq_false (show ¬ ((0 : Int) < e0) by omega), decide_eq_true (show (e0 : Int) = 0 by omega)]; rfl) ?_
  refine jT_xifT (pc' := 18) jIP_200_13 rfl (by decide +kernel) rfl ?_
  refine jT_xiinc (x := 0) (z := 1) (L' := [(1, (0, 1)), (0, (4, 0))]) (pc' := 21) jIP_200_18 rfl rfl (by decide) rfl rfl ?_
  refine jT_xgoto (pc' := 2) jIP_200_21 rfl ?_
  refine jT_xiload_n (v := (0, 1)) (pc' := 3) jIP_200_2 rfl rfl rfl ?_
  refine jT_xbipush (k := 6) (pc' := 5) jIP_200_3 (by decide) rfl ?_
  refine jT_xicF (t := 24) (pc' := 8) jIP_200_5 rfl (by decide +kernel) rfl rfl ?_
  refine jT_xaload_n (v := (4, 0)) (pc' := 9) jIP_200_8 rfl rfl rfl ?_
  refine jT_xiload_n (v := (0, 1)) (pc' := 10) jIP_200_9 rfl rfl rfl ?_
  refine jT_lald (x := e1) (a := 0) (j := 1) (fs := []) (X := [e0, e1, e2, e3, e4, e5]) jIP_200_10 rfl rfl rfl rfl ?_
  refine jT_eq (L' := [(1, (0, 1)), (0, (4, 0))]) (st' := [(1, e1)]) (hs' := [(101, [], [e0, e1, e2, e3, e4, e5])]) rfl rfl rfl ?_
  refine jT_xlconst (z := 0) (pc' := 12) jIP_200_11 rfl rfl ?_
  refine jT_lcmp (a := e1) (b := 0) (z := 0) (by rfl) (by rfl) (jwl_idd (by omega) (by omega)) (jwl_idd (by omega) (by omega)) (by rw [decide_eq_false (show ¬ ((0 : Int) < e1) by omega), decide_eq_true (show (e1 : Int) = 0 by omega)]; rfl) ?_
  refine jT_xifT (pc' := 18) jIP_200_13 rfl (by decide +kernel) rfl ?_
  refine jT_xiinc (x := 1) (z := 2) (L' := [(1, (0, 2)), (0, (4, 0))]) (pc' := 21) jIP_200_18 rfl rfl (by decide) rfl rfl ?_
  refine jT_xgoto (pc' := 2) jIP_200_21 rfl ?_
  refine jT_xiload_n (v := (0, 2)) (pc' := 3) jIP_200_2 rfl rfl rfl ?_
  refine jT_xbipush (k := 6) (pc' := 5) jIP_200_3 (by decide) rfl ?_
  refine jT_xicF (t := 24) (pc' := 8) jIP_200_5 rfl (by decide +kernel) rfl rfl ?_
  refine jT_xaload_n (v := (4, 0)) (pc' := 9) jIP_200_8 rfl rfl rfl ?_
  refine jT_xiload_n (v := (0, 2)) (pc' := 10) jIP_200_9 rfl rfl rfl ?_
  refine jT_lald (x := e2) (a := 0) (j := 2) (fs := []) (X := [e0, e1, e2, e3, e4, e5]) jIP_200_10 rfl rfl rfl rfl ?_
  refine jT_eq (L' := [(1, (0, 2)), (0, (4, 0))]) (st' := [(1, e2)]) (hs' := [(101, [], [e0, e1, e2, e3, e4, e5])]) rfl rfl rfl ?_
  refine jT_xlconst (z := 0) (pc' := 12) jIP_200_11 rfl rfl ?_
  refine jT_lcmp (a := e2) (b := 0) (z := 1) (by rfl) (by rfl) (jwl_idd (by omega) (by omega)) (jwl_idd (by omega) (by omega)) (by rw [decide_eq_true (show (0 : Int) < e2 by omega)]; rfl) ?_
  refine jT_xifF (t := 18) (pc' := 16) jIP_200_13 rfl (by decide +kernel) rfl rfl ?_
  refine jT_xiconst (k := 0) (pc' := 17) jIP_200_16 rfl ?_
  exact jT_ret rfl (by decide) (by show 1 ≤ 1; omega) (by omega) (by omega) ⟨rfl, rfl, rfl⟩
theorem jP_200_6 {xs : List Int} {d : Nat} {e0 e1 e2 e3 e4 e5 : Int} (h_e0 : (-4611686018427387903) ≤ e0 ∧ e0 ≤ 4611686018427387903) (h_e1 : (-4611686018427387903) ≤ e1 ∧ e1 ≤ 4611686018427387903) (h_e2 : (-4611686018427387903) ≤ e2 ∧ e2 ≤ 4611686018427387903) (h_e3 : (-4611686018427387903) ≤ e3 ∧ e3 ≤ 4611686018427387903) (h_e4 : (-4611686018427387903) ≤ e4 ∧ e4 ≤ 4611686018427387903) (h_e5 : (-4611686018427387903) ≤ e5 ∧ e5 ≤ 4611686018427387903) (g_0 : e0 - 1 < 0) (g_1 : 0 ≤ e0) (g_2 : e1 - 1 < 0) (g_3 : 0 ≤ e1) (g_4 : e2 - 1 < 0) (g_5 : 0 ≤ e2) (g_6 : 0 ≤ e3 - 1) : jT xs d 200 1 0 [(0, (4, 0))] [] [(101, [], [e0, e1, e2, e3, e4, e5])] 0 0 (fun k v hs' => k = 0 ∧ v = (0, 0) ∧ hs' = [(101, [], [e0, e1, e2, e3, e4, e5])] ++ []) := by
  refine jT_xiconst (k := 0) (pc' := 1) jIP_200_0 rfl ?_
  refine jT_xistore_n (v := (0, 0)) (L' := [(1, (0, 0)), (0, (4, 0))]) (pc' := 2) jIP_200_1 rfl rfl rfl rfl ?_
  refine jT_xiload_n (v := (0, 0)) (pc' := 3) jIP_200_2 rfl rfl rfl ?_
  refine jT_xbipush (k := 6) (pc' := 5) jIP_200_3 (by decide) rfl ?_
  refine jT_xicF (t := 24) (pc' := 8) jIP_200_5 rfl (by decide +kernel) rfl rfl ?_
  refine jT_xaload_n (v := (4, 0)) (pc' := 9) jIP_200_8 rfl rfl rfl ?_
  refine jT_xiload_n (v := (0, 0)) (pc' := 10) jIP_200_9 rfl rfl rfl ?_
  refine jT_lald (x := e0) (a := 0) (j := 0) (fs := []) (X := [e0, e1, e2, e3, e4, e5]) jIP_200_10 rfl rfl rfl rfl ?_
  refine jT_eq (L' := [(1, (0, 0)), (0, (4, 0))]) (st' := [(1, e0)]) (hs' := [(101, [], [e0, e1, e2, e3, e4, e5])]) rfl rfl rfl ?_
  refine jT_xlconst (z := 0) (pc' := 12) jIP_200_11 rfl rfl ?_
  refine jT_lcmp (a := e0) (b := 0) (z := 0) (by rfl) (by rfl) (jwl_idd (by omega) (by omega)) (jwl_idd (by omega) (by omega)) (by rw [decide_eq_false (show ¬ ((0 : Int) < e0) by omega), decide_eq_true (show (e0 : Int) = 0 by omega)]; rfl) ?_
  refine jT_xifT (pc' := 18) jIP_200_13 rfl (by decide +kernel) rfl ?_
  refine jT_xiinc (x := 0) (z := 1) (L' := [(1, (0, 1)), (0, (4, 0))]) (pc' := 21) jIP_200_18 rfl rfl (by decide) rfl rfl ?_
  refine jT_xgoto (pc' := 2) jIP_200_21 rfl ?_
  refine jT_xiload_n (v := (0, 1)) (pc' := 3) jIP_200_2 rfl rfl rfl ?_
  refine jT_xbipush (k := 6) (pc' := 5) jIP_200_3 (by decide) rfl ?_
  refine jT_xicF (t := 24) (pc' := 8) jIP_200_5 rfl (by decide +kernel) rfl rfl ?_
  refine jT_xaload_n (v := (4, 0)) (pc' := 9) jIP_200_8 rfl rfl rfl ?_
  refine jT_xiload_n (v := (0, 1)) (pc' := 10) jIP_200_9 rfl rfl rfl ?_
  refine jT_lald (x := e1) (a := 0) (j := 1) (fs := []) (X := [e0, e1, e2, e3, e4, e5]) jIP_200_10 rfl rfl rfl rfl ?_
  refine jT_eq (L' := [(1, (0, 1)), (0, (4, 0))]) (st' := [(1, e1)]) (hs' := [(101, [], [e0, e1, e2, e3, e4, e5])]) rfl rfl rfl ?_
  refine jT_xlconst (z := 0) (pc' := 12) jIP_200_11 rfl rfl ?_
  refine jT_lcmp (a := e1) (b := 0) (z := 0) (by rfl) (by rfl) (jwl_idd (by omega) (by omega)) (jwl_idd (by omega) (by omega)) (by rw [decide_eq_false (show ¬ ((0 : Int) < e1) by omega), decide_eq_true (show (e1 : Int) = 0 by omega)]; rfl) ?_
  refine jT_xifT (pc' := 18) jIP_200_13 rfl (by decide +kernel) rfl ?_
  refine jT_xiinc (x := 1) (z := 2) (L' := [(1, (0, 2)), (0, (4, 0))]) (pc' := 21) jIP_200_18 rfl rfl (by decide) rfl rfl ?_
  refine jT_xgoto (pc' := 2) jIP_200_21 rfl ?_
  refine jT_xiload_n (v := (0, 2)) (pc' := 3) jIP_200_2 rfl rfl rfl ?_
  refine jT_xbipush (k := 6) (pc' := 5) jIP_200_3 (by decide) rfl ?_
  refine jT_xicF (t := 24) (pc' := 8) jIP_200_5 rfl (by decide +kernel) rfl rfl ?_
  refine jT_xaload_n (v := (4, 0)) (pc' := 9) jIP_200_8 rfl rfl rfl ?_
  refine jT_xiload_n (v := (0, 2)) (pc' := 10) jIP_200_9 rfl rfl rfl ?_
  refine jT_lald (x := e2) (a := 0) (j := 2) (fs := []) (X := [e0, e1, e2, e3, e4, e5]) jIP_200_10 rfl rfl rfl rfl ?_
  refine jT_eq (L' := [(1, (0, 2)), (0, (4, 0))]) (st' := [(1, e2)]) (hs' := [(101, [], [e0, e1, e2, e3, e4, e5])]) rfl rfl rfl ?_
  refine jT_xlconst (z := 0) (pc' := 12) jIP_200_11 rfl rfl ?_
  refine jT_lcmp (a := e2) (b := 0) (z := 0) (by rfl) (by rfl) (jwl_idd (by omega) (by omega)) (jwl_idd (by omega) (by omega)) (by rw [decide_eq_false (show ¬ ((0 : Int) < e2) by omega), decide_eq_true (show (e2 : Int) = 0 by omega)]; rfl) ?_
  refine jT_xifT (pc' := 18) jIP_200_13 rfl (by decide +kernel) rfl ?_
  refine jT_xiinc (x := 2) (z := 3) (L' := [(1, (0, 3)), (0, (4, 0))]) (pc' := 21) jIP_200_18 rfl rfl (by decide) rfl rfl ?_
  refine jT_xgoto (pc' := 2) jIP_200_21 rfl ?_
  refine jT_xiload_n (v := (0, 3)) (pc' := 3) jIP_200_2 rfl rfl rfl ?_
  refine jT_xbipush (k := 6) (pc' := 5) jIP_200_3 (by decide) rfl ?_
  refine jT_xicF (t := 24) (pc' := 8) jIP_200_5 rfl (by decide +kernel) rfl rfl ?_
  refine jT_xaload_n (v := (4, 0)) (pc' := 9) jIP_200_8 rfl rfl rfl ?_
  refine jT_xiload_n (v := (0, 3)) (pc' := 10) jIP_200_9 rfl rfl rfl ?_
  refine jT_lald (x := e3) (a := 0) (j := 3) (fs := []) (X := [e0, e1, e2, e3, e4, e5]) jIP_200_10 rfl rfl rfl rfl ?_
  refine jT_eq (L' := [(1, (0, 3)), (0, (4, 0))]) (st' := [(1, e3)]) (hs' := [(101, [], [e0, e1, e2, e3, e4, e5])]) rfl rfl rfl ?_
  refine jT_xlconst (z := 0) (pc' := 12) jIP_200_11 rfl rfl ?_
  refine jT_lcmp (a := e3) (b := 0) (z := 1) (by rfl) (by rfl) (jwl_idd (by omega) (by omega)) (jwl_idd (by omega) (by omega)) (by rw [decide_eq_true (show (0 : Int) < e3 by omega)]; rfl) ?_
  refine jT_xifF (t := 18) (pc' := 16) jIP_200_13 rfl (by decide +kernel) rfl rfl ?_
  refine jT_xiconst (k := 0) (pc' := 17) jIP_200_16 rfl ?_
  exact jT_ret rfl (by decide) (by show 1 ≤ 1; omega) (by omega) (by omega) ⟨rfl, rfl, rfl⟩
theorem jP_200_7 {xs : List Int} {d : Nat} {e0 e1 e2 e3 e4 e5 : Int} (h_e0 : (-4611686018427387903) ≤ e0 ∧ e0 ≤ 4611686018427387903) (h_e1 : (-4611686018427387903) ≤ e1 ∧ e1 ≤ 4611686018427387903) (h_e2 : (-4611686018427387903) ≤ e2 ∧ e2 ≤ 4611686018427387903) (h_e3 : (-4611686018427387903) ≤ e3 ∧ e3 ≤ 4611686018427387903) (h_e4 : (-4611686018427387903) ≤ e4 ∧ e4 ≤ 4611686018427387903) (h_e5 : (-4611686018427387903) ≤ e5 ∧ e5 ≤ 4611686018427387903) (g_0 : e0 - 1 < 0) (g_1 : 0 ≤ e0) (g_2 : e1 - 1 < 0) (g_3 : 0 ≤ e1) (g_4 : e2 - 1 < 0) (g_5 : 0 ≤ e2) (g_6 : e3 - 1 < 0) (g_7 : 0 ≤ e3) (g_8 : 0 ≤ e4 - 1) : jT xs d 200 1 0 [(0, (4, 0))] [] [(101, [], [e0, e1, e2, e3, e4, e5])] 0 0 (fun k v hs' => k = 0 ∧ v = (0, 0) ∧ hs' = [(101, [], [e0, e1, e2, e3, e4, e5])] ++ []) := by
  refine jT_xiconst (k := 0) (pc' := 1) jIP_200_0 rfl ?_
  refine jT_xistore_n (v := (0, 0)) (L' := [(1, (0, 0)), (0, (4, 0))]) (pc' := 2) jIP_200_1 rfl rfl rfl rfl ?_
  refine jT_xiload_n (v := (0, 0)) (pc' := 3) jIP_200_2 rfl rfl rfl ?_
  refine jT_xbipush (k := 6) (pc' := 5) jIP_200_3 (by decide) rfl ?_
  refine jT_xicF (t := 24) (pc' := 8) jIP_200_5 rfl (by decide +kernel) rfl rfl ?_
  refine jT_xaload_n (v := (4, 0)) (pc' := 9) jIP_200_8 rfl rfl rfl ?_
  refine jT_xiload_n (v := (0, 0)) (pc' := 10) jIP_200_9 rfl rfl rfl ?_
  refine jT_lald (x := e0) (a := 0) (j := 0) (fs := []) (X := [e0, e1, e2, e3, e4, e5]) jIP_200_10 rfl rfl rfl rfl ?_
  refine jT_eq (L' := [(1, (0, 0)), (0, (4, 0))]) (st' := [(1, e0)]) (hs' := [(101, [], [e0, e1, e2, e3, e4, e5])]) rfl rfl rfl ?_
  refine jT_xlconst (z := 0) (pc' := 12) jIP_200_11 rfl rfl ?_
  refine jT_lcmp (a := e0) (b := 0) (z := 0) (by rfl) (by rfl) (jwl_idd (by omega) (by omega)) (jwl_idd (by omega) (by omega)) (by rw [decide_eq_false (show ¬ ((0 : Int) < e0) by omega), decide_eq_true (show (e0 : Int) = 0 by omega)]; rfl) ?_
  refine jT_xifT (pc' := 18) jIP_200_13 rfl (by decide +kernel) rfl ?_
  refine jT_xiinc (x := 0) (z := 1) (L' := [(1, (0, 1)), (0, (4, 0))]) (pc' := 21) jIP_200_18 rfl rfl (by decide) rfl rfl ?_
  refine jT_xgoto (pc' := 2) jIP_200_21 rfl ?_
  refine jT_xiload_n (v := (0, 1)) (pc' := 3) jIP_200_2 rfl rfl rfl ?_
  refine jT_xbipush (k := 6) (pc' := 5) jIP_200_3 (by decide) rfl ?_
  refine jT_xicF (t := 24) (pc' := 8) jIP_200_5 rfl (by decide +kernel) rfl rfl ?_
  refine jT_xaload_n (v := (4, 0)) (pc' := 9) jIP_200_8 rfl rfl rfl ?_
  refine jT_xiload_n (v := (0, 1)) (pc' := 10) jIP_200_9 rfl rfl rfl ?_
  refine jT_lald (x := e1) (a := 0) (j := 1) (fs := []) (X := [e0, e1, e2, e3, e4, e5]) jIP_200_10 rfl rfl rfl rfl ?_
  refine jT_eq (L' := [(1, (0, 1)), (0, (4, 0))]) (st' := [(1, e1)]) (hs' := [(101, [], [e0, e1, e2, e3, e4, e5])]) rfl rfl rfl ?_
  refine jT_xlconst (z := 0) (pc' := 12) jIP_200_11 rfl rfl ?_
  refine jT_lcmp (a := e1) (b := 0) (z := 0) (by rfl) (by rfl) (jwl_idd (by omega) (by omega)) (jwl_idd (by omega) (by omega)) (by rw [decide_eq_false (show ¬ ((0 : Int) < e1) by omega), decide_eq_true (show (e1 : Int) = 0 by omega)]; rfl) ?_
  refine jT_xifT (pc' := 18) jIP_200_13 rfl (by decide +kernel) rfl ?_
  refine jT_xiinc (x := 1) (z := 2) (L' := [(1, (0, 2)), (0, (4, 0))]) (pc' := 21) jIP_200_18 rfl rfl (by decide) rfl rfl ?_
  refine jT_xgoto (pc' := 2) jIP_200_21 rfl ?_
  refine jT_xiload_n (v := (0, 2)) (pc' := 3) jIP_200_2 rfl rfl rfl ?_
  refine jT_xbipush (k := 6) (pc' := 5) jIP_200_3 (by decide) rfl ?_
  refine jT_xicF (t := 24) (pc' := 8) jIP_200_5 rfl (by decide +kernel) rfl rfl ?_
  refine jT_xaload_n (v := (4, 0)) (pc' := 9) jIP_200_8 rfl rfl rfl ?_
  refine jT_xiload_n (v := (0, 2)) (pc' := 10) jIP_200_9 rfl rfl rfl ?_
  refine jT_lald (x := e2) (a := 0) (j := 2) (fs := []) (X := [e0, e1, e2, e3, e4, e5]) jIP_200_10 rfl rfl rfl rfl ?_
  refine jT_eq (L' := [(1, (0, 2)), (0, (4, 0))]) (st' := [(1, e2)]) (hs' := [(101, [], [e0, e1, e2, e3, e4, e5])]) rfl rfl rfl ?_
  refine jT_xlconst (z := 0) (pc' := 12) jIP_200_11 rfl rfl ?_
  refine jT_lcmp (a := e2) (b := 0) (z := 0) (by rfl) (by rfl) (jwl_idd (by omega) (by omega)) (jwl_idd (by omega) (by omega)) (by rw [decide_eq_false (show ¬ ((0 : Int) < e2) by omega), decide_eq_true (show (e2 : Int) = 0 by omega)]; rfl) ?_
  refine jT_xifT (pc' := 18) jIP_200_13 rfl (by decide +kernel) rfl ?_
  refine jT_xiinc (x := 2) (z := 3) (L' := [(1, (0, 3)), (0, (4, 0))]) (pc' := 21) jIP_200_18 rfl rfl (by decide) rfl rfl ?_
  refine jT_xgoto (pc' := 2) jIP_200_21 rfl ?_
  refine jT_xiload_n (v := (0, 3)) (pc' := 3) jIP_200_2 rfl rfl rfl ?_
  refine jT_xbipush (k := 6) (pc' := 5) jIP_200_3 (by decide) rfl ?_
  refine jT_xicF (t := 24) (pc' := 8) jIP_200_5 rfl (by decide +kernel) rfl rfl ?_
  refine jT_xaload_n (v := (4, 0)) (pc' := 9) jIP_200_8 rfl rfl rfl ?_
  refine jT_xiload_n (v := (0, 3)) (pc' := 10) jIP_200_9 rfl rfl rfl ?_
  refine jT_lald (x := e3) (a := 0) (j := 3) (fs := []) (X := [e0, e1, e2, e3, e4, e5]) jIP_200_10 rfl rfl rfl rfl ?_
  refine jT_eq (L' := [(1, (0, 3)), (0, (4, 0))]) (st' := [(1, e3)]) (hs' := [(101, [], [e0, e1, e2, e3, e4, e5])]) rfl rfl rfl ?_
  refine jT_xlconst (z := 0) (pc' := 12) jIP_200_11 rfl rfl ?_
  refine jT_lcmp (a := e3) (b := 0) (z := 0) (by rfl) (by rfl) (jwl_idd (by omega) (by omega)) (jwl_idd (by omega) (by omega)) (by rw [decide_eq_false (show ¬ ((0 : Int) < e3) by omega), decide_eq_true (show (e3 : Int) = 0 by omega)]; rfl) ?_
  refine jT_xifT (pc' := 18) jIP_200_13 rfl (by decide +kernel) rfl ?_
  refine jT_xiinc (x := 3) (z := 4) (L' := [(1, (0, 4)), (0, (4, 0))]) (pc' := 21) jIP_200_18 rfl rfl (by decide) rfl rfl ?_
  refine jT_xgoto (pc' := 2) jIP_200_21 rfl ?_
  refine jT_xiload_n (v := (0, 4)) (pc' := 3) jIP_200_2 rfl rfl rfl ?_
  refine jT_xbipush (k := 6) (pc' := 5) jIP_200_3 (by decide) rfl ?_
  refine jT_xicF (t := 24) (pc' := 8) jIP_200_5 rfl (by decide +kernel) rfl rfl ?_
  refine jT_xaload_n (v := (4, 0)) (pc' := 9) jIP_200_8 rfl rfl rfl ?_
  refine jT_xiload_n (v := (0, 4)) (pc' := 10) jIP_200_9 rfl rfl rfl ?_
  refine jT_lald (x := e4) (a := 0) (j := 4) (fs := []) (X := [e0, e1, e2, e3, e4, e5]) jIP_200_10 rfl rfl rfl rfl ?_
  refine jT_eq (L' := [(1, (0, 4)), (0, (4, 0))]) (st' := [(1, e4)]) (hs' := [(101, [], [e0, e1, e2, e3, e4, e5])]) rfl rfl rfl ?_
  refine jT_xlconst (z := 0) (pc' := 12) jIP_200_11 rfl rfl ?_
  refine jT_lcmp (a := e4) (b := 0) (z := 1) (by rfl) (by rfl) (jwl_idd (by omega) (by omega)) (jwl_idd (by omega) (by omega)) (by rw [decide_eq_true (show (0 : Int) < e4 by omega)]; rfl) ?_
  refine jT_xifF (t := 18) (pc' := 16) jIP_200_13 rfl (by decide +kernel) rfl rfl ?_
  refine jT_xiconst (k := 0) (pc' := 17) jIP_200_16 rfl ?_
  exact jT_ret rfl (by decide) (by show 1 ≤ 1; omega) (by omega) (by omega) ⟨rfl, rfl, rfl⟩
theorem jP_200_8 {xs : List Int} {d : Nat} {e0 e1 e2 e3 e4 e5 : Int} (h_e0 : (-4611686018427387903) ≤ e0 ∧ e0 ≤ 4611686018427387903) (h_e1 : (-4611686018427387903) ≤ e1 ∧ e1 ≤ 4611686018427387903) (h_e2 : (-4611686018427387903) ≤ e2 ∧ e2 ≤ 4611686018427387903) (h_e3 : (-4611686018427387903) ≤ e3 ∧ e3 ≤ 4611686018427387903) (h_e4 : (-4611686018427387903) ≤ e4 ∧ e4 ≤ 4611686018427387903) (h_e5 : (-4611686018427387903) ≤ e5 ∧ e5 ≤ 4611686018427387903) (g_0 : e0 - 1 < 0) (g_1 : 0 ≤ e0) (g_2 : e1 - 1 < 0) (g_3 : 0 ≤ e1) (g_4 : e2 - 1 < 0) (g_5 : 0 ≤ e2) (g_6 : e3 - 1 < 0) (g_7 : 0 ≤ e3) (g_8 : e4 - 1 < 0) (g_9 : 0 ≤ e4) (g_10 : 0 ≤ e5 - 1) : jT xs d 200 1 0 [(0, (4, 0))] [] [(101, [], [e0, e1, e2, e3, e4, e5])] 0 0 (fun k v hs' => k = 0 ∧ v = (0, 0) ∧ hs' = [(101, [], [e0, e1, e2, e3, e4, e5])] ++ []) := by
  refine jT_xiconst (k := 0) (pc' := 1) jIP_200_0 rfl ?_
  refine jT_xistore_n (v := (0, 0)) (L' := [(1, (0, 0)), (0, (4, 0))]) (pc' := 2) jIP_200_1 rfl rfl rfl rfl ?_
  refine jT_xiload_n (v := (0, 0)) (pc' := 3) jIP_200_2 rfl rfl rfl ?_
  refine jT_xbipush (k := 6) (pc' := 5) jIP_200_3 (by decide) rfl ?_
  refine jT_xicF (t := 24) (pc' := 8) jIP_200_5 rfl (by decide +kernel) rfl rfl ?_
  refine jT_xaload_n (v := (4, 0)) (pc' := 9) jIP_200_8 rfl rfl rfl ?_
  refine jT_xiload_n (v := (0, 0)) (pc' := 10) jIP_200_9 rfl rfl rfl ?_
  refine jT_lald (x := e0) (a := 0) (j := 0) (fs := []) (X := [e0, e1, e2, e3, e4, e5]) jIP_200_10 rfl rfl rfl rfl ?_
  refine jT_eq (L' := [(1, (0, 0)), (0, (4, 0))]) (st' := [(1, e0)]) (hs' := [(101, [], [e0, e1, e2, e3, e4, e5])]) rfl rfl rfl ?_
  refine jT_xlconst (z := 0) (pc' := 12) jIP_200_11 rfl rfl ?_
  refine jT_lcmp (a := e0) (b := 0) (z := 0) (by rfl) (by rfl) (jwl_idd (by omega) (by omega)) (jwl_idd (by omega) (by omega)) (by rw [decide_eq_false (show ¬ ((0 : Int) < e0) by omega), decide_eq_true (show (e0 : Int) = 0 by omega)]; rfl) ?_
  refine jT_xifT (pc' := 18) jIP_200_13 rfl (by decide +kernel) rfl ?_
  refine jT_xiinc (x := 0) (z := 1) (L' := [(1, (0, 1)), (0, (4, 0))]) (pc' := 21) jIP_200_18 rfl rfl (by decide) rfl rfl ?_
  refine jT_xgoto (pc' := 2) jIP_200_21 rfl ?_
  refine jT_xiload_n (v := (0, 1)) (pc' := 3) jIP_200_2 rfl rfl rfl ?_
  refine jT_xbipush (k := 6) (pc' := 5) jIP_200_3 (by decide) rfl ?_
  refine jT_xicF (t := 24) (pc' := 8) jIP_200_5 rfl (by decide +kernel) rfl rfl ?_
  refine jT_xaload_n (v := (4, 0)) (pc' := 9) jIP_200_8 rfl rfl rfl ?_
  refine jT_xiload_n (v := (0, 1)) (pc' := 10) jIP_200_9 rfl rfl rfl ?_
  refine jT_lald (x := e1) (a := 0) (j := 1) (fs := []) (X := [e0, e1, e2, e3, e4, e5]) jIP_200_10 rfl rfl rfl rfl ?_
  refine jT_eq (L' := [(1, (0, 1)), (0, (4, 0))]) (st' := [(1, e1)]) (hs' := [(101, [], [e0, e1, e2, e3, e4, e5])]) rfl rfl rfl ?_
  refine jT_xlconst (z := 0) (pc' := 12) jIP_200_11 rfl rfl ?_
  refine jT_lcmp (a := e1) (b := 0) (z := 0) (by rfl) (by rfl) (jwl_idd (by omega) (by omega)) (jwl_idd (by omega) (by omega)) (by rw [decide_eq_false (show ¬ ((0 : Int) < e1) by omega), decide_eq_true (show (e1 : Int) = 0 by omega)]; rfl) ?_
  refine jT_xifT (pc' := 18) jIP_200_13 rfl (by decide +kernel) rfl ?_
  refine jT_xiinc (x := 1) (z := 2) (L' := [(1, (0, 2)), (0, (4, 0))]) (pc' := 21) jIP_200_18 rfl rfl (by decide) rfl rfl ?_
  refine jT_xgoto (pc' := 2) jIP_200_21 rfl ?_
  refine jT_xiload_n (v := (0, 2)) (pc' := 3) jIP_200_2 rfl rfl rfl ?_
  refine jT_xbipush (k := 6) (pc' := 5) jIP_200_3 (by decide) rfl ?_
  refine jT_xicF (t := 24) (pc' := 8) jIP_200_5 rfl (by decide +kernel) rfl rfl ?_
  refine jT_xaload_n (v := (4, 0)) (pc' := 9) jIP_200_8 rfl rfl rfl ?_
  refine jT_xiload_n (v := (0, 2)) (pc' := 10) jIP_200_9 rfl rfl rfl ?_
  refine jT_lald (x := e2) (a := 0) (j := 2) (fs := []) (X := [e0, e1, e2, e3, e4, e5]) jIP_200_10 rfl rfl rfl rfl ?_
  refine jT_eq (L' := [(1, (0, 2)), (0, (4, 0))]) (st' := [(1, e2)]) (hs' := [(101, [], [e0, e1, e2, e3, e4, e5])]) rfl rfl rfl ?_
  refine jT_xlconst (z := 0) (pc' := 12) jIP_200_11 rfl rfl ?_
  refine jT_lcmp (a := e2) (b := 0) (z := 0) (by rfl) (by rfl) (jwl_idd (by omega) (by omega)) (jwl_idd (by omega) (by omega)) (by rw [decide_eq_false (show ¬ ((0 : Int) < e2) by omega), decide_eq_true (show (e2 : Int) = 0 by omega)]; rfl) ?_
  refine jT_xifT (pc' := 18) jIP_200_13 rfl (by decide +kernel) rfl ?_
  refine jT_xiinc (x := 2) (z := 3) (L' := [(1, (0, 3)), (0, (4, 0))]) (pc' := 21) jIP_200_18 rfl rfl (by decide) rfl rfl ?_
  refine jT_xgoto (pc' := 2) jIP_200_21 rfl ?_
  refine jT_xiload_n (v := (0, 3)) (pc' := 3) jIP_200_2 rfl rfl rfl ?_
  refine jT_xbipush (k := 6) (pc' := 5) jIP_200_3 (by decide) rfl ?_
  refine jT_xicF (t := 24) (pc' := 8) jIP_200_5 rfl (by decide +kernel) rfl rfl ?_
  refine jT_xaload_n (v := (4, 0)) (pc' := 9) jIP_200_8 rfl rfl rfl ?_
  refine jT_xiload_n (v := (0, 3)) (pc' := 10) jIP_200_9 rfl rfl rfl ?_
  refine jT_lald (x := e3) (a := 0) (j := 3) (fs := []) (X := [e0, e1, e2, e3, e4, e5]) jIP_200_10 rfl rfl rfl rfl ?_
  refine jT_eq (L' := [(1, (0, 3)), (0, (4, 0))]) (st' := [(1, e3)]) (hs' := [(101, [], [e0, e1, e2, e3, e4, e5])]) rfl rfl rfl ?_
  refine jT_xlconst (z := 0) (pc' := 12) jIP_200_11 rfl rfl ?_
  refine jT_lcmp (a := e3) (b := 0) (z := 0) (by rfl) (by rfl) (jwl_idd (by omega) (by omega)) (jwl_idd (by omega) (by omega)) (by rw [decide_eq_false (show ¬ ((0 : Int) < e3) by omega), decide_eq_true (show (e3 : Int) = 0 by omega)]; rfl) ?_
  refine jT_xifT (pc' := 18) jIP_200_13 rfl (by decide +kernel) rfl ?_
  refine jT_xiinc (x := 3) (z := 4) (L' := [(1, (0, 4)), (0, (4, 0))]) (pc' := 21) jIP_200_18 rfl rfl (by decide) rfl rfl ?_
  refine jT_xgoto (pc' := 2) jIP_200_21 rfl ?_
  refine jT_xiload_n (v := (0, 4)) (pc' := 3) jIP_200_2 rfl rfl rfl ?_
  refine jT_xbipush (k := 6) (pc' := 5) jIP_200_3 (by decide) rfl ?_
  refine jT_xicF (t := 24) (pc' := 8) jIP_200_5 rfl (by decide +kernel) rfl rfl ?_
  refine jT_xaload_n (v := (4, 0)) (pc' := 9) jIP_200_8 rfl rfl rfl ?_
  refine jT_xiload_n (v := (0, 4)) (pc' := 10) jIP_200_9 rfl rfl rfl ?_
  refine jT_lald (x := e4) (a := 0) (j := 4) (fs := []) (X := [e0, e1, e2, e3, e4, e5]) jIP_200_10 rfl rfl rfl rfl ?_
  refine jT_eq (L' := [(1, (0, 4)), (0, (4, 0))]) (st' := [(1, e4)]) (hs' := [(101, [], [e0, e1, e2, e3, e4, e5])]) rfl rfl rfl ?_
  refine jT_xlconst (z := 0) (pc' := 12) jIP_200_11 rfl rfl ?_
  refine jT_lcmp (a := e4) (b := 0) (z := 0) (by rfl) (by rfl) (jwl_idd (by omega) (by omega)) (jwl_idd (by omega) (by omega)) (by rw [decide_eq_false (show ¬ ((0 : Int) < e4) by omega), decide_eq_true (show (e4 : Int) = 0 by omega)]; rfl) ?_
  refine jT_xifT (pc' := 18) jIP_200_13 rfl (by decide +kernel) rfl ?_
  refine jT_xiinc (x := 4) (z := 5) (L' := [(1, (0, 5)), (0, (4, 0))]) (pc' := 21) jIP_200_18 rfl rfl (by decide) rfl rfl ?_
  refine jT_xgoto (pc' := 2) jIP_200_21 rfl ?_
  refine jT_xiload_n (v := (0, 5)) (pc' := 3) jIP_200_2 rfl rfl rfl ?_
  refine jT_xbipush (k := 6) (pc' := 5) jIP_200_3 (by decide) rfl ?_
  refine jT_xicF (t := 24) (pc' := 8) jIP_200_5 rfl (by decide +kernel) rfl rfl ?_
  refine jT_xaload_n (v := (4, 0)) (pc' := 9) jIP_200_8 rfl rfl rfl ?_
  refine jT_xiload_n (v := (0, 5)) (pc' := 10) jIP_200_9 rfl rfl rfl ?_
  refine jT_lald (x := e5) (a := 0) (j := 5) (fs := []) (X := [e0, e1, e2, e3, e4, e5]) jIP_200_10 rfl rfl rfl rfl ?_
  refine jT_eq (L' := [(1, (0, 5)), (0, (4, 0))]) (st' := [(1, e5)]) (hs' := [(101, [], [e0, e1, e2, e3, e4, e5])]) rfl rfl rfl ?_
  refine jT_xlconst (z := 0) (pc' := 12) jIP_200_11 rfl rfl ?_
  refine jT_lcmp (a := e5) (b := 0) (z := 1) (by rfl) (by rfl) (jwl_idd (by omega) (by omega)) (jwl_idd (by omega) (by omega)) (by rw [decide_eq_true (show (0 : Int) < e5 by omega)]; rfl) ?_
  refine jT_xifF (t := 18) (pc' := 16) jIP_200_13 rfl (by decide +kernel) rfl rfl ?_
  refine jT_xiconst (k := 0) (pc' := 17) jIP_200_16 rfl ?_
  exact jT_ret rfl (by decide) (by show 1 ≤ 1; omega) (by omega) (by omega) ⟨rfl, rfl, rfl⟩
theorem jIP_200_24 : jmI (jm 200) 24 = (.iconst 1, 1) := by rfl
theorem jP_200_9 {xs : List Int} {d : Nat} {e0 e1 e2 e3 e4 e5 : Int} (h_e0 : (-4611686018427387903) ≤ e0 ∧ e0 ≤ 4611686018427387903) (h_e1 : (-4611686018427387903) ≤ e1 ∧ e1 ≤ 4611686018427387903) (h_e2 : (-4611686018427387903) ≤ e2 ∧ e2 ≤ 4611686018427387903) (h_e3 : (-4611686018427387903) ≤ e3 ∧ e3 ≤ 4611686018427387903) (h_e4 : (-4611686018427387903) ≤ e4 ∧ e4 ≤ 4611686018427387903) (h_e5 : (-4611686018427387903) ≤ e5 ∧ e5 ≤ 4611686018427387903) (g_0 : e0 - 1 < 0) (g_1 : 0 ≤ e0) (g_2 : e1 - 1 < 0) (g_3 : 0 ≤ e1) (g_4 : e2 - 1 < 0) (g_5 : 0 ≤ e2) (g_6 : e3 - 1 < 0) (g_7 : 0 ≤ e3) (g_8 : e4 - 1 < 0) (g_9 : 0 ≤ e4) (g_10 : e5 - 1 < 0) (g_11 : 0 ≤ e5) : jT xs d 200 1 0 [(0, (4, 0))] [] [(101, [], [e0, e1, e2, e3, e4, e5])] 0 0 (fun k v hs' => k = 0 ∧ v = (0, 1) ∧ hs' = [(101, [], [e0, e1, e2, e3, e4, e5])] ++ []) := by
  refine jT_xiconst (k := 0) (pc' := 1) jIP_200_0 rfl ?_
  refine jT_xistore_n (v := (0, 0)) (L' := [(1, (0, 0)), (0, (4, 0))]) (pc' := 2) jIP_200_1 rfl rfl rfl rfl ?_
  refine jT_xiload_n (v := (0, 0)) (pc' := 3) jIP_200_2 rfl rfl rfl ?_
  refine jT_xbipush (k := 6) (pc' := 5) jIP_200_3 (by decide) rfl ?_
  refine jT_xicF (t := 24) (pc' := 8) jIP_200_5 rfl (by decide +kernel) rfl rfl ?_
  refine jT_xaload_n (v := (4, 0)) (pc' := 9) jIP_200_8 rfl rfl rfl ?_
  refine jT_xiload_n (v := (0, 0)) (pc' := 10) jIP_200_9 rfl rfl rfl ?_
  refine jT_lald (x := e0) (a := 0) (j := 0) (fs := []) (X := [e0, e1, e2, e3, e4, e5]) jIP_200_10 rfl rfl rfl rfl ?_
  refine jT_eq (L' := [(1, (0, 0)), (0, (4, 0))]) (st' := [(1, e0)]) (hs' := [(101, [], [e0, e1, e2, e3, e4, e5])]) rfl rfl rfl ?_
  refine jT_xlconst (z := 0) (pc' := 12) jIP_200_11 rfl rfl ?_
  refine jT_lcmp (a := e0) (b := 0) (z := 0) (by rfl) (by rfl) (jwl_idd (by omega) (by omega)) (jwl_idd (by omega) (by omega)) (by rw [decide_eq_false (show ¬ ((0 : Int) < e0) by omega), decide_eq_true (show (e0 : Int) = 0 by omega)]; rfl) ?_
  refine jT_xifT (pc' := 18) jIP_200_13 rfl (by decide +kernel) rfl ?_
  refine jT_xiinc (x := 0) (z := 1) (L' := [(1, (0, 1)), (0, (4, 0))]) (pc' := 21) jIP_200_18 rfl rfl (by decide) rfl rfl ?_
  refine jT_xgoto (pc' := 2) jIP_200_21 rfl ?_
  refine jT_xiload_n (v := (0, 1)) (pc' := 3) jIP_200_2 rfl rfl rfl ?_
  refine jT_xbipush (k := 6) (pc' := 5) jIP_200_3 (by decide) rfl ?_
  refine jT_xicF (t := 24) (pc' := 8) jIP_200_5 rfl (by decide +kernel) rfl rfl ?_
  refine jT_xaload_n (v := (4, 0)) (pc' := 9) jIP_200_8 rfl rfl rfl ?_
  refine jT_xiload_n (v := (0, 1)) (pc' := 10) jIP_200_9 rfl rfl rfl ?_
  refine jT_lald (x := e1) (a := 0) (j := 1) (fs := []) (X := [e0, e1, e2, e3, e4, e5]) jIP_200_10 rfl rfl rfl rfl ?_
  refine jT_eq (L' := [(1, (0, 1)), (0, (4, 0))]) (st' := [(1, e1)]) (hs' := [(101, [], [e0, e1, e2, e3, e4, e5])]) rfl rfl rfl ?_
  refine jT_xlconst (z := 0) (pc' := 12) jIP_200_11 rfl rfl ?_
  refine jT_lcmp (a := e1) (b := 0) (z := 0) (by rfl) (by rfl) (jwl_idd (by omega) (by omega)) (jwl_idd (by omega) (by omega)) (by rw [decide_eq_false (show ¬ ((0 : Int) < e1) by omega), decide_eq_true (show (e1 : Int) = 0 by omega)]; rfl) ?_
  refine jT_xifT (pc' := 18) jIP_200_13 rfl (by decide +kernel) rfl ?_
  refine jT_xiinc (x := 1) (z := 2) (L' := [(1, (0, 2)), (0, (4, 0))]) (pc' := 21) jIP_200_18 rfl rfl (by decide) rfl rfl ?_
  refine jT_xgoto (pc' := 2) jIP_200_21 rfl ?_
  refine jT_xiload_n (v := (0, 2)) (pc' := 3) jIP_200_2 rfl rfl rfl ?_
  refine jT_xbipush (k := 6) (pc' := 5) jIP_200_3 (by decide) rfl ?_
  refine jT_xicF (t := 24) (pc' := 8) jIP_200_5 rfl (by decide +kernel) rfl rfl ?_
  refine jT_xaload_n (v := (4, 0)) (pc' := 9) jIP_200_8 rfl rfl rfl ?_
  refine jT_xiload_n (v := (0, 2)) (pc' := 10) jIP_200_9 rfl rfl rfl ?_
  refine jT_lald (x := e2) (a := 0) (j := 2) (fs := []) (X := [e0, e1, e2, e3, e4, e5]) jIP_200_10 rfl rfl rfl rfl ?_
  refine jT_eq (L' := [(1, (0, 2)), (0, (4, 0))]) (st' := [(1, e2)]) (hs' := [(101, [], [e0, e1, e2, e3, e4, e5])]) rfl rfl rfl ?_
  refine jT_xlconst (z := 0) (pc' := 12) jIP_200_11 rfl rfl ?_
  refine jT_lcmp (a := e2) (b := 0) (z := 0) (by rfl) (by rfl) (jwl_idd (by omega) (by omega)) (jwl_idd (by omega) (by omega)) (by rw [decide_eq_false (show ¬ ((0 : Int) < e2) by omega), decide_eq_true (show (e2 : Int) = 0 by omega)]; rfl) ?_
  refine jT_xifT (pc' := 18) jIP_200_13 rfl (by decide +kernel) rfl ?_
  refine jT_xiinc (x := 2) (z := 3) (L' := [(1, (0, 3)), (0, (4, 0))]) (pc' := 21) jIP_200_18 rfl rfl (by decide) rfl rfl ?_
  refine jT_xgoto (pc' := 2) jIP_200_21 rfl ?_
  refine jT_xiload_n (v := (0, 3)) (pc' := 3) jIP_200_2 rfl rfl rfl ?_
  refine jT_xbipush (k := 6) (pc' := 5) jIP_200_3 (by decide) rfl ?_
  refine jT_xicF (t := 24) (pc' := 8) jIP_200_5 rfl (by decide +kernel) rfl rfl ?_
  refine jT_xaload_n (v := (4, 0)) (pc' := 9) jIP_200_8 rfl rfl rfl ?_
  refine jT_xiload_n (v := (0, 3)) (pc' := 10) jIP_200_9 rfl rfl rfl ?_
  refine jT_lald (x := e3) (a := 0) (j := 3) (fs := []) (X := [e0, e1, e2, e3, e4, e5]) jIP_200_10 rfl rfl rfl rfl ?_
  refine jT_eq (L' := [(1, (0, 3)), (0, (4, 0))]) (st' := [(1, e3)]) (hs' := [(101, [], [e0, e1, e2, e3, e4, e5])]) rfl rfl rfl ?_
  refine jT_xlconst (z := 0) (pc' := 12) jIP_200_11 rfl rfl ?_
  refine jT_lcmp (a := e3) (b := 0) (z := 0) (by rfl) (by rfl) (jwl_idd (by omega) (by omega)) (jwl_idd (by omega) (by omega)) (by rw [decide_eq_false (show ¬ ((0 : Int) < e3) by omega), decide_eq_true (show (e3 : Int) = 0 by omega)]; rfl) ?_
  refine jT_xifT (pc' := 18) jIP_200_13 rfl (by decide +kernel) rfl ?_
  refine jT_xiinc (x := 3) (z := 4) (L' := [(1, (0, 4)), (0, (4, 0))]) (pc' := 21) jIP_200_18 rfl rfl (by decide) rfl rfl ?_
  refine jT_xgoto (pc' := 2) jIP_200_21 rfl ?_
  refine jT_xiload_n (v := (0, 4)) (pc' := 3) jIP_200_2 rfl rfl rfl ?_
  refine jT_xbipush (k := 6) (pc' := 5) jIP_200_3 (by decide) rfl ?_
  refine jT_xicF (t := 24) (pc' := 8) jIP_200_5 rfl (by decide +kernel) rfl rfl ?_
  refine jT_xaload_n (v := (4, 0)) (pc' := 9) jIP_200_8 rfl rfl rfl ?_
  refine jT_xiload_n (v := (0, 4)) (pc' := 10) jIP_200_9 rfl rfl rfl ?_
  refine jT_lald (x := e4) (a := 0) (j := 4) (fs := []) (X := [e0, e1, e2, e3, e4, e5]) jIP_200_10 rfl rfl rfl rfl ?_
  refine jT_eq (L' := [(1, (0, 4)), (0, (4, 0))]) (st' := [(1, e4)]) (hs' := [(101, [], [e0, e1, e2, e3, e4, e5])]) rfl rfl rfl ?_
  refine jT_xlconst (z := 0) (pc' := 12) jIP_200_11 rfl rfl ?_
  refine jT_lcmp (a := e4) (b := 0) (z := 0) (by rfl) (by rfl) (jwl_idd (by omega) (by omega)) (jwl_idd (by omega) (by omega)) (by rw [decide_eq_false (show ¬ ((0 : Int) < e4) by omega), decide_eq_true (show (e4 : Int) = 0 by omega)]; rfl) ?_
  refine jT_xifT (pc' := 18) jIP_200_13 rfl (by decide +kernel) rfl ?_
  refine jT_xiinc (x := 4) (z := 5) (L' := [(1, (0, 5)), (0, (4, 0))]) (pc' := 21) jIP_200_18 rfl rfl (by decide) rfl rfl ?_
  refine jT_xgoto (pc' := 2) jIP_200_21 rfl ?_
  refine jT_xiload_n (v := (0, 5)) (pc' := 3) jIP_200_2 rfl rfl rfl ?_
  refine jT_xbipush (k := 6) (pc' := 5) jIP_200_3 (by decide) rfl ?_
  refine jT_xicF (t := 24) (pc' := 8) jIP_200_5 rfl (by decide +kernel) rfl rfl ?_
  refine jT_xaload_n (v := (4, 0)) (pc' := 9) jIP_200_8 rfl rfl rfl ?_
  refine jT_xiload_n (v := (0, 5)) (pc' := 10) jIP_200_9 rfl rfl rfl ?_
  refine jT_lald (x := e5) (a := 0) (j := 5) (fs := []) (X := [e0, e1, e2, e3, e4, e5]) jIP_200_10 rfl rfl rfl rfl ?_
  refine jT_eq (L' := [(1, (0, 5)), (0, (4, 0))]) (st' := [(1, e5)]) (hs' := [(101, [], [e0, e1, e2, e3, e4, e5])]) rfl rfl rfl ?_
  refine jT_xlconst (z := 0) (pc' := 12) jIP_200_11 rfl rfl ?_
  refine jT_lcmp (a := e5) (b := 0) (z := 0) (by rfl) (by rfl) (jwl_idd (by omega) (by omega)) (jwl_idd (by omega) (by omega)) (by rw [decide_eq_false (show ¬ ((0 : Int) < e5) by omega), decide_eq_true (show (e5 : Int) = 0 by omega)]; rfl) ?_
  refine jT_xifT (pc' := 18) jIP_200_13 rfl (by decide +kernel) rfl ?_
  refine jT_xiinc (x := 5) (z := 6) (L' := [(1, (0, 6)), (0, (4, 0))]) (pc' := 21) jIP_200_18 rfl rfl (by decide) rfl rfl ?_
  refine jT_xgoto (pc' := 2) jIP_200_21 rfl ?_
  refine jT_xiload_n (v := (0, 6)) (pc' := 3) jIP_200_2 rfl rfl rfl ?_
  refine jT_xbipush (k := 6) (pc' := 5) jIP_200_3 (by decide) rfl ?_
  refine jT_xicT (pc' := 24) jIP_200_5 rfl (by decide +kernel) rfl ?_
  refine jT_xiconst (k := 1) (pc' := 25) jIP_200_24 rfl ?_
  exact jT_ret rfl (by decide) (by show 1 ≤ 1; omega) (by omega) (by omega) ⟨rfl, rfl, rfl⟩
theorem jIP_213_7 : jmI (jm 213) 7 = (.iconst 0, 1) := by rfl
theorem jIP_213_8 : jmI (jm 213) 8 = (.goto 10, 3) := by rfl
theorem jP_200_10 {xs : List Int} {d : Nat} {e0 e1 e2 e3 e4 e5 : Int} (h_e0 : (-4611686018427387903) ≤ e0 ∧ e0 ≤ 4611686018427387903) (h_e1 : (-4611686018427387903) ≤ e1 ∧ e1 ≤ 4611686018427387903) (h_e2 : (-4611686018427387903) ≤ e2 ∧ e2 ≤ 4611686018427387903) (h_e3 : (-4611686018427387903) ≤ e3 ∧ e3 ≤ 4611686018427387903) (h_e4 : (-4611686018427387903) ≤ e4 ∧ e4 ≤ 4611686018427387903) (h_e5 : (-4611686018427387903) ≤ e5 ∧ e5 ≤ 4611686018427387903) (g_0 : e0 - 1 < 0) (g_1 : 0 ≤ e0) (g_2 : e1 - 1 < 0) (g_3 : 0 ≤ e1) (g_4 : e2 - 1 < 0) (g_5 : 0 ≤ e2) (g_6 : e3 - 1 < 0) (g_7 : 0 ≤ e3) (g_8 : e4 - 1 < 0) (g_9 : 0 ≤ e4) (g_10 : e5 - 1 < 0) (g_11 : e5 < 0) : jT xs d 200 1 0 [(0, (4, 0))] [] [(101, [], [e0, e1, e2, e3, e4, e5])] 0 0 (fun k v hs' => k = 0 ∧ v = (0, 0) ∧ hs' = [(101, [], [e0, e1, e2, e3, e4, e5])] ++ []) := by
  refine jT_xiconst (k := 0) (pc' := 1) jIP_200_0 rfl ?_
  refine jT_xistore_n (v := (0, 0)) (L' := [(1, (0, 0)), (0, (4, 0))]) (pc' := 2) jIP_200_1 rfl rfl rfl rfl ?_
  refine jT_xiload_n (v := (0, 0)) (pc' := 3) jIP_200_2 rfl rfl rfl ?_
  refine jT_xbipush (k := 6) (pc' := 5) jIP_200_3 (by decide) rfl ?_
  refine jT_xicF (t := 24) (pc' := 8) jIP_200_5 rfl (by decide +kernel) rfl rfl ?_
  refine jT_xaload_n (v := (4, 0)) (pc' := 9) jIP_200_8 rfl rfl rfl ?_
  refine jT_xiload_n (v := (0, 0)) (pc' := 10) jIP_200_9 rfl rfl rfl ?_
  refine jT_lald (x := e0) (a := 0) (j := 0) (fs := []) (X := [e0, e1, e2, e3, e4, e5]) jIP_200_10 rfl rfl rfl rfl ?_
  refine jT_eq (L' := [(1, (0, 0)), (0, (4, 0))]) (st' := [(1, e0)]) (hs' := [(101, [], [e0, e1, e2, e3, e4, e5])]) rfl rfl rfl ?_
  refine jT_xlconst (z := 0) (pc' := 12) jIP_200_11 rfl rfl ?_
  refine jT_lcmp (a := e0) (b := 0) (z := 0) (by rfl) (by rfl) (jwl_idd (by omega) (by omega)) (jwl_idd (by omega) (by omega)) (by rw [decide_eq_false (show ¬ ((0 : Int) < e0) by omega), decide_eq_true (show (e0 : Int) = 0 by omega)]; rfl) ?_
  refine jT_xifT (pc' := 18) jIP_200_13 rfl (by decide +kernel) rfl ?_
  refine jT_xiinc (x := 0) (z := 1) (L' := [(1, (0, 1)), (0, (4, 0))]) (pc' := 21) jIP_200_18 rfl rfl (by decide) rfl rfl ?_
  refine jT_xgoto (pc' := 2) jIP_200_21 rfl ?_
  refine jT_xiload_n (v := (0, 1)) (pc' := 3) jIP_200_2 rfl rfl rfl ?_
  refine jT_xbipush (k := 6) (pc' := 5) jIP_200_3 (by decide) rfl ?_
  refine jT_xicF (t := 24) (pc' := 8) jIP_200_5 rfl (by decide +kernel) rfl rfl ?_
  refine jT_xaload_n (v := (4, 0)) (pc' := 9) jIP_200_8 rfl rfl rfl ?_
  refine jT_xiload_n (v := (0, 1)) (pc' := 10) jIP_200_9 rfl rfl rfl ?_
  refine jT_lald (x := e1) (a := 0) (j := 1) (fs := []) (X := [e0, e1, e2, e3, e4, e5]) jIP_200_10 rfl rfl rfl rfl ?_
  refine jT_eq (L' := [(1, (0, 1)), (0, (4, 0))]) (st' := [(1, e1)]) (hs' := [(101, [], [e0, e1, e2, e3, e4, e5])]) rfl rfl rfl ?_
  refine jT_xlconst (z := 0) (pc' := 12) jIP_200_11 rfl rfl ?_
  refine jT_lcmp (a := e1) (b := 0) (z := 0) (by rfl) (by rfl) (jwl_idd (by omega) (by omega)) (jwl_idd (by omega) (by omega)) (by rw [decide_eq_false (show ¬ ((0 : Int) < e1) by omega), decide_eq_true (show (e1 : Int) = 0 by omega)]; rfl) ?_
  refine jT_xifT (pc' := 18) jIP_200_13 rfl (by decide +kernel) rfl ?_
  refine jT_xiinc (x := 1) (z := 2) (L' := [(1, (0, 2)), (0, (4, 0))]) (pc' := 21) jIP_200_18 rfl rfl (by decide) rfl rfl ?_
  refine jT_xgoto (pc' := 2) jIP_200_21 rfl ?_
  refine jT_xiload_n (v := (0, 2)) (pc' := 3) jIP_200_2 rfl rfl rfl ?_
  refine jT_xbipush (k := 6) (pc' := 5) jIP_200_3 (by decide) rfl ?_
  refine jT_xicF (t := 24) (pc' := 8) jIP_200_5 rfl (by decide +kernel) rfl rfl ?_
  refine jT_xaload_n (v := (4, 0)) (pc' := 9) jIP_200_8 rfl rfl rfl ?_
  refine jT_xiload_n (v := (0, 2)) (pc' := 10) jIP_200_9 rfl rfl rfl ?_
  refine jT_lald (x := e2) (a := 0) (j := 2) (fs := []) (X := [e0, e1, e2, e3, e4, e5]) jIP_200_10 rfl rfl rfl rfl ?_
  refine jT_eq (L' := [(1, (0, 2)), (0, (4, 0))]) (st' := [(1, e2)]) (hs' := [(101, [], [e0, e1, e2, e3, e4, e5])]) rfl rfl rfl ?_
  refine jT_xlconst (z := 0) (pc' := 12) jIP_200_11 rfl rfl ?_
  refine jT_lcmp (a := e2) (b := 0) (z := 0) (by rfl) (by rfl) (jwl_idd (by omega) (by omega)) (jwl_idd (by omega) (by omega)) (by rw [decide_eq_false (show ¬ ((0 : Int) < e2) by omega), decide_eq_true (show (e2 : Int) = 0 by omega)]; rfl) ?_
  refine jT_xifT (pc' := 18) jIP_200_13 rfl (by decide +kernel) rfl ?_
  refine jT_xiinc (x := 2) (z := 3) (L' := [(1, (0, 3)), (0, (4, 0))]) (pc' := 21) jIP_200_18 rfl rfl (by decide) rfl rfl ?_
  refine jT_xgoto (pc' := 2) jIP_200_21 rfl ?_
  refine jT_xiload_n (v := (0, 3)) (pc' := 3) jIP_200_2 rfl rfl rfl ?_
  refine jT_xbipush (k := 6) (pc' := 5) jIP_200_3 (by decide) rfl ?_
  refine jT_xicF (t := 24) (pc' := 8) jIP_200_5 rfl (by decide +kernel) rfl rfl ?_
  refine jT_xaload_n (v := (4, 0)) (pc' := 9) jIP_200_8 rfl rfl rfl ?_
  refine jT_xiload_n (v := (0, 3)) (pc' := 10) jIP_200_9 rfl rfl rfl ?_
  refine jT_lald (x := e3) (a := 0) (j := 3) (fs := []) (X := [e0, e1, e2, e3, e4, e5]) jIP_200_10 rfl rfl rfl rfl ?_
  refine jT_eq (L' := [(1, (0, 3)), (0, (4, 0))]) (st' := [(1, e3)]) (hs' := [(101, [], [e0, e1, e2, e3, e4, e5])]) rfl rfl rfl ?_
  refine jT_xlconst (z := 0) (pc' := 12) jIP_200_11 rfl rfl ?_
  refine jT_lcmp (a := e3) (b := 0) (z := 0) (by rfl) (by rfl) (jwl_idd (by omega) (by omega)) (jwl_idd (by omega) (by omega)) (by rw [decide_eq_false (show ¬ ((0 : Int) < e3) by omega), decide_eq_true (show (e3 : Int) = 0 by omega)]; rfl) ?_
  refine jT_xifT (pc' := 18) jIP_200_13 rfl (by decide +kernel) rfl ?_
  refine jT_xiinc (x := 3) (z := 4) (L' := [(1, (0, 4)), (0, (4, 0))]) (pc' := 21) jIP_200_18 rfl rfl (by decide) rfl rfl ?_
  refine jT_xgoto (pc' := 2) jIP_200_21 rfl ?_
  refine jT_xiload_n (v := (0, 4)) (pc' := 3) jIP_200_2 rfl rfl rfl ?_
  refine jT_xbipush (k := 6) (pc' := 5) jIP_200_3 (by decide) rfl ?_
  refine jT_xicF (t := 24) (pc' := 8) jIP_200_5 rfl (by decide +kernel) rfl rfl ?_
  refine jT_xaload_n (v := (4, 0)) (pc' := 9) jIP_200_8 rfl rfl rfl ?_
  refine jT_xiload_n (v := (0, 4)) (pc' := 10) jIP_200_9 rfl rfl rfl ?_
  refine jT_lald (x := e4) (a := 0) (j := 4) (fs := []) (X := [e0, e1, e2, e3, e4, e5]) jIP_200_10 rfl rfl rfl rfl ?_
  refine jT_eq (L' := [(1, (0, 4)), (0, (4, 0))]) (st' := [(1, e4)]) (hs' := [(101, [], [e0, e1, e2, e3, e4, e5])]) rfl rfl rfl ?_
  refine jT_xlconst (z := 0) (pc' := 12) jIP_200_11 rfl rfl ?_
  refine jT_lcmp (a := e4) (b := 0) (z := 0) (by rfl) (by rfl) (jwl_idd (by omega) (by omega)) (jwl_idd (by omega) (by omega)) (by rw [decide_eq_false (show ¬ ((0 : Int) < e4) by omega), decide_eq_true (show (e4 : Int) = 0 by omega)]; rfl) ?_
  refine jT_xifT (pc' := 18) jIP_200_13 rfl (by decide +kernel) rfl ?_
  refine jT_xiinc (x := 4) (z := 5) (L' := [(1, (0, 5)), (0, (4, 0))]) (pc' := 21) jIP_200_18 rfl rfl (by decide) rfl rfl ?_
  refine jT_xgoto (pc' := 2) jIP_200_21 rfl ?_
  refine jT_xiload_n (v := (0, 5)) (pc' := 3) jIP_200_2 rfl rfl rfl ?_
  refine jT_xbipush (k := 6) (pc' := 5) jIP_200_3 (by decide) rfl ?_
  refine jT_xicF (t := 24) (pc' := 8) jIP_200_5 rfl (by decide +kernel) rfl rfl ?_
  refine jT_xaload_n (v := (4, 0)) (pc' := 9) jIP_200_8 rfl rfl rfl ?_
  refine jT_xiload_n (v := (0, 5)) (pc' := 10) jIP_200_9 rfl rfl rfl ?_
  refine jT_lald (x := e5) (a := 0) (j := 5) (fs := []) (X := [e0, e1, e2, e3, e4, e5]) jIP_200_10 rfl rfl rfl rfl ?_
  refine jT_eq (L' := [(1, (0, 5)), (0, (4, 0))]) (st' := [(1, e5)]) (hs' := [(101, [], [e0, e1, e2, e3, e4, e5])]) rfl rfl rfl ?_
  refine jT_xlconst (z := 0) (pc' := 12) jIP_200_11 rfl rfl ?_
  refine jT_lcmp (a := e5) (b := 0) (z := (-1)) (by rfl) (by rfl) (jwl_idd (by omega) (by omega)) (jwl_idd (by omega) (by omega)) (by rw [decide_eq_false (show ¬ ((0 : Int) < e5) by omega), decide_eq_false (show ¬ ((e5 : Int) = 0) by omega)]; rfl) ?_
  refine jT_xifF (t := 18) (pc' := 16) jIP_200_13 rfl (by decide +kernel) rfl rfl ?_
  refine jT_xiconst (k := 0) (pc' := 17) jIP_200_16 rfl ?_
  exact jT_ret rfl (by decide) (by show 1 ≤ 1; omega) (by omega) (by omega) ⟨rfl, rfl, rfl⟩
theorem jP_200_11 {xs : List Int} {d : Nat} {e0 e1 e2 e3 e4 e5 : Int} (h_e0 : (-4611686018427387903) ≤ e0 ∧ e0 ≤ 4611686018427387903) (h_e1 : (-4611686018427387903) ≤ e1 ∧ e1 ≤ 4611686018427387903) (h_e2 : (-4611686018427387903) ≤ e2 ∧ e2 ≤ 4611686018427387903) (h_e3 : (-4611686018427387903) ≤ e3 ∧ e3 ≤ 4611686018427387903) (h_e4 : (-4611686018427387903) ≤ e4 ∧ e4 ≤ 4611686018427387903) (h_e5 : (-4611686018427387903) ≤ e5 ∧ e5 ≤ 4611686018427387903) (g_0 : e0 - 1 < 0) (g_1 : 0 ≤ e0) (g_2 : e1 - 1 < 0) (g_3 : 0 ≤ e1) (g_4 : e2 - 1 < 0) (g_5 : 0 ≤ e2) (g_6 : e3 - 1 < 0) (g_7 : 0 ≤ e3) (g_8 : e4 - 1 < 0) (g_9 : e4 < 0) : jT xs d 200 1 0 [(0, (4, 0))] [] [(101, [], [e0, e1, e2, e3, e4, e5])] 0 0 (fun k v hs' => k = 0 ∧ v = (0, 0) ∧ hs' = [(101, [], [e0, e1, e2, e3, e4, e5])] ++ []) := by
  refine jT_xiconst (k := 0) (pc' := 1) jIP_200_0 rfl ?_
  refine jT_xistore_n (v := (0, 0)) (L' := [(1, (0, 0)), (0, (4, 0))]) (pc' := 2) jIP_200_1 rfl rfl rfl rfl ?_
  refine jT_xiload_n (v := (0, 0)) (pc' := 3) jIP_200_2 rfl rfl rfl ?_
  refine jT_xbipush (k := 6) (pc' := 5) jIP_200_3 (by decide) rfl ?_
  refine jT_xicF (t := 24) (pc' := 8) jIP_200_5 rfl (by decide +kernel) rfl rfl ?_
  refine jT_xaload_n (v := (4, 0)) (pc' := 9) jIP_200_8 rfl rfl rfl ?_
  refine jT_xiload_n (v := (0, 0)) (pc' := 10) jIP_200_9 rfl rfl rfl ?_
  refine jT_lald (x := e0) (a := 0) (j := 0) (fs := []) (X := [e0, e1, e2, e3, e4, e5]) jIP_200_10 rfl rfl rfl rfl ?_
  refine jT_eq (L' := [(1, (0, 0)), (0, (4, 0))]) (st' := [(1, e0)]) (hs' := [(101, [], [e0, e1, e2, e3, e4, e5])]) rfl rfl rfl ?_
  refine jT_xlconst (z := 0) (pc' := 12) jIP_200_11 rfl rfl ?_
  refine jT_lcmp (a := e0) (b := 0) (z := 0) (by rfl) (by rfl) (jwl_idd (by omega) (by omega)) (jwl_idd (by omega) (by omega)) (by rw [decide_eq_false (show ¬ ((0 : Int) < e0) by omega), decide_eq_true (show (e0 : Int) = 0 by omega)]; rfl) ?_
  refine jT_xifT (pc' := 18) jIP_200_13 rfl (by decide +kernel) rfl ?_
  refine jT_xiinc (x := 0) (z := 1) (L' := [(1, (0, 1)), (0, (4, 0))]) (pc' := 21) jIP_200_18 rfl rfl (by decide) rfl rfl ?_
  refine jT_xgoto (pc' := 2) jIP_200_21 rfl ?_
  refine jT_xiload_n (v := (0, 1)) (pc' := 3) jIP_200_2 rfl rfl rfl ?_
  refine jT_xbipush (k := 6) (pc' := 5) jIP_200_3 (by decide) rfl ?_
  refine jT_xicF (t := 24) (pc' := 8) jIP_200_5 rfl (by decide +kernel) rfl rfl ?_
  refine jT_xaload_n (v := (4, 0)) (pc' := 9) jIP_200_8 rfl rfl rfl ?_
  refine jT_xiload_n (v := (0, 1)) (pc' := 10) jIP_200_9 rfl rfl rfl ?_
  refine jT_lald (x := e1) (a := 0) (j := 1) (fs := []) (X := [e0, e1, e2, e3, e4, e5]) jIP_200_10 rfl rfl rfl rfl ?_
  refine jT_eq (L' := [(1, (0, 1)), (0, (4, 0))]) (st' := [(1, e1)]) (hs' := [(101, [], [e0, e1, e2, e3, e4, e5])]) rfl rfl rfl ?_
  refine jT_xlconst (z := 0) (pc' := 12) jIP_200_11 rfl rfl ?_
  refine jT_lcmp (a := e1) (b := 0) (z := 0) (by rfl) (by rfl) (jwl_idd (by omega) (by omega)) (jwl_idd (by omega) (by omega)) (by rw [decide_eq_false (show ¬ ((0 : Int) < e1) by omega), decide_eq_true (show (e1 : Int) = 0 by omega)]; rfl) ?_
  refine jT_xifT (pc' := 18) jIP_200_13 rfl (by decide +kernel) rfl ?_
  refine jT_xiinc (x := 1) (z := 2) (L' := [(1, (0, 2)), (0, (4, 0))]) (pc' := 21) jIP_200_18 rfl rfl (by decide) rfl rfl ?_
  refine jT_xgoto (pc' := 2) jIP_200_21 rfl ?_
  refine jT_xiload_n (v := (0, 2)) (pc' := 3) jIP_200_2 rfl rfl rfl ?_
  refine jT_xbipush (k := 6) (pc' := 5) jIP_200_3 (by decide) rfl ?_
  refine jT_xicF (t := 24) (pc' := 8) jIP_200_5 rfl (by decide +kernel) rfl rfl ?_
  refine jT_xaload_n (v := (4, 0)) (pc' := 9) jIP_200_8 rfl rfl rfl ?_
  refine jT_xiload_n (v := (0, 2)) (pc' := 10) jIP_200_9 rfl rfl rfl ?_
  refine jT_lald (x := e2) (a := 0) (j := 2) (fs := []) (X := [e0, e1, e2, e3, e4, e5]) jIP_200_10 rfl rfl rfl rfl ?_
  refine jT_eq (L' := [(1, (0, 2)), (0, (4, 0))]) (st' := [(1, e2)]) (hs' := [(101, [], [e0, e1, e2, e3, e4, e5])]) rfl rfl rfl ?_
  refine jT_xlconst (z := 0) (pc' := 12) jIP_200_11 rfl rfl ?_
  refine jT_lcmp (a := e2) (b := 0) (z := 0) (by rfl) (by rfl) (jwl_idd (by omega) (by omega)) (jwl_idd (by omega) (by omega)) (by rw [decide_eq_false (show ¬ ((0 : Int) < e2) by omega), decide_eq_true (show (e2 : Int) = 0 by omega)]; rfl) ?_
  refine jT_xifT (pc' := 18) jIP_200_13 rfl (by decide +kernel) rfl ?_
  refine jT_xiinc (x := 2) (z := 3) (L' := [(1, (0, 3)), (0, (4, 0))]) (pc' := 21) jIP_200_18 rfl rfl (by decide) rfl rfl ?_
  refine jT_xgoto (pc' := 2) jIP_200_21 rfl ?_
  refine jT_xiload_n (v := (0, 3)) (pc' := 3) jIP_200_2 rfl rfl rfl ?_
  refine jT_xbipush (k := 6) (pc' := 5) jIP_200_3 (by decide) rfl ?_
  refine jT_xicF (t := 24) (pc' := 8) jIP_200_5 rfl (by decide +kernel) rfl rfl ?_
  refine jT_xaload_n (v := (4, 0)) (pc' := 9) jIP_200_8 rfl rfl rfl ?_
  refine jT_xiload_n (v := (0, 3)) (pc' := 10) jIP_200_9 rfl rfl rfl ?_
  refine jT_lald (x := e3) (a := 0) (j := 3) (fs := []) (X := [e0, e1, e2, e3, e4, e5]) jIP_200_10 rfl rfl rfl rfl ?_
  refine jT_eq (L' := [(1, (0, 3)), (0, (4, 0))]) (st' := [(1, e3)]) (hs' := [(101, [], [e0, e1, e2, e3, e4, e5])]) rfl rfl rfl ?_
  refine jT_xlconst (z := 0) (pc' := 12) jIP_200_11 rfl rfl ?_
  refine jT_lcmp (a := e3) (b := 0) (z := 0) (by rfl) (by rfl) (jwl_idd (by omega) (by omega)) (jwl_idd (by omega) (by omega)) (by rw [decide_eq_false (show ¬ ((0 : Int) < e3) by omega), decide_eq_true (show (e3 : Int) = 0 by omega)]; rfl) ?_
  refine jT_xifT (pc' := 18) jIP_200_13 rfl (by decide +kernel) rfl ?_
  refine jT_xiinc (x := 3) (z := 4) (L' := [(1, (0, 4)), (0, (4, 0))]) (pc' := 21) jIP_200_18 rfl rfl (by decide) rfl rfl ?_
  refine jT_xgoto (pc' := 2) jIP_200_21 rfl ?_
  refine jT_xiload_n (v := (0, 4)) (pc' := 3) jIP_200_2 rfl rfl rfl ?_
  refine jT_xbipush (k := 6) (pc' := 5) jIP_200_3 (by decide) rfl ?_
  refine jT_xicF (t := 24) (pc' := 8) jIP_200_5 rfl (by decide +kernel) rfl rfl ?_
  refine jT_xaload_n (v := (4, 0)) (pc' := 9) jIP_200_8 rfl rfl rfl ?_
  refine jT_xiload_n (v := (0, 4)) (pc' := 10) jIP_200_9 rfl rfl rfl ?_
  refine jT_lald (x := e4) (a := 0) (j := 4) (fs := []) (X := [e0, e1, e2, e3, e4, e5]) jIP_200_10 rfl rfl rfl rfl ?_
  refine jT_eq (L' := [(1, (0, 4)), (0, (4, 0))]) (st' := [(1, e4)]) (hs' := [(101, [], [e0, e1, e2, e3, e4, e5])]) rfl rfl rfl ?_
  refine jT_xlconst (z := 0) (pc' := 12) jIP_200_11 rfl rfl ?_
  refine jT_lcmp (a := e4) (b := 0) (z := (-1)) (by rfl) (by rfl) (jwl_idd (by omega) (by omega)) (jwl_idd (by omega) (by omega)) (by rw [decide_eq_false (show ¬ ((0 : Int) < e4) by omega), decide_eq_false (show ¬ ((e4 : Int) = 0) by omega)]; rfl) ?_
  refine jT_xifF (t := 18) (pc' := 16) jIP_200_13 rfl (by decide +kernel) rfl rfl ?_
  refine jT_xiconst (k := 0) (pc' := 17) jIP_200_16 rfl ?_
  exact jT_ret rfl (by decide) (by show 1 ≤ 1; omega) (by omega) (by omega) ⟨rfl, rfl, rfl⟩
theorem jP_200_12 {xs : List Int} {d : Nat} {e0 e1 e2 e3 e4 e5 : Int} (h_e0 : (-4611686018427387903) ≤ e0 ∧ e0 ≤ 4611686018427387903) (h_e1 : (-4611686018427387903) ≤ e1 ∧ e1 ≤ 4611686018427387903) (h_e2 : (-4611686018427387903) ≤ e2 ∧ e2 ≤ 4611686018427387903) (h_e3 : (-4611686018427387903) ≤ e3 ∧ e3 ≤ 4611686018427387903) (h_e4 : (-4611686018427387903) ≤ e4 ∧ e4 ≤ 4611686018427387903) (h_e5 : (-4611686018427387903) ≤ e5 ∧ e5 ≤ 4611686018427387903) (g_0 : e0 - 1 < 0) (g_1 : 0 ≤ e0) (g_2 : e1 - 1 < 0) (g_3 : 0 ≤ e1) (g_4 : e2 - 1 < 0) (g_5 : 0 ≤ e2) (g_6 : e3 - 1 < 0) (g_7 : e3 < 0) : jT xs d 200 1 0 [(0, (4, 0))] [] [(101, [], [e0, e1, e2, e3, e4, e5])] 0 0 (fun k v hs' => k = 0 ∧ v = (0, 0) ∧ hs' = [(101, [], [e0, e1, e2, e3, e4, e5])] ++ []) := by
  refine jT_xiconst (k := 0) (pc' := 1) jIP_200_0 rfl ?_
  refine jT_xistore_n (v := (0, 0)) (L' := [(1, (0, 0)), (0, (4, 0))]) (pc' := 2) jIP_200_1 rfl rfl rfl rfl ?_
  refine jT_xiload_n (v := (0, 0)) (pc' := 3) jIP_200_2 rfl rfl rfl ?_
  refine jT_xbipush (k := 6) (pc' := 5) jIP_200_3 (by decide) rfl ?_
  refine jT_xicF (t := 24) (pc' := 8) jIP_200_5 rfl (by decide +kernel) rfl rfl ?_
  refine jT_xaload_n (v := (4, 0)) (pc' := 9) jIP_200_8 rfl rfl rfl ?_
  refine jT_xiload_n (v := (0, 0)) (pc' := 10) jIP_200_9 rfl rfl rfl ?_
  refine jT_lald (x := e0) (a := 0) (j := 0) (fs := []) (X := [e0, e1, e2, e3, e4, e5]) jIP_200_10 rfl rfl rfl rfl ?_
  refine jT_eq (L' := [(1, (0, 0)), (0, (4, 0))]) (st' := [(1, e0)]) (hs' := [(101, [], [e0, e1, e2, e3, e4, e5])]) rfl rfl rfl ?_
  refine jT_xlconst (z := 0) (pc' := 12) jIP_200_11 rfl rfl ?_
  refine jT_lcmp (a := e0) (b := 0) (z := 0) (by rfl) (by rfl) (jwl_idd (by omega) (by omega)) (jwl_idd (by omega) (by omega)) (by rw [decide_eq_false (show ¬ ((0 : Int) < e0) by omega), decide_eq_true (show (e0 : Int) = 0 by omega)]; rfl) ?_
  refine jT_xifT (pc' := 18) jIP_200_13 rfl (by decide +kernel) rfl ?_
  refine jT_xiinc (x := 0) (z := 1) (L' := [(1, (0, 1)), (0, (4, 0))]) (pc' := 21) jIP_200_18 rfl rfl (by decide) rfl rfl ?_
  refine jT_xgoto (pc' := 2) jIP_200_21 rfl ?_
  refine jT_xiload_n (v := (0, 1)) (pc' := 3) jIP_200_2 rfl rfl rfl ?_
  refine jT_xbipush (k := 6) (pc' := 5) jIP_200_3 (by decide) rfl ?_
  refine jT_xicF (t := 24) (pc' := 8) jIP_200_5 rfl (by decide +kernel) rfl rfl ?_
  refine jT_xaload_n (v := (4, 0)) (pc' := 9) jIP_200_8 rfl rfl rfl ?_
  refine jT_xiload_n (v := (0, 1)) (pc' := 10) jIP_200_9 rfl rfl rfl ?_
  refine jT_lald (x := e1) (a := 0) (j := 1) (fs := []) (X := [e0, e1, e2, e3, e4, e5]) jIP_200_10 rfl rfl rfl rfl ?_
  refine jT_eq (L' := [(1, (0, 1)), (0, (4, 0))]) (st' := [(1, e1)]) (hs' := [(101, [], [e0, e1, e2, e3, e4, e5])]) rfl rfl rfl ?_
  refine jT_xlconst (z := 0) (pc' := 12) jIP_200_11 rfl rfl ?_
  refine jT_lcmp (a := e1) (b := 0) (z := 0) (by rfl) (by rfl) (jwl_idd (by omega) (by omega)) (jwl_idd (by omega) (by omega)) (by rw [decide_eq_false (show ¬ ((0 : Int) < e1) by omega), decide_eq_true (show (e1 : Int) = 0 by omega)]; rfl) ?_
  refine jT_xifT (pc' := 18) jIP_200_13 rfl (by decide +kernel) rfl ?_
  refine jT_xiinc (x := 1) (z := 2) (L' := [(1, (0, 2)), (0, (4, 0))]) (pc' := 21) jIP_200_18 rfl rfl (by decide) rfl rfl ?_
  refine jT_xgoto (pc' := 2) jIP_200_21 rfl ?_
  refine jT_xiload_n (v := (0, 2)) (pc' := 3) jIP_200_2 rfl rfl rfl ?_
  refine jT_xbipush (k := 6) (pc' := 5) jIP_200_3 (by decide) rfl ?_
  refine jT_xicF (t := 24) (pc' := 8) jIP_200_5 rfl (by decide +kernel) rfl rfl ?_
  refine jT_xaload_n (v := (4, 0)) (pc' := 9) jIP_200_8 rfl rfl rfl ?_
  refine jT_xiload_n (v := (0, 2)) (pc' := 10) jIP_200_9 rfl rfl rfl ?_
  refine jT_lald (x := e2) (a := 0) (j := 2) (fs := []) (X := [e0, e1, e2, e3, e4, e5]) jIP_200_10 rfl rfl rfl rfl ?_
  refine jT_eq (L' := [(1, (0, 2)), (0, (4, 0))]) (st' := [(1, e2)]) (hs' := [(101, [], [e0, e1, e2, e3, e4, e5])]) rfl rfl rfl ?_
  refine jT_xlconst (z := 0) (pc' := 12) jIP_200_11 rfl rfl ?_
  refine jT_lcmp (a := e2) (b := 0) (z := 0) (by rfl) (by rfl) (jwl_idd (by omega) (by omega)) (jwl_idd (by omega) (by omega)) (by rw [decide_eq_false (show ¬ ((0 : Int) < e2) by omega), decide_eq_true (show (e2 : Int) = 0 by omega)]; rfl) ?_
  refine jT_xifT (pc' := 18) jIP_200_13 rfl (by decide +kernel) rfl ?_
  refine jT_xiinc (x := 2) (z := 3) (L' := [(1, (0, 3)), (0, (4, 0))]) (pc' := 21) jIP_200_18 rfl rfl (by decide) rfl rfl ?_
  refine jT_xgoto (pc' := 2) jIP_200_21 rfl ?_
  refine jT_xiload_n (v := (0, 3)) (pc' := 3) jIP_200_2 rfl rfl rfl ?_
  refine jT_xbipush (k := 6) (pc' := 5) jIP_200_3 (by decide) rfl ?_
  refine jT_xicF (t := 24) (pc' := 8) jIP_200_5 rfl (by decide +kernel) rfl rfl ?_
  refine jT_xaload_n (v := (4, 0)) (pc' := 9) jIP_200_8 rfl rfl rfl ?_
  refine jT_xiload_n (v := (0, 3)) (pc' := 10) jIP_200_9 rfl rfl rfl ?_
  refine jT_lald (x := e3) (a := 0) (j := 3) (fs := []) (X := [e0, e1, e2, e3, e4, e5]) jIP_200_10 rfl rfl rfl rfl ?_
  refine jT_eq (L' := [(1, (0, 3)), (0, (4, 0))]) (st' := [(1, e3)]) (hs' := [(101, [], [e0, e1, e2, e3, e4, e5])]) rfl rfl rfl ?_
  refine jT_xlconst (z := 0) (pc' := 12) jIP_200_11 rfl rfl ?_
  refine jT_lcmp (a := e3) (b := 0) (z := (-1)) (by rfl) (by rfl) (jwl_idd (by omega) (by omega)) (jwl_idd (by omega) (by omega)) (by rw [decide_eq_false (show ¬ ((0 : Int) < e3) by omega), decide_eq_false (show ¬ ((e3 : Int) = 0) by omega)]; rfl) ?_
  refine jT_xifF (t := 18) (pc' := 16) jIP_200_13 rfl (by decide +kernel) rfl rfl ?_
  refine jT_xiconst (k := 0) (pc' := 17) jIP_200_16 rfl ?_
  exact jT_ret rfl (by decide) (by show 1 ≤ 1; omega) (by omega) (by omega) ⟨rfl, rfl, rfl⟩
theorem jP_200_13 {xs : List Int} {d : Nat} {e0 e1 e2 e3 e4 e5 : Int} (h_e0 : (-4611686018427387903) ≤ e0 ∧ e0 ≤ 4611686018427387903) (h_e1 : (-4611686018427387903) ≤ e1 ∧ e1 ≤ 4611686018427387903) (h_e2 : (-4611686018427387903) ≤ e2 ∧ e2 ≤ 4611686018427387903) (h_e3 : (-4611686018427387903) ≤ e3 ∧ e3 ≤ 4611686018427387903) (h_e4 : (-4611686018427387903) ≤ e4 ∧ e4 ≤ 4611686018427387903) (h_e5 : (-4611686018427387903) ≤ e5 ∧ e5 ≤ 4611686018427387903) (g_0 : e0 - 1 < 0) (g_1 : 0 ≤ e0) (g_2 : e1 - 1 < 0) (g_3 : 0 ≤ e1) (g_4 : e2 - 1 < 0) (g_5 : e2 < 0) : jT xs d 200 1 0 [(0, (4, 0))] [] [(101, [], [e0, e1, e2, e3, e4, e5])] 0 0 (fun k v hs' => k = 0 ∧ v = (0, 0) ∧ hs' = [(101, [], [e0, e1, e2, e3, e4, e5])] ++ []) := by
  refine jT_xiconst (k := 0) (pc' := 1) jIP_200_0 rfl ?_
  refine jT_xistore_n (v := (0, 0)) (L' := [(1, (0, 0)), (0, (4, 0))]) (pc' := 2) jIP_200_1 rfl rfl rfl rfl ?_
  refine jT_xiload_n (v := (0, 0)) (pc' := 3) jIP_200_2 rfl rfl rfl ?_
  refine jT_xbipush (k := 6) (pc' := 5) jIP_200_3 (by decide) rfl ?_
  refine jT_xicF (t := 24) (pc' := 8) jIP_200_5 rfl (by decide +kernel) rfl rfl ?_
  refine jT_xaload_n (v := (4, 0)) (pc' := 9) jIP_200_8 rfl rfl rfl ?_
  refine jT_xiload_n (v := (0, 0)) (pc' := 10) jIP_200_9 rfl rfl rfl ?_
  refine jT_lald (x := e0) (a := 0) (j := 0) (fs := []) (X := [e0, e1, e2, e3, e4, e5]) jIP_200_10 rfl rfl rfl rfl ?_
  refine jT_eq (L' := [(1, (0, 0)), (0, (4, 0))]) (st' := [(1, e0)]) (hs' := [(101, [], [e0, e1, e2, e3, e4, e5])]) rfl rfl rfl ?_
  refine jT_xlconst (z := 0) (pc' := 12) jIP_200_11 rfl rfl ?_
  refine jT_lcmp (a := e0) (b := 0) (z := 0) (by rfl) (by rfl) (jwl_idd (by omega) (by omega)) (jwl_idd (by omega) (by omega)) (by rw [decide_eq_false (show ¬ ((0 : Int) < e0) by omega), decide_eq_true (show (e0 : Int) = 0 by omega)]; rfl) ?_
  refine jT_xifT (pc' := 18) jIP_200_13 rfl (by decide +kernel) rfl ?_
  refine jT_xiinc (x := 0) (z := 1) (L' := [(1, (0, 1)), (0, (4, 0))]) (pc' := 21) jIP_200_18 rfl rfl (by decide) rfl rfl ?_
  refine jT_xgoto (pc' := 2) jIP_200_21 rfl ?_
  refine jT_xiload_n (v := (0, 1)) (pc' := 3) jIP_200_2 rfl rfl rfl ?_
  refine jT_xbipush (k := 6) (pc' := 5) jIP_200_3 (by decide) rfl ?_
  refine jT_xicF (t := 24) (pc' := 8) jIP_200_5 rfl (by decide +kernel) rfl rfl ?_
  refine jT_xaload_n (v := (4, 0)) (pc' := 9) jIP_200_8 rfl rfl rfl ?_
  refine jT_xiload_n (v := (0, 1)) (pc' := 10) jIP_200_9 rfl rfl rfl ?_
  refine jT_lald (x := e1) (a := 0) (j := 1) (fs := []) (X := [e0, e1, e2, e3, e4, e5]) jIP_200_10 rfl rfl rfl rfl ?_
  refine jT_eq (L' := [(1, (0, 1)), (0, (4, 0))]) (st' := [(1, e1)]) (hs' := [(101, [], [e0, e1, e2, e3, e4, e5])]) rfl rfl rfl ?_
  refine jT_xlconst (z := 0) (pc' := 12) jIP_200_11 rfl rfl ?_
  refine jT_lcmp (a := e1) (b := 0) (z := 0) (by rfl) (by rfl) (jwl_idd (by omega) (by omega)) (jwl_idd (by omega) (by omega)) (by rw [decide_eq_false (show ¬ ((0 : Int) < e1) by omega), decide_eq_true (show (e1 : Int) = 0 by omega)]; rfl) ?_
  refine jT_xifT (pc' := 18) jIP_200_13 rfl (by decide +kernel) rfl ?_
  refine jT_xiinc (x := 1) (z := 2) (L' := [(1, (0, 2)), (0, (4, 0))]) (pc' := 21) jIP_200_18 rfl rfl (by decide) rfl rfl ?_
  refine jT_xgoto (pc' := 2) jIP_200_21 rfl ?_
  refine jT_xiload_n (v := (0, 2)) (pc' := 3) jIP_200_2 rfl rfl rfl ?_
  refine jT_xbipush (k := 6) (pc' := 5) jIP_200_3 (by decide) rfl ?_
  refine jT_xicF (t := 24) (pc' := 8) jIP_200_5 rfl (by decide +kernel) rfl rfl ?_
  refine jT_xaload_n (v := (4, 0)) (pc' := 9) jIP_200_8 rfl rfl rfl ?_
  refine jT_xiload_n (v := (0, 2)) (pc' := 10) jIP_200_9 rfl rfl rfl ?_
  refine jT_lald (x := e2) (a := 0) (j := 2) (fs := []) (X := [e0, e1, e2, e3, e4, e5]) jIP_200_10 rfl rfl rfl rfl ?_
  refine jT_eq (L' := [(1, (0, 2)), (0, (4, 0))]) (st' := [(1, e2)]) (hs' := [(101, [], [e0, e1, e2, e3, e4, e5])]) rfl rfl rfl ?_
  refine jT_xlconst (z := 0) (pc' := 12) jIP_200_11 rfl rfl ?_
  refine jT_lcmp (a := e2) (b := 0) (z := (-1)) (by rfl) (by rfl) (jwl_idd (by omega) (by omega)) (jwl_idd (by omega) (by omega)) (by rw [decide_eq_false (show ¬ ((0 : Int) < e2) by omega), decide_eq_false (show ¬ ((e2 : Int) = 0) by omega)]; rfl) ?_
  refine jT_xifF (t := 18) (pc' := 16) jIP_200_13 rfl (by decide +kernel) rfl rfl ?_
  refine jT_xiconst (k := 0) (pc' := 17) jIP_200_16 rfl ?_
  exact jT_ret rfl (by decide) (by show 1 ≤ 1; omega) (by omega) (by omega) ⟨rfl, rfl, rfl⟩
theorem jP_200_14 {xs : List Int} {d : Nat} {e0 e1 e2 e3 e4 e5 : Int} (h_e0 : (-4611686018427387903) ≤ e0 ∧ e0 ≤ 4611686018427387903) (h_e1 : (-4611686018427387903) ≤ e1 ∧ e1 ≤ 4611686018427387903) (h_e2 : (-4611686018427387903) ≤ e2 ∧ e2 ≤ 4611686018427387903) (h_e3 : (-4611686018427387903) ≤ e3 ∧ e3 ≤ 4611686018427387903) (h_e4 : (-4611686018427387903) ≤ e4 ∧ e4 ≤ 4611686018427387903) (h_e5 : (-4611686018427387903) ≤ e5 ∧ e5 ≤ 4611686018427387903) (g_0 : e0 - 1 < 0) (g_1 : 0 ≤ e0) (g_2 : e1 - 1 < 0) (g_3 : e1 < 0) : jT xs d 200 1 0 [(0, (4, 0))] [] [(101, [], [e0, e1, e2, e3, e4, e5])] 0 0 (fun k v hs' => k = 0 ∧ v = (0, 0) ∧ hs' = [(101, [], [e0, e1, e2, e3, e4, e5])] ++ []) := by
  refine jT_xiconst (k := 0) (pc' := 1) jIP_200_0 rfl ?_
  refine jT_xistore_n (v := (0, 0)) (L' := [(1, (0, 0)), (0, (4, 0))]) (pc' := 2) jIP_200_1 rfl rfl rfl rfl ?_
  refine jT_xiload_n (v := (0, 0)) (pc' := 3) jIP_200_2 rfl rfl rfl ?_
  refine jT_xbipush (k := 6) (pc' := 5) jIP_200_3 (by decide) rfl ?_
  refine jT_xicF (t := 24) (pc' := 8) jIP_200_5 rfl (by decide +kernel) rfl rfl ?_
  refine jT_xaload_n (v := (4, 0)) (pc' := 9) jIP_200_8 rfl rfl rfl ?_
  refine jT_xiload_n (v := (0, 0)) (pc' := 10) jIP_200_9 rfl rfl rfl ?_
  refine jT_lald (x := e0) (a := 0) (j := 0) (fs := []) (X := [e0, e1, e2, e3, e4, e5]) jIP_200_10 rfl rfl rfl rfl ?_
  refine jT_eq (L' := [(1, (0, 0)), (0, (4, 0))]) (st' := [(1, e0)]) (hs' := [(101, [], [e0, e1, e2, e3, e4, e5])]) rfl rfl rfl ?_
  refine jT_xlconst (z := 0) (pc' := 12) jIP_200_11 rfl rfl ?_
  refine jT_lcmp (a := e0) (b := 0) (z := 0) (by rfl) (by rfl) (jwl_idd (by omega) (by omega)) (jwl_idd (by omega) (by omega)) (by rw [decide_eq_false (show ¬ ((0 : Int) < e0) by omega), decide_eq_true (show (e0 : Int) = 0 by omega)]; rfl) ?_
  refine jT_xifT (pc' := 18) jIP_200_13 rfl (by decide +kernel) rfl ?_
  refine jT_xiinc (x := 0) (z := 1) (L' := [(1, (0, 1)), (0, (4, 0))]) (pc' := 21) jIP_200_18 rfl rfl (by decide) rfl rfl ?_
  refine jT_xgoto (pc' := 2) jIP_200_21 rfl ?_
  refine jT_xiload_n (v := (0, 1)) (pc' := 3) jIP_200_2 rfl rfl rfl ?_
  refine jT_xbipush (k := 6) (pc' := 5) jIP_200_3 (by decide) rfl ?_
  refine jT_xicF (t := 24) (pc' := 8) jIP_200_5 rfl (by decide +kernel) rfl rfl ?_
  refine jT_xaload_n (v := (4, 0)) (pc' := 9) jIP_200_8 rfl rfl rfl ?_
  refine jT_xiload_n (v := (0, 1)) (pc' := 10) jIP_200_9 rfl rfl rfl ?_
  refine jT_lald (x := e1) (a := 0) (j := 1) (fs := []) (X := [e0, e1, e2, e3, e4, e5]) jIP_200_10 rfl rfl rfl rfl ?_
  refine jT_eq (L' := [(1, (0, 1)), (0, (4, 0))]) (st' := [(1, e1)]) (hs' := [(101, [], [e0, e1, e2, e3, e4, e5])]) rfl rfl rfl ?_
  refine jT_xlconst (z := 0) (pc' := 12) jIP_200_11 rfl rfl ?_
  refine jT_lcmp (a := e1) (b := 0) (z := (-1)) (by rfl) (by rfl) (jwl_idd (by omega) (by omega)) (jwl_idd (by omega) (by omega)) (by rw [decide_eq_false (show ¬ ((0 : Int) < e1) by omega), decide_eq_false (show ¬ ((e1 : Int) = 0) by omega)]; rfl) ?_
  refine jT_xifF (t := 18) (pc' := 16) jIP_200_13 rfl (by decide +kernel) rfl rfl ?_
  refine jT_xiconst (k := 0) (pc' := 17) jIP_200_16 rfl ?_
  exact jT_ret rfl (by decide) (by show 1 ≤ 1; omega) (by omega) (by omega) ⟨rfl, rfl, rfl⟩
theorem jP_200_15 {xs : List Int} {d : Nat} {e0 e1 e2 e3 e4 e5 : Int} (h_e0 : (-4611686018427387903) ≤ e0 ∧ e0 ≤ 4611686018427387903) (h_e1 : (-4611686018427387903) ≤ e1 ∧ e1 ≤ 4611686018427387903) (h_e2 : (-4611686018427387903) ≤ e2 ∧ e2 ≤ 4611686018427387903) (h_e3 : (-4611686018427387903) ≤ e3 ∧ e3 ≤ 4611686018427387903) (h_e4 : (-4611686018427387903) ≤ e4 ∧ e4 ≤ 4611686018427387903) (h_e5 : (-4611686018427387903) ≤ e5 ∧ e5 ≤ 4611686018427387903) (g_0 : e0 - 1 < 0) (g_1 : e0 < 0) : jT xs d 200 1 0 [(0, (4, 0))] [] [(101, [], [e0, e1, e2, e3, e4, e5])] 0 0 (fun k v hs' => k = 0 ∧ v = (0, 0) ∧ hs' = [(101, [], [e0, e1, e2, e3, e4, e5])] ++ []) := by
  refine jT_xiconst (k := 0) (pc' := 1) jIP_200_0 rfl ?_
  refine jT_xistore_n (v := (0, 0)) (L' := [(1, (0, 0)), (0, (4, 0))]) (pc' := 2) jIP_200_1 rfl rfl rfl rfl ?_
  refine jT_xiload_n (v := (0, 0)) (pc' := 3) jIP_200_2 rfl rfl rfl ?_
  refine jT_xbipush (k := 6) (pc' := 5) jIP_200_3 (by decide) rfl ?_
  refine jT_xicF (t := 24) (pc' := 8) jIP_200_5 rfl (by decide +kernel) rfl rfl ?_
  refine jT_xaload_n (v := (4, 0)) (pc' := 9) jIP_200_8 rfl rfl rfl ?_
  refine jT_xiload_n (v := (0, 0)) (pc' := 10) jIP_200_9 rfl rfl rfl ?_
  refine jT_lald (x := e0) (a := 0) (j := 0) (fs := []) (X := [e0, e1, e2, e3, e4, e5]) jIP_200_10 rfl rfl rfl rfl ?_
  refine jT_eq (L' := [(1, (0, 0)), (0, (4, 0))]) (st' := [(1, e0)]) (hs' := [(101, [], [e0, e1, e2, e3, e4, e5])]) rfl rfl rfl ?_
  refine jT_xlconst (z := 0) (pc' := 12) jIP_200_11 rfl rfl ?_
  refine jT_lcmp (a := e0) (b := 0) (z := (-1)) (by rfl) (by rfl) (jwl_idd (by omega) (by omega)) (jwl_idd (by omega) (by omega)) (by rw [decide_eq_false (show ¬ ((0 : Int) < e0) by omega), decide_eq_false (show ¬ ((e0 : Int) = 0) by omega)]; rfl) ?_
  refine jT_xifF (t := 18) (pc' := 16) jIP_200_13 rfl (by decide +kernel) rfl rfl ?_
  refine jT_xiconst (k := 0) (pc' := 17) jIP_200_16 rfl ?_
  exact jT_ret rfl (by decide) (by show 1 ≤ 1; omega) (by omega) (by omega) ⟨rfl, rfl, rfl⟩
theorem jPl_sg_1 {xs : List Int} {d : Nat} {e0 e1 e2 e3 e4 e5 : Int} (h_e0 : -4611686018427387903 ≤ e0 ∧ e0 ≤ 4611686018427387903) (h_e1 : -4611686018427387903 ≤ e1 ∧ e1 ≤ 4611686018427387903) (h_e2 : -4611686018427387903 ≤ e2 ∧ e2 ≤ 4611686018427387903) (h_e3 : -4611686018427387903 ≤ e3 ∧ e3 ≤ 4611686018427387903) (h_e4 : -4611686018427387903 ≤ e4 ∧ e4 ≤ 4611686018427387903) (h_e5 : -4611686018427387903 ≤ e5 ∧ e5 ≤ 4611686018427387903) : jT xs (d + 3) 213 23 0 [(0, (4, 0)), (1, (4, 1))] [] [jzP_1, (101, [], [e0, e1, e2, e3, e4, e5]), jgh, jgh, jgh, jgh, jgh, (130, [], [17, 18, 19, 20, 21, 22]), jgh, jgh, jgh, jgh, jgh, jgh, jgh, jgh, jgh, (100, [], (jenc (jlg 0))), (100, [], (jenc (jlg 1))), (100, [], (jenc (jlg 2))), (100, [], (jenc (jlg 3))), (100, [], (jenc (jlg 4))), (100, [], (jenc (jlg 5)))] 19 1064 (fun k v hs' => k = 0 ∧ v = (0, (jlt e0 e1 e2 e3 e4 e5).sign) ∧ hs' = [jzP_1, (101, [], [e0, e1, e2, e3, e4, e5]), jgh, jgh, jgh, jgh, jgh, (130, [], [17, 18, 19, 20, 21, 22]), jgh, jgh, jgh, jgh, jgh, jgh, jgh, jgh, jgh, (100, [], (jenc (jlg 0))), (100, [], (jenc (jlg 1))), (100, [], (jenc (jlg 2))), (100, [], (jenc (jlg 3))), (100, [], (jenc (jlg 4))), (100, [], (jenc (jlg 5)))]) := by
  rcases (show (0 ≤ e0 - 1) ∨ (e0 - 1 < 0) by omega) with g_0 | g_0
  · refine jT_xaload_n (v := (4, 1)) (pc' := 1) jIP_213_0 rfl rfl rfl ?_
    refine jT_callA [1] (y := 200) (pc' := 4) (dC := 0) (bc1 := 0) (bc2 := 0) (c1 := 19) (c2 := 1064) (as := [(4, 1)]) (asC := [(4, 0)]) (L' := [(0, (4, 0)), (1, (4, 1))]) (st' := []) (hsC := [(101, [], [e0, e1, e2, e3, e4, e5])]) (ex := []) (v := (0, 0)) (st2 := [(0, 0)]) (hs2 := [jzP_1, (101, [], [e0, e1, e2, e3, e4, e5]), jgh, jgh, jgh, jgh, jgh, (130, [], [17, 18, 19, 20, 21, 22]), jgh, jgh, jgh, jgh, jgh, jgh, jgh, jgh, jgh, (100, [], (jenc (jlg 0))), (100, [], (jenc (jlg 1))), (100, [], (jenc (jlg 2))), (100, [], (jenc (jlg 3))), (100, [], (jenc (jlg 4))), (100, [], (jenc (jlg 5)))]) (jP_200_2 (d := 0) (by omega) (by omega) (by omega) (by omega) (by omega) (by omega) (by omega)) (by rfl) (by rfl) (by rfl) (by rfl) ⟨rfl, trivial⟩ (by rfl) (by rfl) (by omega) (by show 23 ≤ 23; omega) (by omega) (by omega) rfl rfl ?_
    refine jT_xifT (pc' := 11) jIP_213_4 rfl (by decide +kernel) rfl ?_
    refine jT_xaload_n (v := (4, 0)) (pc' := 12) jIP_213_11 rfl rfl rfl ?_
    refine jT_xaload_n (v := (4, 1)) (pc' := 13) jIP_213_12 rfl rfl rfl ?_
    refine jT_callA [0, 1, 2, 3, 4, 5, 6, 7, 8, 9, 10, 11, 12, 13, 14, 15, 16, 17, 18, 19, 20, 21, 22] (y := 214) (pc' := 16) (dC := 2) (bc1 := 19) (bc2 := 1064) (c1 := 0) (c2 := 0) (as := [(4, 0), (4, 1)]) (asC := [(4, 0), (4, 1)]) (L' := [(0, (4, 0)), (1, (4, 1))]) (st' := []) (hsC := [jzP_1, (101, [], [e0, e1, e2, e3, e4, e5]), jgh, jgh, jgh, jgh, jgh, (130, [], [17, 18, 19, 20, 21, 22]), jgh, jgh, jgh, jgh, jgh, jgh, jgh, jgh, jgh, (100, [], (jenc (jlg 0))), (100, [], (jenc (jlg 1))), (100, [], (jenc (jlg 2))), (100, [], (jenc (jlg 3))), (100, [], (jenc (jlg 4))), (100, [], (jenc (jlg 5)))]) (ex := [(100, [], (jenc (jlt e0 e1 e2 e3 e4 e5)))]) (v := (4, 23)) (st2 := [(4, 23)]) (hs2 := [jzP_1, (101, [], [e0, e1, e2, e3, e4, e5]), jgh, jgh, jgh, jgh, jgh, (130, [], [17, 18, 19, 20, 21, 22]), jgh, jgh, jgh, jgh, jgh, jgh, jgh, jgh, jgh, (100, [], (jenc (jlg 0))), (100, [], (jenc (jlg 1))), (100, [], (jenc (jlg 2))), (100, [], (jenc (jlg 3))), (100, [], (jenc (jlg 4))), (100, [], (jenc (jlg 5))), (100, [], (jenc (jlt e0 e1 e2 e3 e4 e5)))]) (jPl_lg_3 (d := 0) (e0 := e0) (e1 := e1) (e2 := e2) (e3 := e3) (e4 := e4) (e5 := e5) (by omega) (by omega) (by omega) (by omega) (by omega) (by omega)) (by rfl) (by rfl) (by rfl) (by rfl) ⟨rfl, rfl, rfl, rfl, rfl, rfl, rfl, rfl, rfl, rfl, rfl, rfl, rfl, rfl, rfl, rfl, rfl, rfl, rfl, rfl, rfl, rfl, rfl, trivial⟩ (by rfl) (by rfl) (by omega) (by show 23 ≤ 23; omega) (by omega) (by omega) rfl rfl ?_
    refine jT_xiconst (k := 0) (pc' := 17) jIP_213_16 rfl ?_
    refine jT_iald (x := (jlt e0 e1 e2 e3 e4 e5).sign) (a := 23) (j := 0) (fs := []) (X := (jenc (jlt e0 e1 e2 e3 e4 e5))) (by rfl) (by rfl) (by rfl) (by rfl) (jenc_sg rfl) ?_
    refine jT_eq (L' := [(0, (4, 0)), (1, (4, 1))]) (st' := [(0, (jlt e0 e1 e2 e3 e4 e5).sign)]) (hs' := [jzP_1, (101, [], [e0, e1, e2, e3, e4, e5]), jgh, jgh, jgh, jgh, jgh, (130, [], [17, 18, 19, 20, 21, 22]), jgh, jgh, jgh, jgh, jgh, jgh, jgh, jgh, jgh, (100, [], (jenc (jlg 0))), (100, [], (jenc (jlg 1))), (100, [], (jenc (jlg 2))), (100, [], (jenc (jlg 3))), (100, [], (jenc (jlg 4))), (100, [], (jenc (jlg 5))), (100, [], (jenc (jlt e0 e1 e2 e3 e4 e5)))]) rfl rfl rfl ?_
    refine jT_loc (L' := [(0, (4, 0))]) (by show List.Nodup [0]; decide) (by intro q hq; simp only [List.mem_cons, List.not_mem_nil, or_false] at hq; rcases hq with rfl <;> rfl) ?_
    refine jT_drop 23 (hs0 := [jzP_1, (101, [], [e0, e1, e2, e3, e4, e5]), jgh, jgh, jgh, jgh, jgh, (130, [], [17, 18, 19, 20, 21, 22]), jgh, jgh, jgh, jgh, jgh, jgh, jgh, jgh, jgh, (100, [], (jenc (jlg 0))), (100, [], (jenc (jlg 1))), (100, [], (jenc (jlg 2))), (100, [], (jenc (jlg 3))), (100, [], (jenc (jlg 4))), (100, [], (jenc (jlg 5)))]) (ex := [(100, [], (jenc (jlt e0 e1 e2 e3 e4 e5)))]) rfl rfl rfl (by decide) ?_
    exact jT_ret rfl (by decide) (by show 23 ≤ 23; decide) (by omega) (by omega) ⟨rfl, rfl, rfl⟩
  · rcases (show (0 ≤ e0) ∨ (e0 < 0) by omega) with g_1 | g_1
    · rcases (show (0 ≤ e1 - 1) ∨ (e1 - 1 < 0) by omega) with g_2 | g_2
      · refine jT_xaload_n (v := (4, 1)) (pc' := 1) jIP_213_0 rfl rfl rfl ?_
        refine jT_callA [1] (y := 200) (pc' := 4) (dC := 0) (bc1 := 0) (bc2 := 0) (c1 := 19) (c2 := 1064) (as := [(4, 1)]) (asC := [(4, 0)]) (L' := [(0, (4, 0)), (1, (4, 1))]) (st' := []) (hsC := [(101, [], [e0, e1, e2, e3, e4, e5])]) (ex := []) (v := (0, 0)) (st2 := [(0, 0)]) (hs2 := [jzP_1, (101, [], [e0, e1, e2, e3, e4, e5]), jgh, jgh, jgh, jgh, jgh, (130, [], [17, 18, 19, 20, 21, 22]), jgh, jgh, jgh, jgh, jgh, jgh, jgh, jgh, jgh, (100, [], (jenc (jlg 0))), (100, [], (jenc (jlg 1))), (100, [], (jenc (jlg 2))), (100, [], (jenc (jlg 3))), (100, [], (jenc (jlg 4))), (100, [], (jenc (jlg 5)))]) (jP_200_4 (d := 0) (by omega) (by omega) (by omega) (by omega) (by omega) (by omega) (by omega) (by omega) (by omega)) (by rfl) (by rfl) (by rfl) (by rfl) ⟨rfl, trivial⟩ (by rfl) (by rfl) (by omega) (by show 23 ≤ 23; omega) (by omega) (by omega) rfl rfl ?_
        refine jT_xifT (pc' := 11) jIP_213_4 rfl (by decide +kernel) rfl ?_
        refine jT_xaload_n (v := (4, 0)) (pc' := 12) jIP_213_11 rfl rfl rfl ?_
        refine jT_xaload_n (v := (4, 1)) (pc' := 13) jIP_213_12 rfl rfl rfl ?_
        refine jT_callA [0, 1, 2, 3, 4, 5, 6, 7, 8, 9, 10, 11, 12, 13, 14, 15, 16, 17, 18, 19, 20, 21, 22] (y := 214) (pc' := 16) (dC := 2) (bc1 := 19) (bc2 := 1064) (c1 := 0) (c2 := 0) (as := [(4, 0), (4, 1)]) (asC := [(4, 0), (4, 1)]) (L' := [(0, (4, 0)), (1, (4, 1))]) (st' := []) (hsC := [jzP_1, (101, [], [e0, e1, e2, e3, e4, e5]), jgh, jgh, jgh, jgh, jgh, (130, [], [17, 18, 19, 20, 21, 22]), jgh, jgh, jgh, jgh, jgh, jgh, jgh, jgh, jgh, (100, [], (jenc (jlg 0))), (100, [], (jenc (jlg 1))), (100, [], (jenc (jlg 2))), (100, [], (jenc (jlg 3))), (100, [], (jenc (jlg 4))), (100, [], (jenc (jlg 5)))]) (ex := [(100, [], (jenc (jlt e0 e1 e2 e3 e4 e5)))]) (v := (4, 23)) (st2 := [(4, 23)]) (hs2 := [jzP_1, (101, [], [e0, e1, e2, e3, e4, e5]), jgh, jgh, jgh, jgh, jgh, (130, [], [17, 18, 19, 20, 21, 22]), jgh, jgh, jgh, jgh, jgh, jgh, jgh, jgh, jgh, (100, [], (jenc (jlg 0))), (100, [], (jenc (jlg 1))), (100, [], (jenc (jlg 2))), (100, [], (jenc (jlg 3))), (100, [], (jenc (jlg 4))), (100, [], (jenc (jlg 5))), (100, [], (jenc (jlt e0 e1 e2 e3 e4 e5)))]) (jPl_lg_3 (d := 0) (e0 := e0) (e1 := e1) (e2 := e2) (e3 := e3) (e4 := e4) (e5 := e5) (by omega) (by omega) (by omega) (by omega) (by omega) (by omega)) (by rfl) (by rfl) (by rfl) (by rfl) ⟨rfl, rfl, rfl, rfl, rfl, rfl, rfl, rfl, rfl, rfl, rfl, rfl, rfl, rfl, rfl, rfl, rfl, rfl, rfl, rfl, rfl, rfl, rfl, trivial⟩ (by rfl) (by rfl) (by omega) (by show 23 ≤ 23; omega) (by omega) (by omega) rfl rfl ?_
        refine jT_xiconst (k := 0) (pc' := 17) jIP_213_16 rfl ?_
        refine jT_iald (x := (jlt e0 e1 e2 e3 e4 e5).sign) (a := 23) (j := 0) (fs := []) (X := (jenc (jlt e0 e1 e2 e3 e4 e5))) (by rfl) (by rfl) (by rfl) (by rfl) (jenc_sg rfl) ?_
        refine jT_eq (L' := [(0, (4, 0)), (1, (4, 1))]) (st' := [(0, (jlt e0 e1 e2 e3 e4 e5).sign)]) (hs' := [jzP_1, (101, [], [e0, e1, e2, e3, e4, e5]), jgh, jgh, jgh, jgh, jgh, (130, [], [17, 18, 19, 20, 21, 22]), jgh, jgh, jgh, jgh, jgh, jgh, jgh, jgh, jgh, (100, [], (jenc (jlg 0))), (100, [], (jenc (jlg 1))), (100, [], (jenc (jlg 2))), (100, [], (jenc (jlg 3))), (100, [], (jenc (jlg 4))), (100, [], (jenc (jlg 5))), (100, [], (jenc (jlt e0 e1 e2 e3 e4 e5)))]) rfl rfl rfl ?_
        refine jT_loc (L' := [(0, (4, 0))]) (by show List.Nodup [0]; decide) (by intro q hq; simp only [List.mem_cons, List.not_mem_nil, or_false] at hq; rcases hq with rfl <;> rfl) ?_
        refine jT_drop 23 (hs0 := [jzP_1, (101, [], [e0, e1, e2, e3, e4, e5]), jgh, jgh, jgh, jgh, jgh, (130, [], [17, 18, 19, 20, 21, 22]), jgh, jgh, jgh, jgh, jgh, jgh, jgh, jgh, jgh, (100, [], (jenc (jlg 0))), (100, [], (jenc (jlg 1))), (100, [], (jenc (jlg 2))), (100, [], (jenc (jlg 3))), (100, [], (jenc (jlg 4))), (100, [], (jenc (jlg 5)))]) (ex := [(100, [], (jenc (jlt e0 e1 e2 e3 e4 e5)))]) rfl rfl rfl (by decide) ?_
        exact jT_ret rfl (by decide) (by show 23 ≤ 23; decide) (by omega) (by omega) ⟨rfl, rfl, rfl⟩
      · rcases (show (0 ≤ e1) ∨ (e1 < 0) by omega) with g_3 | g_3
        · rcases (show (0 ≤ e2 - 1) ∨ (e2 - 1 < 0) by omega) with g_4 | g_4
          · refine jT_xaload_n (v := (4, 1)) (pc' := 1) jIP_213_0 rfl rfl rfl ?_
            refine jT_callA [1] (y := 200) (pc' := 4) (dC := 0) (bc1 := 0) (bc2 := 0) (c1 := 19) (c2 := 1064) (as := [(4, 1)]) (asC := [(4, 0)]) (L' := [(0, (4, 0)), (1, (4, 1))]) (st' := []) (hsC := [(101, [], [e0, e1, e2, e3, e4, e5])]) (ex := []) (v := (0, 0)) (st2 := [(0, 0)]) (hs2 := [jzP_1, (101, [], [e0, e1, e2, e3, e4, e5]), jgh, jgh, jgh, jgh, jgh, (130, [], [17, 18, 19, 20, 21, 22]), jgh, jgh, jgh, jgh, jgh, jgh, jgh, jgh, jgh, (100, [], (jenc (jlg 0))), (100, [], (jenc (jlg 1))), (100, [], (jenc (jlg 2))), (100, [], (jenc (jlg 3))), (100, [], (jenc (jlg 4))), (100, [], (jenc (jlg 5)))]) (jP_200_5 (d := 0) (by omega) (by omega) (by omega) (by omega) (by omega) (by omega) (by omega) (by omega) (by omega) (by omega) (by omega)) (by rfl) (by rfl) (by rfl) (by rfl) ⟨rfl, trivial⟩ (by rfl) (by rfl) (by omega) (by show 23 ≤ 23; omega) (by omega) (by omega) rfl rfl ?_
            refine jT_xifT (pc' := 11) jIP_213_4 rfl (by decide +kernel) rfl ?_
            refine jT_xaload_n (v := (4, 0)) (pc' := 12) jIP_213_11 rfl rfl rfl ?_
            refine jT_xaload_n (v := (4, 1)) (pc' := 13) jIP_213_12 rfl rfl rfl ?_
            refine jT_callA [0, 1, 2, 3, 4, 5, 6, 7, 8, 9, 10, 11, 12, 13, 14, 15, 16, 17, 18, 19, 20, 21, 22] (y := 214) (pc' := 16) (dC := 2) (bc1 := 19) (bc2 := 1064) (c1 := 0) (c2 := 0) (as := [(4, 0), (4, 1)]) (asC := [(4, 0), (4, 1)]) (L' := [(0, (4, 0)), (1, (4, 1))]) (st' := []) (hsC := [jzP_1, (101, [], [e0, e1, e2, e3, e4, e5]), jgh, jgh, jgh, jgh, jgh, (130, [], [17, 18, 19, 20, 21, 22]), jgh, jgh, jgh, jgh, jgh, jgh, jgh, jgh, jgh, (100, [], (jenc (jlg 0))), (100, [], (jenc (jlg 1))), (100, [], (jenc (jlg 2))), (100, [], (jenc (jlg 3))), (100, [], (jenc (jlg 4))), (100, [], (jenc (jlg 5)))]) (ex := [(100, [], (jenc (jlt e0 e1 e2 e3 e4 e5)))]) (v := (4, 23)) (st2 := [(4, 23)]) (hs2 := [jzP_1, (101, [], [e0, e1, e2, e3, e4, e5]), jgh, jgh, jgh, jgh, jgh, (130, [], [17, 18, 19, 20, 21, 22]), jgh, jgh, jgh, jgh, jgh, jgh, jgh, jgh, jgh, (100, [], (jenc (jlg 0))), (100, [], (jenc (jlg 1))), (100, [], (jenc (jlg 2))), (100, [], (jenc (jlg 3))), (100, [], (jenc (jlg 4))), (100, [], (jenc (jlg 5))), (100, [], (jenc (jlt e0 e1 e2 e3 e4 e5)))]) (jPl_lg_3 (d := 0) (e0 := e0) (e1 := e1) (e2 := e2) (e3 := e3) (e4 := e4) (e5 := e5) (by omega) (by omega) (by omega) (by omega) (by omega) (by omega)) (by rfl) (by rfl) (by rfl) (by rfl) ⟨rfl, rfl, rfl, rfl, rfl, rfl, rfl, rfl, rfl, rfl, rfl, rfl, rfl, rfl, rfl, rfl, rfl, rfl, rfl, rfl, rfl, rfl, rfl, trivial⟩ (by rfl) (by rfl) (by omega) (by show 23 ≤ 23; omega) (by omega) (by omega) rfl rfl ?_
            refine jT_xiconst (k := 0) (pc' := 17) jIP_213_16 rfl ?_
            refine jT_iald (x := (jlt e0 e1 e2 e3 e4 e5).sign) (a := 23) (j := 0) (fs := []) (X := (jenc (jlt e0 e1 e2 e3 e4 e5))) (by rfl) (by rfl) (by rfl) (by rfl) (jenc_sg rfl) ?_
            refine jT_eq (L' := [(0, (4, 0)), (1, (4, 1))]) (st' := [(0, (jlt e0 e1 e2 e3 e4 e5).sign)]) (hs' := [jzP_1, (101, [], [e0, e1, e2, e3, e4, e5]), jgh, jgh, jgh, jgh, jgh, (130, [], [17, 18, 19, 20, 21, 22]), jgh, jgh, jgh, jgh, jgh, jgh, jgh, jgh, jgh, (100, [], (jenc (jlg 0))), (100, [], (jenc (jlg 1))), (100, [], (jenc (jlg 2))), (100, [], (jenc (jlg 3))), (100, [], (jenc (jlg 4))), (100, [], (jenc (jlg 5))), (100, [], (jenc (jlt e0 e1 e2 e3 e4 e5)))]) rfl rfl rfl ?_
            refine jT_loc (L' := [(0, (4, 0))]) (by show List.Nodup [0]; decide) (by intro q hq; simp only [List.mem_cons, List.not_mem_nil, or_false] at hq; rcases hq with rfl <;> rfl) ?_
            refine jT_drop 23 (hs0 := [jzP_1, (101, [], [e0, e1, e2, e3, e4, e5]), jgh, jgh, jgh, jgh, jgh, (130, [], [17, 18, 19, 20, 21, 22]), jgh, jgh, jgh, jgh, jgh, jgh, jgh, jgh, jgh, (100, [], (jenc (jlg 0))), (100, [], (jenc (jlg 1))), (100, [], (jenc (jlg 2))), (100, [], (jenc (jlg 3))), (100, [], (jenc (jlg 4))), (100, [], (jenc (jlg 5)))]) (ex := [(100, [], (jenc (jlt e0 e1 e2 e3 e4 e5)))]) rfl rfl rfl (by decide) ?_
            exact jT_ret rfl (by decide) (by show 23 ≤ 23; decide) (by omega) (by omega) ⟨rfl, rfl, rfl⟩
          · rcases (show (0 ≤ e2) ∨ (e2 < 0) by omega) with g_5 | g_5
            · rcases (show (0 ≤ e3 - 1) ∨ (e3 - 1 < 0) by omega) with g_6 | g_6
              · refine jT_xaload_n (v := (4, 1)) (pc' := 1) jIP_213_0 rfl rfl rfl ?_
                refine jT_callA [1] (y := 200) (pc' := 4) (dC := 0) (bc1 := 0) (bc2 := 0) (c1 := 19) (c2 := 1064) (as := [(4, 1)]) (asC := [(4, 0)]) (L' := [(0, (4, 0)), (1, (4, 1))]) (st' := []) (hsC := [(101, [], [e0, e1, e2, e3, e4, e5])]) (ex := []) (v := (0, 0)) (st2 := [(0, 0)]) (hs2 := [jzP_1, (101, [], [e0, e1, e2, e3, e4, e5]), jgh, jgh, jgh, jgh, jgh, (130, [], [17, 18, 19, 20, 21, 22]), jgh, jgh, jgh, jgh, jgh, jgh, jgh, jgh, jgh, (100, [], (jenc (jlg 0))), (100, [], (jenc (jlg 1))), (100, [], (jenc (jlg 2))), (100, [], (jenc (jlg 3))), (100, [], (jenc (jlg 4))), (100, [], (jenc (jlg 5)))]) (jP_200_6 (d := 0) (by omega) (by omega) (by omega) (by omega) (by omega) (by omega) (by omega) (by omega) (by omega) (by omega) (by omega) (by omega) (by omega)) (by rfl) (by rfl) (by rfl) (by rfl) ⟨rfl, trivial⟩ (by rfl) (by rfl) (by omega) (by show 23 ≤ 23; omega) (by omega) (by omega) rfl rfl ?_
                refine jT_xifT (pc' := 11) jIP_213_4 rfl (by decide +kernel) rfl ?_
                refine jT_xaload_n (v := (4, 0)) (pc' := 12) jIP_213_11 rfl rfl rfl ?_
                refine jT_xaload_n (v := (4, 1)) (pc' := 13) jIP_213_12 rfl rfl rfl ?_
                refine jT_callA [0, 1, 2, 3, 4, 5, 6, 7, 8, 9, 10, 11, 12, 13, 14, 15, 16, 17, 18, 19, 20, 21, 22] (y := 214) (pc' := 16) (dC := 2) (bc1 := 19) (bc2 := 1064) (c1 := 0) (c2 := 0) (as := [(4, 0), (4, 1)]) (asC := [(4, 0), (4, 1)]) (L' := [(0, (4, 0)), (1, (4, 1))]) (st' := []) (hsC := [jzP_1, (101, [], [e0, e1, e2, e3, e4, e5]), jgh, jgh, jgh, jgh, jgh, (130, [], [17, 18, 19, 20, 21, 22]), jgh, jgh, jgh, jgh, jgh, jgh, jgh, jgh, jgh, (100, [], (jenc (jlg 0))), (100, [], (jenc (jlg 1))), (100, [], (jenc (jlg 2))), (100, [], (jenc (jlg 3))), (100, [], (jenc (jlg 4))), (100, [], (jenc (jlg 5)))]) (ex := [(100, [], (jenc (jlt e0 e1 e2 e3 e4 e5)))]) (v := (4, 23)) (st2 := [(4, 23)]) (hs2 := [jzP_1, (101, [], [e0, e1, e2, e3, e4, e5]), jgh, jgh, jgh, jgh, jgh, (130, [], [17, 18, 19, 20, 21, 22]), jgh, jgh, jgh, jgh, jgh, jgh, jgh, jgh, jgh, (100, [], (jenc (jlg 0))), (100, [], (jenc (jlg 1))), (100, [], (jenc (jlg 2))), (100, [], (jenc (jlg 3))), (100, [], (jenc (jlg 4))), (100, [], (jenc (jlg 5))), (100, [], (jenc (jlt e0 e1 e2 e3 e4 e5)))]) (jPl_lg_3 (d := 0) (e0 := e0) (e1 := e1) (e2 := e2) (e3 := e3) (e4 := e4) (e5 := e5) (by omega) (by omega) (by omega) (by omega) (by omega) (by omega)) (by rfl) (by rfl) (by rfl) (by rfl) ⟨rfl, rfl, rfl, rfl, rfl, rfl, rfl, rfl, rfl, rfl, rfl, rfl, rfl, rfl, rfl, rfl, rfl, rfl, rfl, rfl, rfl, rfl, rfl, trivial⟩ (by rfl) (by rfl) (by omega) (by show 23 ≤ 23; omega) (by omega) (by omega) rfl rfl ?_
                refine jT_xiconst (k := 0) (pc' := 17) jIP_213_16 rfl ?_
                refine jT_iald (x := (jlt e0 e1 e2 e3 e4 e5).sign) (a := 23) (j := 0) (fs := []) (X := (jenc (jlt e0 e1 e2 e3 e4 e5))) (by rfl) (by rfl) (by rfl) (by rfl) (jenc_sg rfl) ?_
                refine jT_eq (L' := [(0, (4, 0)), (1, (4, 1))]) (st' := [(0, (jlt e0 e1 e2 e3 e4 e5).sign)]) (hs' := [jzP_1, (101, [], [e0, e1, e2, e3, e4, e5]), jgh, jgh, jgh, jgh, jgh, (130, [], [17, 18, 19, 20, 21, 22]), jgh, jgh, jgh, jgh, jgh, jgh, jgh, jgh, jgh, (100, [], (jenc (jlg 0))), (100, [], (jenc (jlg 1))), (100, [], (jenc (jlg 2))), (100, [], (jenc (jlg 3))), (100, [], (jenc (jlg 4))), (100, [], (jenc (jlg 5))), (100, [], (jenc (jlt e0 e1 e2 e3 e4 e5)))]) rfl rfl rfl ?_
                refine jT_loc (L' := [(0, (4, 0))]) (by show List.Nodup [0]; decide) (by intro q hq; simp only [List.mem_cons, List.not_mem_nil, or_false] at hq; rcases hq with rfl <;> rfl) ?_
                refine jT_drop 23 (hs0 := [jzP_1, (101, [], [e0, e1, e2, e3, e4, e5]), jgh, jgh, jgh, jgh, jgh, (130, [], [17, 18, 19, 20, 21, 22]), jgh, jgh, jgh, jgh, jgh, jgh, jgh, jgh, jgh, (100, [], (jenc (jlg 0))), (100, [], (jenc (jlg 1))), (100, [], (jenc (jlg 2))), (100, [], (jenc (jlg 3))), (100, [], (jenc (jlg 4))), (100, [], (jenc (jlg 5)))]) (ex := [(100, [], (jenc (jlt e0 e1 e2 e3 e4 e5)))]) rfl rfl rfl (by decide) ?_
                exact jT_ret rfl (by decide) (by show 23 ≤ 23; decide) (by omega) (by omega) ⟨rfl, rfl, rfl⟩
              · rcases (show (0 ≤ e3) ∨ (e3 < 0) by omega) with g_7 | g_7
                · rcases (show (0 ≤ e4 - 1) ∨ (e4 - 1 < 0) by omega) with g_8 | g_8
                  · refine jT_xaload_n (v := (4, 1)) (pc' := 1) jIP_213_0 rfl rfl rfl ?_
                    refine jT_callA [1] (y := 200) (pc' := 4) (dC := 0) (bc1 := 0) (bc2 := 0) (c1 := 19) (c2 := 1064) (as := [(4, 1)]) (asC := [(4, 0)]) (L' := [(0, (4, 0)), (1, (4, 1))]) (st' := []) (hsC := [(101, [], [e0, e1, e2, e3, e4, e5])]) (ex := []) (v := (0, 0)) (st2 := [(0, 0)]) (hs2 := [jzP_1, (101, [], [e0, e1, e2, e3, e4, e5]), jgh, jgh, jgh, jgh, jgh, (130, [], [17, 18, 19, 20, 21, 22]), jgh, jgh, jgh, jgh, jgh, jgh, jgh, jgh, jgh, (100, [], (jenc (jlg 0))), (100, [], (jenc (jlg 1))), (100, [], (jenc (jlg 2))), (100, [], (jenc (jlg 3))), (100, [], (jenc (jlg 4))), (100, [], (jenc (jlg 5)))]) (jP_200_7 (d := 0) (by omega) (by omega) (by omega) (by omega) (by omega) (by omega) (by omega) (by omega) (by omega) (by omega) (by omega) (by omega) (by omega) (by omega) (by omega)) (by rfl) (by rfl) (by rfl) (by rfl) ⟨rfl, trivial⟩ (by rfl) (by rfl) (by omega) (by show 23 ≤ 23; omega) (by omega) (by omega) rfl rfl ?_
                    refine jT_xifT (pc' := 11) jIP_213_4 rfl (by decide +kernel) rfl ?_
                    refine jT_xaload_n (v := (4, 0)) (pc' := 12) jIP_213_11 rfl rfl rfl ?_
                    refine jT_xaload_n (v := (4, 1)) (pc' := 13) jIP_213_12 rfl rfl rfl ?_
                    refine jT_callA [0, 1, 2, 3, 4, 5, 6, 7, 8, 9, 10, 11, 12, 13, 14, 15, 16, 17, 18, 19, 20, 21, 22] (y := 214) (pc' := 16) (dC := 2) (bc1 := 19) (bc2 := 1064) (c1 := 0) (c2 := 0) (as := [(4, 0), (4, 1)]) (asC := [(4, 0), (4, 1)]) (L' := [(0, (4, 0)), (1, (4, 1))]) (st' := []) (hsC := [jzP_1, (101, [], [e0, e1, e2, e3, e4, e5]), jgh, jgh, jgh, jgh, jgh, (130, [], [17, 18, 19, 20, 21, 22]), jgh, jgh, jgh, jgh, jgh, jgh, jgh, jgh, jgh, (100, [], (jenc (jlg 0))), (100, [], (jenc (jlg 1))), (100, [], (jenc (jlg 2))), (100, [], (jenc (jlg 3))), (100, [], (jenc (jlg 4))), (100, [], (jenc (jlg 5)))]) (ex := [(100, [], (jenc (jlt e0 e1 e2 e3 e4 e5)))]) (v := (4, 23)) (st2 := [(4, 23)]) (hs2 := [jzP_1, (101, [], [e0, e1, e2, e3, e4, e5]), jgh, jgh, jgh, jgh, jgh, (130, [], [17, 18, 19, 20, 21, 22]), jgh, jgh, jgh, jgh, jgh, jgh, jgh, jgh, jgh, (100, [], (jenc (jlg 0))), (100, [], (jenc (jlg 1))), (100, [], (jenc (jlg 2))), (100, [], (jenc (jlg 3))), (100, [], (jenc (jlg 4))), (100, [], (jenc (jlg 5))), (100, [], (jenc (jlt e0 e1 e2 e3 e4 e5)))]) (jPl_lg_3 (d := 0) (e0 := e0) (e1 := e1) (e2 := e2) (e3 := e3) (e4 := e4) (e5 := e5) (by omega) (by omega) (by omega) (by omega) (by omega) (by omega)) (by rfl) (by rfl) (by rfl) (by rfl) ⟨rfl, rfl, rfl, rfl, rfl, rfl, rfl, rfl, rfl, rfl, rfl, rfl, rfl, rfl, rfl, rfl, rfl, rfl, rfl, rfl, rfl, rfl, rfl, trivial⟩ (by rfl) (by rfl) (by omega) (by show 23 ≤ 23; omega) (by omega) (by omega) rfl rfl ?_
                    refine jT_xiconst (k := 0) (pc' := 17) jIP_213_16 rfl ?_
                    refine jT_iald (x := (jlt e0 e1 e2 e3 e4 e5).sign) (a := 23) (j := 0) (fs := []) (X := (jenc (jlt e0 e1 e2 e3 e4 e5))) (by rfl) (by rfl) (by rfl) (by rfl) (jenc_sg rfl) ?_
                    refine jT_eq (L' := [(0, (4, 0)), (1, (4, 1))]) (st' := [(0, (jlt e0 e1 e2 e3 e4 e5).sign)]) (hs' := [jzP_1, (101, [], [e0, e1, e2, e3, e4, e5]), jgh, jgh, jgh, jgh, jgh, (130, [], [17, 18, 19, 20, 21, 22]), jgh, jgh, jgh, jgh, jgh, jgh, jgh, jgh, jgh, (100, [], (jenc (jlg 0))), (100, [], (jenc (jlg 1))), (100, [], (jenc (jlg 2))), (100, [], (jenc (jlg 3))), (100, [], (jenc (jlg 4))), (100, [], (jenc (jlg 5))), (100, [], (jenc (jlt e0 e1 e2 e3 e4 e5)))]) rfl rfl rfl ?_
                    refine jT_loc (L' := [(0, (4, 0))]) (by show List.Nodup [0]; decide) (by intro q hq; simp only [List.mem_cons, List.not_mem_nil, or_false] at hq; rcases hq with rfl <;> rfl) ?_
                    refine jT_drop 23 (hs0 := [jzP_1, (101, [], [e0, e1, e2, e3, e4, e5]), jgh, jgh, jgh, jgh, jgh, (130, [], [17, 18, 19, 20, 21, 22]), jgh, jgh, jgh, jgh, jgh, jgh, jgh, jgh, jgh, (100, [], (jenc (jlg 0))), (100, [], (jenc (jlg 1))), (100, [], (jenc (jlg 2))), (100, [], (jenc (jlg 3))), (100, [], (jenc (jlg 4))), (100, [], (jenc (jlg 5)))]) (ex := [(100, [], (jenc (jlt e0 e1 e2 e3 e4 e5)))]) rfl rfl rfl (by decide) ?_
                    exact jT_ret rfl (by decide) (by show 23 ≤ 23; decide) (by omega) (by omega) ⟨rfl, rfl, rfl⟩
                  · rcases (show (0 ≤ e4) ∨ (e4 < 0) by omega) with g_9 | g_9
                    · rcases (show (0 ≤ e5 - 1) ∨ (e5 - 1 < 0) by omega) with g_10 | g_10
                      · refine jT_xaload_n (v := (4, 1)) (pc' := 1) jIP_213_0 rfl rfl rfl ?_
                        refine jT_callA [1] (y := 200) (pc' := 4) (dC := 0) (bc1 := 0) (bc2 := 0) (c1 := 19) (c2 := 1064) (as := [(4, 1)]) (asC := [(4, 0)]) (L' := [(0, (4, 0)), (1, (4, 1))]) (st' := []) (hsC := [(101, [], [e0, e1, e2, e3, e4, e5])]) (ex := []) (v := (0, 0)) (st2 := [(0, 0)]) (hs2 := [jzP_1, (101, [], [e0, e1, e2, e3, e4, e5]), jgh, jgh, jgh, jgh, jgh, (130, [], [17, 18, 19, 20, 21, 22]), jgh, jgh, jgh, jgh, jgh, jgh, jgh, jgh, jgh, (100, [], (jenc (jlg 0))), (100, [], (jenc (jlg 1))), (100, [], (jenc (jlg 2))), (100, [], (jenc (jlg 3))), (100, [], (jenc (jlg 4))), (100, [], (jenc (jlg 5)))]) (jP_200_8 (d := 0) (by omega) (by omega) (by omega) (by omega) (by omega) (by omega) (by omega) (by omega) (by omega) (by omega) (by omega) (by omega) (by omega) (by omega) (by omega) (by omega) (by omega)) (by rfl) (by rfl) (by rfl) (by rfl) ⟨rfl, trivial⟩ (by rfl) (by rfl) (by omega) (by show 23 ≤ 23; omega) (by omega) (by omega) rfl rfl ?_
                        refine jT_xifT (pc' := 11) jIP_213_4 rfl (by decide +kernel) rfl ?_
                        refine jT_xaload_n (v := (4, 0)) (pc' := 12) jIP_213_11 rfl rfl rfl ?_
                        refine jT_xaload_n (v := (4, 1)) (pc' := 13) jIP_213_12 rfl rfl rfl ?_
                        refine jT_callA [0, 1, 2, 3, 4, 5, 6, 7, 8, 9, 10, 11, 12, 13, 14, 15, 16, 17, 18, 19, 20, 21, 22] (y := 214) (pc' := 16) (dC := 2) (bc1 := 19) (bc2 := 1064) (c1 := 0) (c2 := 0) (as := [(4, 0), (4, 1)]) (asC := [(4, 0), (4, 1)]) (L' := [(0, (4, 0)), (1, (4, 1))]) (st' := []) (hsC := [jzP_1, (101, [], [e0, e1, e2, e3, e4, e5]), jgh, jgh, jgh, jgh, jgh, (130, [], [17, 18, 19, 20, 21, 22]), jgh, jgh, jgh, jgh, jgh, jgh, jgh, jgh, jgh, (100, [], (jenc (jlg 0))), (100, [], (jenc (jlg 1))), (100, [], (jenc (jlg 2))), (100, [], (jenc (jlg 3))), (100, [], (jenc (jlg 4))), (100, [], (jenc (jlg 5)))]) (ex := [(100, [], (jenc (jlt e0 e1 e2 e3 e4 e5)))]) (v := (4, 23)) (st2 := [(4, 23)]) (hs2 := [jzP_1, (101, [], [e0, e1, e2, e3, e4, e5]), jgh, jgh, jgh, jgh, jgh, (130, [], [17, 18, 19, 20, 21, 22]), jgh, jgh, jgh, jgh, jgh, jgh, jgh, jgh, jgh, (100, [], (jenc (jlg 0))), (100, [], (jenc (jlg 1))), (100, [], (jenc (jlg 2))), (100, [], (jenc (jlg 3))), (100, [], (jenc (jlg 4))), (100, [], (jenc (jlg 5))), (100, [], (jenc (jlt e0 e1 e2 e3 e4 e5)))]) (jPl_lg_3 (d := 0) (e0 := e0) (e1 := e1) (e2 := e2) (e3 := e3) (e4 := e4) (e5 := e5) (by omega) (by omega) (by omega) (by omega) (by omega) (by omega)) (by rfl) (by rfl) (by rfl) (by rfl) ⟨rfl, rfl, rfl, rfl, rfl, rfl, rfl, rfl, rfl, rfl, rfl, rfl, rfl, rfl, rfl, rfl, rfl, rfl, rfl, rfl, rfl, rfl, rfl, trivial⟩ (by rfl) (by rfl) (by omega) (by show 23 ≤ 23; omega) (by omega) (by omega) rfl rfl ?_
                        refine jT_xiconst (k := 0) (pc' := 17) jIP_213_16 rfl ?_
                        refine jT_iald (x := (jlt e0 e1 e2 e3 e4 e5).sign) (a := 23) (j := 0) (fs := []) (X := (jenc (jlt e0 e1 e2 e3 e4 e5))) (by rfl) (by rfl) (by rfl) (by rfl) (jenc_sg rfl) ?_
                        refine jT_eq (L' := [(0, (4, 0)), (1, (4, 1))]) (st' := [(0, (jlt e0 e1 e2 e3 e4 e5).sign)]) (hs' := [jzP_1, (101, [], [e0, e1, e2, e3, e4, e5]), jgh, jgh, jgh, jgh, jgh, (130, [], [17, 18, 19, 20, 21, 22]), jgh, jgh, jgh, jgh, jgh, jgh, jgh, jgh, jgh, (100, [], (jenc (jlg 0))), (100, [], (jenc (jlg 1))), (100, [], (jenc (jlg 2))), (100, [], (jenc (jlg 3))), (100, [], (jenc (jlg 4))), (100, [], (jenc (jlg 5))), (100, [], (jenc (jlt e0 e1 e2 e3 e4 e5)))]) rfl rfl rfl ?_
                        refine jT_loc (L' := [(0, (4, 0))]) (by show List.Nodup [0]; decide) (by intro q hq; simp only [List.mem_cons, List.not_mem_nil, or_false] at hq; rcases hq with rfl <;> rfl) ?_
                        refine jT_drop 23 (hs0 := [jzP_1, (101, [], [e0, e1, e2, e3, e4, e5]), jgh, jgh, jgh, jgh, jgh, (130, [], [17, 18, 19, 20, 21, 22]), jgh, jgh, jgh, jgh, jgh, jgh, jgh, jgh, jgh, (100, [], (jenc (jlg 0))), (100, [], (jenc (jlg 1))), (100, [], (jenc (jlg 2))), (100, [], (jenc (jlg 3))), (100, [], (jenc (jlg 4))), (100, [], (jenc (jlg 5)))]) (ex := [(100, [], (jenc (jlt e0 e1 e2 e3 e4 e5)))]) rfl rfl rfl (by decide) ?_
                        exact jT_ret rfl (by decide) (by show 23 ≤ 23; decide) (by omega) (by omega) ⟨rfl, rfl, rfl⟩
                      · rcases (show (0 ≤ e5) ∨ (e5 < 0) by omega) with g_11 | g_11
                        · refine jT_xaload_n (v := (4, 1)) (pc' := 1) jIP_213_0 rfl rfl rfl ?_
                          refine jT_callA [1] (y := 200) (pc' := 4) (dC := 0) (bc1 := 0) (bc2 := 0) (c1 := 19) (c2 := 1064) (as := [(4, 1)]) (asC := [(4, 0)]) (L' := [(0, (4, 0)), (1, (4, 1))]) (st' := []) (hsC := [(101, [], [e0, e1, e2, e3, e4, e5])]) (ex := []) (v := (0, 1)) (st2 := [(0, 1)]) (hs2 := [jzP_1, (101, [], [e0, e1, e2, e3, e4, e5]), jgh, jgh, jgh, jgh, jgh, (130, [], [17, 18, 19, 20, 21, 22]), jgh, jgh, jgh, jgh, jgh, jgh, jgh, jgh, jgh, (100, [], (jenc (jlg 0))), (100, [], (jenc (jlg 1))), (100, [], (jenc (jlg 2))), (100, [], (jenc (jlg 3))), (100, [], (jenc (jlg 4))), (100, [], (jenc (jlg 5)))]) (jP_200_9 (d := 0) (by omega) (by omega) (by omega) (by omega) (by omega) (by omega) (by omega) (by omega) (by omega) (by omega) (by omega) (by omega) (by omega) (by omega) (by omega) (by omega) (by omega) (by omega)) (by rfl) (by rfl) (by rfl) (by rfl) ⟨rfl, trivial⟩ (by rfl) (by rfl) (by omega) (by show 23 ≤ 23; omega) (by omega) (by omega) rfl rfl ?_
                          refine jT_xifF (t := 11) (pc' := 7) jIP_213_4 rfl (by decide +kernel) rfl rfl ?_
                          refine jT_xiconst (k := 0) (pc' := 8) jIP_213_7 rfl ?_
                          refine jT_xgoto (pc' := 18) jIP_213_8 rfl ?_
                          refine jT_loc (L' := [(0, (4, 0))]) (by show List.Nodup [0]; decide) (by intro q hq; simp only [List.mem_cons, List.not_mem_nil, or_false] at hq; rcases hq with rfl <;> rfl) ?_
                          refine jT_eq (L' := [(0, (4, 0))]) (st' := [(0, (jlt e0 e1 e2 e3 e4 e5).sign)]) (hs' := [jzP_1, (101, [], [e0, e1, e2, e3, e4, e5]), jgh, jgh, jgh, jgh, jgh, (130, [], [17, 18, 19, 20, 21, 22]), jgh, jgh, jgh, jgh, jgh, jgh, jgh, jgh, jgh, (100, [], (jenc (jlg 0))), (100, [], (jenc (jlg 1))), (100, [], (jenc (jlg 2))), (100, [], (jenc (jlg 3))), (100, [], (jenc (jlg 4))), (100, [], (jenc (jlg 5)))]) rfl (by rw [jlt_z (by omega) (by omega) (by omega) (by omega) (by omega) (by omega)]; rfl) rfl ?_
                          exact jT_ret rfl (by decide) (by show 23 ≤ 23; decide) (by omega) (by omega) ⟨rfl, rfl, rfl⟩
                        · refine jT_xaload_n (v := (4, 1)) (pc' := 1) jIP_213_0 rfl rfl rfl ?_
                          refine jT_callA [1] (y := 200) (pc' := 4) (dC := 0) (bc1 := 0) (bc2 := 0) (c1 := 19) (c2 := 1064) (as := [(4, 1)]) (asC := [(4, 0)]) (L' := [(0, (4, 0)), (1, (4, 1))]) (st' := []) (hsC := [(101, [], [e0, e1, e2, e3, e4, e5])]) (ex := []) (v := (0, 0)) (st2 := [(0, 0)]) (hs2 := [jzP_1, (101, [], [e0, e1, e2, e3, e4, e5]), jgh, jgh, jgh, jgh, jgh, (130, [], [17, 18, 19, 20, 21, 22]), jgh, jgh, jgh, jgh, jgh, jgh, jgh, jgh, jgh, (100, [], (jenc (jlg 0))), (100, [], (jenc (jlg 1))), (100, [], (jenc (jlg 2))), (100, [], (jenc (jlg 3))), (100, [], (jenc (jlg 4))), (100, [], (jenc (jlg 5)))]) (jP_200_10 (d := 0) (by omega) (by omega) (by omega) (by omega) (by omega) (by omega) (by omega) (by omega) (by omega) (by omega) (by omega) (by omega) (by omega) (by omega) (by omega) (by omega) (by omega) (by omega)) (by rfl) (by rfl) (by rfl) (by rfl) ⟨rfl, trivial⟩ (by rfl) (by rfl) (by omega) (by show 23 ≤ 23; omega) (by omega) (by omega) rfl rfl ?_
                          refine jT_xifT (pc' := 11) jIP_213_4 rfl (by decide +kernel) rfl ?_
                          refine jT_xaload_n (v := (4, 0)) (pc' := 12) jIP_213_11 rfl rfl rfl ?_
                          refine jT_xaload_n (v := (4, 1)) (pc' := 13) jIP_213_12 rfl rfl rfl ?_
                          refine jT_callA [0, 1, 2, 3, 4, 5, 6, 7, 8, 9, 10, 11, 12, 13, 14, 15, 16, 17, 18, 19, 20, 21, 22] (y := 214) (pc' := 16) (dC := 2) (bc1 := 19) (bc2 := 1064) (c1 := 0) (c2 := 0) (as := [(4, 0), (4, 1)]) (asC := [(4, 0), (4, 1)]) (L' := [(0, (4, 0)), (1, (4, 1))]) (st' := []) (hsC := [jzP_1, (101, [], [e0, e1, e2, e3, e4, e5]), jgh, jgh, jgh, jgh, jgh, (130, [], [17, 18, 19, 20, 21, 22]), jgh, jgh, jgh, jgh, jgh, jgh, jgh, jgh, jgh, (100, [], (jenc (jlg 0))), (100, [], (jenc (jlg 1))), (100, [], (jenc (jlg 2))), (100, [], (jenc (jlg 3))), (100, [], (jenc (jlg 4))), (100, [], (jenc (jlg 5)))]) (ex := [(100, [], (jenc (jlt e0 e1 e2 e3 e4 e5)))]) (v := (4, 23)) (st2 := [(4, 23)]) (hs2 := [jzP_1, (101, [], [e0, e1, e2, e3, e4, e5]), jgh, jgh, jgh, jgh, jgh, (130, [], [17, 18, 19, 20, 21, 22]), jgh, jgh, jgh, jgh, jgh, jgh, jgh, jgh, jgh, (100, [], (jenc (jlg 0))), (100, [], (jenc (jlg 1))), (100, [], (jenc (jlg 2))), (100, [], (jenc (jlg 3))), (100, [], (jenc (jlg 4))), (100, [], (jenc (jlg 5))), (100, [], (jenc (jlt e0 e1 e2 e3 e4 e5)))]) (jPl_lg_3 (d := 0) (e0 := e0) (e1 := e1) (e2 := e2) (e3 := e3) (e4 := e4) (e5 := e5) (by omega) (by omega) (by omega) (by omega) (by omega) (by omega)) (by rfl) (by rfl) (by rfl) (by rfl) ⟨rfl, rfl, rfl, rfl, rfl, rfl, rfl, rfl, rfl, rfl, rfl, rfl, rfl, rfl, rfl, rfl, rfl, rfl, rfl, rfl, rfl, rfl, rfl, trivial⟩ (by rfl) (by rfl) (by omega) (by show 23 ≤ 23; omega) (by omega) (by omega) rfl rfl ?_
                          refine jT_xiconst (k := 0) (pc' := 17) jIP_213_16 rfl ?_
                          refine jT_iald (x := (jlt e0 e1 e2 e3 e4 e5).sign) (a := 23) (j := 0) (fs := []) (X := (jenc (jlt e0 e1 e2 e3 e4 e5))) (by rfl) (by rfl) (by rfl) (by rfl) (jenc_sg rfl) ?_
                          refine jT_eq (L' := [(0, (4, 0)), (1, (4, 1))]) (st' := [(0, (jlt e0 e1 e2 e3 e4 e5).sign)]) (hs' := [jzP_1, (101, [], [e0, e1, e2, e3, e4, e5]), jgh, jgh, jgh, jgh, jgh, (130, [], [17, 18, 19, 20, 21, 22]), jgh, jgh, jgh, jgh, jgh, jgh, jgh, jgh, jgh, (100, [], (jenc (jlg 0))), (100, [], (jenc (jlg 1))), (100, [], (jenc (jlg 2))), (100, [], (jenc (jlg 3))), (100, [], (jenc (jlg 4))), (100, [], (jenc (jlg 5))), (100, [], (jenc (jlt e0 e1 e2 e3 e4 e5)))]) rfl rfl rfl ?_
                          refine jT_loc (L' := [(0, (4, 0))]) (by show List.Nodup [0]; decide) (by intro q hq; simp only [List.mem_cons, List.not_mem_nil, or_false] at hq; rcases hq with rfl <;> rfl) ?_
                          refine jT_drop 23 (hs0 := [jzP_1, (101, [], [e0, e1, e2, e3, e4, e5]), jgh, jgh, jgh, jgh, jgh, (130, [], [17, 18, 19, 20, 21, 22]), jgh, jgh, jgh, jgh, jgh, jgh, jgh, jgh, jgh, (100, [], (jenc (jlg 0))), (100, [], (jenc (jlg 1))), (100, [], (jenc (jlg 2))), (100, [], (jenc (jlg 3))), (100, [], (jenc (jlg 4))), (100, [], (jenc (jlg 5)))]) (ex := [(100, [], (jenc (jlt e0 e1 e2 e3 e4 e5)))]) rfl rfl rfl (by decide) ?_
                          exact jT_ret rfl (by decide) (by show 23 ≤ 23; decide) (by omega) (by omega) ⟨rfl, rfl, rfl⟩
                    · refine jT_xaload_n (v := (4, 1)) (pc' := 1) jIP_213_0 rfl rfl rfl ?_
                      refine jT_callA [1] (y := 200) (pc' := 4) (dC := 0) (bc1 := 0) (bc2 := 0) (c1 := 19) (c2 := 1064) (as := [(4, 1)]) (asC := [(4, 0)]) (L' := [(0, (4, 0)), (1, (4, 1))]) (st' := []) (hsC := [(101, [], [e0, e1, e2, e3, e4, e5])]) (ex := []) (v := (0, 0)) (st2 := [(0, 0)]) (hs2 := [jzP_1, (101, [], [e0, e1, e2, e3, e4, e5]), jgh, jgh, jgh, jgh, jgh, (130, [], [17, 18, 19, 20, 21, 22]), jgh, jgh, jgh, jgh, jgh, jgh, jgh, jgh, jgh, (100, [], (jenc (jlg 0))), (100, [], (jenc (jlg 1))), (100, [], (jenc (jlg 2))), (100, [], (jenc (jlg 3))), (100, [], (jenc (jlg 4))), (100, [], (jenc (jlg 5)))]) (jP_200_11 (d := 0) (by omega) (by omega) (by omega) (by omega) (by omega) (by omega) (by omega) (by omega) (by omega) (by omega) (by omega) (by omega) (by omega) (by omega) (by omega) (by omega)) (by rfl) (by rfl) (by rfl) (by rfl) ⟨rfl, trivial⟩ (by rfl) (by rfl) (by omega) (by show 23 ≤ 23; omega) (by omega) (by omega) rfl rfl ?_
                      refine jT_xifT (pc' := 11) jIP_213_4 rfl (by decide +kernel) rfl ?_
                      refine jT_xaload_n (v := (4, 0)) (pc' := 12) jIP_213_11 rfl rfl rfl ?_
                      refine jT_xaload_n (v := (4, 1)) (pc' := 13) jIP_213_12 rfl rfl rfl ?_
                      refine jT_callA [0, 1, 2, 3, 4, 5, 6, 7, 8, 9, 10, 11, 12, 13, 14, 15, 16, 17, 18, 19, 20, 21, 22] (y := 214) (pc' := 16) (dC := 2) (bc1 := 19) (bc2 := 1064) (c1 := 0) (c2 := 0) (as := [(4, 0), (4, 1)]) (asC := [(4, 0), (4, 1)]) (L' := [(0, (4, 0)), (1, (4, 1))]) (st' := []) (hsC := [jzP_1, (101, [], [e0, e1, e2, e3, e4, e5]), jgh, jgh, jgh, jgh, jgh, (130, [], [17, 18, 19, 20, 21, 22]), jgh, jgh, jgh, jgh, jgh, jgh, jgh, jgh, jgh, (100, [], (jenc (jlg 0))), (100, [], (jenc (jlg 1))), (100, [], (jenc (jlg 2))), (100, [], (jenc (jlg 3))), (100, [], (jenc (jlg 4))), (100, [], (jenc (jlg 5)))]) (ex := [(100, [], (jenc (jlt e0 e1 e2 e3 e4 e5)))]) (v := (4, 23)) (st2 := [(4, 23)]) (hs2 := [jzP_1, (101, [], [e0, e1, e2, e3, e4, e5]), jgh, jgh, jgh, jgh, jgh, (130, [], [17, 18, 19, 20, 21, 22]), jgh, jgh, jgh, jgh, jgh, jgh, jgh, jgh, jgh, (100, [], (jenc (jlg 0))), (100, [], (jenc (jlg 1))), (100, [], (jenc (jlg 2))), (100, [], (jenc (jlg 3))), (100, [], (jenc (jlg 4))), (100, [], (jenc (jlg 5))), (100, [], (jenc (jlt e0 e1 e2 e3 e4 e5)))]) (jPl_lg_3 (d := 0) (e0 := e0) (e1 := e1) (e2 := e2) (e3 := e3) (e4 := e4) (e5 := e5) (by omega) (by omega) (by omega) (by omega) (by omega) (by omega)) (by rfl) (by rfl) (by rfl) (by rfl) ⟨rfl, rfl, rfl, rfl, rfl, rfl, rfl, rfl, rfl, rfl, rfl, rfl, rfl, rfl, rfl, rfl, rfl, rfl, rfl, rfl, rfl, rfl, rfl, trivial⟩ (by rfl) (by rfl) (by omega) (by show 23 ≤ 23; omega) (by omega) (by omega) rfl rfl ?_
                      refine jT_xiconst (k := 0) (pc' := 17) jIP_213_16 rfl ?_
                      refine jT_iald (x := (jlt e0 e1 e2 e3 e4 e5).sign) (a := 23) (j := 0) (fs := []) (X := (jenc (jlt e0 e1 e2 e3 e4 e5))) (by rfl) (by rfl) (by rfl) (by rfl) (jenc_sg rfl) ?_
                      refine jT_eq (L' := [(0, (4, 0)), (1, (4, 1))]) (st' := [(0, (jlt e0 e1 e2 e3 e4 e5).sign)]) (hs' := [jzP_1, (101, [], [e0, e1, e2, e3, e4, e5]), jgh, jgh, jgh, jgh, jgh, (130, [], [17, 18, 19, 20, 21, 22]), jgh, jgh, jgh, jgh, jgh, jgh, jgh, jgh, jgh, (100, [], (jenc (jlg 0))), (100, [], (jenc (jlg 1))), (100, [], (jenc (jlg 2))), (100, [], (jenc (jlg 3))), (100, [], (jenc (jlg 4))), (100, [], (jenc (jlg 5))), (100, [], (jenc (jlt e0 e1 e2 e3 e4 e5)))]) rfl rfl rfl ?_
                      refine jT_loc (L' := [(0, (4, 0))]) (by show List.Nodup [0]; decide) (by intro q hq; simp only [List.mem_cons, List.not_mem_nil, or_false] at hq; rcases hq with rfl <;> rfl) ?_
                      refine jT_drop 23 (hs0 := [jzP_1, (101, [], [e0, e1, e2, e3, e4, e5]), jgh, jgh, jgh, jgh, jgh, (130, [], [17, 18, 19, 20, 21, 22]), jgh, jgh, jgh, jgh, jgh, jgh, jgh, jgh, jgh, (100, [], (jenc (jlg 0))), (100, [], (jenc (jlg 1))), (100, [], (jenc (jlg 2))), (100, [], (jenc (jlg 3))), (100, [], (jenc (jlg 4))), (100, [], (jenc (jlg 5)))]) (ex := [(100, [], (jenc (jlt e0 e1 e2 e3 e4 e5)))]) rfl rfl rfl (by decide) ?_
                      exact jT_ret rfl (by decide) (by show 23 ≤ 23; decide) (by omega) (by omega) ⟨rfl, rfl, rfl⟩
                · refine jT_xaload_n (v := (4, 1)) (pc' := 1) jIP_213_0 rfl rfl rfl ?_
                  refine jT_callA [1] (y := 200) (pc' := 4) (dC := 0) (bc1 := 0) (bc2 := 0) (c1 := 19) (c2 := 1064) (as := [(4, 1)]) (asC := [(4, 0)]) (L' := [(0, (4, 0)), (1, (4, 1))]) (st' := []) (hsC := [(101, [], [e0, e1, e2, e3, e4, e5])]) (ex := []) (v := (0, 0)) (st2 := [(0, 0)]) (hs2 := [jzP_1, (101, [], [e0, e1, e2, e3, e4, e5]), jgh, jgh, jgh, jgh, jgh, (130, [], [17, 18, 19, 20, 21, 22]), jgh, jgh, jgh, jgh, jgh, jgh, jgh, jgh, jgh, (100, [], (jenc (jlg 0))), (100, [], (jenc (jlg 1))), (100, [], (jenc (jlg 2))), (100, [], (jenc (jlg 3))), (100, [], (jenc (jlg 4))), (100, [], (jenc (jlg 5)))]) (jP_200_12 (d := 0) (by omega) (by omega) (by omega) (by omega) (by omega) (by omega) (by omega) (by omega) (by omega) (by omega) (by omega) (by omega) (by omega) (by omega)) (by rfl) (by rfl) (by rfl) (by rfl) ⟨rfl, trivial⟩ (by rfl) (by rfl) (by omega) (by show 23 ≤ 23; omega) (by omega) (by omega) rfl rfl ?_
                  refine jT_xifT (pc' := 11) jIP_213_4 rfl (by decide +kernel) rfl ?_
                  refine jT_xaload_n (v := (4, 0)) (pc' := 12) jIP_213_11 rfl rfl rfl ?_
                  refine jT_xaload_n (v := (4, 1)) (pc' := 13) jIP_213_12 rfl rfl rfl ?_
                  refine jT_callA [0, 1, 2, 3, 4, 5, 6, 7, 8, 9, 10, 11, 12, 13, 14, 15, 16, 17, 18, 19, 20, 21, 22] (y := 214) (pc' := 16) (dC := 2) (bc1 := 19) (bc2 := 1064) (c1 := 0) (c2 := 0) (as := [(4, 0), (4, 1)]) (asC := [(4, 0), (4, 1)]) (L' := [(0, (4, 0)), (1, (4, 1))]) (st' := []) (hsC := [jzP_1, (101, [], [e0, e1, e2, e3, e4, e5]), jgh, jgh, jgh, jgh, jgh, (130, [], [17, 18, 19, 20, 21, 22]), jgh, jgh, jgh, jgh, jgh, jgh, jgh, jgh, jgh, (100, [], (jenc (jlg 0))), (100, [], (jenc (jlg 1))), (100, [], (jenc (jlg 2))), (100, [], (jenc (jlg 3))), (100, [], (jenc (jlg 4))), (100, [], (jenc (jlg 5)))]) (ex := [(100, [], (jenc (jlt e0 e1 e2 e3 e4 e5)))]) (v := (4, 23)) (st2 := [(4, 23)]) (hs2 := [jzP_1, (101, [], [e0, e1, e2, e3, e4, e5]), jgh, jgh, jgh, jgh, jgh, (130, [], [17, 18, 19, 20, 21, 22]), jgh, jgh, jgh, jgh, jgh, jgh, jgh, jgh, jgh, (100, [], (jenc (jlg 0))), (100, [], (jenc (jlg 1))), (100, [], (jenc (jlg 2))), (100, [], (jenc (jlg 3))), (100, [], (jenc (jlg 4))), (100, [], (jenc (jlg 5))), (100, [], (jenc (jlt e0 e1 e2 e3 e4 e5)))]) (jPl_lg_3 (d := 0) (e0 := e0) (e1 := e1) (e2 := e2) (e3 := e3) (e4 := e4) (e5 := e5) (by omega) (by omega) (by omega) (by omega) (by omega) (by omega)) (by rfl) (by rfl) (by rfl) (by rfl) ⟨rfl, rfl, rfl, rfl, rfl, rfl, rfl, rfl, rfl, rfl, rfl, rfl, rfl, rfl, rfl, rfl, rfl, rfl, rfl, rfl, rfl, rfl, rfl, trivial⟩ (by rfl) (by rfl) (by omega) (by show 23 ≤ 23; omega) (by omega) (by omega) rfl rfl ?_
                  refine jT_xiconst (k := 0) (pc' := 17) jIP_213_16 rfl ?_
                  refine jT_iald (x := (jlt e0 e1 e2 e3 e4 e5).sign) (a := 23) (j := 0) (fs := []) (X := (jenc (jlt e0 e1 e2 e3 e4 e5))) (by rfl) (by rfl) (by rfl) (by rfl) (jenc_sg rfl) ?_
                  refine jT_eq (L' := [(0, (4, 0)), (1, (4, 1))]) (st' := [(0, (jlt e0 e1 e2 e3 e4 e5).sign)]) (hs' := [jzP_1, (101, [], [e0, e1, e2, e3, e4, e5]), jgh, jgh, jgh, jgh, jgh, (130, [], [17, 18, 19, 20, 21, 22]), jgh, jgh, jgh, jgh, jgh, jgh, jgh, jgh, jgh, (100, [], (jenc (jlg 0))), (100, [], (jenc (jlg 1))), (100, [], (jenc (jlg 2))), (100, [], (jenc (jlg 3))), (100, [], (jenc (jlg 4))), (100, [], (jenc (jlg 5))), (100, [], (jenc (jlt e0 e1 e2 e3 e4 e5)))]) rfl rfl rfl ?_
                  refine jT_loc (L' := [(0, (4, 0))]) (by show List.Nodup [0]; decide) (by intro q hq; simp only [List.mem_cons, List.not_mem_nil, or_false] at hq; rcases hq with rfl <;> rfl) ?_
                  refine jT_drop 23 (hs0 := [jzP_1, (101, [], [e0, e1, e2, e3, e4, e5]), jgh, jgh, jgh, jgh, jgh, (130, [], [17, 18, 19, 20, 21, 22]), jgh, jgh, jgh, jgh, jgh, jgh, jgh, jgh, jgh, (100, [], (jenc (jlg 0))), (100, [], (jenc (jlg 1))), (100, [], (jenc (jlg 2))), (100, [], (jenc (jlg 3))), (100, [], (jenc (jlg 4))), (100, [], (jenc (jlg 5)))]) (ex := [(100, [], (jenc (jlt e0 e1 e2 e3 e4 e5)))]) rfl rfl rfl (by decide) ?_
                  exact jT_ret rfl (by decide) (by show 23 ≤ 23; decide) (by omega) (by omega) ⟨rfl, rfl, rfl⟩
            · refine jT_xaload_n (v := (4, 1)) (pc' := 1) jIP_213_0 rfl rfl rfl ?_
              refine jT_callA [1] (y := 200) (pc' := 4) (dC := 0) (bc1 := 0) (bc2 := 0) (c1 := 19) (c2 := 1064) (as := [(4, 1)]) (asC := [(4, 0)]) (L' := [(0, (4, 0)), (1, (4, 1))]) (st' := []) (hsC := [(101, [], [e0, e1, e2, e3, e4, e5])]) (ex := []) (v := (0, 0)) (st2 := [(0, 0)]) (hs2 := [jzP_1, (101, [], [e0, e1, e2, e3, e4, e5]), jgh, jgh, jgh, jgh, jgh, (130, [], [17, 18, 19, 20, 21, 22]), jgh, jgh, jgh, jgh, jgh, jgh, jgh, jgh, jgh, (100, [], (jenc (jlg 0))), (100, [], (jenc (jlg 1))), (100, [], (jenc (jlg 2))), (100, [], (jenc (jlg 3))), (100, [], (jenc (jlg 4))), (100, [], (jenc (jlg 5)))]) (jP_200_13 (d := 0) (by omega) (by omega) (by omega) (by omega) (by omega) (by omega) (by omega) (by omega) (by omega) (by omega) (by omega) (by omega)) (by rfl) (by rfl) (by rfl) (by rfl) ⟨rfl, trivial⟩ (by rfl) (by rfl) (by omega) (by show 23 ≤ 23; omega) (by omega) (by omega) rfl rfl ?_
              refine jT_xifT (pc' := 11) jIP_213_4 rfl (by decide +kernel) rfl ?_
              refine jT_xaload_n (v := (4, 0)) (pc' := 12) jIP_213_11 rfl rfl rfl ?_
              refine jT_xaload_n (v := (4, 1)) (pc' := 13) jIP_213_12 rfl rfl rfl ?_
              refine jT_callA [0, 1, 2, 3, 4, 5, 6, 7, 8, 9, 10, 11, 12, 13, 14, 15, 16, 17, 18, 19, 20, 21, 22] (y := 214) (pc' := 16) (dC := 2) (bc1 := 19) (bc2 := 1064) (c1 := 0) (c2 := 0) (as := [(4, 0), (4, 1)]) (asC := [(4, 0), (4, 1)]) (L' := [(0, (4, 0)), (1, (4, 1))]) (st' := []) (hsC := [jzP_1, (101, [], [e0, e1, e2, e3, e4, e5]), jgh, jgh, jgh, jgh, jgh, (130, [], [17, 18, 19, 20, 21, 22]), jgh, jgh, jgh, jgh, jgh, jgh, jgh, jgh, jgh, (100, [], (jenc (jlg 0))), (100, [], (jenc (jlg 1))), (100, [], (jenc (jlg 2))), (100, [], (jenc (jlg 3))), (100, [], (jenc (jlg 4))), (100, [], (jenc (jlg 5)))]) (ex := [(100, [], (jenc (jlt e0 e1 e2 e3 e4 e5)))]) (v := (4, 23)) (st2 := [(4, 23)]) (hs2 := [jzP_1, (101, [], [e0, e1, e2, e3, e4, e5]), jgh, jgh, jgh, jgh, jgh, (130, [], [17, 18, 19, 20, 21, 22]), jgh, jgh, jgh, jgh, jgh, jgh, jgh, jgh, jgh, (100, [], (jenc (jlg 0))), (100, [], (jenc (jlg 1))), (100, [], (jenc (jlg 2))), (100, [], (jenc (jlg 3))), (100, [], (jenc (jlg 4))), (100, [], (jenc (jlg 5))), (100, [], (jenc (jlt e0 e1 e2 e3 e4 e5)))]) (jPl_lg_3 (d := 0) (e0 := e0) (e1 := e1) (e2 := e2) (e3 := e3) (e4 := e4) (e5 := e5) (by omega) (by omega) (by omega) (by omega) (by omega) (by omega)) (by rfl) (by rfl) (by rfl) (by rfl) ⟨rfl, rfl, rfl, rfl, rfl, rfl, rfl, rfl, rfl, rfl, rfl, rfl, rfl, rfl, rfl, rfl, rfl, rfl, rfl, rfl, rfl, rfl, rfl, trivial⟩ (by rfl) (by rfl) (by omega) (by show 23 ≤ 23; omega) (by omega) (by omega) rfl rfl ?_
              refine jT_xiconst (k := 0) (pc' := 17) jIP_213_16 rfl ?_
              refine jT_iald (x := (jlt e0 e1 e2 e3 e4 e5).sign) (a := 23) (j := 0) (fs := []) (X := (jenc (jlt e0 e1 e2 e3 e4 e5))) (by rfl) (by rfl) (by rfl) (by rfl) (jenc_sg rfl) ?_
              refine jT_eq (L' := [(0, (4, 0)), (1, (4, 1))]) (st' := [(0, (jlt e0 e1 e2 e3 e4 e5).sign)]) (hs' := [jzP_1, (101, [], [e0, e1, e2, e3, e4, e5]), jgh, jgh, jgh, jgh, jgh, (130, [], [17, 18, 19, 20, 21, 22]), jgh, jgh, jgh, jgh, jgh, jgh, jgh, jgh, jgh, (100, [], (jenc (jlg 0))), (100, [], (jenc (jlg 1))), (100, [], (jenc (jlg 2))), (100, [], (jenc (jlg 3))), (100, [], (jenc (jlg 4))), (100, [], (jenc (jlg 5))), (100, [], (jenc (jlt e0 e1 e2 e3 e4 e5)))]) rfl rfl rfl ?_
              refine jT_loc (L' := [(0, (4, 0))]) (by show List.Nodup [0]; decide) (by intro q hq; simp only [List.mem_cons, List.not_mem_nil, or_false] at hq; rcases hq with rfl <;> rfl) ?_
              refine jT_drop 23 (hs0 := [jzP_1, (101, [], [e0, e1, e2, e3, e4, e5]), jgh, jgh, jgh, jgh, jgh, (130, [], [17, 18, 19, 20, 21, 22]), jgh, jgh, jgh, jgh, jgh, jgh, jgh, jgh, jgh, (100, [], (jenc (jlg 0))), (100, [], (jenc (jlg 1))), (100, [], (jenc (jlg 2))), (100, [], (jenc (jlg 3))), (100, [], (jenc (jlg 4))), (100, [], (jenc (jlg 5)))]) (ex := [(100, [], (jenc (jlt e0 e1 e2 e3 e4 e5)))]) rfl rfl rfl (by decide) ?_
              exact jT_ret rfl (by decide) (by show 23 ≤ 23; decide) (by omega) (by omega) ⟨rfl, rfl, rfl⟩
        · refine jT_xaload_n (v := (4, 1)) (pc' := 1) jIP_213_0 rfl rfl rfl ?_
          refine jT_callA [1] (y := 200) (pc' := 4) (dC := 0) (bc1 := 0) (bc2 := 0) (c1 := 19) (c2 := 1064) (as := [(4, 1)]) (asC := [(4, 0)]) (L' := [(0, (4, 0)), (1, (4, 1))]) (st' := []) (hsC := [(101, [], [e0, e1, e2, e3, e4, e5])]) (ex := []) (v := (0, 0)) (st2 := [(0, 0)]) (hs2 := [jzP_1, (101, [], [e0, e1, e2, e3, e4, e5]), jgh, jgh, jgh, jgh, jgh, (130, [], [17, 18, 19, 20, 21, 22]), jgh, jgh, jgh, jgh, jgh, jgh, jgh, jgh, jgh, (100, [], (jenc (jlg 0))), (100, [], (jenc (jlg 1))), (100, [], (jenc (jlg 2))), (100, [], (jenc (jlg 3))), (100, [], (jenc (jlg 4))), (100, [], (jenc (jlg 5)))]) (jP_200_14 (d := 0) (by omega) (by omega) (by omega) (by omega) (by omega) (by omega) (by omega) (by omega) (by omega) (by omega)) (by rfl) (by rfl) (by rfl) (by rfl) ⟨rfl, trivial⟩ (by rfl) (by rfl) (by omega) (by show 23 ≤ 23; omega) (by omega) (by omega) rfl rfl ?_
          refine jT_xifT (pc' := 11) jIP_213_4 rfl (by decide +kernel) rfl ?_
          refine jT_xaload_n (v := (4, 0)) (pc' := 12) jIP_213_11 rfl rfl rfl ?_
          refine jT_xaload_n (v := (4, 1)) (pc' := 13) jIP_213_12 rfl rfl rfl ?_
          refine jT_callA [0, 1, 2, 3, 4, 5, 6, 7, 8, 9, 10, 11, 12, 13, 14, 15, 16, 17, 18, 19, 20, 21, 22] (y := 214) (pc' := 16) (dC := 2) (bc1 := 19) (bc2 := 1064) (c1 := 0) (c2 := 0) (as := [(4, 0), (4, 1)]) (asC := [(4, 0), (4, 1)]) (L' := [(0, (4, 0)), (1, (4, 1))]) (st' := []) (hsC := [jzP_1, (101, [], [e0, e1, e2, e3, e4, e5]), jgh, jgh, jgh, jgh, jgh, (130, [], [17, 18, 19, 20, 21, 22]), jgh, jgh, jgh, jgh, jgh, jgh, jgh, jgh, jgh, (100, [], (jenc (jlg 0))), (100, [], (jenc (jlg 1))), (100, [], (jenc (jlg 2))), (100, [], (jenc (jlg 3))), (100, [], (jenc (jlg 4))), (100, [], (jenc (jlg 5)))]) (ex := [(100, [], (jenc (jlt e0 e1 e2 e3 e4 e5)))]) (v := (4, 23)) (st2 := [(4, 23)]) (hs2 := [jzP_1, (101, [], [e0, e1, e2, e3, e4, e5]), jgh, jgh, jgh, jgh, jgh, (130, [], [17, 18, 19, 20, 21, 22]), jgh, jgh, jgh, jgh, jgh, jgh, jgh, jgh, jgh, (100, [], (jenc (jlg 0))), (100, [], (jenc (jlg 1))), (100, [], (jenc (jlg 2))), (100, [], (jenc (jlg 3))), (100, [], (jenc (jlg 4))), (100, [], (jenc (jlg 5))), (100, [], (jenc (jlt e0 e1 e2 e3 e4 e5)))]) (jPl_lg_3 (d := 0) (e0 := e0) (e1 := e1) (e2 := e2) (e3 := e3) (e4 := e4) (e5 := e5) (by omega) (by omega) (by omega) (by omega) (by omega) (by omega)) (by rfl) (by rfl) (by rfl) (by rfl) ⟨rfl, rfl, rfl, rfl, rfl, rfl, rfl, rfl, rfl, rfl, rfl, rfl, rfl, rfl, rfl, rfl, rfl, rfl, rfl, rfl, rfl, rfl, rfl, trivial⟩ (by rfl) (by rfl) (by omega) (by show 23 ≤ 23; omega) (by omega) (by omega) rfl rfl ?_
          refine jT_xiconst (k := 0) (pc' := 17) jIP_213_16 rfl ?_
          refine jT_iald (x := (jlt e0 e1 e2 e3 e4 e5).sign) (a := 23) (j := 0) (fs := []) (X := (jenc (jlt e0 e1 e2 e3 e4 e5))) (by rfl) (by rfl) (by rfl) (by rfl) (jenc_sg rfl) ?_
          refine jT_eq (L' := [(0, (4, 0)), (1, (4, 1))]) (st' := [(0, (jlt e0 e1 e2 e3 e4 e5).sign)]) (hs' := [jzP_1, (101, [], [e0, e1, e2, e3, e4, e5]), jgh, jgh, jgh, jgh, jgh, (130, [], [17, 18, 19, 20, 21, 22]), jgh, jgh, jgh, jgh, jgh, jgh, jgh, jgh, jgh, (100, [], (jenc (jlg 0))), (100, [], (jenc (jlg 1))), (100, [], (jenc (jlg 2))), (100, [], (jenc (jlg 3))), (100, [], (jenc (jlg 4))), (100, [], (jenc (jlg 5))), (100, [], (jenc (jlt e0 e1 e2 e3 e4 e5)))]) rfl rfl rfl ?_
          refine jT_loc (L' := [(0, (4, 0))]) (by show List.Nodup [0]; decide) (by intro q hq; simp only [List.mem_cons, List.not_mem_nil, or_false] at hq; rcases hq with rfl <;> rfl) ?_
          refine jT_drop 23 (hs0 := [jzP_1, (101, [], [e0, e1, e2, e3, e4, e5]), jgh, jgh, jgh, jgh, jgh, (130, [], [17, 18, 19, 20, 21, 22]), jgh, jgh, jgh, jgh, jgh, jgh, jgh, jgh, jgh, (100, [], (jenc (jlg 0))), (100, [], (jenc (jlg 1))), (100, [], (jenc (jlg 2))), (100, [], (jenc (jlg 3))), (100, [], (jenc (jlg 4))), (100, [], (jenc (jlg 5)))]) (ex := [(100, [], (jenc (jlt e0 e1 e2 e3 e4 e5)))]) rfl rfl rfl (by decide) ?_
          exact jT_ret rfl (by decide) (by show 23 ≤ 23; decide) (by omega) (by omega) ⟨rfl, rfl, rfl⟩
    · refine jT_xaload_n (v := (4, 1)) (pc' := 1) jIP_213_0 rfl rfl rfl ?_
      refine jT_callA [1] (y := 200) (pc' := 4) (dC := 0) (bc1 := 0) (bc2 := 0) (c1 := 19) (c2 := 1064) (as := [(4, 1)]) (asC := [(4, 0)]) (L' := [(0, (4, 0)), (1, (4, 1))]) (st' := []) (hsC := [(101, [], [e0, e1, e2, e3, e4, e5])]) (ex := []) (v := (0, 0)) (st2 := [(0, 0)]) (hs2 := [jzP_1, (101, [], [e0, e1, e2, e3, e4, e5]), jgh, jgh, jgh, jgh, jgh, (130, [], [17, 18, 19, 20, 21, 22]), jgh, jgh, jgh, jgh, jgh, jgh, jgh, jgh, jgh, (100, [], (jenc (jlg 0))), (100, [], (jenc (jlg 1))), (100, [], (jenc (jlg 2))), (100, [], (jenc (jlg 3))), (100, [], (jenc (jlg 4))), (100, [], (jenc (jlg 5)))]) (jP_200_15 (d := 0) (by omega) (by omega) (by omega) (by omega) (by omega) (by omega) (by omega) (by omega)) (by rfl) (by rfl) (by rfl) (by rfl) ⟨rfl, trivial⟩ (by rfl) (by rfl) (by omega) (by show 23 ≤ 23; omega) (by omega) (by omega) rfl rfl ?_
      refine jT_xifT (pc' := 11) jIP_213_4 rfl (by decide +kernel) rfl ?_
      refine jT_xaload_n (v := (4, 0)) (pc' := 12) jIP_213_11 rfl rfl rfl ?_
      refine jT_xaload_n (v := (4, 1)) (pc' := 13) jIP_213_12 rfl rfl rfl ?_
      refine jT_callA [0, 1, 2, 3, 4, 5, 6, 7, 8, 9, 10, 11, 12, 13, 14, 15, 16, 17, 18, 19, 20, 21, 22] (y := 214) (pc' := 16) (dC := 2) (bc1 := 19) (bc2 := 1064) (c1 := 0) (c2 := 0) (as := [(4, 0), (4, 1)]) (asC := [(4, 0), (4, 1)]) (L' := [(0, (4, 0)), (1, (4, 1))]) (st' := []) (hsC := [jzP_1, (101, [], [e0, e1, e2, e3, e4, e5]), jgh, jgh, jgh, jgh, jgh, (130, [], [17, 18, 19, 20, 21, 22]), jgh, jgh, jgh, jgh, jgh, jgh, jgh, jgh, jgh, (100, [], (jenc (jlg 0))), (100, [], (jenc (jlg 1))), (100, [], (jenc (jlg 2))), (100, [], (jenc (jlg 3))), (100, [], (jenc (jlg 4))), (100, [], (jenc (jlg 5)))]) (ex := [(100, [], (jenc (jlt e0 e1 e2 e3 e4 e5)))]) (v := (4, 23)) (st2 := [(4, 23)]) (hs2 := [jzP_1, (101, [], [e0, e1, e2, e3, e4, e5]), jgh, jgh, jgh, jgh, jgh, (130, [], [17, 18, 19, 20, 21, 22]), jgh, jgh, jgh, jgh, jgh, jgh, jgh, jgh, jgh, (100, [], (jenc (jlg 0))), (100, [], (jenc (jlg 1))), (100, [], (jenc (jlg 2))), (100, [], (jenc (jlg 3))), (100, [], (jenc (jlg 4))), (100, [], (jenc (jlg 5))), (100, [], (jenc (jlt e0 e1 e2 e3 e4 e5)))]) (jPl_lg_3 (d := 0) (e0 := e0) (e1 := e1) (e2 := e2) (e3 := e3) (e4 := e4) (e5 := e5) (by omega) (by omega) (by omega) (by omega) (by omega) (by omega)) (by rfl) (by rfl) (by rfl) (by rfl) ⟨rfl, rfl, rfl, rfl, rfl, rfl, rfl, rfl, rfl, rfl, rfl, rfl, rfl, rfl, rfl, rfl, rfl, rfl, rfl, rfl, rfl, rfl, rfl, trivial⟩ (by rfl) (by rfl) (by omega) (by show 23 ≤ 23; omega) (by omega) (by omega) rfl rfl ?_
      refine jT_xiconst (k := 0) (pc' := 17) jIP_213_16 rfl ?_
      refine jT_iald (x := (jlt e0 e1 e2 e3 e4 e5).sign) (a := 23) (j := 0) (fs := []) (X := (jenc (jlt e0 e1 e2 e3 e4 e5))) (by rfl) (by rfl) (by rfl) (by rfl) (jenc_sg rfl) ?_
      refine jT_eq (L' := [(0, (4, 0)), (1, (4, 1))]) (st' := [(0, (jlt e0 e1 e2 e3 e4 e5).sign)]) (hs' := [jzP_1, (101, [], [e0, e1, e2, e3, e4, e5]), jgh, jgh, jgh, jgh, jgh, (130, [], [17, 18, 19, 20, 21, 22]), jgh, jgh, jgh, jgh, jgh, jgh, jgh, jgh, jgh, (100, [], (jenc (jlg 0))), (100, [], (jenc (jlg 1))), (100, [], (jenc (jlg 2))), (100, [], (jenc (jlg 3))), (100, [], (jenc (jlg 4))), (100, [], (jenc (jlg 5))), (100, [], (jenc (jlt e0 e1 e2 e3 e4 e5)))]) rfl rfl rfl ?_
      refine jT_loc (L' := [(0, (4, 0))]) (by show List.Nodup [0]; decide) (by intro q hq; simp only [List.mem_cons, List.not_mem_nil, or_false] at hq; rcases hq with rfl <;> rfl) ?_
      refine jT_drop 23 (hs0 := [jzP_1, (101, [], [e0, e1, e2, e3, e4, e5]), jgh, jgh, jgh, jgh, jgh, (130, [], [17, 18, 19, 20, 21, 22]), jgh, jgh, jgh, jgh, jgh, jgh, jgh, jgh, jgh, (100, [], (jenc (jlg 0))), (100, [], (jenc (jlg 1))), (100, [], (jenc (jlg 2))), (100, [], (jenc (jlg 3))), (100, [], (jenc (jlg 4))), (100, [], (jenc (jlg 5)))]) (ex := [(100, [], (jenc (jlt e0 e1 e2 e3 e4 e5)))]) rfl rfl rfl (by decide) ?_
      exact jT_ret rfl (by decide) (by show 23 ≤ 23; decide) (by omega) (by omega) ⟨rfl, rfl, rfl⟩
theorem jP_212_16 {xs : List Int} {d : Nat} {x1 x2 x3 : Int} (h_x1 : (-100) ≤ x1 ∧ x1 ≤ 100) (h_x2 : (-100) ≤ x2 ∧ x2 ≤ 100) (h_x3 : (-50) ≤ x3 ∧ x3 ≤ 50) : jT xs (d + 4) 212 23 0 [(0, (4, 0)), (1, (4, 1)), (2, (1, x3))] [] [jzP_1, (101, [], [x1, 0, 0, x2, 0, 0]), jgh, jgh, jgh, jgh, jgh, (130, [], [17, 18, 19, 20, 21, 22]), jgh, jgh, jgh, jgh, jgh, jgh, jgh, jgh, jgh, (100, [], (jenc (jlg 0))), (100, [], (jenc (jlg 1))), (100, [], (jenc (jlg 2))), (100, [], (jenc (jlg 3))), (100, [], (jenc (jlg 4))), (100, [], (jenc (jlg 5)))] 20 1070 (fun k v hs' => k = 0 ∧ v = (0, (jlt (x1 - x3) 0 0 x2 0 0).sign) ∧ hs' = [jzP_1, (101, [], [x1, 0, 0, x2, 0, 0]), jgh, jgh, jgh, jgh, jgh, (130, [], [17, 18, 19, 20, 21, 22]), jgh, jgh, jgh, jgh, jgh, jgh, jgh, jgh, jgh, (100, [], (jenc (jlg 0))), (100, [], (jenc (jlg 1))), (100, [], (jenc (jlg 2))), (100, [], (jenc (jlg 3))), (100, [], (jenc (jlg 4))), (100, [], (jenc (jlg 5)))] ++ []) := by
  refine jT_xbipush (k := 6) (pc' := 2) jIP_212_0 (by decide) rfl ?_
  refine jT_adv 1 (pc' := 4) (L' := [(0, (4, 0)), (1, (4, 1)), (2, (1, x3))]) (st' := [(4, 23)]) (hs' := [jzP_1, (101, [], [x1, 0, 0, x2, 0, 0]), jgh, jgh, jgh, jgh, jgh, (130, [], [17, 18, 19, 20, 21, 22]), jgh, jgh, jgh, jgh, jgh, jgh, jgh, jgh, jgh, (100, [], (jenc (jlg 0))), (100, [], (jenc (jlg 1))), (100, [], (jenc (jlg 2))), (100, [], (jenc (jlg 3))), (100, [], (jenc (jlg 4))), (100, [], (jenc (jlg 5))), (101, [], [0, 0, 0, 0, 0, 0])]) (c1 := 1) (s1 := 6) (c2 := 19) (s2 := 1064) (by exact rfl) ?_ (by omega) (by omega)
  refine jT_xastore (v := (4, 23)) (L' := [(4, (4, 23)), (0, (4, 0)), (1, (4, 1)), (2, (1, x3))]) (pc' := 6) jIP_212_4 rfl rfl rfl rfl ?_
  refine jT_xaload_n (v := (4, 1)) (pc' := 7) jIP_212_6 rfl rfl rfl ?_
  refine jT_xiconst (k := 0) (pc' := 8) jIP_212_7 rfl ?_
  refine jT_xaload (v := (4, 23)) (pc' := 10) jIP_212_8 rfl rfl rfl ?_
  refine jT_xiconst (k := 0) (pc' := 11) jIP_212_10 rfl ?_
  refine jT_xbipush (k := 6) (pc' := 13) jIP_212_11 (by decide) rfl ?_
  refine jT_adv 1 (pc' := 16) (L' := [(4, (4, 23)), (0, (4, 0)), (1, (4, 1)), (2, (1, x3))]) (st' := []) (hs' := [jzP_1, (101, [], [x1, 0, 0, x2, 0, 0]), jgh, jgh, jgh, jgh, jgh, (130, [], [17, 18, 19, 20, 21, 22]), jgh, jgh, jgh, jgh, jgh, jgh, jgh, jgh, jgh, (100, [], (jenc (jlg 0))), (100, [], (jenc (jlg 1))), (100, [], (jenc (jlg 2))), (100, [], (jenc (jlg 3))), (100, [], (jenc (jlg 4))), (100, [], (jenc (jlg 5))), (101, [], [x1, 0, 0, x2, 0, 0])]) (c1 := 0) (s1 := 0) (c2 := 19) (s2 := 1064) (by exact rfl) ?_ (by omega) (by omega)
  refine jT_xaload (v := (4, 23)) (pc' := 18) jIP_212_16 rfl rfl rfl ?_
  refine jT_xiconst (k := 0) (pc' := 19) jIP_212_18 rfl ?_
  refine jT_adv 1 (pc' := 20) (L' := [(4, (4, 23)), (0, (4, 0)), (1, (4, 1)), (2, (1, x3))]) (st' := [(0, 0), (4, 23), (0, 0), (4, 23)]) (hs' := [jzP_1, (101, [], [x1, 0, 0, x2, 0, 0]), jgh, jgh, jgh, jgh, jgh, (130, [], [17, 18, 19, 20, 21, 22]), jgh, jgh, jgh, jgh, jgh, jgh, jgh, jgh, jgh, (100, [], (jenc (jlg 0))), (100, [], (jenc (jlg 1))), (100, [], (jenc (jlg 2))), (100, [], (jenc (jlg 3))), (100, [], (jenc (jlg 4))), (100, [], (jenc (jlg 5))), (101, [], [x1, 0, 0, x2, 0, 0])]) (c1 := 0) (s1 := 0) (c2 := 19) (s2 := 1064) (by exact rfl) ?_ (by omega) (by omega)
  refine jT_lald (x := x1) (a := 23) (j := 0) (fs := []) (X := [x1, 0, 0, x2, 0, 0]) jIP_212_20 rfl rfl rfl rfl ?_
  refine jT_eq (L' := [(4, (4, 23)), (0, (4, 0)), (1, (4, 1)), (2, (1, x3))]) (st' := [(1, x1), (0, 0), (4, 23)]) (hs' := [jzP_1, (101, [], [x1, 0, 0, x2, 0, 0]), jgh, jgh, jgh, jgh, jgh, (130, [], [17, 18, 19, 20, 21, 22]), jgh, jgh, jgh, jgh, jgh, jgh, jgh, jgh, jgh, (100, [], (jenc (jlg 0))), (100, [], (jenc (jlg 1))), (100, [], (jenc (jlg 2))), (100, [], (jenc (jlg 3))), (100, [], (jenc (jlg 4))), (100, [], (jenc (jlg 5))), (101, [], [x1, 0, 0, x2, 0, 0])]) rfl rfl rfl ?_
  refine jT_xlload_n (v := (1, x3)) (pc' := 22) jIP_212_21 rfl rfl rfl ?_
  refine jT_xlsub (x := x1) (y := x3) (z := x1 - x3) (pc' := 23) jIP_212_22 rfl (rfl) rfl ?_
  refine jT_adv 1 (pc' := 24) (L' := [(4, (4, 23)), (0, (4, 0)), (1, (4, 1)), (2, (1, x3))]) (st' := []) (hs' := [jzP_1, (101, [], [x1, 0, 0, x2, 0, 0]), jgh, jgh, jgh, jgh, jgh, (130, [], [17, 18, 19, 20, 21, 22]), jgh, jgh, jgh, jgh, jgh, jgh, jgh, jgh, jgh, (100, [], (jenc (jlg 0))), (100, [], (jenc (jlg 1))), (100, [], (jenc (jlg 2))), (100, [], (jenc (jlg 3))), (100, [], (jenc (jlg 4))), (100, [], (jenc (jlg 5))), (101, [], [x1 - x3, 0, 0, x2, 0, 0])]) (c1 := 0) (s1 := 0) (c2 := 19) (s2 := 1064) (by exact rfl) ?_ (by omega) (by omega)
  refine jT_xaload_n (v := (4, 0)) (pc' := 25) jIP_212_24 rfl rfl rfl ?_
  refine jT_xaload (v := (4, 23)) (pc' := 27) jIP_212_25 rfl rfl rfl ?_
  refine jT_callA [0, 23, 2, 3, 4, 5, 6, 7, 8, 9, 10, 11, 12, 13, 14, 15, 16, 17, 18, 19, 20, 21, 22] (y := 213) (pc' := 30) (dC := 3) (bc1 := 19) (bc2 := 1064) (c1 := 0) (c2 := 0) (as := [(4, 0), (4, 23)]) (asC := [(4, 0), (4, 1)]) (L' := [(4, (4, 23)), (0, (4, 0)), (1, (4, 1)), (2, (1, x3))]) (st' := []) (hsC := [jzP_1, (101, [], [x1 - x3, 0, 0, x2, 0, 0]), jgh, jgh, jgh, jgh, jgh, (130, [], [17, 18, 19, 20, 21, 22]), jgh, jgh, jgh, jgh, jgh, jgh, jgh, jgh, jgh, (100, [], (jenc (jlg 0))), (100, [], (jenc (jlg 1))), (100, [], (jenc (jlg 2))), (100, [], (jenc (jlg 3))), (100, [], (jenc (jlg 4))), (100, [], (jenc (jlg 5)))]) (ex := []) (v := (0, (jlt (x1 - x3) 0 0 x2 0 0).sign)) (st2 := [(0, (jlt (x1 - x3) 0 0 x2 0 0).sign)]) (hs2 := [jzP_1, (101, [], [x1, 0, 0, x2, 0, 0]), jgh, jgh, jgh, jgh, jgh, (130, [], [17, 18, 19, 20, 21, 22]), jgh, jgh, jgh, jgh, jgh, jgh, jgh, jgh, jgh, (100, [], (jenc (jlg 0))), (100, [], (jenc (jlg 1))), (100, [], (jenc (jlg 2))), (100, [], (jenc (jlg 3))), (100, [], (jenc (jlg 4))), (100, [], (jenc (jlg 5))), (101, [], [x1 - x3, 0, 0, x2, 0, 0])]) (jPl_sg_1 (d := 0) (e0 := x1 - x3) (e1 := 0) (e2 := 0) (e3 := x2) (e4 := 0) (e5 := 0) (by omega) (by omega) (by omega) (by omega) (by omega) (by omega)) (by rfl) (by rfl) (by rfl) (by rfl) ⟨rfl, rfl, rfl, rfl, rfl, rfl, rfl, rfl, rfl, rfl, rfl, rfl, rfl, rfl, rfl, rfl, rfl, rfl, rfl, rfl, rfl, rfl, rfl, trivial⟩ (by rfl) (by rfl) (by omega) (by show 23 ≤ 24; omega) (by omega) (by omega) rfl rfl ?_
  have hb_q1 := jsgn_b (jlt (x1 - x3) 0 0 x2 0 0)
  generalize hq_q1 : (jlt (x1 - x3) 0 0 x2 0 0).sign = q1 at hb_q1 ⊢
  refine jT_loc (L' := [(0, (4, 0))]) (by show List.Nodup [0]; decide) (by intro q hq; simp only [List.mem_cons, List.not_mem_nil, or_false] at hq; rcases hq with rfl <;> rfl) ?_
  refine jT_drop 23 (hs0 := [jzP_1, (101, [], [x1, 0, 0, x2, 0, 0]), jgh, jgh, jgh, jgh, jgh, (130, [], [17, 18, 19, 20, 21, 22]), jgh, jgh, jgh, jgh, jgh, jgh, jgh, jgh, jgh, (100, [], (jenc (jlg 0))), (100, [], (jenc (jlg 1))), (100, [], (jenc (jlg 2))), (100, [], (jenc (jlg 3))), (100, [], (jenc (jlg 4))), (100, [], (jenc (jlg 5)))]) (ex := [(101, [], [x1 - x3, 0, 0, x2, 0, 0])]) rfl rfl rfl (by decide) ?_
  subst hq_q1
  exact jT_ret rfl (by decide) (by show 23 ≤ 23; omega) (by omega) (by omega) ⟨rfl, rfl, rfl⟩
