/-! the law, case by case: 48 -/
theorem jIE_79_0 : jmI (jm 79) 0 = (.iconst 0, 1) := by rfl
theorem jIE_79_1 : jmI (jm 79) 1 = (.istore_n 3, 1) := by rfl
theorem jIE_79_2 : jmI (jm 79) 2 = (.iconst 0, 1) := by rfl
theorem jIE_79_3 : jmI (jm 79) 3 = (.istore 4, 2) := by rfl
def jzE_4 : JC := (11, [(4, 1), (4, 2), (0, 0), (0, 0), (0, 0), (0, 0)], [])
theorem jIE_79_5 : jmI (jm 79) 5 = (.iload 4, 2) := by rfl
theorem jIE_79_7 : jmI (jm 79) 7 = (.bipush 64, 2) := by rfl
theorem jIE_79_9 : jmI (jm 79) 9 = (.if_icmp .ge 30, 3) := by rfl
theorem jEl_ct_1_8 {xs : List Int} {d b1 b2 : Nat} {Q : Nat → JV → List JC → Prop} {v w m : Int} (h_v : (-9223372036854775808) ≤ v ∧ v ≤ 9223372036854775807) (h_m : 0 ≤ m ∧ m ≤ 8) (hm : m + (0) = w) (h : jT xs d 79 3 39 [(4, (0, 64)), (3, (0, w)), (0, (4, 0)), (1, (1, v))] [] [jzE_4, (100, [], (List.replicate 120 0)), jgh] b1 b2 Q) : jT xs d 79 3 5 [(4, (0, 64)), (3, (0, m)), (0, (4, 0)), (1, (1, v))] [] [jzE_4, (100, [], (List.replicate 120 0)), jgh] b1 b2 Q := by
  have e : m = w := by omega
  subst e
  refine jT_xiload (v := (0, 64)) (pcN := 7) jIE_79_5 rfl rfl rfl ?_
  refine jT_xbipush (k := 64) (pcN := 9) jIE_79_7 (by decide) rfl ?_
  refine jT_xicT (pcN := 39) jIE_79_9 rfl (by decide +kernel) rfl ?_
  exact h
theorem jIE_79_12 : jmI (jm 79) 12 = (.iload_n 3, 1) := by rfl
theorem jIE_79_13 : jmI (jm 79) 13 = (.lload_n 1, 1) := by rfl
theorem jIE_79_14 : jmI (jm 79) 14 = (.iload 4, 2) := by rfl
theorem jIE_79_21 : jmI (jm 79) 21 = (.lconst 0, 1) := by rfl
theorem jIE_79_23 : jmI (jm 79) 23 = (.ifCond .eq 7, 3) := by rfl
theorem jIE_79_26 : jmI (jm 79) 26 = (.iconst 1, 1) := by rfl
theorem jIE_79_27 : jmI (jm 79) 27 = (.goto 4, 3) := by rfl
theorem jIE_79_31 : jmI (jm 79) 31 = (.iadd, 1) := by rfl
theorem jIE_79_32 : jmI (jm 79) 32 = (.istore_n 3, 1) := by rfl
theorem jIE_79_33 : jmI (jm 79) 33 = (.iinc 4 8, 3) := by rfl
theorem jIE_79_36 : jmI (jm 79) 36 = (.goto (-31), 3) := by rfl
theorem jIE_79_30 : jmI (jm 79) 30 = (.iconst 0, 1) := by rfl
theorem jEl_ct_1_7 {xs : List Int} {d b1 b2 : Nat} {Q : Nat → JV → List JC → Prop} {v w m : Int} (h_v : (-9223372036854775808) ≤ v ∧ v ≤ 9223372036854775807) (h_m : 0 ≤ m ∧ m ≤ 7) (hm : m + (jb1 (v / 72057594037927936 % 256)) = w) (h : jT xs d 79 3 39 [(4, (0, 64)), (3, (0, w)), (0, (4, 0)), (1, (1, v))] [] [jzE_4, (100, [], (List.replicate 120 0)), jgh] b1 b2 Q) : jT xs d 79 3 5 [(4, (0, 56)), (3, (0, m)), (0, (4, 0)), (1, (1, v))] [] [jzE_4, (100, [], (List.replicate 120 0)), jgh] b1 b2 Q := by
  rcases (show (0 ≤ ((v / 72057594037927936) % 256) - 1) ∨ (((v / 72057594037927936) % 256) - 1 < 0) by omega) with g_0 | g_0
  · refine jT_xiload (v := (0, 56)) (pcN := 7) jIE_79_5 rfl rfl rfl ?_
    refine jT_xbipush (k := 64) (pcN := 9) jIE_79_7 (by decide) rfl ?_
    refine jT_xicF (t := 39) (pcN := 12) jIE_79_9 rfl (by decide +kernel) rfl rfl ?_
    refine jT_xiload_n (v := (0, m)) (pcN := 13) jIE_79_12 rfl rfl rfl ?_
    refine jT_xlload_n (v := (1, v)) (pcN := 14) jIE_79_13 rfl rfl rfl ?_
    refine jT_xiload (v := (0, 56)) (pcN := 16) jIE_79_14 rfl rfl rfl ?_
    refine jT_lshr (x := v) (y := 56) (z := v / 72057594037927936) (by rfl) (by rfl) (jshr_56 (by omega) (by omega)) ?_
    have hb_q1 : (-128) ≤ v / 72057594037927936 ∧ v / 72057594037927936 ≤ 127 := ⟨by omega, by omega⟩
    generalize hq_q1 : v / 72057594037927936 = q1 at hb_q1 g_0 ⊢
    refine jT_adv 1 (pcN := 20) (LN := [(4, (0, 56)), (3, (0, m)), (0, (4, 0)), (1, (1, v))]) (stN := [(1, 255), (1, q1), (0, m)]) (hsN := [jzE_4, (100, [], (List.replicate 120 0)), jgh]) (c1 := 0) (s1 := 0) (c2 := b1) (s2 := b2) (by exact rfl) ?_ (by omega) (by omega)
    refine jT_land (x := q1) (y := 255) (z := q1 % 256) (by rfl) (by rfl) (jland_255 _) ?_
    have hb_q2 : 0 ≤ q1 % 256 ∧ q1 % 256 ≤ 255 := ⟨by omega, by omega⟩
    generalize hq_q2 : q1 % 256 = q2 at hb_q2 g_0 ⊢
    refine jT_xlconst (z := 0) (pcN := 22) jIE_79_21 rfl rfl ?_
    refine jT_lcmp (a := q2) (b := 0) (z := 1) (by rfl) (by rfl) (jwl_idd (by omega) (by omega)) (jwl_idd (by omega) (by omega)) (by rw [decide_eq_true (show (0 : Int) < q2 by omega)]; rfl) ?_
    refine jT_xifF (t := 30) (pcN := 26) jIE_79_23 rfl (by decide +kernel) rfl rfl ?_
    refine jT_xiconst (k := 1) (pcN := 27) jIE_79_26 rfl ?_
    refine jT_xgoto (pcN := 31) jIE_79_27 rfl ?_
    refine jT_xiadd (x := m) (y := 1) (z := m + 1) (pcN := 32) jIE_79_31 rfl (rfl) rfl ?_
    refine jT_xistore_n (v := (0, m + 1)) (LN := [(3, (0, m + 1)), (4, (0, 56)), (0, (4, 0)), (1, (1, v))]) (pcN := 33) jIE_79_32 rfl rfl rfl rfl ?_
    refine jT_xiinc (x := 56) (z := 64) (LN := [(4, (0, 64)), (3, (0, m + 1)), (0, (4, 0)), (1, (1, v))]) (pcN := 36) jIE_79_33 rfl rfl (by decide) rfl rfl ?_
    refine jT_xgoto (pcN := 5) jIE_79_36 rfl ?_
    refine jT_loc (LN := [(4, (0, 64)), (3, (0, m + 1)), (0, (4, 0)), (1, (1, v))]) (by show List.Nodup [4, 3, 0, 1]; decide) (by intro q hq; simp only [List.mem_cons, List.not_mem_nil, or_false] at hq; rcases hq with rfl | rfl | rfl | rfl <;> rfl) ?_
    exact jEl_ct_1_8 h_v ⟨by omega, by omega⟩ (by have := jb1_1 (b := v / 72057594037927936 % 256) (by omega); omega) h
  · refine jT_xiload (v := (0, 56)) (pcN := 7) jIE_79_5 rfl rfl rfl ?_
    refine jT_xbipush (k := 64) (pcN := 9) jIE_79_7 (by decide) rfl ?_
    refine jT_xicF (t := 39) (pcN := 12) jIE_79_9 rfl (by decide +kernel) rfl rfl ?_
    refine jT_xiload_n (v := (0, m)) (pcN := 13) jIE_79_12 rfl rfl rfl ?_
    refine jT_xlload_n (v := (1, v)) (pcN := 14) jIE_79_13 rfl rfl rfl ?_
    refine jT_xiload (v := (0, 56)) (pcN := 16) jIE_79_14 rfl rfl rfl ?_
    refine jT_lshr (x := v) (y := 56) (z := v / 72057594037927936) (by rfl) (by rfl) (jshr_56 (by omega) (by omega)) ?_
    have hb_q1 : (-128) ≤ v / 72057594037927936 ∧ v / 72057594037927936 ≤ 127 := ⟨by omega, by omega⟩
    generalize hq_q1 : v / 72057594037927936 = q1 at hb_q1 g_0 ⊢
    refine jT_adv 1 (pcN := 20) (LN := [(4, (0, 56)), (3, (0, m)), (0, (4, 0)), (1, (1, v))]) (stN := [(1, 255), (1, q1), (0, m)]) (hsN := [jzE_4, (100, [], (List.replicate 120 0)), jgh]) (c1 := 0) (s1 := 0) (c2 := b1) (s2 := b2) (by exact rfl) ?_ (by omega) (by omega)
    refine jT_land (x := q1) (y := 255) (z := q1 % 256) (by rfl) (by rfl) (jland_255 _) ?_
    have hb_q2 : 0 ≤ q1 % 256 ∧ q1 % 256 ≤ 255 := ⟨by omega, by omega⟩
    generalize hq_q2 : q1 % 256 = q2 at hb_q2 g_0 ⊢
    refine jT_xlconst (z := 0) (pcN := 22) jIE_79_21 rfl rfl ?_
    refine jT_lcmp (a := q2) (b := 0) (z := 0) (by rfl) (by rfl) (jwl_idd (by omega) (by omega)) (jwl_idd (by omega) (by omega)) (by rw [decide_eq_false (show ¬ ((0 : Int) < q2) by omega), decide_eq_true (show (q2 : Int) = 0 by omega)]; rfl) ?_
    refine jT_xifT (pcN := 30) jIE_79_23 rfl (by decide +kernel) rfl ?_
    refine jT_xiconst (k := 0) (pcN := 31) jIE_79_30 rfl ?_
    refine jT_xiadd (x := m) (y := 0) (z := m) (pcN := 32) jIE_79_31 rfl (by omega) rfl ?_
    refine jT_xistore_n (v := (0, m)) (LN := [(3, (0, m)), (4, (0, 56)), (0, (4, 0)), (1, (1, v))]) (pcN := 33) jIE_79_32 rfl rfl rfl rfl ?_
    refine jT_xiinc (x := 56) (z := 64) (LN := [(4, (0, 64)), (3, (0, m)), (0, (4, 0)), (1, (1, v))]) (pcN := 36) jIE_79_33 rfl rfl (by decide) rfl rfl ?_
    refine jT_xgoto (pcN := 5) jIE_79_36 rfl ?_
    refine jT_loc (LN := [(4, (0, 64)), (3, (0, m)), (0, (4, 0)), (1, (1, v))]) (by show List.Nodup [4, 3, 0, 1]; decide) (by intro q hq; simp only [List.mem_cons, List.not_mem_nil, or_false] at hq; rcases hq with rfl | rfl | rfl | rfl <;> rfl) ?_
    exact jEl_ct_1_8 h_v ⟨by omega, by omega⟩ (by have := jb1_0 (b := v / 72057594037927936 % 256) (by omega); omega) h
theorem jEl_ct_1_6 {xs : List Int} {d b1 b2 : Nat} {Q : Nat → JV → List JC → Prop} {v w m : Int} (h_v : (-9223372036854775808) ≤ v ∧ v ≤ 9223372036854775807) (h_m : 0 ≤ m ∧ m ≤ 6) (hm : m + (jb1 (v / 281474976710656 % 256) + (jb1 (v / 72057594037927936 % 256))) = w) (h : jT xs d 79 3 39 [(4, (0, 64)), (3, (0, w)), (0, (4, 0)), (1, (1, v))] [] [jzE_4, (100, [], (List.replicate 120 0)), jgh] b1 b2 Q) : jT xs d 79 3 5 [(4, (0, 48)), (3, (0, m)), (0, (4, 0)), (1, (1, v))] [] [jzE_4, (100, [], (List.replicate 120 0)), jgh] b1 b2 Q := by
  rcases (show (0 ≤ ((v / 281474976710656) % 256) - 1) ∨ (((v / 281474976710656) % 256) - 1 < 0) by omega) with g_0 | g_0
  · refine jT_xiload (v := (0, 48)) (pcN := 7) jIE_79_5 rfl rfl rfl ?_
    refine jT_xbipush (k := 64) (pcN := 9) jIE_79_7 (by decide) rfl ?_
    refine jT_xicF (t := 39) (pcN := 12) jIE_79_9 rfl (by decide +kernel) rfl rfl ?_
    refine jT_xiload_n (v := (0, m)) (pcN := 13) jIE_79_12 rfl rfl rfl ?_
    refine jT_xlload_n (v := (1, v)) (pcN := 14) jIE_79_13 rfl rfl rfl ?_
    refine jT_xiload (v := (0, 48)) (pcN := 16) jIE_79_14 rfl rfl rfl ?_
    refine jT_lshr (x := v) (y := 48) (z := v / 281474976710656) (by rfl) (by rfl) (jshr_48 (by omega) (by omega)) ?_
    have hb_q1 : (-32768) ≤ v / 281474976710656 ∧ v / 281474976710656 ≤ 32767 := ⟨by omega, by omega⟩
    generalize hq_q1 : v / 281474976710656 = q1 at hb_q1 g_0 ⊢
    refine jT_adv 1 (pcN := 20) (LN := [(4, (0, 48)), (3, (0, m)), (0, (4, 0)), (1, (1, v))]) (stN := [(1, 255), (1, q1), (0, m)]) (hsN := [jzE_4, (100, [], (List.replicate 120 0)), jgh]) (c1 := 0) (s1 := 0) (c2 := b1) (s2 := b2) (by exact rfl) ?_ (by omega) (by omega)
    refine jT_land (x := q1) (y := 255) (z := q1 % 256) (by rfl) (by rfl) (jland_255 _) ?_
    have hb_q2 : 0 ≤ q1 % 256 ∧ q1 % 256 ≤ 255 := ⟨by omega, by omega⟩
    generalize hq_q2 : q1 % 256 = q2 at hb_q2 g_0 ⊢
    refine jT_xlconst (z := 0) (pcN := 22) jIE_79_21 rfl rfl ?_
    refine jT_lcmp (a := q2) (b := 0) (z := 1) (by rfl) (by rfl) (jwl_idd (by omega) (by omega)) (jwl_idd (by omega) (by omega)) (by rw [decide_eq_true (show (0 : Int) < q2 by omega)]; rfl) ?_
    refine jT_xifF (t := 30) (pcN := 26) jIE_79_23 rfl (by decide +kernel) rfl rfl ?_
    refine jT_xiconst (k := 1) (pcN := 27) jIE_79_26 rfl ?_
    refine jT_xgoto (pcN := 31) jIE_79_27 rfl ?_
    refine jT_xiadd (x := m) (y := 1) (z := m + 1) (pcN := 32) jIE_79_31 rfl (rfl) rfl ?_
    refine jT_xistore_n (v := (0, m + 1)) (LN := [(3, (0, m + 1)), (4, (0, 48)), (0, (4, 0)), (1, (1, v))]) (pcN := 33) jIE_79_32 rfl rfl rfl rfl ?_
    refine jT_xiinc (x := 48) (z := 56) (LN := [(4, (0, 56)), (3, (0, m + 1)), (0, (4, 0)), (1, (1, v))]) (pcN := 36) jIE_79_33 rfl rfl (by decide) rfl rfl ?_
    refine jT_xgoto (pcN := 5) jIE_79_36 rfl ?_
    refine jT_loc (LN := [(4, (0, 56)), (3, (0, m + 1)), (0, (4, 0)), (1, (1, v))]) (by show List.Nodup [4, 3, 0, 1]; decide) (by intro q hq; simp only [List.mem_cons, List.not_mem_nil, or_false] at hq; rcases hq with rfl | rfl | rfl | rfl <;> rfl) ?_
    exact jEl_ct_1_7 h_v ⟨by omega, by omega⟩ (by have := jb1_1 (b := v / 281474976710656 % 256) (by omega); omega) h
  · refine jT_xiload (v := (0, 48)) (pcN := 7) jIE_79_5 rfl rfl rfl ?_
    refine jT_xbipush (k := 64) (pcN := 9) jIE_79_7 (by decide) rfl ?_
    refine jT_xicF (t := 39) (pcN := 12) jIE_79_9 rfl (by decide +kernel) rfl rfl ?_
    refine jT_xiload_n (v := (0, m)) (pcN := 13) jIE_79_12 rfl rfl rfl ?_
    refine jT_xlload_n (v := (1, v)) (pcN := 14) jIE_79_13 rfl rfl rfl ?_
    refine jT_xiload (v := (0, 48)) (pcN := 16) jIE_79_14 rfl rfl rfl ?_
    refine jT_lshr (x := v) (y := 48) (z := v / 281474976710656) (by rfl) (by rfl) (jshr_48 (by omega) (by omega)) ?_
    have hb_q1 : (-32768) ≤ v / 281474976710656 ∧ v / 281474976710656 ≤ 32767 := ⟨by omega, by omega⟩
    generalize hq_q1 : v / 281474976710656 = q1 at hb_q1 g_0 ⊢
    refine jT_adv 1 (pcN := 20) (LN := [(4, (0, 48)), (3, (0, m)), (0, (4, 0)), (1, (1, v))]) (stN := [(1, 255), (1, q1), (0, m)]) (hsN := [jzE_4, (100, [], (List.replicate 120 0)), jgh]) (c1 := 0) (s1 := 0) (c2 := b1) (s2 := b2) (by exact rfl) ?_ (by omega) (by omega)
    refine jT_land (x := q1) (y := 255) (z := q1 % 256) (by rfl) (by rfl) (jland_255 _) ?_
    have hb_q2 : 0 ≤ q1 % 256 ∧ q1 % 256 ≤ 255 := ⟨by omega, by omega⟩
    generalize hq_q2 : q1 % 256 = q2 at hb_q2 g_0 ⊢
    refine jT_xlconst (z := 0) (pcN := 22) jIE_79_21 rfl rfl ?_
    refine jT_lcmp (a := q2) (b := 0) (z := 0) (by rfl) (by rfl) (jwl_idd (by omega) (by omega)) (jwl_idd (by omega) (by omega)) (by rw [decide_eq_false (show ¬ ((0 : Int) < q2) by omega), decide_eq_true (show (q2 : Int) = 0 by omega)]; rfl) ?_
    refine jT_xifT (pcN := 30) jIE_79_23 rfl (by decide +kernel) rfl ?_
    refine jT_xiconst (k := 0) (pcN := 31) jIE_79_30 rfl ?_
    refine jT_xiadd (x := m) (y := 0) (z := m) (pcN := 32) jIE_79_31 rfl (by omega) rfl ?_
    refine jT_xistore_n (v := (0, m)) (LN := [(3, (0, m)), (4, (0, 48)), (0, (4, 0)), (1, (1, v))]) (pcN := 33) jIE_79_32 rfl rfl rfl rfl ?_
    refine jT_xiinc (x := 48) (z := 56) (LN := [(4, (0, 56)), (3, (0, m)), (0, (4, 0)), (1, (1, v))]) (pcN := 36) jIE_79_33 rfl rfl (by decide) rfl rfl ?_
    refine jT_xgoto (pcN := 5) jIE_79_36 rfl ?_
    refine jT_loc (LN := [(4, (0, 56)), (3, (0, m)), (0, (4, 0)), (1, (1, v))]) (by show List.Nodup [4, 3, 0, 1]; decide) (by intro q hq; simp only [List.mem_cons, List.not_mem_nil, or_false] at hq; rcases hq with rfl | rfl | rfl | rfl <;> rfl) ?_
    exact jEl_ct_1_7 h_v ⟨by omega, by omega⟩ (by have := jb1_0 (b := v / 281474976710656 % 256) (by omega); omega) h
theorem jEl_ct_1_5 {xs : List Int} {d b1 b2 : Nat} {Q : Nat → JV → List JC → Prop} {v w m : Int} (h_v : (-9223372036854775808) ≤ v ∧ v ≤ 9223372036854775807) (h_m : 0 ≤ m ∧ m ≤ 5) (hm : m + (jb1 (v / 1099511627776 % 256) + (jb1 (v / 281474976710656 % 256) + (jb1 (v / 72057594037927936 % 256)))) = w) (h : jT xs d 79 3 39 [(4, (0, 64)), (3, (0, w)), (0, (4, 0)), (1, (1, v))] [] [jzE_4, (100, [], (List.replicate 120 0)), jgh] b1 b2 Q) : jT xs d 79 3 5 [(4, (0, 40)), (3, (0, m)), (0, (4, 0)), (1, (1, v))] [] [jzE_4, (100, [], (List.replicate 120 0)), jgh] b1 b2 Q := by
  rcases (show (0 ≤ ((v / 1099511627776) % 256) - 1) ∨ (((v / 1099511627776) % 256) - 1 < 0) by omega) with g_0 | g_0
  · refine jT_xiload (v := (0, 40)) (pcN := 7) jIE_79_5 rfl rfl rfl ?_
    refine jT_xbipush (k := 64) (pcN := 9) jIE_79_7 (by decide) rfl ?_
    refine jT_xicF (t := 39) (pcN := 12) jIE_79_9 rfl (by decide +kernel) rfl rfl ?_
    refine jT_xiload_n (v := (0, m)) (pcN := 13) jIE_79_12 rfl rfl rfl ?_
    refine jT_xlload_n (v := (1, v)) (pcN := 14) jIE_79_13 rfl rfl rfl ?_
    refine jT_xiload (v := (0, 40)) (pcN := 16) jIE_79_14 rfl rfl rfl ?_
    refine jT_lshr (x := v) (y := 40) (z := v / 1099511627776) (by rfl) (by rfl) (jshr_40 (by omega) (by omega)) ?_
    have hb_q1 : (-8388608) ≤ v / 1099511627776 ∧ v / 1099511627776 ≤ 8388607 := ⟨by omega, by omega⟩
    generalize hq_q1 : v / 1099511627776 = q1 at hb_q1 g_0 ⊢
    refine jT_adv 1 (pcN := 20) (LN := [(4, (0, 40)), (3, (0, m)), (0, (4, 0)), (1, (1, v))]) (stN := [(1, 255), (1, q1), (0, m)]) (hsN := [jzE_4, (100, [], (List.replicate 120 0)), jgh]) (c1 := 0) (s1 := 0) (c2 := b1) (s2 := b2) (by exact rfl) ?_ (by omega) (by omega)
    refine jT_land (x := q1) (y := 255) (z := q1 % 256) (by rfl) (by rfl) (jland_255 _) ?_
    have hb_q2 : 0 ≤ q1 % 256 ∧ q1 % 256 ≤ 255 := ⟨by omega, by omega⟩
    generalize hq_q2 : q1 % 256 = q2 at hb_q2 g_0 ⊢
    refine jT_xlconst (z := 0) (pcN := 22) jIE_79_21 rfl rfl ?_
    refine jT_lcmp (a := q2) (b := 0) (z := 1) (by rfl) (by rfl) (jwl_idd (by omega) (by omega)) (jwl_idd (by omega) (by omega)) (by rw [decide_eq_true (show (0 : Int) < q2 by omega)]; rfl) ?_
    refine jT_xifF (t := 30) (pcN := 26) jIE_79_23 rfl (by decide +kernel) rfl rfl ?_
    refine jT_xiconst (k := 1) (pcN := 27) jIE_79_26 rfl ?_
    refine jT_xgoto (pcN := 31) jIE_79_27 rfl ?_
    refine jT_xiadd (x := m) (y := 1) (z := m + 1) (pcN := 32) jIE_79_31 rfl (rfl) rfl ?_
    refine jT_xistore_n (v := (0, m + 1)) (LN := [(3, (0, m + 1)), (4, (0, 40)), (0, (4, 0)), (1, (1, v))]) (pcN := 33) jIE_79_32 rfl rfl rfl rfl ?_
    refine jT_xiinc (x := 40) (z := 48) (LN := [(4, (0, 48)), (3, (0, m + 1)), (0, (4, 0)), (1, (1, v))]) (pcN := 36) jIE_79_33 rfl rfl (by decide) rfl rfl ?_
    refine jT_xgoto (pcN := 5) jIE_79_36 rfl ?_
    refine jT_loc (LN := [(4, (0, 48)), (3, (0, m + 1)), (0, (4, 0)), (1, (1, v))]) (by show List.Nodup [4, 3, 0, 1]; decide) (by intro q hq; simp only [List.mem_cons, List.not_mem_nil, or_false] at hq; rcases hq with rfl | rfl | rfl | rfl <;> rfl) ?_
    exact jEl_ct_1_6 h_v ⟨by omega, by omega⟩ (by have := jb1_1 (b := v / 1099511627776 % 256) (by omega); omega) h
  · refine jT_xiload (v := (0, 40)) (pcN := 7) jIE_79_5 rfl rfl rfl ?_
    refine jT_xbipush (k := 64) (pcN := 9) jIE_79_7 (by decide) rfl ?_
    refine jT_xicF (t := 39) (pcN := 12) jIE_79_9 rfl (by decide +kernel) rfl rfl ?_
    refine jT_xiload_n (v := (0, m)) (pcN := 13) jIE_79_12 rfl rfl rfl ?_
    refine jT_xlload_n (v := (1, v)) (pcN := 14) jIE_79_13 rfl rfl rfl ?_
    refine jT_xiload (v := (0, 40)) (pcN := 16) jIE_79_14 rfl rfl rfl ?_
    refine jT_lshr (x := v) (y := 40) (z := v / 1099511627776) (by rfl) (by rfl) (jshr_40 (by omega) (by omega)) ?_
    have hb_q1 : (-8388608) ≤ v / 1099511627776 ∧ v / 1099511627776 ≤ 8388607 := ⟨by omega, by omega⟩
    generalize hq_q1 : v / 1099511627776 = q1 at hb_q1 g_0 ⊢
    refine jT_adv 1 (pcN := 20) (LN := [(4, (0, 40)), (3, (0, m)), (0, (4, 0)), (1, (1, v))]) (stN := [(1, 255), (1, q1), (0, m)]) (hsN := [jzE_4, (100, [], (List.replicate 120 0)), jgh]) (c1 := 0) (s1 := 0) (c2 := b1) (s2 := b2) (by exact rfl) ?_ (by omega) (by omega)
    refine jT_land (x := q1) (y := 255) (z := q1 % 256) (by rfl) (by rfl) (jland_255 _) ?_
    have hb_q2 : 0 ≤ q1 % 256 ∧ q1 % 256 ≤ 255 := ⟨by omega, by omega⟩
    generalize hq_q2 : q1 % 256 = q2 at hb_q2 g_0 ⊢
    refine jT_xlconst (z := 0) (pcN := 22) jIE_79_21 rfl rfl ?_
    refine jT_lcmp (a := q2) (b := 0) (z := 0) (by rfl) (by rfl) (jwl_idd (by omega) (by omega)) (jwl_idd (by omega) (by omega)) (by rw [decide_eq_false (show ¬ ((0 : Int) < q2) by omega), decide_eq_true (show (q2 : Int) = 0 by omega)]; rfl) ?_
    refine jT_xifT (pcN := 30) jIE_79_23 rfl (by decide +kernel) rfl ?_
    refine jT_xiconst (k := 0) (pcN := 31) jIE_79_30 rfl ?_
    refine jT_xiadd (x := m) (y := 0) (z := m) (pcN := 32) jIE_79_31 rfl (by omega) rfl ?_
    refine jT_xistore_n (v := (0, m)) (LN := [(3, (0, m)), (4, (0, 40)), (0, (4, 0)), (1, (1, v))]) (pcN := 33) jIE_79_32 rfl rfl rfl rfl ?_
    refine jT_xiinc (x := 40) (z := 48) (LN := [(4, (0, 48)), (3, (0, m)), (0, (4, 0)), (1, (1, v))]) (pcN := 36) jIE_79_33 rfl rfl (by decide) rfl rfl ?_
    refine jT_xgoto (pcN := 5) jIE_79_36 rfl ?_
    refine jT_loc (LN := [(4, (0, 48)), (3, (0, m)), (0, (4, 0)), (1, (1, v))]) (by show List.Nodup [4, 3, 0, 1]; decide) (by intro q hq; simp only [List.mem_cons, List.not_mem_nil, or_false] at hq; rcases hq with rfl | rfl | rfl | rfl <;> rfl) ?_
    exact jEl_ct_1_6 h_v ⟨by omega, by omega⟩ (by have := jb1_0 (b := v / 1099511627776 % 256) (by omega); omega) h
theorem jEl_ct_1_4 {xs : List Int} {d b1 b2 : Nat} {Q : Nat → JV → List JC → Prop} {v w m : Int} (h_v : (-9223372036854775808) ≤ v ∧ v ≤ 9223372036854775807) (h_m : 0 ≤ m ∧ m ≤ 4) (hm : m + (jb1 (v / 4294967296 % 256) + (jb1 (v / 1099511627776 % 256) + (jb1 (v / 281474976710656 % 256) + (jb1 (v / 72057594037927936 % 256))))) = w) (h : jT xs d 79 3 39 [(4, (0, 64)), (3, (0, w)), (0, (4, 0)), (1, (1, v))] [] [jzE_4, (100, [], (List.replicate 120 0)), jgh] b1 b2 Q) : jT xs d 79 3 5 [(4, (0, 32)), (3, (0, m)), (0, (4, 0)), (1, (1, v))] [] [jzE_4, (100, [], (List.replicate 120 0)), jgh] b1 b2 Q := by
  rcases (show (0 ≤ ((v / 4294967296) % 256) - 1) ∨ (((v / 4294967296) % 256) - 1 < 0) by omega) with g_0 | g_0
  · refine jT_xiload (v := (0, 32)) (pcN := 7) jIE_79_5 rfl rfl rfl ?_
    refine jT_xbipush (k := 64) (pcN := 9) jIE_79_7 (by decide) rfl ?_
    refine jT_xicF (t := 39) (pcN := 12) jIE_79_9 rfl (by decide +kernel) rfl rfl ?_
    refine jT_xiload_n (v := (0, m)) (pcN := 13) jIE_79_12 rfl rfl rfl ?_
    refine jT_xlload_n (v := (1, v)) (pcN := 14) jIE_79_13 rfl rfl rfl ?_
    refine jT_xiload (v := (0, 32)) (pcN := 16) jIE_79_14 rfl rfl rfl ?_
    refine jT_lshr (x := v) (y := 32) (z := v / 4294967296) (by rfl) (by rfl) (jshr_32 (by omega) (by omega)) ?_
    have hb_q1 : (-2147483648) ≤ v / 4294967296 ∧ v / 4294967296 ≤ 2147483647 := ⟨by omega, by omega⟩
    generalize hq_q1 : v / 4294967296 = q1 at hb_q1 g_0 ⊢
    refine jT_adv 1 (pcN := 20) (LN := [(4, (0, 32)), (3, (0, m)), (0, (4, 0)), (1, (1, v))]) (stN := [(1, 255), (1, q1), (0, m)]) (hsN := [jzE_4, (100, [], (List.replicate 120 0)), jgh]) (c1 := 0) (s1 := 0) (c2 := b1) (s2 := b2) (by exact rfl) ?_ (by omega) (by omega)
    refine jT_land (x := q1) (y := 255) (z := q1 % 256) (by rfl) (by rfl) (jland_255 _) ?_
    have hb_q2 : 0 ≤ q1 % 256 ∧ q1 % 256 ≤ 255 := ⟨by omega, by omega⟩
    generalize hq_q2 : q1 % 256 = q2 at hb_q2 g_0 ⊢
    refine jT_xlconst (z := 0) (pcN := 22) jIE_79_21 rfl rfl ?_
    refine jT_lcmp (a := q2) (b := 0) (z := 1) (by rfl) (by rfl) (jwl_idd (by omega) (by omega)) (jwl_idd (by omega) (by omega)) (by rw [decide_eq_true (show (0 : Int) < q2 by omega)]; rfl) ?_
    refine jT_xifF (t := 30) (pcN := 26) jIE_79_23 rfl (by decide +kernel) rfl rfl ?_
    refine jT_xiconst (k := 1) (pcN := 27) jIE_79_26 rfl ?_
    refine jT_xgoto (pcN := 31) jIE_79_27 rfl ?_
    refine jT_xiadd (x := m) (y := 1) (z := m + 1) (pcN := 32) jIE_79_31 rfl (rfl) rfl ?_
    refine jT_xistore_n (v := (0, m + 1)) (LN := [(3, (0, m + 1)), (4, (0, 32)), (0, (4, 0)), (1, (1, v))]) (pcN := 33) jIE_79_32 rfl rfl rfl rfl ?_
    refine jT_xiinc (x := 32) (z := 40) (LN := [(4, (0, 40)), (3, (0, m + 1)), (0, (4, 0)), (1, (1, v))]) (pcN := 36) jIE_79_33 rfl rfl (by decide) rfl rfl ?_
    refine jT_xgoto (pcN := 5) jIE_79_36 rfl ?_
    refine jT_loc (LN := [(4, (0, 40)), (3, (0, m + 1)), (0, (4, 0)), (1, (1, v))]) (by show List.Nodup [4, 3, 0, 1]; decide) (by intro q hq; simp only [List.mem_cons, List.not_mem_nil, or_false] at hq; rcases hq with rfl | rfl | rfl | rfl <;> rfl) ?_
    exact jEl_ct_1_5 h_v ⟨by omega, by omega⟩ (by have := jb1_1 (b := v / 4294967296 % 256) (by omega); omega) h
  · refine jT_xiload (v := (0, 32)) (pcN := 7) jIE_79_5 rfl rfl rfl ?_
    refine jT_xbipush (k := 64) (pcN := 9) jIE_79_7 (by decide) rfl ?_
    refine jT_xicF (t := 39) (pcN := 12) jIE_79_9 rfl (by decide +kernel) rfl rfl ?_
    refine jT_xiload_n (v := (0, m)) (pcN := 13) jIE_79_12 rfl rfl rfl ?_
    refine jT_xlload_n (v := (1, v)) (pcN := 14) jIE_79_13 rfl rfl rfl ?_
    refine jT_xiload (v := (0, 32)) (pcN := 16) jIE_79_14 rfl rfl rfl ?_
    refine jT_lshr (x := v) (y := 32) (z := v / 4294967296) (by rfl) (by rfl) (jshr_32 (by omega) (by omega)) ?_
    have hb_q1 : (-2147483648) ≤ v / 4294967296 ∧ v / 4294967296 ≤ 2147483647 := ⟨by omega, by omega⟩
    generalize hq_q1 : v / 4294967296 = q1 at hb_q1 g_0 ⊢
    refine jT_adv 1 (pcN := 20) (LN := [(4, (0, 32)), (3, (0, m)), (0, (4, 0)), (1, (1, v))]) (stN := [(1, 255), (1, q1), (0, m)]) (hsN := [jzE_4, (100, [], (List.replicate 120 0)), jgh]) (c1 := 0) (s1 := 0) (c2 := b1) (s2 := b2) (by exact rfl) ?_ (by omega) (by omega)
    refine jT_land (x := q1) (y := 255) (z := q1 % 256) (by rfl) (by rfl) (jland_255 _) ?_
    have hb_q2 : 0 ≤ q1 % 256 ∧ q1 % 256 ≤ 255 := ⟨by omega, by omega⟩
    generalize hq_q2 : q1 % 256 = q2 at hb_q2 g_0 ⊢
    refine jT_xlconst (z := 0) (pcN := 22) jIE_79_21 rfl rfl ?_
    refine jT_lcmp (a := q2) (b := 0) (z := 0) (by rfl) (by rfl) (jwl_idd (by omega) (by omega)) (jwl_idd (by omega) (by omega)) (by rw [decide_eq_false (show ¬ ((0 : Int) < q2) by omega), decide_eq_true (show (q2 : Int) = 0 by omega)]; rfl) ?_
    refine jT_xifT (pcN := 30) jIE_79_23 rfl (by decide +kernel) rfl ?_
    refine jT_xiconst (k := 0) (pcN := 31) jIE_79_30 rfl ?_
    refine jT_xiadd (x := m) (y := 0) (z := m) (pcN := 32) jIE_79_31 rfl (by omega) rfl ?_
    refine jT_xistore_n (v := (0, m)) (LN := [(3, (0, m)), (4, (0, 32)), (0, (4, 0)), (1, (1, v))]) (pcN := 33) jIE_79_32 rfl rfl rfl rfl ?_
    refine jT_xiinc (x := 32) (z := 40) (LN := [(4, (0, 40)), (3, (0, m)), (0, (4, 0)), (1, (1, v))]) (pcN := 36) jIE_79_33 rfl rfl (by decide) rfl rfl ?_
    refine jT_xgoto (pcN := 5) jIE_79_36 rfl ?_
    refine jT_loc (LN := [(4, (0, 40)), (3, (0, m)), (0, (4, 0)), (1, (1, v))]) (by show List.Nodup [4, 3, 0, 1]; decide) (by intro q hq; simp only [List.mem_cons, List.not_mem_nil, or_false] at hq; rcases hq with rfl | rfl | rfl | rfl <;> rfl) ?_
    exact jEl_ct_1_5 h_v ⟨by omega, by omega⟩ (by have := jb1_0 (b := v / 4294967296 % 256) (by omega); omega) h
theorem jEl_ct_1_3 {xs : List Int} {d b1 b2 : Nat} {Q : Nat → JV → List JC → Prop} {v w m : Int} (h_v : (-9223372036854775808) ≤ v ∧ v ≤ 9223372036854775807) (h_m : 0 ≤ m ∧ m ≤ 3) (hm : m + (jb1 (v / 16777216 % 256) + (jb1 (v / 4294967296 % 256) + (jb1 (v / 1099511627776 % 256) + (jb1 (v / 281474976710656 % 256) + (jb1 (v / 72057594037927936 % 256)))))) = w) (h : jT xs d 79 3 39 [(4, (0, 64)), (3, (0, w)), (0, (4, 0)), (1, (1, v))] [] [jzE_4, (100, [], (List.replicate 120 0)), jgh] b1 b2 Q) : jT xs d 79 3 5 [(4, (0, 24)), (3, (0, m)), (0, (4, 0)), (1, (1, v))] [] [jzE_4, (100, [], (List.replicate 120 0)), jgh] b1 b2 Q := by
  rcases (show (0 ≤ ((v / 16777216) % 256) - 1) ∨ (((v / 16777216) % 256) - 1 < 0) by omega) with g_0 | g_0
  · refine jT_xiload (v := (0, 24)) (pcN := 7) jIE_79_5 rfl rfl rfl ?_
    refine jT_xbipush (k := 64) (pcN := 9) jIE_79_7 (by decide) rfl ?_
    refine jT_xicF (t := 39) (pcN := 12) jIE_79_9 rfl (by decide +kernel) rfl rfl ?_
    refine jT_xiload_n (v := (0, m)) (pcN := 13) jIE_79_12 rfl rfl rfl ?_
    refine jT_xlload_n (v := (1, v)) (pcN := 14) jIE_79_13 rfl rfl rfl ?_
    refine jT_xiload (v := (0, 24)) (pcN := 16) jIE_79_14 rfl rfl rfl ?_
    refine jT_lshr (x := v) (y := 24) (z := v / 16777216) (by rfl) (by rfl) (jshr_24 (by omega) (by omega)) ?_
    have hb_q1 : (-549755813888) ≤ v / 16777216 ∧ v / 16777216 ≤ 549755813887 := ⟨by omega, by omega⟩
    generalize hq_q1 : v / 16777216 = q1 at hb_q1 g_0 ⊢
    refine jT_adv 1 (pcN := 20) (LN := [(4, (0, 24)), (3, (0, m)), (0, (4, 0)), (1, (1, v))]) (stN := [(1, 255), (1, q1), (0, m)]) (hsN := [jzE_4, (100, [], (List.replicate 120 0)), jgh]) (c1 := 0) (s1 := 0) (c2 := b1) (s2 := b2) (by exact rfl) ?_ (by omega) (by omega)
    refine jT_land (x := q1) (y := 255) (z := q1 % 256) (by rfl) (by rfl) (jland_255 _) ?_
    have hb_q2 : 0 ≤ q1 % 256 ∧ q1 % 256 ≤ 255 := ⟨by omega, by omega⟩
    generalize hq_q2 : q1 % 256 = q2 at hb_q2 g_0 ⊢
    refine jT_xlconst (z := 0) (pcN := 22) jIE_79_21 rfl rfl ?_
    refine jT_lcmp (a := q2) (b := 0) (z := 1) (by rfl) (by rfl) (jwl_idd (by omega) (by omega)) (jwl_idd (by omega) (by omega)) (by rw [decide_eq_true (show (0 : Int) < q2 by omega)]; rfl) ?_
    refine jT_xifF (t := 30) (pcN := 26) jIE_79_23 rfl (by decide +kernel) rfl rfl ?_
    refine jT_xiconst (k := 1) (pcN := 27) jIE_79_26 rfl ?_
    refine jT_xgoto (pcN := 31) jIE_79_27 rfl ?_
    refine jT_xiadd (x := m) (y := 1) (z := m + 1) (pcN := 32) jIE_79_31 rfl (rfl) rfl ?_
    refine jT_xistore_n (v := (0, m + 1)) (LN := [(3, (0, m + 1)), (4, (0, 24)), (0, (4, 0)), (1, (1, v))]) (pcN := 33) jIE_79_32 rfl rfl rfl rfl ?_
    refine jT_xiinc (x := 24) (z := 32) (LN := [(4, (0, 32)), (3, (0, m + 1)), (0, (4, 0)), (1, (1, v))]) (pcN := 36) jIE_79_33 rfl rfl (by decide) rfl rfl ?_
    refine jT_xgoto (pcN := 5) jIE_79_36 rfl ?_
    refine jT_loc (LN := [(4, (0, 32)), (3, (0, m + 1)), (0, (4, 0)), (1, (1, v))]) (by show List.Nodup [4, 3, 0, 1]; decide) (by intro q hq; simp only [List.mem_cons, List.not_mem_nil, or_false] at hq; rcases hq with rfl | rfl | rfl | rfl <;> rfl) ?_
    exact jEl_ct_1_4 h_v ⟨by omega, by omega⟩ (by have := jb1_1 (b := v / 16777216 % 256) (by omega); omega) h
  · refine jT_xiload (v := (0, 24)) (pcN := 7) jIE_79_5 rfl rfl rfl ?_
    refine jT_xbipush (k := 64) (pcN := 9) jIE_79_7 (by decide) rfl ?_
    refine jT_xicF (t := 39) (pcN := 12) jIE_79_9 rfl (by decide +kernel) rfl rfl ?_
    refine jT_xiload_n (v := (0, m)) (pcN := 13) jIE_79_12 rfl rfl rfl ?_
    refine jT_xlload_n (v := (1, v)) (pcN := 14) jIE_79_13 rfl rfl rfl ?_
    refine jT_xiload (v := (0, 24)) (pcN := 16) jIE_79_14 rfl rfl rfl ?_
    refine jT_lshr (x := v) (y := 24) (z := v / 16777216) (by rfl) (by rfl) (jshr_24 (by omega) (by omega)) ?_
    have hb_q1 : (-549755813888) ≤ v / 16777216 ∧ v / 16777216 ≤ 549755813887 := ⟨by omega, by omega⟩
    generalize hq_q1 : v / 16777216 = q1 at hb_q1 g_0 ⊢
    refine jT_adv 1 (pcN := 20) (LN := [(4, (0, 24)), (3, (0, m)), (0, (4, 0)), (1, (1, v))]) (stN := [(1, 255), (1, q1), (0, m)]) (hsN := [jzE_4, (100, [], (List.replicate 120 0)), jgh]) (c1 := 0) (s1 := 0) (c2 := b1) (s2 := b2) (by exact rfl) ?_ (by omega) (by omega)
    refine jT_land (x := q1) (y := 255) (z := q1 % 256) (by rfl) (by rfl) (jland_255 _) ?_
    have hb_q2 : 0 ≤ q1 % 256 ∧ q1 % 256 ≤ 255 := ⟨by omega, by omega⟩
    generalize hq_q2 : q1 % 256 = q2 at hb_q2 g_0 ⊢
    refine jT_xlconst (z := 0) (pcN := 22) jIE_79_21 rfl rfl ?_
    refine jT_lcmp (a := q2) (b := 0) (z := 0) (by rfl) (by rfl) (jwl_idd (by omega) (by omega)) (jwl_idd (by omega) (by omega)) (by rw [decide_eq_false (show ¬ ((0 : Int) < q2) by omega), decide_eq_true (show (q2 : Int) = 0 by omega)]; rfl) ?_
    refine jT_xifT (pcN := 30) jIE_79_23 rfl (by decide +kernel) rfl ?_
    refine jT_xiconst (k := 0) (pcN := 31) jIE_79_30 rfl ?_
    refine jT_xiadd (x := m) (y := 0) (z := m) (pcN := 32) jIE_79_31 rfl (by omega) rfl ?_
    refine jT_xistore_n (v := (0, m)) (LN := [(3, (0, m)), (4, (0, 24)), (0, (4, 0)), (1, (1, v))]) (pcN := 33) jIE_79_32 rfl rfl rfl rfl ?_
    refine jT_xiinc (x := 24) (z := 32) (LN := [(4, (0, 32)), (3, (0, m)), (0, (4, 0)), (1, (1, v))]) (pcN := 36) jIE_79_33 rfl rfl (by decide) rfl rfl ?_
    refine jT_xgoto (pcN := 5) jIE_79_36 rfl ?_
    refine jT_loc (LN := [(4, (0, 32)), (3, (0, m)), (0, (4, 0)), (1, (1, v))]) (by show List.Nodup [4, 3, 0, 1]; decide) (by intro q hq; simp only [List.mem_cons, List.not_mem_nil, or_false] at hq; rcases hq with rfl | rfl | rfl | rfl <;> rfl) ?_
    exact jEl_ct_1_4 h_v ⟨by omega, by omega⟩ (by have := jb1_0 (b := v / 16777216 % 256) (by omega); omega) h
theorem jEl_ct_1_2 {xs : List Int} {d b1 b2 : Nat} {Q : Nat → JV → List JC → Prop} {v w m : Int} (h_v : (-9223372036854775808) ≤ v ∧ v ≤ 9223372036854775807) (h_m : 0 ≤ m ∧ m ≤ 2) (hm : m + (jb1 (v / 65536 % 256) + (jb1 (v / 16777216 % 256) + (jb1 (v / 4294967296 % 256) + (jb1 (v / 1099511627776 % 256) + (jb1 (v / 281474976710656 % 256) + (jb1 (v / 72057594037927936 % 256))))))) = w) (h : jT xs d 79 3 39 [(4, (0, 64)), (3, (0, w)), (0, (4, 0)), (1, (1, v))] [] [jzE_4, (100, [], (List.replicate 120 0)), jgh] b1 b2 Q) : jT xs d 79 3 5 [(4, (0, 16)), (3, (0, m)), (0, (4, 0)), (1, (1, v))] [] [jzE_4, (100, [], (List.replicate 120 0)), jgh] b1 b2 Q := by
  rcases (show (0 ≤ ((v / 65536) % 256) - 1) ∨ (((v / 65536) % 256) - 1 < 0) by omega) with g_0 | g_0
  · refine jT_xiload (v := (0, 16)) (pcN := 7) jIE_79_5 rfl rfl rfl ?_
    refine jT_xbipush (k := 64) (pcN := 9) jIE_79_7 (by decide) rfl ?_
    refine jT_xicF (t := 39) (pcN := 12) jIE_79_9 rfl (by decide +kernel) rfl rfl ?_
    refine jT_xiload_n (v := (0, m)) (pcN := 13) jIE_79_12 rfl rfl rfl ?_
    refine jT_xlload_n (v := (1, v)) (pcN := 14) jIE_79_13 rfl rfl rfl ?_
    refine jT_xiload (v := (0, 16)) (pcN := 16) jIE_79_14 rfl rfl rfl ?_
    refine jT_lshr (x := v) (y := 16) (z := v / 65536) (by rfl) (by rfl) (jshr_16 (by omega) (by omega)) ?_
    have hb_q1 : (-140737488355328) ≤ v / 65536 ∧ v / 65536 ≤ 140737488355327 := ⟨by omega, by omega⟩
    generalize hq_q1 : v / 65536 = q1 at hb_q1 g_0 ⊢
    refine jT_adv 1 (pcN := 20) (LN := [(4, (0, 16)), (3, (0, m)), (0, (4, 0)), (1, (1, v))]) (stN := [(1, 255), (1, q1), (0, m)]) (hsN := [jzE_4, (100, [], (List.replicate 120 0)), jgh]) (c1 := 0) (s1 := 0) (c2 := b1) (s2 := b2) (by exact rfl) ?_ (by omega) (by omega)
    refine jT_land (x := q1) (y := 255) (z := q1 % 256) (by rfl) (by rfl) (jland_255 _) ?_
    have hb_q2 : 0 ≤ q1 % 256 ∧ q1 % 256 ≤ 255 := ⟨by omega, by omega⟩
    generalize hq_q2 : q1 % 256 = q2 at hb_q2 g_0 ⊢
    refine jT_xlconst (z := 0) (pcN := 22) jIE_79_21 rfl rfl ?_
    refine jT_lcmp (a := q2) (b := 0) (z := 1) (by rfl) (by rfl) (jwl_idd (by omega) (by omega)) (jwl_idd (by omega) (by omega)) (by rw [decide_eq_true (show (0 : Int) < q2 by omega)]; rfl) ?_
    refine jT_xifF (t := 30) (pcN := 26) jIE_79_23 rfl (by decide +kernel) rfl rfl ?_
    refine jT_xiconst (k := 1) (pcN := 27) jIE_79_26 rfl ?_
    refine jT_xgoto (pcN := 31) jIE_79_27 rfl ?_
    refine jT_xiadd (x := m) (y := 1) (z := m + 1) (pcN := 32) jIE_79_31 rfl (rfl) rfl ?_
    refine jT_xistore_n (v := (0, m + 1)) (LN := [(3, (0, m + 1)), (4, (0, 16)), (0, (4, 0)), (1, (1, v))]) (pcN := 33) jIE_79_32 rfl rfl rfl rfl ?_
    refine jT_xiinc (x := 16) (z := 24) (LN := [(4, (0, 24)), (3, (0, m + 1)), (0, (4, 0)), (1, (1, v))]) (pcN := 36) jIE_79_33 rfl rfl (by decide) rfl rfl ?_
    refine jT_xgoto (pcN := 5) jIE_79_36 rfl ?_
    refine jT_loc (LN := [(4, (0, 24)), (3, (0, m + 1)), (0, (4, 0)), (1, (1, v))]) (by show List.Nodup [4, 3, 0, 1]; decide) (by intro q hq; simp only [List.mem_cons, List.not_mem_nil, or_false] at hq; rcases hq with rfl | rfl | rfl | rfl <;> rfl) ?_
    exact jEl_ct_1_3 h_v ⟨by omega, by omega⟩ (by have := jb1_1 (b := v / 65536 % 256) (by omega); omega) h
  · refine jT_xiload (v := (0, 16)) (pcN := 7) jIE_79_5 rfl rfl rfl ?_
    refine jT_xbipush (k := 64) (pcN := 9) jIE_79_7 (by decide) rfl ?_
    refine jT_xicF (t := 39) (pcN := 12) jIE_79_9 rfl (by decide +kernel) rfl rfl ?_
    refine jT_xiload_n (v := (0, m)) (pcN := 13) jIE_79_12 rfl rfl rfl ?_
    refine jT_xlload_n (v := (1, v)) (pcN := 14) jIE_79_13 rfl rfl rfl ?_
    refine jT_xiload (v := (0, 16)) (pcN := 16) jIE_79_14 rfl rfl rfl ?_
    refine jT_lshr (x := v) (y := 16) (z := v / 65536) (by rfl) (by rfl) (jshr_16 (by omega) (by omega)) ?_
    have hb_q1 : (-140737488355328) ≤ v / 65536 ∧ v / 65536 ≤ 140737488355327 := ⟨by omega, by omega⟩
    generalize hq_q1 : v / 65536 = q1 at hb_q1 g_0 ⊢
    refine jT_adv 1 (pcN := 20) (LN := [(4, (0, 16)), (3, (0, m)), (0, (4, 0)), (1, (1, v))]) (stN := [(1, 255), (1, q1), (0, m)]) (hsN := [jzE_4, (100, [], (List.replicate 120 0)), jgh]) (c1 := 0) (s1 := 0) (c2 := b1) (s2 := b2) (by exact rfl) ?_ (by omega) (by omega)
    refine jT_land (x := q1) (y := 255) (z := q1 % 256) (by rfl) (by rfl) (jland_255 _) ?_
    have hb_q2 : 0 ≤ q1 % 256 ∧ q1 % 256 ≤ 255 := ⟨by omega, by omega⟩
    generalize hq_q2 : q1 % 256 = q2 at hb_q2 g_0 ⊢
    refine jT_xlconst (z := 0) (pcN := 22) jIE_79_21 rfl rfl ?_
    refine jT_lcmp (a := q2) (b := 0) (z := 0) (by rfl) (by rfl) (jwl_idd (by omega) (by omega)) (jwl_idd (by omega) (by omega)) (by rw [decide_eq_false (show ¬ ((0 : Int) < q2) by omega), decide_eq_true (show (q2 : Int) = 0 by omega)]; rfl) ?_
    refine jT_xifT (pcN := 30) jIE_79_23 rfl (by decide +kernel) rfl ?_
    refine jT_xiconst (k := 0) (pcN := 31) jIE_79_30 rfl ?_
    refine jT_xiadd (x := m) (y := 0) (z := m) (pcN := 32) jIE_79_31 rfl (by omega) rfl ?_
    refine jT_xistore_n (v := (0, m)) (LN := [(3, (0, m)), (4, (0, 16)), (0, (4, 0)), (1, (1, v))]) (pcN := 33) jIE_79_32 rfl rfl rfl rfl ?_
    refine jT_xiinc (x := 16) (z := 24) (LN := [(4, (0, 24)), (3, (0, m)), (0, (4, 0)), (1, (1, v))]) (pcN := 36) jIE_79_33 rfl rfl (by decide) rfl rfl ?_
    refine jT_xgoto (pcN := 5) jIE_79_36 rfl ?_
    refine jT_loc (LN := [(4, (0, 24)), (3, (0, m)), (0, (4, 0)), (1, (1, v))]) (by show List.Nodup [4, 3, 0, 1]; decide) (by intro q hq; simp only [List.mem_cons, List.not_mem_nil, or_false] at hq; rcases hq with rfl | rfl | rfl | rfl <;> rfl) ?_
    exact jEl_ct_1_3 h_v ⟨by omega, by omega⟩ (by have := jb1_0 (b := v / 65536 % 256) (by omega); omega) h
theorem jEl_ct_1_1 {xs : List Int} {d b1 b2 : Nat} {Q : Nat → JV → List JC → Prop} {v w m : Int} (h_v : (-9223372036854775808) ≤ v ∧ v ≤ 9223372036854775807) (h_m : 0 ≤ m ∧ m ≤ 1) (hm : m + (jb1 (v / 256 % 256) + (jb1 (v / 65536 % 256) + (jb1 (v / 16777216 % 256) + (jb1 (v / 4294967296 % 256) + (jb1 (v / 1099511627776 % 256) + (jb1 (v / 281474976710656 % 256) + (jb1 (v / 72057594037927936 % 256)))))))) = w) (h : jT xs d 79 3 39 [(4, (0, 64)), (3, (0, w)), (0, (4, 0)), (1, (1, v))] [] [jzE_4, (100, [], (List.replicate 120 0)), jgh] b1 b2 Q) : jT xs d 79 3 5 [(4, (0, 8)), (3, (0, m)), (0, (4, 0)), (1, (1, v))] [] [jzE_4, (100, [], (List.replicate 120 0)), jgh] b1 b2 Q := by
  rcases (show (0 ≤ ((v / 256) % 256) - 1) ∨ (((v / 256) % 256) - 1 < 0) by omega) with g_0 | g_0
  · refine jT_xiload (v := (0, 8)) (pcN := 7) jIE_79_5 rfl rfl rfl ?_
    refine jT_xbipush (k := 64) (pcN := 9) jIE_79_7 (by decide) rfl ?_
    refine jT_xicF (t := 39) (pcN := 12) jIE_79_9 rfl (by decide +kernel) rfl rfl ?_
    refine jT_xiload_n (v := (0, m)) (pcN := 13) jIE_79_12 rfl rfl rfl ?_
    refine jT_xlload_n (v := (1, v)) (pcN := 14) jIE_79_13 rfl rfl rfl ?_
    refine jT_xiload (v := (0, 8)) (pcN := 16) jIE_79_14 rfl rfl rfl ?_
    refine jT_lshr (x := v) (y := 8) (z := v / 256) (by rfl) (by rfl) (jshr_8 (by omega) (by omega)) ?_
    have hb_q1 : (-36028797018963968) ≤ v / 256 ∧ v / 256 ≤ 36028797018963967 := ⟨by omega, by omega⟩
    generalize hq_q1 : v / 256 = q1 at hb_q1 g_0 ⊢
    refine jT_adv 1 (pcN := 20) (LN := [(4, (0, 8)), (3, (0, m)), (0, (4, 0)), (1, (1, v))]) (stN := [(1, 255), (1, q1), (0, m)]) (hsN := [jzE_4, (100, [], (List.replicate 120 0)), jgh]) (c1 := 0) (s1 := 0) (c2 := b1) (s2 := b2) (by exact rfl) ?_ (by omega) (by omega)
    refine jT_land (x := q1) (y := 255) (z := q1 % 256) (by rfl) (by rfl) (jland_255 _) ?_
    have hb_q2 : 0 ≤ q1 % 256 ∧ q1 % 256 ≤ 255 := ⟨by omega, by omega⟩
    generalize hq_q2 : q1 % 256 = q2 at hb_q2 g_0 ⊢
    refine jT_xlconst (z := 0) (pcN := 22) jIE_79_21 rfl rfl ?_
    refine jT_lcmp (a := q2) (b := 0) (z := 1) (by rfl) (by rfl) (jwl_idd (by omega) (by omega)) (jwl_idd (by omega) (by omega)) (by rw [decide_eq_true (show (0 : Int) < q2 by omega)]; rfl) ?_
    refine jT_xifF (t := 30) (pcN := 26) jIE_79_23 rfl (by decide +kernel) rfl rfl ?_
    refine jT_xiconst (k := 1) (pcN := 27) jIE_79_26 rfl ?_
    refine jT_xgoto (pcN := 31) jIE_79_27 rfl ?_
    refine jT_xiadd (x := m) (y := 1) (z := m + 1) (pcN := 32) jIE_79_31 rfl (rfl) rfl ?_
    refine jT_xistore_n (v := (0, m + 1)) (LN := [(3, (0, m + 1)), (4, (0, 8)), (0, (4, 0)), (1, (1, v))]) (pcN := 33) jIE_79_32 rfl rfl rfl rfl ?_
    refine jT_xiinc (x := 8) (z := 16) (LN := [(4, (0, 16)), (3, (0, m + 1)), (0, (4, 0)), (1, (1, v))]) (pcN := 36) jIE_79_33 rfl rfl (by decide) rfl rfl ?_
    refine jT_xgoto (pcN := 5) jIE_79_36 rfl ?_
    refine jT_loc (LN := [(4, (0, 16)), (3, (0, m + 1)), (0, (4, 0)), (1, (1, v))]) (by show List.Nodup [4, 3, 0, 1]; decide) (by intro q hq; simp only [List.mem_cons, List.not_mem_nil, or_false] at hq; rcases hq with rfl | rfl | rfl | rfl <;> rfl) ?_
    exact jEl_ct_1_2 h_v ⟨by omega, by omega⟩ (by have := jb1_1 (b := v / 256 % 256) (by omega); omega) h
  · refine jT_xiload (v := (0, 8)) (pcN := 7) jIE_79_5 rfl rfl rfl ?_
    refine jT_xbipush (k := 64) (pcN := 9) jIE_79_7 (by decide) rfl ?_
    refine jT_xicF (t := 39) (pcN := 12) jIE_79_9 rfl (by decide +kernel) rfl rfl ?_
    refine jT_xiload_n (v := (0, m)) (pcN := 13) jIE_79_12 rfl rfl rfl ?_
    refine jT_xlload_n (v := (1, v)) (pcN := 14) jIE_79_13 rfl rfl rfl ?_
    refine jT_xiload (v := (0, 8)) (pcN := 16) jIE_79_14 rfl rfl rfl ?_
    refine jT_lshr (x := v) (y := 8) (z := v / 256) (by rfl) (by rfl) (jshr_8 (by omega) (by omega)) ?_
    have hb_q1 : (-36028797018963968) ≤ v / 256 ∧ v / 256 ≤ 36028797018963967 := ⟨by omega, by omega⟩
    generalize hq_q1 : v / 256 = q1 at hb_q1 g_0 ⊢
    refine jT_adv 1 (pcN := 20) (LN := [(4, (0, 8)), (3, (0, m)), (0, (4, 0)), (1, (1, v))]) (stN := [(1, 255), (1, q1), (0, m)]) (hsN := [jzE_4, (100, [], (List.replicate 120 0)), jgh]) (c1 := 0) (s1 := 0) (c2 := b1) (s2 := b2) (by exact rfl) ?_ (by omega) (by omega)
    refine jT_land (x := q1) (y := 255) (z := q1 % 256) (by rfl) (by rfl) (jland_255 _) ?_
    have hb_q2 : 0 ≤ q1 % 256 ∧ q1 % 256 ≤ 255 := ⟨by omega, by omega⟩
    generalize hq_q2 : q1 % 256 = q2 at hb_q2 g_0 ⊢
    refine jT_xlconst (z := 0) (pcN := 22) jIE_79_21 rfl rfl ?_
    refine jT_lcmp (a := q2) (b := 0) (z := 0) (by rfl) (by rfl) (jwl_idd (by omega) (by omega)) (jwl_idd (by omega) (by omega)) (by rw [decide_eq_false (show ¬ ((0 : Int) < q2) by omega), decide_eq_true (show (q2 : Int) = 0 by omega)]; rfl) ?_
    refine jT_xifT (pcN := 30) jIE_79_23 rfl (by decide +kernel) rfl ?_
    refine jT_xiconst (k := 0) (pcN := 31) jIE_79_30 rfl ?_
    refine jT_xiadd (x := m) (y := 0) (z := m) (pcN := 32) jIE_79_31 rfl (by omega) rfl ?_
    refine jT_xistore_n (v := (0, m)) (LN := [(3, (0, m)), (4, (0, 8)), (0, (4, 0)), (1, (1, v))]) (pcN := 33) jIE_79_32 rfl rfl rfl rfl ?_
    refine jT_xiinc (x := 8) (z := 16) (LN := [(4, (0, 16)), (3, (0, m)), (0, (4, 0)), (1, (1, v))]) (pcN := 36) jIE_79_33 rfl rfl (by decide) rfl rfl ?_
    refine jT_xgoto (pcN := 5) jIE_79_36 rfl ?_
    refine jT_loc (LN := [(4, (0, 16)), (3, (0, m)), (0, (4, 0)), (1, (1, v))]) (by show List.Nodup [4, 3, 0, 1]; decide) (by intro q hq; simp only [List.mem_cons, List.not_mem_nil, or_false] at hq; rcases hq with rfl | rfl | rfl | rfl <;> rfl) ?_
    exact jEl_ct_1_2 h_v ⟨by omega, by omega⟩ (by have := jb1_0 (b := v / 256 % 256) (by omega); omega) h
theorem jEl_ct_1_0 {xs : List Int} {d b1 b2 : Nat} {Q : Nat → JV → List JC → Prop} {v w m : Int} (h_v : (-9223372036854775808) ≤ v ∧ v ≤ 9223372036854775807) (h_m : 0 ≤ m ∧ m ≤ 0) (hm : m + (jb1 (v % 256) + (jb1 (v / 256 % 256) + (jb1 (v / 65536 % 256) + (jb1 (v / 16777216 % 256) + (jb1 (v / 4294967296 % 256) + (jb1 (v / 1099511627776 % 256) + (jb1 (v / 281474976710656 % 256) + (jb1 (v / 72057594037927936 % 256))))))))) = w) (h : jT xs d 79 3 39 [(4, (0, 64)), (3, (0, w)), (0, (4, 0)), (1, (1, v))] [] [jzE_4, (100, [], (List.replicate 120 0)), jgh] b1 b2 Q) : jT xs d 79 3 5 [(4, (0, 0)), (3, (0, m)), (0, (4, 0)), (1, (1, v))] [] [jzE_4, (100, [], (List.replicate 120 0)), jgh] b1 b2 Q := by
  rcases (show (0 ≤ (v % 256) - 1) ∨ ((v % 256) - 1 < 0) by omega) with g_0 | g_0
  · refine jT_xiload (v := (0, 0)) (pcN := 7) jIE_79_5 rfl rfl rfl ?_
    refine jT_xbipush (k := 64) (pcN := 9) jIE_79_7 (by decide) rfl ?_
    refine jT_xicF (t := 39) (pcN := 12) jIE_79_9 rfl (by decide +kernel) rfl rfl ?_
    refine jT_xiload_n (v := (0, m)) (pcN := 13) jIE_79_12 rfl rfl rfl ?_
    refine jT_xlload_n (v := (1, v)) (pcN := 14) jIE_79_13 rfl rfl rfl ?_
    refine jT_xiload (v := (0, 0)) (pcN := 16) jIE_79_14 rfl rfl rfl ?_
    refine jT_lshr (x := v) (y := 0) (z := v) (by rfl) (by rfl) (jshr_0 (by omega) (by omega)) ?_
    refine jT_adv 1 (pcN := 20) (LN := [(4, (0, 0)), (3, (0, m)), (0, (4, 0)), (1, (1, v))]) (stN := [(1, 255), (1, v), (0, m)]) (hsN := [jzE_4, (100, [], (List.replicate 120 0)), jgh]) (c1 := 0) (s1 := 0) (c2 := b1) (s2 := b2) (by exact rfl) ?_ (by omega) (by omega)
    refine jT_land (x := v) (y := 255) (z := v % 256) (by rfl) (by rfl) (jland_255 _) ?_
    have hb_q1 : 0 ≤ v % 256 ∧ v % 256 ≤ 255 := ⟨by omega, by omega⟩
    generalize hq_q1 : v % 256 = q1 at hb_q1 g_0 ⊢
    refine jT_xlconst (z := 0) (pcN := 22) jIE_79_21 rfl rfl ?_
    refine jT_lcmp (a := q1) (b := 0) (z := 1) (by rfl) (by rfl) (jwl_idd (by omega) (by omega)) (jwl_idd (by omega) (by omega)) (by rw [decide_eq_true (show (0 : Int) < q1 by omega)]; rfl) ?_
    refine jT_xifF (t := 30) (pcN := 26) jIE_79_23 rfl (by decide +kernel) rfl rfl ?_
    refine jT_xiconst (k := 1) (pcN := 27) jIE_79_26 rfl ?_
    refine jT_xgoto (pcN := 31) jIE_79_27 rfl ?_
    refine jT_xiadd (x := m) (y := 1) (z := m + 1) (pcN := 32) jIE_79_31 rfl (rfl) rfl ?_
    refine jT_xistore_n (v := (0, m + 1)) (LN := [(3, (0, m + 1)), (4, (0, 0)), (0, (4, 0)), (1, (1, v))]) (pcN := 33) jIE_79_32 rfl rfl rfl rfl ?_
    refine jT_xiinc (x := 0) (z := 8) (LN := [(4, (0, 8)), (3, (0, m + 1)), (0, (4, 0)), (1, (1, v))]) (pcN := 36) jIE_79_33 rfl rfl (by decide) rfl rfl ?_
    refine jT_xgoto (pcN := 5) jIE_79_36 rfl ?_
    refine jT_loc (LN := [(4, (0, 8)), (3, (0, m + 1)), (0, (4, 0)), (1, (1, v))]) (by show List.Nodup [4, 3, 0, 1]; decide) (by intro q hq; simp only [List.mem_cons, List.not_mem_nil, or_false] at hq; rcases hq with rfl | rfl | rfl | rfl <;> rfl) ?_
    exact jEl_ct_1_1 h_v ⟨by omega, by omega⟩ (by have := jb1_1 (b := v % 256) (by omega); omega) h
  · refine jT_xiload (v := (0, 0)) (pcN := 7) jIE_79_5 rfl rfl rfl ?_
    refine jT_xbipush (k := 64) (pcN := 9) jIE_79_7 (by decide) rfl ?_
    refine jT_xicF (t := 39) (pcN := 12) jIE_79_9 rfl (by decide +kernel) rfl rfl ?_
    refine jT_xiload_n (v := (0, m)) (pcN := 13) jIE_79_12 rfl rfl rfl ?_
    refine jT_xlload_n (v := (1, v)) (pcN := 14) jIE_79_13 rfl rfl rfl ?_
    refine jT_xiload (v := (0, 0)) (pcN := 16) jIE_79_14 rfl rfl rfl ?_
    refine jT_lshr (x := v) (y := 0) (z := v) (by rfl) (by rfl) (jshr_0 (by omega) (by omega)) ?_
    refine jT_adv 1 (pcN := 20) (LN := [(4, (0, 0)), (3, (0, m)), (0, (4, 0)), (1, (1, v))]) (stN := [(1, 255), (1, v), (0, m)]) (hsN := [jzE_4, (100, [], (List.replicate 120 0)), jgh]) (c1 := 0) (s1 := 0) (c2 := b1) (s2 := b2) (by exact rfl) ?_ (by omega) (by omega)
    refine jT_land (x := v) (y := 255) (z := v % 256) (by rfl) (by rfl) (jland_255 _) ?_
    have hb_q1 : 0 ≤ v % 256 ∧ v % 256 ≤ 255 := ⟨by omega, by omega⟩
    generalize hq_q1 : v % 256 = q1 at hb_q1 g_0 ⊢
    refine jT_xlconst (z := 0) (pcN := 22) jIE_79_21 rfl rfl ?_
    refine jT_lcmp (a := q1) (b := 0) (z := 0) (by rfl) (by rfl) (jwl_idd (by omega) (by omega)) (jwl_idd (by omega) (by omega)) (by rw [decide_eq_false (show ¬ ((0 : Int) < q1) by omega), decide_eq_true (show (q1 : Int) = 0 by omega)]; rfl) ?_
    refine jT_xifT (pcN := 30) jIE_79_23 rfl (by decide +kernel) rfl ?_
    refine jT_xiconst (k := 0) (pcN := 31) jIE_79_30 rfl ?_
    refine jT_xiadd (x := m) (y := 0) (z := m) (pcN := 32) jIE_79_31 rfl (by omega) rfl ?_
    refine jT_xistore_n (v := (0, m)) (LN := [(3, (0, m)), (4, (0, 0)), (0, (4, 0)), (1, (1, v))]) (pcN := 33) jIE_79_32 rfl rfl rfl rfl ?_
    refine jT_xiinc (x := 0) (z := 8) (LN := [(4, (0, 8)), (3, (0, m)), (0, (4, 0)), (1, (1, v))]) (pcN := 36) jIE_79_33 rfl rfl (by decide) rfl rfl ?_
    refine jT_xgoto (pcN := 5) jIE_79_36 rfl ?_
    refine jT_loc (LN := [(4, (0, 8)), (3, (0, m)), (0, (4, 0)), (1, (1, v))]) (by show List.Nodup [4, 3, 0, 1]; decide) (by intro q hq; simp only [List.mem_cons, List.not_mem_nil, or_false] at hq; rcases hq with rfl | rfl | rfl | rfl <;> rfl) ?_
    exact jEl_ct_1_1 h_v ⟨by omega, by omega⟩ (by have := jb1_0 (b := v % 256) (by omega); omega) h
theorem jIE_79_39 : jmI (jm 79) 39 = (.aload_n 0, 1) := by rfl
theorem jIE_79_40 : jmI (jm 79) 40 = (.getfield 24, 3) := by rfl
theorem jIE_79_43 : jmI (jm 79) 43 = (.iload_n 3, 1) := by rfl
theorem jIE_79_44 : jmI (jm 79) 44 = (.iadd, 1) := by rfl
theorem jIE_79_45 : jmI (jm 79) 45 = (.bipush 120, 2) := by rfl
theorem jIE_79_47 : jmI (jm 79) 47 = (.if_icmp .le 5, 3) := by rfl
theorem jIE_79_52 : jmI (jm 79) 52 = (.bipush 56, 2) := by rfl
theorem jIE_79_54 : jmI (jm 79) 54 = (.istore 4, 2) := by rfl
theorem jIE_79_56 : jmI (jm 79) 56 = (.iload 4, 2) := by rfl
theorem jIE_79_58 : jmI (jm 79) 58 = (.ifCond .lt 46, 3) := by rfl
theorem jEl_st_2_8 {xs : List Int} {d b1 b2 : Nat} {Q : Nat → JV → List JC → Prop} {v w l : Int} {X : List Int} (hX : X.length = 120) (h_v : (-9223372036854775808) ≤ v ∧ v ≤ 9223372036854775807) (h_l : 0 ≤ l ∧ l ≤ 8) (hl : l + (0) = w) (h : jT xs d 79 3 104 [(0, (4, 0))] [] [(11, [(4, 1), (4, 2), (0, w), (0, 0), (0, 0), (0, 0)], []), jgh, jgh] b1 b2 Q) : jT xs d 79 3 56 [(4, (0, (-8))), (0, (4, 0)), (1, (1, v))] [] [(11, [(4, 1), (4, 2), (0, l), (0, 0), (0, 0), (0, 0)], []), (100, [], X), jgh] b1 b2 Q := by
  have e : l = w := by omega
  subst e
  refine jT_xiload (v := (0, (-8))) (pcN := 58) jIE_79_56 rfl rfl rfl ?_
  refine jT_xifT (pcN := 104) jIE_79_58 rfl (by decide +kernel) rfl ?_
  refine jT_loc (LN := [(0, (4, 0))]) (by show List.Nodup [0]; decide) (by intro q hq; simp only [List.mem_cons, List.not_mem_nil, or_false] at hq; rcases hq with rfl <;> rfl) ?_
  refine jT_forget (a := 1) (c := (100, [], X)) rfl rfl ?_
  refine jT_eq (LN := [(0, (4, 0))]) (stN := []) (hsN := [(11, [(4, 1), (4, 2), (0, l), (0, 0), (0, 0), (0, 0)], []), jgh, jgh]) rfl rfl rfl ?_
  exact h
theorem jIE_79_61 : jmI (jm 79) 61 = (.lload_n 1, 1) := by rfl
theorem jIE_79_62 : jmI (jm 79) 62 = (.iload 4, 2) := by rfl
theorem jIE_79_69 : jmI (jm 79) 69 = (.l2i, 1) := by rfl
theorem jIE_79_70 : jmI (jm 79) 70 = (.istore 5, 2) := by rfl
theorem jIE_79_72 : jmI (jm 79) 72 = (.iload 5, 2) := by rfl
theorem jIE_79_74 : jmI (jm 79) 74 = (.ifCond .eq 24, 3) := by rfl
theorem jIE_79_77 : jmI (jm 79) 77 = (.aload_n 0, 1) := by rfl
theorem jIE_79_78 : jmI (jm 79) 78 = (.getfield 11, 3) := by rfl
theorem jIE_79_81 : jmI (jm 79) 81 = (.aload_n 0, 1) := by rfl
theorem jIE_79_82 : jmI (jm 79) 82 = (.getfield 24, 3) := by rfl
theorem jIE_79_85 : jmI (jm 79) 85 = (.iload 5, 2) := by rfl
theorem jIE_79_88 : jmI (jm 79) 88 = (.aload_n 0, 1) := by rfl
theorem jIE_79_90 : jmI (jm 79) 90 = (.getfield 24, 3) := by rfl
theorem jIE_79_93 : jmI (jm 79) 93 = (.iconst 1, 1) := by rfl
theorem jIE_79_94 : jmI (jm 79) 94 = (.iadd, 1) := by rfl
theorem jIE_79_98 : jmI (jm 79) 98 = (.iinc 4 (-8), 3) := by rfl
theorem jIE_79_101 : jmI (jm 79) 101 = (.goto (-45), 3) := by rfl
theorem jEl_st_2_7 {xs : List Int} {d b1 b2 : Nat} {Q : Nat → JV → List JC → Prop} {v w l : Int} {X : List Int} (hX : X.length = 120) (h_v : (-9223372036854775808) ≤ v ∧ v ≤ 9223372036854775807) (h_l : 0 ≤ l ∧ l ≤ 7) (hl : l + (jb1 (v % 256)) = w) (h : jT xs d 79 3 104 [(0, (4, 0))] [] [(11, [(4, 1), (4, 2), (0, w), (0, 0), (0, 0), (0, 0)], []), jgh, jgh] b1 b2 Q) : jT xs d 79 3 56 [(4, (0, 0)), (0, (4, 0)), (1, (1, v))] [] [(11, [(4, 1), (4, 2), (0, l), (0, 0), (0, 0), (0, 0)], []), (100, [], X), jgh] b1 b2 Q := by
  rcases (show (0 ≤ (v % 256) - 1) ∨ ((v % 256) - 1 < 0) by omega) with g_0 | g_0
  · refine jT_xiload (v := (0, 0)) (pcN := 58) jIE_79_56 rfl rfl rfl ?_
    refine jT_xifF (t := 104) (pcN := 61) jIE_79_58 rfl (by decide +kernel) rfl rfl ?_
    refine jT_xlload_n (v := (1, v)) (pcN := 62) jIE_79_61 rfl rfl rfl ?_
    refine jT_xiload (v := (0, 0)) (pcN := 64) jIE_79_62 rfl rfl rfl ?_
    refine jT_lshr (x := v) (y := 0) (z := v) (by rfl) (by rfl) (jshr_0 (by omega) (by omega)) ?_
    refine jT_adv 1 (pcN := 68) (LN := [(4, (0, 0)), (0, (4, 0)), (1, (1, v))]) (stN := [(1, 255), (1, v)]) (hsN := [(11, [(4, 1), (4, 2), (0, l), (0, 0), (0, 0), (0, 0)], []), (100, [], X), jgh]) (c1 := 0) (s1 := 0) (c2 := b1) (s2 := b2) (by exact rfl) ?_ (by omega) (by omega)
    refine jT_land (x := v) (y := 255) (z := v % 256) (by rfl) (by rfl) (jland_255 _) ?_
    have hb_q1 : 0 ≤ v % 256 ∧ v % 256 ≤ 255 := ⟨by omega, by omega⟩
    generalize hq_q1 : v % 256 = q1 at hb_q1 g_0 ⊢
    refine jT_xl2i (pcN := 70) jIE_79_69 rfl rfl ?_
    refine jT_xistore (v := (0, q1)) (LN := [(5, (0, q1)), (4, (0, 0)), (0, (4, 0)), (1, (1, v))]) (pcN := 72) jIE_79_70 rfl rfl rfl rfl ?_
    refine jT_xiload (v := (0, q1)) (pcN := 74) jIE_79_72 rfl rfl rfl ?_
    refine jT_ifF (a := q1) (t := 98) (by rfl) (by rfl) (by rfl) (jw_idd (by omega) (by omega)) (by simp only [jcP] <;> omega) ?_
    refine jT_xaload_n (v := (4, 0)) (pcN := 78) jIE_79_77 rfl rfl rfl ?_
    refine jT_xgetf (a := 0) (t := 1) (ci := 11) (fi := 0) (c := (11, [(4, 1), (4, 2), (0, l), (0, 0), (0, 0), (0, 0)], [])) (v := (4, 1)) (pcN := 81) jIE_79_78 rfl rfl rfl rfl rfl rfl rfl ?_
    refine jT_xaload_n (v := (4, 0)) (pcN := 82) jIE_79_81 rfl rfl rfl ?_
    refine jT_xgetf (a := 0) (t := 1) (ci := 11) (fi := 2) (c := (11, [(4, 1), (4, 2), (0, l), (0, 0), (0, 0), (0, 0)], [])) (v := (0, l)) (pcN := 85) jIE_79_82 rfl rfl rfl rfl rfl rfl rfl ?_
    refine jT_xiload (v := (0, q1)) (pcN := 87) jIE_79_85 rfl rfl rfl ?_
    refine jT_iast (x := q1) (a := 1) (j := (l).toNat) (fs := []) (X := X) (by rfl) (by rfl) (by rfl) (jw_nn (by omega) (by omega)) (by rw [show List.length (X : List Int) = 120 from hX]; omega) ?_
    refine jT_eq (LN := [(5, (0, q1)), (4, (0, 0)), (0, (4, 0)), (1, (1, v))]) (stN := []) (hsN := [(11, [(4, 1), (4, 2), (0, l), (0, 0), (0, 0), (0, 0)], []), (100, [], ((X).set ((l).toNat) q1)), jgh]) rfl rfl rfl ?_
    refine jT_xaload_n (v := (4, 0)) (pcN := 89) jIE_79_88 rfl rfl rfl ?_
    refine jT_adv 1 (pcN := 90) (LN := [(5, (0, q1)), (4, (0, 0)), (0, (4, 0)), (1, (1, v))]) (stN := [(4, 0), (4, 0)]) (hsN := [(11, [(4, 1), (4, 2), (0, l), (0, 0), (0, 0), (0, 0)], []), (100, [], ((X).set ((l).toNat) q1)), jgh]) (c1 := 0) (s1 := 0) (c2 := b1) (s2 := b2) (by exact rfl) ?_ (by omega) (by omega)
    refine jT_xgetf (a := 0) (t := 1) (ci := 11) (fi := 2) (c := (11, [(4, 1), (4, 2), (0, l), (0, 0), (0, 0), (0, 0)], [])) (v := (0, l)) (pcN := 93) jIE_79_90 rfl rfl rfl rfl rfl rfl rfl ?_
    refine jT_xiconst (k := 1) (pcN := 94) jIE_79_93 rfl ?_
    refine jT_xiadd (x := l) (y := 1) (z := l + 1) (pcN := 95) jIE_79_94 rfl (rfl) rfl ?_
    refine jT_adv 1 (pcN := 98) (LN := [(5, (0, q1)), (4, (0, 0)), (0, (4, 0)), (1, (1, v))]) (stN := []) (hsN := [(11, [(4, 1), (4, 2), (0, l + 1), (0, 0), (0, 0), (0, 0)], []), (100, [], ((X).set ((l).toNat) q1)), jgh]) (c1 := 0) (s1 := 0) (c2 := b1) (s2 := b2) (by exact rfl) ?_ (by omega) (by omega)
    refine jT_xiinc (x := 0) (z := (-8)) (LN := [(4, (0, (-8))), (5, (0, q1)), (0, (4, 0)), (1, (1, v))]) (pcN := 101) jIE_79_98 rfl rfl (by decide) rfl rfl ?_
    refine jT_xgoto (pcN := 56) jIE_79_101 rfl ?_
    refine jT_loc (LN := [(4, (0, (-8))), (0, (4, 0)), (1, (1, v))]) (by show List.Nodup [4, 0, 1]; decide) (by intro q hq; simp only [List.mem_cons, List.not_mem_nil, or_false] at hq; rcases hq with rfl | rfl | rfl <;> rfl) ?_
    exact jEl_st_2_8 (by rw [List.length_set]; exact (hX)) h_v ⟨by omega, by omega⟩ (by have := jb1_1 (b := v % 256) (by omega); omega) h
  · refine jT_xiload (v := (0, 0)) (pcN := 58) jIE_79_56 rfl rfl rfl ?_
    refine jT_xifF (t := 104) (pcN := 61) jIE_79_58 rfl (by decide +kernel) rfl rfl ?_
    refine jT_xlload_n (v := (1, v)) (pcN := 62) jIE_79_61 rfl rfl rfl ?_
    refine jT_xiload (v := (0, 0)) (pcN := 64) jIE_79_62 rfl rfl rfl ?_
    refine jT_lshr (x := v) (y := 0) (z := v) (by rfl) (by rfl) (jshr_0 (by omega) (by omega)) ?_
    refine jT_adv 1 (pcN := 68) (LN := [(4, (0, 0)), (0, (4, 0)), (1, (1, v))]) (stN := [(1, 255), (1, v)]) (hsN := [(11, [(4, 1), (4, 2), (0, l), (0, 0), (0, 0), (0, 0)], []), (100, [], X), jgh]) (c1 := 0) (s1 := 0) (c2 := b1) (s2 := b2) (by exact rfl) ?_ (by omega) (by omega)
    refine jT_land (x := v) (y := 255) (z := v % 256) (by rfl) (by rfl) (jland_255 _) ?_
    have hb_q1 : 0 ≤ v % 256 ∧ v % 256 ≤ 255 := ⟨by omega, by omega⟩
    generalize hq_q1 : v % 256 = q1 at hb_q1 g_0 ⊢
    refine jT_xl2i (pcN := 70) jIE_79_69 rfl rfl ?_
    refine jT_xistore (v := (0, q1)) (LN := [(5, (0, q1)), (4, (0, 0)), (0, (4, 0)), (1, (1, v))]) (pcN := 72) jIE_79_70 rfl rfl rfl rfl ?_
    refine jT_xiload (v := (0, q1)) (pcN := 74) jIE_79_72 rfl rfl rfl ?_
    refine jT_ifT (a := q1) (t := 98) (by rfl) (by rfl) (by rfl) (jw_idd (by omega) (by omega)) (by simp only [jcP] <;> omega) ?_
    refine jT_xiinc (x := 0) (z := (-8)) (LN := [(4, (0, (-8))), (5, (0, q1)), (0, (4, 0)), (1, (1, v))]) (pcN := 101) jIE_79_98 rfl rfl (by decide) rfl rfl ?_
    refine jT_xgoto (pcN := 56) jIE_79_101 rfl ?_
    refine jT_loc (LN := [(4, (0, (-8))), (0, (4, 0)), (1, (1, v))]) (by show List.Nodup [4, 0, 1]; decide) (by intro q hq; simp only [List.mem_cons, List.not_mem_nil, or_false] at hq; rcases hq with rfl | rfl | rfl <;> rfl) ?_
    exact jEl_st_2_8 (hX) h_v ⟨by omega, by omega⟩ (by have := jb1_0 (b := v % 256) (by omega); omega) h
theorem jEl_st_2_6 {xs : List Int} {d b1 b2 : Nat} {Q : Nat → JV → List JC → Prop} {v w l : Int} {X : List Int} (hX : X.length = 120) (h_v : (-9223372036854775808) ≤ v ∧ v ≤ 9223372036854775807) (h_l : 0 ≤ l ∧ l ≤ 6) (hl : l + (jb1 (v / 256 % 256) + (jb1 (v % 256))) = w) (h : jT xs d 79 3 104 [(0, (4, 0))] [] [(11, [(4, 1), (4, 2), (0, w), (0, 0), (0, 0), (0, 0)], []), jgh, jgh] b1 b2 Q) : jT xs d 79 3 56 [(4, (0, 8)), (0, (4, 0)), (1, (1, v))] [] [(11, [(4, 1), (4, 2), (0, l), (0, 0), (0, 0), (0, 0)], []), (100, [], X), jgh] b1 b2 Q := by
  rcases (show (0 ≤ ((v / 256) % 256) - 1) ∨ (((v / 256) % 256) - 1 < 0) by omega) with g_0 | g_0
  · refine jT_xiload (v := (0, 8)) (pcN := 58) jIE_79_56 rfl rfl rfl ?_
    refine jT_xifF (t := 104) (pcN := 61) jIE_79_58 rfl (by decide +kernel) rfl rfl ?_
    refine jT_xlload_n (v := (1, v)) (pcN := 62) jIE_79_61 rfl rfl rfl ?_
    refine jT_xiload (v := (0, 8)) (pcN := 64) jIE_79_62 rfl rfl rfl ?_
    refine jT_lshr (x := v) (y := 8) (z := v / 256) (by rfl) (by rfl) (jshr_8 (by omega) (by omega)) ?_
    have hb_q1 : (-36028797018963968) ≤ v / 256 ∧ v / 256 ≤ 36028797018963967 := ⟨by omega, by omega⟩
    generalize hq_q1 : v / 256 = q1 at hb_q1 g_0 ⊢
    refine jT_adv 1 (pcN := 68) (LN := [(4, (0, 8)), (0, (4, 0)), (1, (1, v))]) (stN := [(1, 255), (1, q1)]) (hsN := [(11, [(4, 1), (4, 2), (0, l), (0, 0), (0, 0), (0, 0)], []), (100, [], X), jgh]) (c1 := 0) (s1 := 0) (c2 := b1) (s2 := b2) (by exact rfl) ?_ (by omega) (by omega)
    refine jT_land (x := q1) (y := 255) (z := q1 % 256) (by rfl) (by rfl) (jland_255 _) ?_
    have hb_q2 : 0 ≤ q1 % 256 ∧ q1 % 256 ≤ 255 := ⟨by omega, by omega⟩
    generalize hq_q2 : q1 % 256 = q2 at hb_q2 g_0 ⊢
    refine jT_xl2i (pcN := 70) jIE_79_69 rfl rfl ?_
    refine jT_xistore (v := (0, q2)) (LN := [(5, (0, q2)), (4, (0, 8)), (0, (4, 0)), (1, (1, v))]) (pcN := 72) jIE_79_70 rfl rfl rfl rfl ?_
    refine jT_xiload (v := (0, q2)) (pcN := 74) jIE_79_72 rfl rfl rfl ?_
    refine jT_ifF (a := q2) (t := 98) (by rfl) (by rfl) (by rfl) (jw_idd (by omega) (by omega)) (by simp only [jcP] <;> omega) ?_
    refine jT_xaload_n (v := (4, 0)) (pcN := 78) jIE_79_77 rfl rfl rfl ?_
    refine jT_xgetf (a := 0) (t := 1) (ci := 11) (fi := 0) (c := (11, [(4, 1), (4, 2), (0, l), (0, 0), (0, 0), (0, 0)], [])) (v := (4, 1)) (pcN := 81) jIE_79_78 rfl rfl rfl rfl rfl rfl rfl ?_
    refine jT_xaload_n (v := (4, 0)) (pcN := 82) jIE_79_81 rfl rfl rfl ?_
    refine jT_xgetf (a := 0) (t := 1) (ci := 11) (fi := 2) (c := (11, [(4, 1), (4, 2), (0, l), (0, 0), (0, 0), (0, 0)], [])) (v := (0, l)) (pcN := 85) jIE_79_82 rfl rfl rfl rfl rfl rfl rfl ?_
    refine jT_xiload (v := (0, q2)) (pcN := 87) jIE_79_85 rfl rfl rfl ?_
    refine jT_iast (x := q2) (a := 1) (j := (l).toNat) (fs := []) (X := X) (by rfl) (by rfl) (by rfl) (jw_nn (by omega) (by omega)) (by rw [show List.length (X : List Int) = 120 from hX]; omega) ?_
    refine jT_eq (LN := [(5, (0, q2)), (4, (0, 8)), (0, (4, 0)), (1, (1, v))]) (stN := []) (hsN := [(11, [(4, 1), (4, 2), (0, l), (0, 0), (0, 0), (0, 0)], []), (100, [], ((X).set ((l).toNat) q2)), jgh]) rfl rfl rfl ?_
    refine jT_xaload_n (v := (4, 0)) (pcN := 89) jIE_79_88 rfl rfl rfl ?_
    refine jT_adv 1 (pcN := 90) (LN := [(5, (0, q2)), (4, (0, 8)), (0, (4, 0)), (1, (1, v))]) (stN := [(4, 0), (4, 0)]) (hsN := [(11, [(4, 1), (4, 2), (0, l), (0, 0), (0, 0), (0, 0)], []), (100, [], ((X).set ((l).toNat) q2)), jgh]) (c1 := 0) (s1 := 0) (c2 := b1) (s2 := b2) (by exact rfl) ?_ (by omega) (by omega)
    refine jT_xgetf (a := 0) (t := 1) (ci := 11) (fi := 2) (c := (11, [(4, 1), (4, 2), (0, l), (0, 0), (0, 0), (0, 0)], [])) (v := (0, l)) (pcN := 93) jIE_79_90 rfl rfl rfl rfl rfl rfl rfl ?_
    refine jT_xiconst (k := 1) (pcN := 94) jIE_79_93 rfl ?_
    refine jT_xiadd (x := l) (y := 1) (z := l + 1) (pcN := 95) jIE_79_94 rfl (rfl) rfl ?_
    refine jT_adv 1 (pcN := 98) (LN := [(5, (0, q2)), (4, (0, 8)), (0, (4, 0)), (1, (1, v))]) (stN := []) (hsN := [(11, [(4, 1), (4, 2), (0, l + 1), (0, 0), (0, 0), (0, 0)], []), (100, [], ((X).set ((l).toNat) q2)), jgh]) (c1 := 0) (s1 := 0) (c2 := b1) (s2 := b2) (by exact rfl) ?_ (by omega) (by omega)
    refine jT_xiinc (x := 8) (z := 0) (LN := [(4, (0, 0)), (5, (0, q2)), (0, (4, 0)), (1, (1, v))]) (pcN := 101) jIE_79_98 rfl rfl (by decide) rfl rfl ?_
    refine jT_xgoto (pcN := 56) jIE_79_101 rfl ?_
    refine jT_loc (LN := [(4, (0, 0)), (0, (4, 0)), (1, (1, v))]) (by show List.Nodup [4, 0, 1]; decide) (by intro q hq; simp only [List.mem_cons, List.not_mem_nil, or_false] at hq; rcases hq with rfl | rfl | rfl <;> rfl) ?_
    exact jEl_st_2_7 (by rw [List.length_set]; exact (hX)) h_v ⟨by omega, by omega⟩ (by have := jb1_1 (b := v / 256 % 256) (by omega); omega) h
  · refine jT_xiload (v := (0, 8)) (pcN := 58) jIE_79_56 rfl rfl rfl ?_
    refine jT_xifF (t := 104) (pcN := 61) jIE_79_58 rfl (by decide +kernel) rfl rfl ?_
    refine jT_xlload_n (v := (1, v)) (pcN := 62) jIE_79_61 rfl rfl rfl ?_
    refine jT_xiload (v := (0, 8)) (pcN := 64) jIE_79_62 rfl rfl rfl ?_
    refine jT_lshr (x := v) (y := 8) (z := v / 256) (by rfl) (by rfl) (jshr_8 (by omega) (by omega)) ?_
    have hb_q1 : (-36028797018963968) ≤ v / 256 ∧ v / 256 ≤ 36028797018963967 := ⟨by omega, by omega⟩
    generalize hq_q1 : v / 256 = q1 at hb_q1 g_0 ⊢
    refine jT_adv 1 (pcN := 68) (LN := [(4, (0, 8)), (0, (4, 0)), (1, (1, v))]) (stN := [(1, 255), (1, q1)]) (hsN := [(11, [(4, 1), (4, 2), (0, l), (0, 0), (0, 0), (0, 0)], []), (100, [], X), jgh]) (c1 := 0) (s1 := 0) (c2 := b1) (s2 := b2) (by exact rfl) ?_ (by omega) (by omega)
    refine jT_land (x := q1) (y := 255) (z := q1 % 256) (by rfl) (by rfl) (jland_255 _) ?_
    have hb_q2 : 0 ≤ q1 % 256 ∧ q1 % 256 ≤ 255 := ⟨by omega, by omega⟩
    generalize hq_q2 : q1 % 256 = q2 at hb_q2 g_0 ⊢
    refine jT_xl2i (pcN := 70) jIE_79_69 rfl rfl ?_
    refine jT_xistore (v := (0, q2)) (LN := [(5, (0, q2)), (4, (0, 8)), (0, (4, 0)), (1, (1, v))]) (pcN := 72) jIE_79_70 rfl rfl rfl rfl ?_
    refine jT_xiload (v := (0, q2)) (pcN := 74) jIE_79_72 rfl rfl rfl ?_
    refine jT_ifT (a := q2) (t := 98) (by rfl) (by rfl) (by rfl) (jw_idd (by omega) (by omega)) (by simp only [jcP] <;> omega) ?_
    refine jT_xiinc (x := 8) (z := 0) (LN := [(4, (0, 0)), (5, (0, q2)), (0, (4, 0)), (1, (1, v))]) (pcN := 101) jIE_79_98 rfl rfl (by decide) rfl rfl ?_
    refine jT_xgoto (pcN := 56) jIE_79_101 rfl ?_
    refine jT_loc (LN := [(4, (0, 0)), (0, (4, 0)), (1, (1, v))]) (by show List.Nodup [4, 0, 1]; decide) (by intro q hq; simp only [List.mem_cons, List.not_mem_nil, or_false] at hq; rcases hq with rfl | rfl | rfl <;> rfl) ?_
    exact jEl_st_2_7 (hX) h_v ⟨by omega, by omega⟩ (by have := jb1_0 (b := v / 256 % 256) (by omega); omega) h
theorem jEl_st_2_5 {xs : List Int} {d b1 b2 : Nat} {Q : Nat → JV → List JC → Prop} {v w l : Int} {X : List Int} (hX : X.length = 120) (h_v : (-9223372036854775808) ≤ v ∧ v ≤ 9223372036854775807) (h_l : 0 ≤ l ∧ l ≤ 5) (hl : l + (jb1 (v / 65536 % 256) + (jb1 (v / 256 % 256) + (jb1 (v % 256)))) = w) (h : jT xs d 79 3 104 [(0, (4, 0))] [] [(11, [(4, 1), (4, 2), (0, w), (0, 0), (0, 0), (0, 0)], []), jgh, jgh] b1 b2 Q) : jT xs d 79 3 56 [(4, (0, 16)), (0, (4, 0)), (1, (1, v))] [] [(11, [(4, 1), (4, 2), (0, l), (0, 0), (0, 0), (0, 0)], []), (100, [], X), jgh] b1 b2 Q := by
  rcases (show (0 ≤ ((v / 65536) % 256) - 1) ∨ (((v / 65536) % 256) - 1 < 0) by omega) with g_0 | g_0
  · refine jT_xiload (v := (0, 16)) (pcN := 58) jIE_79_56 rfl rfl rfl ?_
    refine jT_xifF (t := 104) (pcN := 61) jIE_79_58 rfl (by decide +kernel) rfl rfl ?_
    refine jT_xlload_n (v := (1, v)) (pcN := 62) jIE_79_61 rfl rfl rfl ?_
    refine jT_xiload (v := (0, 16)) (pcN := 64) jIE_79_62 rfl rfl rfl ?_
    refine jT_lshr (x := v) (y := 16) (z := v / 65536) (by rfl) (by rfl) (jshr_16 (by omega) (by omega)) ?_
    have hb_q1 : (-140737488355328) ≤ v / 65536 ∧ v / 65536 ≤ 140737488355327 := ⟨by omega, by omega⟩
    generalize hq_q1 : v / 65536 = q1 at hb_q1 g_0 ⊢
    refine jT_adv 1 (pcN := 68) (LN := [(4, (0, 16)), (0, (4, 0)), (1, (1, v))]) (stN := [(1, 255), (1, q1)]) (hsN := [(11, [(4, 1), (4, 2), (0, l), (0, 0), (0, 0), (0, 0)], []), (100, [], X), jgh]) (c1 := 0) (s1 := 0) (c2 := b1) (s2 := b2) (by exact rfl) ?_ (by omega) (by omega)
    refine jT_land (x := q1) (y := 255) (z := q1 % 256) (by rfl) (by rfl) (jland_255 _) ?_
    have hb_q2 : 0 ≤ q1 % 256 ∧ q1 % 256 ≤ 255 := ⟨by omega, by omega⟩
    generalize hq_q2 : q1 % 256 = q2 at hb_q2 g_0 ⊢
    refine jT_xl2i (pcN := 70) jIE_79_69 rfl rfl ?_
    refine jT_xistore (v := (0, q2)) (LN := [(5, (0, q2)), (4, (0, 16)), (0, (4, 0)), (1, (1, v))]) (pcN := 72) jIE_79_70 rfl rfl rfl rfl ?_
    refine jT_xiload (v := (0, q2)) (pcN := 74) jIE_79_72 rfl rfl rfl ?_
    refine jT_ifF (a := q2) (t := 98) (by rfl) (by rfl) (by rfl) (jw_idd (by omega) (by omega)) (by simp only [jcP] <;> omega) ?_
    refine jT_xaload_n (v := (4, 0)) (pcN := 78) jIE_79_77 rfl rfl rfl ?_
    refine jT_xgetf (a := 0) (t := 1) (ci := 11) (fi := 0) (c := (11, [(4, 1), (4, 2), (0, l), (0, 0), (0, 0), (0, 0)], [])) (v := (4, 1)) (pcN := 81) jIE_79_78 rfl rfl rfl rfl rfl rfl rfl ?_
    refine jT_xaload_n (v := (4, 0)) (pcN := 82) jIE_79_81 rfl rfl rfl ?_
    refine jT_xgetf (a := 0) (t := 1) (ci := 11) (fi := 2) (c := (11, [(4, 1), (4, 2), (0, l), (0, 0), (0, 0), (0, 0)], [])) (v := (0, l)) (pcN := 85) jIE_79_82 rfl rfl rfl rfl rfl rfl rfl ?_
    refine jT_xiload (v := (0, q2)) (pcN := 87) jIE_79_85 rfl rfl rfl ?_
    refine jT_iast (x := q2) (a := 1) (j := (l).toNat) (fs := []) (X := X) (by rfl) (by rfl) (by rfl) (jw_nn (by omega) (by omega)) (by rw [show List.length (X : List Int) = 120 from hX]; omega) ?_
    refine jT_eq (LN := [(5, (0, q2)), (4, (0, 16)), (0, (4, 0)), (1, (1, v))]) (stN := []) (hsN := [(11, [(4, 1), (4, 2), (0, l), (0, 0), (0, 0), (0, 0)], []), (100, [], ((X).set ((l).toNat) q2)), jgh]) rfl rfl rfl ?_
    refine jT_xaload_n (v := (4, 0)) (pcN := 89) jIE_79_88 rfl rfl rfl ?_
    refine jT_adv 1 (pcN := 90) (LN := [(5, (0, q2)), (4, (0, 16)), (0, (4, 0)), (1, (1, v))]) (stN := [(4, 0), (4, 0)]) (hsN := [(11, [(4, 1), (4, 2), (0, l), (0, 0), (0, 0), (0, 0)], []), (100, [], ((X).set ((l).toNat) q2)), jgh]) (c1 := 0) (s1 := 0) (c2 := b1) (s2 := b2) (by exact rfl) ?_ (by omega) (by omega)
    refine jT_xgetf (a := 0) (t := 1) (ci := 11) (fi := 2) (c := (11, [(4, 1), (4, 2), (0, l), (0, 0), (0, 0), (0, 0)], [])) (v := (0, l)) (pcN := 93) jIE_79_90 rfl rfl rfl rfl rfl rfl rfl ?_
    refine jT_xiconst (k := 1) (pcN := 94) jIE_79_93 rfl ?_
    refine jT_xiadd (x := l) (y := 1) (z := l + 1) (pcN := 95) jIE_79_94 rfl (rfl) rfl ?_
    refine jT_adv 1 (pcN := 98) (LN := [(5, (0, q2)), (4, (0, 16)), (0, (4, 0)), (1, (1, v))]) (stN := []) (hsN := [(11, [(4, 1), (4, 2), (0, l + 1), (0, 0), (0, 0), (0, 0)], []), (100, [], ((X).set ((l).toNat) q2)), jgh]) (c1 := 0) (s1 := 0) (c2 := b1) (s2 := b2) (by exact rfl) ?_ (by omega) (by omega)
    refine jT_xiinc (x := 16) (z := 8) (LN := [(4, (0, 8)), (5, (0, q2)), (0, (4, 0)), (1, (1, v))]) (pcN := 101) jIE_79_98 rfl rfl (by decide) rfl rfl ?_
    refine jT_xgoto (pcN := 56) jIE_79_101 rfl ?_
    refine jT_loc (LN := [(4, (0, 8)), (0, (4, 0)), (1, (1, v))]) (by show List.Nodup [4, 0, 1]; decide) (by intro q hq; simp only [List.mem_cons, List.not_mem_nil, or_false] at hq; rcases hq with rfl | rfl | rfl <;> rfl) ?_
    exact jEl_st_2_6 (by rw [List.length_set]; exact (hX)) h_v ⟨by omega, by omega⟩ (by have := jb1_1 (b := v / 65536 % 256) (by omega); omega) h
  · refine jT_xiload (v := (0, 16)) (pcN := 58) jIE_79_56 rfl rfl rfl ?_
    refine jT_xifF (t := 104) (pcN := 61) jIE_79_58 rfl (by decide +kernel) rfl rfl ?_
    refine jT_xlload_n (v := (1, v)) (pcN := 62) jIE_79_61 rfl rfl rfl ?_
    refine jT_xiload (v := (0, 16)) (pcN := 64) jIE_79_62 rfl rfl rfl ?_
    refine jT_lshr (x := v) (y := 16) (z := v / 65536) (by rfl) (by rfl) (jshr_16 (by omega) (by omega)) ?_
    have hb_q1 : (-140737488355328) ≤ v / 65536 ∧ v / 65536 ≤ 140737488355327 := ⟨by omega, by omega⟩
    generalize hq_q1 : v / 65536 = q1 at hb_q1 g_0 ⊢
    refine jT_adv 1 (pcN := 68) (LN := [(4, (0, 16)), (0, (4, 0)), (1, (1, v))]) (stN := [(1, 255), (1, q1)]) (hsN := [(11, [(4, 1), (4, 2), (0, l), (0, 0), (0, 0), (0, 0)], []), (100, [], X), jgh]) (c1 := 0) (s1 := 0) (c2 := b1) (s2 := b2) (by exact rfl) ?_ (by omega) (by omega)
    refine jT_land (x := q1) (y := 255) (z := q1 % 256) (by rfl) (by rfl) (jland_255 _) ?_
    have hb_q2 : 0 ≤ q1 % 256 ∧ q1 % 256 ≤ 255 := ⟨by omega, by omega⟩
    generalize hq_q2 : q1 % 256 = q2 at hb_q2 g_0 ⊢
    refine jT_xl2i (pcN := 70) jIE_79_69 rfl rfl ?_
    refine jT_xistore (v := (0, q2)) (LN := [(5, (0, q2)), (4, (0, 16)), (0, (4, 0)), (1, (1, v))]) (pcN := 72) jIE_79_70 rfl rfl rfl rfl ?_
    refine jT_xiload (v := (0, q2)) (pcN := 74) jIE_79_72 rfl rfl rfl ?_
    refine jT_ifT (a := q2) (t := 98) (by rfl) (by rfl) (by rfl) (jw_idd (by omega) (by omega)) (by simp only [jcP] <;> omega) ?_
    refine jT_xiinc (x := 16) (z := 8) (LN := [(4, (0, 8)), (5, (0, q2)), (0, (4, 0)), (1, (1, v))]) (pcN := 101) jIE_79_98 rfl rfl (by decide) rfl rfl ?_
    refine jT_xgoto (pcN := 56) jIE_79_101 rfl ?_
    refine jT_loc (LN := [(4, (0, 8)), (0, (4, 0)), (1, (1, v))]) (by show List.Nodup [4, 0, 1]; decide) (by intro q hq; simp only [List.mem_cons, List.not_mem_nil, or_false] at hq; rcases hq with rfl | rfl | rfl <;> rfl) ?_
    exact jEl_st_2_6 (hX) h_v ⟨by omega, by omega⟩ (by have := jb1_0 (b := v / 65536 % 256) (by omega); omega) h
theorem jEl_st_2_4 {xs : List Int} {d b1 b2 : Nat} {Q : Nat → JV → List JC → Prop} {v w l : Int} {X : List Int} (hX : X.length = 120) (h_v : (-9223372036854775808) ≤ v ∧ v ≤ 9223372036854775807) (h_l : 0 ≤ l ∧ l ≤ 4) (hl : l + (jb1 (v / 16777216 % 256) + (jb1 (v / 65536 % 256) + (jb1 (v / 256 % 256) + (jb1 (v % 256))))) = w) (h : jT xs d 79 3 104 [(0, (4, 0))] [] [(11, [(4, 1), (4, 2), (0, w), (0, 0), (0, 0), (0, 0)], []), jgh, jgh] b1 b2 Q) : jT xs d 79 3 56 [(4, (0, 24)), (0, (4, 0)), (1, (1, v))] [] [(11, [(4, 1), (4, 2), (0, l), (0, 0), (0, 0), (0, 0)], []), (100, [], X), jgh] b1 b2 Q := by
  rcases (show (0 ≤ ((v / 16777216) % 256) - 1) ∨ (((v / 16777216) % 256) - 1 < 0) by omega) with g_0 | g_0
  · refine jT_xiload (v := (0, 24)) (pcN := 58) jIE_79_56 rfl rfl rfl ?_
    refine jT_xifF (t := 104) (pcN := 61) jIE_79_58 rfl (by decide +kernel) rfl rfl ?_
    refine jT_xlload_n (v := (1, v)) (pcN := 62) jIE_79_61 rfl rfl rfl ?_
    refine jT_xiload (v := (0, 24)) (pcN := 64) jIE_79_62 rfl rfl rfl ?_
    refine jT_lshr (x := v) (y := 24) (z := v / 16777216) (by rfl) (by rfl) (jshr_24 (by omega) (by omega)) ?_
    have hb_q1 : (-549755813888) ≤ v / 16777216 ∧ v / 16777216 ≤ 549755813887 := ⟨by omega, by omega⟩
    generalize hq_q1 : v / 16777216 = q1 at hb_q1 g_0 ⊢
    refine jT_adv 1 (pcN := 68) (LN := [(4, (0, 24)), (0, (4, 0)), (1, (1, v))]) (stN := [(1, 255), (1, q1)]) (hsN := [(11, [(4, 1), (4, 2), (0, l), (0, 0), (0, 0), (0, 0)], []), (100, [], X), jgh]) (c1 := 0) (s1 := 0) (c2 := b1) (s2 := b2) (by exact rfl) ?_ (by omega) (by omega)
    refine jT_land (x := q1) (y := 255) (z := q1 % 256) (by rfl) (by rfl) (jland_255 _) ?_
    have hb_q2 : 0 ≤ q1 % 256 ∧ q1 % 256 ≤ 255 := ⟨by omega, by omega⟩
    generalize hq_q2 : q1 % 256 = q2 at hb_q2 g_0 ⊢
    refine jT_xl2i (pcN := 70) jIE_79_69 rfl rfl ?_
    refine jT_xistore (v := (0, q2)) (LN := [(5, (0, q2)), (4, (0, 24)), (0, (4, 0)), (1, (1, v))]) (pcN := 72) jIE_79_70 rfl rfl rfl rfl ?_
    refine jT_xiload (v := (0, q2)) (pcN := 74) jIE_79_72 rfl rfl rfl ?_
    refine jT_ifF (a := q2) (t := 98) (by rfl) (by rfl) (by rfl) (jw_idd (by omega) (by omega)) (by simp only [jcP] <;> omega) ?_
    refine jT_xaload_n (v := (4, 0)) (pcN := 78) jIE_79_77 rfl rfl rfl ?_
    refine jT_xgetf (a := 0) (t := 1) (ci := 11) (fi := 0) (c := (11, [(4, 1), (4, 2), (0, l), (0, 0), (0, 0), (0, 0)], [])) (v := (4, 1)) (pcN := 81) jIE_79_78 rfl rfl rfl rfl rfl rfl rfl ?_
    refine jT_xaload_n (v := (4, 0)) (pcN := 82) jIE_79_81 rfl rfl rfl ?_
    refine jT_xgetf (a := 0) (t := 1) (ci := 11) (fi := 2) (c := (11, [(4, 1), (4, 2), (0, l), (0, 0), (0, 0), (0, 0)], [])) (v := (0, l)) (pcN := 85) jIE_79_82 rfl rfl rfl rfl rfl rfl rfl ?_
    refine jT_xiload (v := (0, q2)) (pcN := 87) jIE_79_85 rfl rfl rfl ?_
    refine jT_iast (x := q2) (a := 1) (j := (l).toNat) (fs := []) (X := X) (by rfl) (by rfl) (by rfl) (jw_nn (by omega) (by omega)) (by rw [show List.length (X : List Int) = 120 from hX]; omega) ?_
    refine jT_eq (LN := [(5, (0, q2)), (4, (0, 24)), (0, (4, 0)), (1, (1, v))]) (stN := []) (hsN := [(11, [(4, 1), (4, 2), (0, l), (0, 0), (0, 0), (0, 0)], []), (100, [], ((X).set ((l).toNat) q2)), jgh]) rfl rfl rfl ?_
    refine jT_xaload_n (v := (4, 0)) (pcN := 89) jIE_79_88 rfl rfl rfl ?_
    refine jT_adv 1 (pcN := 90) (LN := [(5, (0, q2)), (4, (0, 24)), (0, (4, 0)), (1, (1, v))]) (stN := [(4, 0), (4, 0)]) (hsN := [(11, [(4, 1), (4, 2), (0, l), (0, 0), (0, 0), (0, 0)], []), (100, [], ((X).set ((l).toNat) q2)), jgh]) (c1 := 0) (s1 := 0) (c2 := b1) (s2 := b2) (by exact rfl) ?_ (by omega) (by omega)
    refine jT_xgetf (a := 0) (t := 1) (ci := 11) (fi := 2) (c := (11, [(4, 1), (4, 2), (0, l), (0, 0), (0, 0), (0, 0)], [])) (v := (0, l)) (pcN := 93) jIE_79_90 rfl rfl rfl rfl rfl rfl rfl ?_
    refine jT_xiconst (k := 1) (pcN := 94) jIE_79_93 rfl ?_
    refine jT_xiadd (x := l) (y := 1) (z := l + 1) (pcN := 95) jIE_79_94 rfl (rfl) rfl ?_
    refine jT_adv 1 (pcN := 98) (LN := [(5, (0, q2)), (4, (0, 24)), (0, (4, 0)), (1, (1, v))]) (stN := []) (hsN := [(11, [(4, 1), (4, 2), (0, l + 1), (0, 0), (0, 0), (0, 0)], []), (100, [], ((X).set ((l).toNat) q2)), jgh]) (c1 := 0) (s1 := 0) (c2 := b1) (s2 := b2) (by exact rfl) ?_ (by omega) (by omega)
    refine jT_xiinc (x := 24) (z := 16) (LN := [(4, (0, 16)), (5, (0, q2)), (0, (4, 0)), (1, (1, v))]) (pcN := 101) jIE_79_98 rfl rfl (by decide) rfl rfl ?_
    refine jT_xgoto (pcN := 56) jIE_79_101 rfl ?_
    refine jT_loc (LN := [(4, (0, 16)), (0, (4, 0)), (1, (1, v))]) (by show List.Nodup [4, 0, 1]; decide) (by intro q hq; simp only [List.mem_cons, List.not_mem_nil, or_false] at hq; rcases hq with rfl | rfl | rfl <;> rfl) ?_
    exact jEl_st_2_5 (by rw [List.length_set]; exact (hX)) h_v ⟨by omega, by omega⟩ (by have := jb1_1 (b := v / 16777216 % 256) (by omega); omega) h
  · refine jT_xiload (v := (0, 24)) (pcN := 58) jIE_79_56 rfl rfl rfl ?_
    refine jT_xifF (t := 104) (pcN := 61) jIE_79_58 rfl (by decide +kernel) rfl rfl ?_
    refine jT_xlload_n (v := (1, v)) (pcN := 62) jIE_79_61 rfl rfl rfl ?_
    refine jT_xiload (v := (0, 24)) (pcN := 64) jIE_79_62 rfl rfl rfl ?_
    refine jT_lshr (x := v) (y := 24) (z := v / 16777216) (by rfl) (by rfl) (jshr_24 (by omega) (by omega)) ?_
    have hb_q1 : (-549755813888) ≤ v / 16777216 ∧ v / 16777216 ≤ 549755813887 := ⟨by omega, by omega⟩
    generalize hq_q1 : v / 16777216 = q1 at hb_q1 g_0 ⊢
    refine jT_adv 1 (pcN := 68) (LN := [(4, (0, 24)), (0, (4, 0)), (1, (1, v))]) (stN := [(1, 255), (1, q1)]) (hsN := [(11, [(4, 1), (4, 2), (0, l), (0, 0), (0, 0), (0, 0)], []), (100, [], X), jgh]) (c1 := 0) (s1 := 0) (c2 := b1) (s2 := b2) (by exact rfl) ?_ (by omega) (by omega)
    refine jT_land (x := q1) (y := 255) (z := q1 % 256) (by rfl) (by rfl) (jland_255 _) ?_
    have hb_q2 : 0 ≤ q1 % 256 ∧ q1 % 256 ≤ 255 := ⟨by omega, by omega⟩
    generalize hq_q2 : q1 % 256 = q2 at hb_q2 g_0 ⊢
    refine jT_xl2i (pcN := 70) jIE_79_69 rfl rfl ?_
    refine jT_xistore (v := (0, q2)) (LN := [(5, (0, q2)), (4, (0, 24)), (0, (4, 0)), (1, (1, v))]) (pcN := 72) jIE_79_70 rfl rfl rfl rfl ?_
    refine jT_xiload (v := (0, q2)) (pcN := 74) jIE_79_72 rfl rfl rfl ?_
    refine jT_ifT (a := q2) (t := 98) (by rfl) (by rfl) (by rfl) (jw_idd (by omega) (by omega)) (by simp only [jcP] <;> omega) ?_
    refine jT_xiinc (x := 24) (z := 16) (LN := [(4, (0, 16)), (5, (0, q2)), (0, (4, 0)), (1, (1, v))]) (pcN := 101) jIE_79_98 rfl rfl (by decide) rfl rfl ?_
    refine jT_xgoto (pcN := 56) jIE_79_101 rfl ?_
    refine jT_loc (LN := [(4, (0, 16)), (0, (4, 0)), (1, (1, v))]) (by show List.Nodup [4, 0, 1]; decide) (by intro q hq; simp only [List.mem_cons, List.not_mem_nil, or_false] at hq; rcases hq with rfl | rfl | rfl <;> rfl) ?_
    exact jEl_st_2_5 (hX) h_v ⟨by omega, by omega⟩ (by have := jb1_0 (b := v / 16777216 % 256) (by omega); omega) h
theorem jEl_st_2_3 {xs : List Int} {d b1 b2 : Nat} {Q : Nat → JV → List JC → Prop} {v w l : Int} {X : List Int} (hX : X.length = 120) (h_v : (-9223372036854775808) ≤ v ∧ v ≤ 9223372036854775807) (h_l : 0 ≤ l ∧ l ≤ 3) (hl : l + (jb1 (v / 4294967296 % 256) + (jb1 (v / 16777216 % 256) + (jb1 (v / 65536 % 256) + (jb1 (v / 256 % 256) + (jb1 (v % 256)))))) = w) (h : jT xs d 79 3 104 [(0, (4, 0))] [] [(11, [(4, 1), (4, 2), (0, w), (0, 0), (0, 0), (0, 0)], []), jgh, jgh] b1 b2 Q) : jT xs d 79 3 56 [(4, (0, 32)), (0, (4, 0)), (1, (1, v))] [] [(11, [(4, 1), (4, 2), (0, l), (0, 0), (0, 0), (0, 0)], []), (100, [], X), jgh] b1 b2 Q := by
  rcases (show (0 ≤ ((v / 4294967296) % 256) - 1) ∨ (((v / 4294967296) % 256) - 1 < 0) by omega) with g_0 | g_0
  · refine jT_xiload (v := (0, 32)) (pcN := 58) jIE_79_56 rfl rfl rfl ?_
    refine jT_xifF (t := 104) (pcN := 61) jIE_79_58 rfl (by decide +kernel) rfl rfl ?_
    refine jT_xlload_n (v := (1, v)) (pcN := 62) jIE_79_61 rfl rfl rfl ?_
    refine jT_xiload (v := (0, 32)) (pcN := 64) jIE_79_62 rfl rfl rfl ?_
    refine jT_lshr (x := v) (y := 32) (z := v / 4294967296) (by rfl) (by rfl) (jshr_32 (by omega) (by omega)) ?_
    have hb_q1 : (-2147483648) ≤ v / 4294967296 ∧ v / 4294967296 ≤ 2147483647 := ⟨by omega, by omega⟩
    generalize hq_q1 : v / 4294967296 = q1 at hb_q1 g_0 ⊢
    refine jT_adv 1 (pcN := 68) (LN := [(4, (0, 32)), (0, (4, 0)), (1, (1, v))]) (stN := [(1, 255), (1, q1)]) (hsN := [(11, [(4, 1), (4, 2), (0, l), (0, 0), (0, 0), (0, 0)], []), (100, [], X), jgh]) (c1 := 0) (s1 := 0) (c2 := b1) (s2 := b2) (by exact rfl) ?_ (by omega) (by omega)
    refine jT_land (x := q1) (y := 255) (z := q1 % 256) (by rfl) (by rfl) (jland_255 _) ?_
    have hb_q2 : 0 ≤ q1 % 256 ∧ q1 % 256 ≤ 255 := ⟨by omega, by omega⟩
    generalize hq_q2 : q1 % 256 = q2 at hb_q2 g_0 ⊢
    refine jT_xl2i (pcN := 70) jIE_79_69 rfl rfl ?_
    refine jT_xistore (v := (0, q2)) (LN := [(5, (0, q2)), (4, (0, 32)), (0, (4, 0)), (1, (1, v))]) (pcN := 72) jIE_79_70 rfl rfl rfl rfl ?_
    refine jT_xiload (v := (0, q2)) (pcN := 74) jIE_79_72 rfl rfl rfl ?_
    refine jT_ifF (a := q2) (t := 98) (by rfl) (by rfl) (by rfl) (jw_idd (by omega) (by omega)) (by simp only [jcP] <;> omega) ?_
    refine jT_xaload_n (v := (4, 0)) (pcN := 78) jIE_79_77 rfl rfl rfl ?_
    refine jT_xgetf (a := 0) (t := 1) (ci := 11) (fi := 0) (c := (11, [(4, 1), (4, 2), (0, l), (0, 0), (0, 0), (0, 0)], [])) (v := (4, 1)) (pcN := 81) jIE_79_78 rfl rfl rfl rfl rfl rfl rfl ?_
    refine jT_xaload_n (v := (4, 0)) (pcN := 82) jIE_79_81 rfl rfl rfl ?_
    refine jT_xgetf (a := 0) (t := 1) (ci := 11) (fi := 2) (c := (11, [(4, 1), (4, 2), (0, l), (0, 0), (0, 0), (0, 0)], [])) (v := (0, l)) (pcN := 85) jIE_79_82 rfl rfl rfl rfl rfl rfl rfl ?_
    refine jT_xiload (v := (0, q2)) (pcN := 87) jIE_79_85 rfl rfl rfl ?_
    refine jT_iast (x := q2) (a := 1) (j := (l).toNat) (fs := []) (X := X) (by rfl) (by rfl) (by rfl) (jw_nn (by omega) (by omega)) (by rw [show List.length (X : List Int) = 120 from hX]; omega) ?_
    refine jT_eq (LN := [(5, (0, q2)), (4, (0, 32)), (0, (4, 0)), (1, (1, v))]) (stN := []) (hsN := [(11, [(4, 1), (4, 2), (0, l), (0, 0), (0, 0), (0, 0)], []), (100, [], ((X).set ((l).toNat) q2)), jgh]) rfl rfl rfl ?_
    refine jT_xaload_n (v := (4, 0)) (pcN := 89) jIE_79_88 rfl rfl rfl ?_
    refine jT_adv 1 (pcN := 90) (LN := [(5, (0, q2)), (4, (0, 32)), (0, (4, 0)), (1, (1, v))]) (stN := [(4, 0), (4, 0)]) (hsN := [(11, [(4, 1), (4, 2), (0, l), (0, 0), (0, 0), (0, 0)], []), (100, [], ((X).set ((l).toNat) q2)), jgh]) (c1 := 0) (s1 := 0) (c2 := b1) (s2 := b2) (by exact rfl) ?_ (by omega) (by omega)
    refine jT_xgetf (a := 0) (t := 1) (ci := 11) (fi := 2) (c := (11, [(4, 1), (4, 2), (0, l), (0, 0), (0, 0), (0, 0)], [])) (v := (0, l)) (pcN := 93) jIE_79_90 rfl rfl rfl rfl rfl rfl rfl ?_
    refine jT_xiconst (k := 1) (pcN := 94) jIE_79_93 rfl ?_
    refine jT_xiadd (x := l) (y := 1) (z := l + 1) (pcN := 95) jIE_79_94 rfl (rfl) rfl ?_
    refine jT_adv 1 (pcN := 98) (LN := [(5, (0, q2)), (4, (0, 32)), (0, (4, 0)), (1, (1, v))]) (stN := []) (hsN := [(11, [(4, 1), (4, 2), (0, l + 1), (0, 0), (0, 0), (0, 0)], []), (100, [], ((X).set ((l).toNat) q2)), jgh]) (c1 := 0) (s1 := 0) (c2 := b1) (s2 := b2) (by exact rfl) ?_ (by omega) (by omega)
    refine jT_xiinc (x := 32) (z := 24) (LN := [(4, (0, 24)), (5, (0, q2)), (0, (4, 0)), (1, (1, v))]) (pcN := 101) jIE_79_98 rfl rfl (by decide) rfl rfl ?_
    refine jT_xgoto (pcN := 56) jIE_79_101 rfl ?_
    refine jT_loc (LN := [(4, (0, 24)), (0, (4, 0)), (1, (1, v))]) (by show List.Nodup [4, 0, 1]; decide) (by intro q hq; simp only [List.mem_cons, List.not_mem_nil, or_false] at hq; rcases hq with rfl | rfl | rfl <;> rfl) ?_
    exact jEl_st_2_4 (by rw [List.length_set]; exact (hX)) h_v ⟨by omega, by omega⟩ (by have := jb1_1 (b := v / 4294967296 % 256) (by omega); omega) h
  · refine jT_xiload (v := (0, 32)) (pcN := 58) jIE_79_56 rfl rfl rfl ?_
    refine jT_xifF (t := 104) (pcN := 61) jIE_79_58 rfl (by decide +kernel) rfl rfl ?_
    refine jT_xlload_n (v := (1, v)) (pcN := 62) jIE_79_61 rfl rfl rfl ?_
    refine jT_xiload (v := (0, 32)) (pcN := 64) jIE_79_62 rfl rfl rfl ?_
    refine jT_lshr (x := v) (y := 32) (z := v / 4294967296) (by rfl) (by rfl) (jshr_32 (by omega) (by omega)) ?_
    have hb_q1 : (-2147483648) ≤ v / 4294967296 ∧ v / 4294967296 ≤ 2147483647 := ⟨by omega, by omega⟩
    generalize hq_q1 : v / 4294967296 = q1 at hb_q1 g_0 ⊢
    refine jT_adv 1 (pcN := 68) (LN := [(4, (0, 32)), (0, (4, 0)), (1, (1, v))]) (stN := [(1, 255), (1, q1)]) (hsN := [(11, [(4, 1), (4, 2), (0, l), (0, 0), (0, 0), (0, 0)], []), (100, [], X), jgh]) (c1 := 0) (s1 := 0) (c2 := b1) (s2 := b2) (by exact rfl) ?_ (by omega) (by omega)
    refine jT_land (x := q1) (y := 255) (z := q1 % 256) (by rfl) (by rfl) (jland_255 _) ?_
    have hb_q2 : 0 ≤ q1 % 256 ∧ q1 % 256 ≤ 255 := ⟨by omega, by omega⟩
    generalize hq_q2 : q1 % 256 = q2 at hb_q2 g_0 ⊢
    refine jT_xl2i (pcN := 70) jIE_79_69 rfl rfl ?_
    refine jT_xistore (v := (0, q2)) (LN := [(5, (0, q2)), (4, (0, 32)), (0, (4, 0)), (1, (1, v))]) (pcN := 72) jIE_79_70 rfl rfl rfl rfl ?_
    refine jT_xiload (v := (0, q2)) (pcN := 74) jIE_79_72 rfl rfl rfl ?_
    refine jT_ifT (a := q2) (t := 98) (by rfl) (by rfl) (by rfl) (jw_idd (by omega) (by omega)) (by simp only [jcP] <;> omega) ?_
    refine jT_xiinc (x := 32) (z := 24) (LN := [(4, (0, 24)), (5, (0, q2)), (0, (4, 0)), (1, (1, v))]) (pcN := 101) jIE_79_98 rfl rfl (by decide) rfl rfl ?_
    refine jT_xgoto (pcN := 56) jIE_79_101 rfl ?_
    refine jT_loc (LN := [(4, (0, 24)), (0, (4, 0)), (1, (1, v))]) (by show List.Nodup [4, 0, 1]; decide) (by intro q hq; simp only [List.mem_cons, List.not_mem_nil, or_false] at hq; rcases hq with rfl | rfl | rfl <;> rfl) ?_
    exact jEl_st_2_4 (hX) h_v ⟨by omega, by omega⟩ (by have := jb1_0 (b := v / 4294967296 % 256) (by omega); omega) h
theorem jEl_st_2_2 {xs : List Int} {d b1 b2 : Nat} {Q : Nat → JV → List JC → Prop} {v w l : Int} {X : List Int} (hX : X.length = 120) (h_v : (-9223372036854775808) ≤ v ∧ v ≤ 9223372036854775807) (h_l : 0 ≤ l ∧ l ≤ 2) (hl : l + (jb1 (v / 1099511627776 % 256) + (jb1 (v / 4294967296 % 256) + (jb1 (v / 16777216 % 256) + (jb1 (v / 65536 % 256) + (jb1 (v / 256 % 256) + (jb1 (v % 256))))))) = w) (h : jT xs d 79 3 104 [(0, (4, 0))] [] [(11, [(4, 1), (4, 2), (0, w), (0, 0), (0, 0), (0, 0)], []), jgh, jgh] b1 b2 Q) : jT xs d 79 3 56 [(4, (0, 40)), (0, (4, 0)), (1, (1, v))] [] [(11, [(4, 1), (4, 2), (0, l), (0, 0), (0, 0), (0, 0)], []), (100, [], X), jgh] b1 b2 Q := by
  rcases (show (0 ≤ ((v / 1099511627776) % 256) - 1) ∨ (((v / 1099511627776) % 256) - 1 < 0) by omega) with g_0 | g_0
  · refine jT_xiload (v := (0, 40)) (pcN := 58) jIE_79_56 rfl rfl rfl ?_
    refine jT_xifF (t := 104) (pcN := 61) jIE_79_58 rfl (by decide +kernel) rfl rfl ?_
    refine jT_xlload_n (v := (1, v)) (pcN := 62) jIE_79_61 rfl rfl rfl ?_
    refine jT_xiload (v := (0, 40)) (pcN := 64) jIE_79_62 rfl rfl rfl ?_
    refine jT_lshr (x := v) (y := 40) (z := v / 1099511627776) (by rfl) (by rfl) (jshr_40 (by omega) (by omega)) ?_
    have hb_q1 : (-8388608) ≤ v / 1099511627776 ∧ v / 1099511627776 ≤ 8388607 := ⟨by omega, by omega⟩
    generalize hq_q1 : v / 1099511627776 = q1 at hb_q1 g_0 ⊢
    refine jT_adv 1 (pcN := 68) (LN := [(4, (0, 40)), (0, (4, 0)), (1, (1, v))]) (stN := [(1, 255), (1, q1)]) (hsN := [(11, [(4, 1), (4, 2), (0, l), (0, 0), (0, 0), (0, 0)], []), (100, [], X), jgh]) (c1 := 0) (s1 := 0) (c2 := b1) (s2 := b2) (by exact rfl) ?_ (by omega) (by omega)
    refine jT_land (x := q1) (y := 255) (z := q1 % 256) (by rfl) (by rfl) (jland_255 _) ?_
    have hb_q2 : 0 ≤ q1 % 256 ∧ q1 % 256 ≤ 255 := ⟨by omega, by omega⟩
    generalize hq_q2 : q1 % 256 = q2 at hb_q2 g_0 ⊢
    refine jT_xl2i (pcN := 70) jIE_79_69 rfl rfl ?_
    refine jT_xistore (v := (0, q2)) (LN := [(5, (0, q2)), (4, (0, 40)), (0, (4, 0)), (1, (1, v))]) (pcN := 72) jIE_79_70 rfl rfl rfl rfl ?_
    refine jT_xiload (v := (0, q2)) (pcN := 74) jIE_79_72 rfl rfl rfl ?_
    refine jT_ifF (a := q2) (t := 98) (by rfl) (by rfl) (by rfl) (jw_idd (by omega) (by omega)) (by simp only [jcP] <;> omega) ?_
    refine jT_xaload_n (v := (4, 0)) (pcN := 78) jIE_79_77 rfl rfl rfl ?_
    refine jT_xgetf (a := 0) (t := 1) (ci := 11) (fi := 0) (c := (11, [(4, 1), (4, 2), (0, l), (0, 0), (0, 0), (0, 0)], [])) (v := (4, 1)) (pcN := 81) jIE_79_78 rfl rfl rfl rfl rfl rfl rfl ?_
    refine jT_xaload_n (v := (4, 0)) (pcN := 82) jIE_79_81 rfl rfl rfl ?_
    refine jT_xgetf (a := 0) (t := 1) (ci := 11) (fi := 2) (c := (11, [(4, 1), (4, 2), (0, l), (0, 0), (0, 0), (0, 0)], [])) (v := (0, l)) (pcN := 85) jIE_79_82 rfl rfl rfl rfl rfl rfl rfl ?_
    refine jT_xiload (v := (0, q2)) (pcN := 87) jIE_79_85 rfl rfl rfl ?_
    refine jT_iast (x := q2) (a := 1) (j := (l).toNat) (fs := []) (X := X) (by rfl) (by rfl) (by rfl) (jw_nn (by omega) (by omega)) (by rw [show List.length (X : List Int) = 120 from hX]; omega) ?_
    refine jT_eq (LN := [(5, (0, q2)), (4, (0, 40)), (0, (4, 0)), (1, (1, v))]) (stN := []) (hsN := [(11, [(4, 1), (4, 2), (0, l), (0, 0), (0, 0), (0, 0)], []), (100, [], ((X).set ((l).toNat) q2)), jgh]) rfl rfl rfl ?_
    refine jT_xaload_n (v := (4, 0)) (pcN := 89) jIE_79_88 rfl rfl rfl ?_
    refine jT_adv 1 (pcN := 90) (LN := [(5, (0, q2)), (4, (0, 40)), (0, (4, 0)), (1, (1, v))]) (stN := [(4, 0), (4, 0)]) (hsN := [(11, [(4, 1), (4, 2), (0, l), (0, 0), (0, 0), (0, 0)], []), (100, [], ((X).set ((l).toNat) q2)), jgh]) (c1 := 0) (s1 := 0) (c2 := b1) (s2 := b2) (by exact rfl) ?_ (by omega) (by omega)
    refine jT_xgetf (a := 0) (t := 1) (ci := 11) (fi := 2) (c := (11, [(4, 1), (4, 2), (0, l), (0, 0), (0, 0), (0, 0)], [])) (v := (0, l)) (pcN := 93) jIE_79_90 rfl rfl rfl rfl rfl rfl rfl ?_
    refine jT_xiconst (k := 1) (pcN := 94) jIE_79_93 rfl ?_
    refine jT_xiadd (x := l) (y := 1) (z := l + 1) (pcN := 95) jIE_79_94 rfl (rfl) rfl ?_
    refine jT_adv 1 (pcN := 98) (LN := [(5, (0, q2)), (4, (0, 40)), (0, (4, 0)), (1, (1, v))]) (stN := []) (hsN := [(11, [(4, 1), (4, 2), (0, l + 1), (0, 0), (0, 0), (0, 0)], []), (100, [], ((X).set ((l).toNat) q2)), jgh]) (c1 := 0) (s1 := 0) (c2 := b1) (s2 := b2) (by exact rfl) ?_ (by omega) (by omega)
    refine jT_xiinc (x := 40) (z := 32) (LN := [(4, (0, 32)), (5, (0, q2)), (0, (4, 0)), (1, (1, v))]) (pcN := 101) jIE_79_98 rfl rfl (by decide) rfl rfl ?_
    refine jT_xgoto (pcN := 56) jIE_79_101 rfl ?_
    refine jT_loc (LN := [(4, (0, 32)), (0, (4, 0)), (1, (1, v))]) (by show List.Nodup [4, 0, 1]; decide) (by intro q hq; simp only [List.mem_cons, List.not_mem_nil, or_false] at hq; rcases hq with rfl | rfl | rfl <;> rfl) ?_
    exact jEl_st_2_3 (by rw [List.length_set]; exact (hX)) h_v ⟨by omega, by omega⟩ (by have := jb1_1 (b := v / 1099511627776 % 256) (by omega); omega) h
  · refine jT_xiload (v := (0, 40)) (pcN := 58) jIE_79_56 rfl rfl rfl ?_
    refine jT_xifF (t := 104) (pcN := 61) jIE_79_58 rfl (by decide +kernel) rfl rfl ?_
    refine jT_xlload_n (v := (1, v)) (pcN := 62) jIE_79_61 rfl rfl rfl ?_
    refine jT_xiload (v := (0, 40)) (pcN := 64) jIE_79_62 rfl rfl rfl ?_
    refine jT_lshr (x := v) (y := 40) (z := v / 1099511627776) (by rfl) (by rfl) (jshr_40 (by omega) (by omega)) ?_
    have hb_q1 : (-8388608) ≤ v / 1099511627776 ∧ v / 1099511627776 ≤ 8388607 := ⟨by omega, by omega⟩
    generalize hq_q1 : v / 1099511627776 = q1 at hb_q1 g_0 ⊢
    refine jT_adv 1 (pcN := 68) (LN := [(4, (0, 40)), (0, (4, 0)), (1, (1, v))]) (stN := [(1, 255), (1, q1)]) (hsN := [(11, [(4, 1), (4, 2), (0, l), (0, 0), (0, 0), (0, 0)], []), (100, [], X), jgh]) (c1 := 0) (s1 := 0) (c2 := b1) (s2 := b2) (by exact rfl) ?_ (by omega) (by omega)
    refine jT_land (x := q1) (y := 255) (z := q1 % 256) (by rfl) (by rfl) (jland_255 _) ?_
    have hb_q2 : 0 ≤ q1 % 256 ∧ q1 % 256 ≤ 255 := ⟨by omega, by omega⟩
    generalize hq_q2 : q1 % 256 = q2 at hb_q2 g_0 ⊢
    refine jT_xl2i (pcN := 70) jIE_79_69 rfl rfl ?_
    refine jT_xistore (v := (0, q2)) (LN := [(5, (0, q2)), (4, (0, 40)), (0, (4, 0)), (1, (1, v))]) (pcN := 72) jIE_79_70 rfl rfl rfl rfl ?_
    refine jT_xiload (v := (0, q2)) (pcN := 74) jIE_79_72 rfl rfl rfl ?_
    refine jT_ifT (a := q2) (t := 98) (by rfl) (by rfl) (by rfl) (jw_idd (by omega) (by omega)) (by simp only [jcP] <;> omega) ?_
    refine jT_xiinc (x := 40) (z := 32) (LN := [(4, (0, 32)), (5, (0, q2)), (0, (4, 0)), (1, (1, v))]) (pcN := 101) jIE_79_98 rfl rfl (by decide) rfl rfl ?_
    refine jT_xgoto (pcN := 56) jIE_79_101 rfl ?_
    refine jT_loc (LN := [(4, (0, 32)), (0, (4, 0)), (1, (1, v))]) (by show List.Nodup [4, 0, 1]; decide) (by intro q hq; simp only [List.mem_cons, List.not_mem_nil, or_false] at hq; rcases hq with rfl | rfl | rfl <;> rfl) ?_
    exact jEl_st_2_3 (hX) h_v ⟨by omega, by omega⟩ (by have := jb1_0 (b := v / 1099511627776 % 256) (by omega); omega) h
theorem jEl_st_2_1 {xs : List Int} {d b1 b2 : Nat} {Q : Nat → JV → List JC → Prop} {v w l : Int} {X : List Int} (hX : X.length = 120) (h_v : (-9223372036854775808) ≤ v ∧ v ≤ 9223372036854775807) (h_l : 0 ≤ l ∧ l ≤ 1) (hl : l + (jb1 (v / 281474976710656 % 256) + (jb1 (v / 1099511627776 % 256) + (jb1 (v / 4294967296 % 256) + (jb1 (v / 16777216 % 256) + (jb1 (v / 65536 % 256) + (jb1 (v / 256 % 256) + (jb1 (v % 256)))))))) = w) (h : jT xs d 79 3 104 [(0, (4, 0))] [] [(11, [(4, 1), (4, 2), (0, w), (0, 0), (0, 0), (0, 0)], []), jgh, jgh] b1 b2 Q) : jT xs d 79 3 56 [(4, (0, 48)), (0, (4, 0)), (1, (1, v))] [] [(11, [(4, 1), (4, 2), (0, l), (0, 0), (0, 0), (0, 0)], []), (100, [], X), jgh] b1 b2 Q := by
  rcases (show (0 ≤ ((v / 281474976710656) % 256) - 1) ∨ (((v / 281474976710656) % 256) - 1 < 0) by omega) with g_0 | g_0
  · refine jT_xiload (v := (0, 48)) (pcN := 58) jIE_79_56 rfl rfl rfl ?_
    refine jT_xifF (t := 104) (pcN := 61) jIE_79_58 rfl (by decide +kernel) rfl rfl ?_
    refine jT_xlload_n (v := (1, v)) (pcN := 62) jIE_79_61 rfl rfl rfl ?_
    refine jT_xiload (v := (0, 48)) (pcN := 64) jIE_79_62 rfl rfl rfl ?_
    refine jT_lshr (x := v) (y := 48) (z := v / 281474976710656) (by rfl) (by rfl) (jshr_48 (by omega) (by omega)) ?_
    have hb_q1 : (-32768) ≤ v / 281474976710656 ∧ v / 281474976710656 ≤ 32767 := ⟨by omega, by omega⟩
    generalize hq_q1 : v / 281474976710656 = q1 at hb_q1 g_0 ⊢
    refine jT_adv 1 (pcN := 68) (LN := [(4, (0, 48)), (0, (4, 0)), (1, (1, v))]) (stN := [(1, 255), (1, q1)]) (hsN := [(11, [(4, 1), (4, 2), (0, l), (0, 0), (0, 0), (0, 0)], []), (100, [], X), jgh]) (c1 := 0) (s1 := 0) (c2 := b1) (s2 := b2) (by exact rfl) ?_ (by omega) (by omega)
    refine jT_land (x := q1) (y := 255) (z := q1 % 256) (by rfl) (by rfl) (jland_255 _) ?_
    have hb_q2 : 0 ≤ q1 % 256 ∧ q1 % 256 ≤ 255 := ⟨by omega, by omega⟩
    generalize hq_q2 : q1 % 256 = q2 at hb_q2 g_0 ⊢
    refine jT_xl2i (pcN := 70) jIE_79_69 rfl rfl ?_
    refine jT_xistore (v := (0, q2)) (LN := [(5, (0, q2)), (4, (0, 48)), (0, (4, 0)), (1, (1, v))]) (pcN := 72) jIE_79_70 rfl rfl rfl rfl ?_
    refine jT_xiload (v := (0, q2)) (pcN := 74) jIE_79_72 rfl rfl rfl ?_
    refine jT_ifF (a := q2) (t := 98) (by rfl) (by rfl) (by rfl) (jw_idd (by omega) (by omega)) (by simp only [jcP] <;> omega) ?_
    refine jT_xaload_n (v := (4, 0)) (pcN := 78) jIE_79_77 rfl rfl rfl ?_
    refine jT_xgetf (a := 0) (t := 1) (ci := 11) (fi := 0) (c := (11, [(4, 1), (4, 2), (0, l), (0, 0), (0, 0), (0, 0)], [])) (v := (4, 1)) (pcN := 81) jIE_79_78 rfl rfl rfl rfl rfl rfl rfl ?_
    refine jT_xaload_n (v := (4, 0)) (pcN := 82) jIE_79_81 rfl rfl rfl ?_
    refine jT_xgetf (a := 0) (t := 1) (ci := 11) (fi := 2) (c := (11, [(4, 1), (4, 2), (0, l), (0, 0), (0, 0), (0, 0)], [])) (v := (0, l)) (pcN := 85) jIE_79_82 rfl rfl rfl rfl rfl rfl rfl ?_
    refine jT_xiload (v := (0, q2)) (pcN := 87) jIE_79_85 rfl rfl rfl ?_
    refine jT_iast (x := q2) (a := 1) (j := (l).toNat) (fs := []) (X := X) (by rfl) (by rfl) (by rfl) (jw_nn (by omega) (by omega)) (by rw [show List.length (X : List Int) = 120 from hX]; omega) ?_
    refine jT_eq (LN := [(5, (0, q2)), (4, (0, 48)), (0, (4, 0)), (1, (1, v))]) (stN := []) (hsN := [(11, [(4, 1), (4, 2), (0, l), (0, 0), (0, 0), (0, 0)], []), (100, [], ((X).set ((l).toNat) q2)), jgh]) rfl rfl rfl ?_
    refine jT_xaload_n (v := (4, 0)) (pcN := 89) jIE_79_88 rfl rfl rfl ?_
    refine jT_adv 1 (pcN := 90) (LN := [(5, (0, q2)), (4, (0, 48)), (0, (4, 0)), (1, (1, v))]) (stN := [(4, 0), (4, 0)]) (hsN := [(11, [(4, 1), (4, 2), (0, l), (0, 0), (0, 0), (0, 0)], []), (100, [], ((X).set ((l).toNat) q2)), jgh]) (c1 := 0) (s1 := 0) (c2 := b1) (s2 := b2) (by exact rfl) ?_ (by omega) (by omega)
    refine jT_xgetf (a := 0) (t := 1) (ci := 11) (fi := 2) (c := (11, [(4, 1), (4, 2), (0, l), (0, 0), (0, 0), (0, 0)], [])) (v := (0, l)) (pcN := 93) jIE_79_90 rfl rfl rfl rfl rfl rfl rfl ?_
    refine jT_xiconst (k := 1) (pcN := 94) jIE_79_93 rfl ?_
    refine jT_xiadd (x := l) (y := 1) (z := l + 1) (pcN := 95) jIE_79_94 rfl (rfl) rfl ?_
    refine jT_adv 1 (pcN := 98) (LN := [(5, (0, q2)), (4, (0, 48)), (0, (4, 0)), (1, (1, v))]) (stN := []) (hsN := [(11, [(4, 1), (4, 2), (0, l + 1), (0, 0), (0, 0), (0, 0)], []), (100, [], ((X).set ((l).toNat) q2)), jgh]) (c1 := 0) (s1 := 0) (c2 := b1) (s2 := b2) (by exact rfl) ?_ (by omega) (by omega)
    refine jT_xiinc (x := 48) (z := 40) (LN := [(4, (0, 40)), (5, (0, q2)), (0, (4, 0)), (1, (1, v))]) (pcN := 101) jIE_79_98 rfl rfl (by decide) rfl rfl ?_
    refine jT_xgoto (pcN := 56) jIE_79_101 rfl ?_
    refine jT_loc (LN := [(4, (0, 40)), (0, (4, 0)), (1, (1, v))]) (by show List.Nodup [4, 0, 1]; decide) (by intro q hq; simp only [List.mem_cons, List.not_mem_nil, or_false] at hq; rcases hq with rfl | rfl | rfl <;> rfl) ?_
    exact jEl_st_2_2 (by rw [List.length_set]; exact (hX)) h_v ⟨by omega, by omega⟩ (by have := jb1_1 (b := v / 281474976710656 % 256) (by omega); omega) h
  · refine jT_xiload (v := (0, 48)) (pcN := 58) jIE_79_56 rfl rfl rfl ?_
    refine jT_xifF (t := 104) (pcN := 61) jIE_79_58 rfl (by decide +kernel) rfl rfl ?_
    refine jT_xlload_n (v := (1, v)) (pcN := 62) jIE_79_61 rfl rfl rfl ?_
    refine jT_xiload (v := (0, 48)) (pcN := 64) jIE_79_62 rfl rfl rfl ?_
    refine jT_lshr (x := v) (y := 48) (z := v / 281474976710656) (by rfl) (by rfl) (jshr_48 (by omega) (by omega)) ?_
    have hb_q1 : (-32768) ≤ v / 281474976710656 ∧ v / 281474976710656 ≤ 32767 := ⟨by omega, by omega⟩
    generalize hq_q1 : v / 281474976710656 = q1 at hb_q1 g_0 ⊢
    refine jT_adv 1 (pcN := 68) (LN := [(4, (0, 48)), (0, (4, 0)), (1, (1, v))]) (stN := [(1, 255), (1, q1)]) (hsN := [(11, [(4, 1), (4, 2), (0, l), (0, 0), (0, 0), (0, 0)], []), (100, [], X), jgh]) (c1 := 0) (s1 := 0) (c2 := b1) (s2 := b2) (by exact rfl) ?_ (by omega) (by omega)
    refine jT_land (x := q1) (y := 255) (z := q1 % 256) (by rfl) (by rfl) (jland_255 _) ?_
    have hb_q2 : 0 ≤ q1 % 256 ∧ q1 % 256 ≤ 255 := ⟨by omega, by omega⟩
    generalize hq_q2 : q1 % 256 = q2 at hb_q2 g_0 ⊢
    refine jT_xl2i (pcN := 70) jIE_79_69 rfl rfl ?_
    refine jT_xistore (v := (0, q2)) (LN := [(5, (0, q2)), (4, (0, 48)), (0, (4, 0)), (1, (1, v))]) (pcN := 72) jIE_79_70 rfl rfl rfl rfl ?_
    refine jT_xiload (v := (0, q2)) (pcN := 74) jIE_79_72 rfl rfl rfl ?_
    refine jT_ifT (a := q2) (t := 98) (by rfl) (by rfl) (by rfl) (jw_idd (by omega) (by omega)) (by simp only [jcP] <;> omega) ?_
    refine jT_xiinc (x := 48) (z := 40) (LN := [(4, (0, 40)), (5, (0, q2)), (0, (4, 0)), (1, (1, v))]) (pcN := 101) jIE_79_98 rfl rfl (by decide) rfl rfl ?_
    refine jT_xgoto (pcN := 56) jIE_79_101 rfl ?_
    refine jT_loc (LN := [(4, (0, 40)), (0, (4, 0)), (1, (1, v))]) (by show List.Nodup [4, 0, 1]; decide) (by intro q hq; simp only [List.mem_cons, List.not_mem_nil, or_false] at hq; rcases hq with rfl | rfl | rfl <;> rfl) ?_
    exact jEl_st_2_2 (hX) h_v ⟨by omega, by omega⟩ (by have := jb1_0 (b := v / 281474976710656 % 256) (by omega); omega) h
theorem jEl_st_2_0 {xs : List Int} {d b1 b2 : Nat} {Q : Nat → JV → List JC → Prop} {v w l : Int} {X : List Int} (hX : X.length = 120) (h_v : (-9223372036854775808) ≤ v ∧ v ≤ 9223372036854775807) (h_l : 0 ≤ l ∧ l ≤ 0) (hl : l + (jb1 (v / 72057594037927936 % 256) + (jb1 (v / 281474976710656 % 256) + (jb1 (v / 1099511627776 % 256) + (jb1 (v / 4294967296 % 256) + (jb1 (v / 16777216 % 256) + (jb1 (v / 65536 % 256) + (jb1 (v / 256 % 256) + (jb1 (v % 256))))))))) = w) (h : jT xs d 79 3 104 [(0, (4, 0))] [] [(11, [(4, 1), (4, 2), (0, w), (0, 0), (0, 0), (0, 0)], []), jgh, jgh] b1 b2 Q) : jT xs d 79 3 56 [(4, (0, 56)), (0, (4, 0)), (1, (1, v))] [] [(11, [(4, 1), (4, 2), (0, l), (0, 0), (0, 0), (0, 0)], []), (100, [], X), jgh] b1 b2 Q := by
  rcases (show (0 ≤ ((v / 72057594037927936) % 256) - 1) ∨ (((v / 72057594037927936) % 256) - 1 < 0) by omega) with g_0 | g_0
  · refine jT_xiload (v := (0, 56)) (pcN := 58) jIE_79_56 rfl rfl rfl ?_
    refine jT_xifF (t := 104) (pcN := 61) jIE_79_58 rfl (by decide +kernel) rfl rfl ?_
    refine jT_xlload_n (v := (1, v)) (pcN := 62) jIE_79_61 rfl rfl rfl ?_
    refine jT_xiload (v := (0, 56)) (pcN := 64) jIE_79_62 rfl rfl rfl ?_
    refine jT_lshr (x := v) (y := 56) (z := v / 72057594037927936) (by rfl) (by rfl) (jshr_56 (by omega) (by omega)) ?_
    have hb_q1 : (-128) ≤ v / 72057594037927936 ∧ v / 72057594037927936 ≤ 127 := ⟨by omega, by omega⟩
    generalize hq_q1 : v / 72057594037927936 = q1 at hb_q1 g_0 ⊢
    refine jT_adv 1 (pcN := 68) (LN := [(4, (0, 56)), (0, (4, 0)), (1, (1, v))]) (stN := [(1, 255), (1, q1)]) (hsN := [(11, [(4, 1), (4, 2), (0, l), (0, 0), (0, 0), (0, 0)], []), (100, [], X), jgh]) (c1 := 0) (s1 := 0) (c2 := b1) (s2 := b2) (by exact rfl) ?_ (by omega) (by omega)
    refine jT_land (x := q1) (y := 255) (z := q1 % 256) (by rfl) (by rfl) (jland_255 _) ?_
    have hb_q2 : 0 ≤ q1 % 256 ∧ q1 % 256 ≤ 255 := ⟨by omega, by omega⟩
    generalize hq_q2 : q1 % 256 = q2 at hb_q2 g_0 ⊢
    refine jT_xl2i (pcN := 70) jIE_79_69 rfl rfl ?_
    refine jT_xistore (v := (0, q2)) (LN := [(5, (0, q2)), (4, (0, 56)), (0, (4, 0)), (1, (1, v))]) (pcN := 72) jIE_79_70 rfl rfl rfl rfl ?_
    refine jT_xiload (v := (0, q2)) (pcN := 74) jIE_79_72 rfl rfl rfl ?_
    refine jT_ifF (a := q2) (t := 98) (by rfl) (by rfl) (by rfl) (jw_idd (by omega) (by omega)) (by simp only [jcP] <;> omega) ?_
    refine jT_xaload_n (v := (4, 0)) (pcN := 78) jIE_79_77 rfl rfl rfl ?_
    refine jT_xgetf (a := 0) (t := 1) (ci := 11) (fi := 0) (c := (11, [(4, 1), (4, 2), (0, l), (0, 0), (0, 0), (0, 0)], [])) (v := (4, 1)) (pcN := 81) jIE_79_78 rfl rfl rfl rfl rfl rfl rfl ?_
    refine jT_xaload_n (v := (4, 0)) (pcN := 82) jIE_79_81 rfl rfl rfl ?_
    refine jT_xgetf (a := 0) (t := 1) (ci := 11) (fi := 2) (c := (11, [(4, 1), (4, 2), (0, l), (0, 0), (0, 0), (0, 0)], [])) (v := (0, l)) (pcN := 85) jIE_79_82 rfl rfl rfl rfl rfl rfl rfl ?_
    refine jT_xiload (v := (0, q2)) (pcN := 87) jIE_79_85 rfl rfl rfl ?_
    refine jT_iast (x := q2) (a := 1) (j := (l).toNat) (fs := []) (X := X) (by rfl) (by rfl) (by rfl) (jw_nn (by omega) (by omega)) (by rw [show List.length (X : List Int) = 120 from hX]; omega) ?_
    refine jT_eq (LN := [(5, (0, q2)), (4, (0, 56)), (0, (4, 0)), (1, (1, v))]) (stN := []) (hsN := [(11, [(4, 1), (4, 2), (0, l), (0, 0), (0, 0), (0, 0)], []), (100, [], ((X).set ((l).toNat) q2)), jgh]) rfl rfl rfl ?_
    refine jT_xaload_n (v := (4, 0)) (pcN := 89) jIE_79_88 rfl rfl rfl ?_
    refine jT_adv 1 (pcN := 90) (LN := [(5, (0, q2)), (4, (0, 56)), (0, (4, 0)), (1, (1, v))]) (stN := [(4, 0), (4, 0)]) (hsN := [(11, [(4, 1), (4, 2), (0, l), (0, 0), (0, 0), (0, 0)], []), (100, [], ((X).set ((l).toNat) q2)), jgh]) (c1 := 0) (s1 := 0) (c2 := b1) (s2 := b2) (by exact rfl) ?_ (by omega) (by omega)
    refine jT_xgetf (a := 0) (t := 1) (ci := 11) (fi := 2) (c := (11, [(4, 1), (4, 2), (0, l), (0, 0), (0, 0), (0, 0)], [])) (v := (0, l)) (pcN := 93) jIE_79_90 rfl rfl rfl rfl rfl rfl rfl ?_
    refine jT_xiconst (k := 1) (pcN := 94) jIE_79_93 rfl ?_
    refine jT_xiadd (x := l) (y := 1) (z := l + 1) (pcN := 95) jIE_79_94 rfl (rfl) rfl ?_
    refine jT_adv 1 (pcN := 98) (LN := [(5, (0, q2)), (4, (0, 56)), (0, (4, 0)), (1, (1, v))]) (stN := []) (hsN := [(11, [(4, 1), (4, 2), (0, l + 1), (0, 0), (0, 0), (0, 0)], []), (100, [], ((X).set ((l).toNat) q2)), jgh]) (c1 := 0) (s1 := 0) (c2 := b1) (s2 := b2) (by exact rfl) ?_ (by omega) (by omega)
    refine jT_xiinc (x := 56) (z := 48) (LN := [(4, (0, 48)), (5, (0, q2)), (0, (4, 0)), (1, (1, v))]) (pcN := 101) jIE_79_98 rfl rfl (by decide) rfl rfl ?_
    refine jT_xgoto (pcN := 56) jIE_79_101 rfl ?_
    refine jT_loc (LN := [(4, (0, 48)), (0, (4, 0)), (1, (1, v))]) (by show List.Nodup [4, 0, 1]; decide) (by intro q hq; simp only [List.mem_cons, List.not_mem_nil, or_false] at hq; rcases hq with rfl | rfl | rfl <;> rfl) ?_
    exact jEl_st_2_1 (by rw [List.length_set]; exact (hX)) h_v ⟨by omega, by omega⟩ (by have := jb1_1 (b := v / 72057594037927936 % 256) (by omega); omega) h
  · refine jT_xiload (v := (0, 56)) (pcN := 58) jIE_79_56 rfl rfl rfl ?_
    refine jT_xifF (t := 104) (pcN := 61) jIE_79_58 rfl (by decide +kernel) rfl rfl ?_
    refine jT_xlload_n (v := (1, v)) (pcN := 62) jIE_79_61 rfl rfl rfl ?_
    refine jT_xiload (v := (0, 56)) (pcN := 64) jIE_79_62 rfl rfl rfl ?_
    refine jT_lshr (x := v) (y := 56) (z := v / 72057594037927936) (by rfl) (by rfl) (jshr_56 (by omega) (by omega)) ?_
    have hb_q1 : (-128) ≤ v / 72057594037927936 ∧ v / 72057594037927936 ≤ 127 := ⟨by omega, by omega⟩
    generalize hq_q1 : v / 72057594037927936 = q1 at hb_q1 g_0 ⊢
    refine jT_adv 1 (pcN := 68) (LN := [(4, (0, 56)), (0, (4, 0)), (1, (1, v))]) (stN := [(1, 255), (1, q1)]) (hsN := [(11, [(4, 1), (4, 2), (0, l), (0, 0), (0, 0), (0, 0)], []), (100, [], X), jgh]) (c1 := 0) (s1 := 0) (c2 := b1) (s2 := b2) (by exact rfl) ?_ (by omega) (by omega)
    refine jT_land (x := q1) (y := 255) (z := q1 % 256) (by rfl) (by rfl) (jland_255 _) ?_
    have hb_q2 : 0 ≤ q1 % 256 ∧ q1 % 256 ≤ 255 := ⟨by omega, by omega⟩
    generalize hq_q2 : q1 % 256 = q2 at hb_q2 g_0 ⊢
    refine jT_xl2i (pcN := 70) jIE_79_69 rfl rfl ?_
    refine jT_xistore (v := (0, q2)) (LN := [(5, (0, q2)), (4, (0, 56)), (0, (4, 0)), (1, (1, v))]) (pcN := 72) jIE_79_70 rfl rfl rfl rfl ?_
    refine jT_xiload (v := (0, q2)) (pcN := 74) jIE_79_72 rfl rfl rfl ?_
    refine jT_ifT (a := q2) (t := 98) (by rfl) (by rfl) (by rfl) (jw_idd (by omega) (by omega)) (by simp only [jcP] <;> omega) ?_
    refine jT_xiinc (x := 56) (z := 48) (LN := [(4, (0, 48)), (5, (0, q2)), (0, (4, 0)), (1, (1, v))]) (pcN := 101) jIE_79_98 rfl rfl (by decide) rfl rfl ?_
    refine jT_xgoto (pcN := 56) jIE_79_101 rfl ?_
    refine jT_loc (LN := [(4, (0, 48)), (0, (4, 0)), (1, (1, v))]) (by show List.Nodup [4, 0, 1]; decide) (by intro q hq; simp only [List.mem_cons, List.not_mem_nil, or_false] at hq; rcases hq with rfl | rfl | rfl <;> rfl) ?_
    exact jEl_st_2_1 (hX) h_v ⟨by omega, by omega⟩ (by have := jb1_0 (b := v / 72057594037927936 % 256) (by omega); omega) h
theorem jIE_79_104 : jmI (jm 79) 104 = (.iconst 1, 1) := by rfl
theorem jE_79_3 {xs : List Int} {d : Nat} {q3 : Int} (h_q3 : (-9223372036854775808) ≤ q3 ∧ q3 ≤ 9223372036854775807) : jT xs d 79 3 0 [(0, (4, 0)), (1, (1, q3))] [] [jzE_4, (100, [], (List.replicate 120 0)), jgh] 0 0 (fun k v hsN => k = 0 ∧ v = (0, 1) ∧ hsN = [(11, [(4, 1), (4, 2), (0, jby q3), (0, 0), (0, 0), (0, 0)], []), jgh, jgh]) := by
  refine jT_xiconst (k := 0) (pcN := 1) jIE_79_0 rfl ?_
  refine jT_xistore_n (v := (0, 0)) (LN := [(3, (0, 0)), (0, (4, 0)), (1, (1, q3))]) (pcN := 2) jIE_79_1 rfl rfl rfl rfl ?_
  refine jT_xiconst (k := 0) (pcN := 3) jIE_79_2 rfl ?_
  refine jT_xistore (v := (0, 0)) (LN := [(4, (0, 0)), (3, (0, 0)), (0, (4, 0)), (1, (1, q3))]) (pcN := 5) jIE_79_3 rfl rfl rfl rfl ?_
  refine jT_loc (LN := [(4, (0, 0)), (3, (0, 0)), (0, (4, 0)), (1, (1, q3))]) (by show List.Nodup [4, 3, 0, 1]; decide) (by intro q hq; simp only [List.mem_cons, List.not_mem_nil, or_false] at hq; rcases hq with rfl | rfl | rfl | rfl <;> rfl) ?_
  refine jEl_ct_1_0 (w := jby q3) (m := 0) (by omega) (by omega) (by unfold jby; omega) ?_
  have hb_q1 := jby_b q3
  generalize hq_q1 : jby q3 = q1 at hb_q1 ⊢
  refine jT_xaload_n (v := (4, 0)) (pcN := 40) jIE_79_39 rfl rfl rfl ?_
  refine jT_xgetf (a := 0) (t := 1) (ci := 11) (fi := 2) (c := jzE_4) (v := (0, 0)) (pcN := 43) jIE_79_40 rfl rfl rfl rfl rfl rfl rfl ?_
  refine jT_xiload_n (v := (0, q1)) (pcN := 44) jIE_79_43 rfl rfl rfl ?_
  refine jT_xiadd (x := 0) (y := q1) (z := q1) (pcN := 45) jIE_79_44 rfl (by omega) rfl ?_
  refine jT_xbipush (k := 120) (pcN := 47) jIE_79_45 (by decide) rfl ?_
  refine jT_icT (a := q1) (b := 120) (t := 52) (by rfl) (by rfl) (by rfl) (jw_idd (by omega) (by omega)) (jw_idd (by omega) (by omega)) (by simp only [jcP] <;> omega) ?_
  refine jT_xbipush (k := 56) (pcN := 54) jIE_79_52 (by decide) rfl ?_
  refine jT_xistore (v := (0, 56)) (LN := [(4, (0, 56)), (3, (0, q1)), (0, (4, 0)), (1, (1, q3))]) (pcN := 56) jIE_79_54 rfl rfl rfl rfl ?_
  refine jT_loc (LN := [(4, (0, 56)), (0, (4, 0)), (1, (1, q3))]) (by show List.Nodup [4, 0, 1]; decide) (by intro q hq; simp only [List.mem_cons, List.not_mem_nil, or_false] at hq; rcases hq with rfl | rfl | rfl <;> rfl) ?_
  refine jEl_st_2_0 (w := q1) (l := 0) (List.length_replicate) (by omega) (by omega) (by rw [← hq_q1]; unfold jby; omega) ?_
  refine jT_xiconst (k := 1) (pcN := 105) jIE_79_104 rfl ?_
  subst hq_q1
  exact jT_ret rfl (by decide) (by show 3 ≤ 3; omega) (by omega) (by omega) ⟨rfl, rfl, rfl⟩
theorem jIE_173_0 : jmI (jm 173) 0 = (.aload_n 0, 1) := by rfl
theorem jIE_173_1 : jmI (jm 173) 1 = (.getfield 33, 3) := by rfl
def jzE_50 : JC := (13, [(4, 1), (4, 2), (4, 3), (4, 4), (4, 5), (4, 6), (4, 7), (4, 8), (4, 9), (4, 10), (0, 0), (4, 11), (0, 0)], [])
theorem jIE_173_4 : jmI (jm 173) 4 = (.lload_n 1, 1) := by rfl
theorem jIE_173_8 : jmI (jm 173) 8 = (.ifCond .ne 14, 3) := by rfl
theorem jIE_173_22 : jmI (jm 173) 22 = (.aload_n 0, 1) := by rfl
theorem jIE_173_23 : jmI (jm 173) 23 = (.getfield 33, 3) := by rfl
theorem jIE_173_26 : jmI (jm 173) 26 = (.getfield 447, 3) := by rfl
def jzE_56 : JC := (11, [(4, 12), (4, 13), (0, 0), (0, 0), (0, 0), (0, 0)], [])
def jpE_57 : List JC := [jzE_50, jgh, jgh, jgh, jzE_56, jgh, jgh, jgh, jgh, jgh, jgh, jgh, (100, [], (List.replicate 120 0)), jgh]
theorem jE_173_4 {xs : List Int} {d : Nat} {q3 : Int} (h_q3 : (-9223372036854775808) ≤ q3 ∧ q3 ≤ 9223372036854775807) : jT xs (d + 1) 173 14 0 [(0, (4, 0)), (1, (1, q3))] [] jpE_57 0 0 (fun k v hsN => k = 0 ∧ v = (0, jby q3) ∧ hsN = [jzE_50, jgh, jgh, jgh, (11, [(4, 12), (4, 13), (0, jby q3), (0, 0), (0, 0), (0, 0)], []), jgh, jgh, jgh, jgh, jgh, jgh, jgh, jgh, jgh]) := by
  refine jT_xaload_n (v := (4, 0)) (pcN := 1) jIE_173_0 rfl rfl rfl ?_
  refine jT_xgetf (a := 0) (t := 1) (ci := 13) (fi := 3) (c := jzE_50) (v := (4, 4)) (pcN := 4) jIE_173_1 rfl rfl rfl rfl rfl rfl rfl ?_
  refine jT_xlload_n (v := (1, q3)) (pcN := 5) jIE_173_4 rfl rfl rfl ?_
  refine jT_fB [4, 12, 13] 14 (y := 79) (pcN := 8) (dC := 0) (bc1 := 0) (bc2 := 0) (c1 := 0) (c2 := 0) (as := [(4, 4), (1, q3)]) (asC := [(4, 0), (1, q3)]) (LN := [(0, (4, 0)), (1, (1, q3))]) (stN := []) (hsC := [jzE_4, (100, [], (List.replicate 120 0)), jgh]) (hsD := [(11, [(4, 1), (4, 2), (0, jby q3), (0, 0), (0, 0), (0, 0)], []), jgh, jgh]) (v := (0, 1)) (st2 := [(0, 1)]) (hs2 := [jzE_50, jgh, jgh, jgh, (11, [(4, 12), (4, 13), (0, jby q3), (0, 0), (0, 0), (0, 0)], []), jgh, jgh, jgh, jgh, jgh, jgh, jgh, jgh, jgh]) (jE_79_3 (d := 0) (by omega)) (by rfl) (by rfl) (by decide +kernel) (by rfl) (by rfl) (by omega) (by omega) (by omega) (by omega) rfl rfl ?_
  have hb_q1 := jby_b q3
  generalize hq_q1 : jby q3 = q1 at hb_q1 ⊢
  refine jT_xifT (pcN := 22) jIE_173_8 rfl (by decide +kernel) rfl ?_
  refine jT_xaload_n (v := (4, 0)) (pcN := 23) jIE_173_22 rfl rfl rfl ?_
  refine jT_xgetf (a := 0) (t := 1) (ci := 13) (fi := 3) (c := jzE_50) (v := (4, 4)) (pcN := 26) jIE_173_23 rfl rfl rfl rfl rfl rfl rfl ?_
  refine jT_xgetf (a := 4) (t := 2) (ci := 11) (fi := 2) (c := (11, [(4, 12), (4, 13), (0, q1), (0, 0), (0, 0), (0, 0)], [])) (v := (0, q1)) (pcN := 29) jIE_173_26 rfl rfl rfl rfl rfl rfl rfl ?_
  subst hq_q1
  exact jT_ret rfl (by decide) (by show 14 ≤ 14; omega) (by omega) (by omega) ⟨rfl, rfl, rfl⟩
theorem jIE_370_0 : jmI (jm 370) 0 = (.aload_n 3, 1) := by rfl
theorem jIE_370_1 : jmI (jm 370) 1 = (.iconst 0, 1) := by rfl
theorem jIE_370_2 : jmI (jm 370) 2 = (.aload_n 0, 1) := by rfl
theorem jIE_370_3 : jmI (jm 370) 3 = (.lload_n 1, 1) := by rfl
def jzE_62 : JC := (13, [(4, 2), (4, 3), (4, 4), (4, 5), (4, 6), (4, 7), (4, 8), (4, 9), (4, 10), (4, 11), (0, 0), (4, 12), (0, 0)], [])
theorem jIE_370_7 : jmI (jm 370) 7 = (.i2l, 1) := by rfl
theorem jIE_370_9 : jmI (jm 370) 9 = (.goto 7, 3) := by rfl
theorem jIE_370_16 : jmI (jm 370) 16 = (.iconst 0, 1) := by rfl
def jzE_66 : JC := (11, [(4, 13), (4, 14), (0, 0), (0, 0), (0, 0), (0, 0)], [])
def jpE_67 : List JC := [jzE_62, (101, [], [0]), jgh, jgh, jgh, jzE_66, jgh, jgh, jgh, jgh, jgh, jgh, jgh, (100, [], (List.replicate 120 0)), jgh]
theorem jE_370_5 {xs : List Int} {d : Nat} {q3 : Int} (h_q3 : (-9223372036854775808) ≤ q3 ∧ q3 ≤ 9223372036854775807) : jT xs (d + 2) 370 15 0 [(0, (4, 0)), (1, (1, q3)), (3, (4, 1))] [] jpE_67 0 0 (fun k v hsN => k = 0 ∧ v = (0, 0) ∧ hsN = [jzE_62, (101, [], [jby q3]), jgh, jgh, jgh, (11, [(4, 13), (4, 14), (0, jby q3), (0, 0), (0, 0), (0, 0)], []), jgh, jgh, jgh, jgh, jgh, jgh, jgh, jgh, jgh]) := by
  refine jT_xaload_n (v := (4, 1)) (pcN := 1) jIE_370_0 rfl rfl rfl ?_
  refine jT_xiconst (k := 0) (pcN := 2) jIE_370_1 rfl ?_
  refine jT_xaload_n (v := (4, 0)) (pcN := 3) jIE_370_2 rfl rfl rfl ?_
  refine jT_xlload_n (v := (1, q3)) (pcN := 4) jIE_370_3 rfl rfl rfl ?_
  refine jT_fB [0, 2, 3, 4, 5, 6, 7, 8, 9, 10, 11, 12, 13, 14] 15 (y := 173) (pcN := 7) (dC := 1) (bc1 := 0) (bc2 := 0) (c1 := 0) (c2 := 0) (as := [(4, 0), (1, q3)]) (asC := [(4, 0), (1, q3)]) (LN := [(0, (4, 0)), (1, (1, q3)), (3, (4, 1))]) (stN := [(0, 0), (4, 1)]) (hsC := jpE_57) (hsD := [jzE_50, jgh, jgh, jgh, (11, [(4, 12), (4, 13), (0, jby q3), (0, 0), (0, 0), (0, 0)], []), jgh, jgh, jgh, jgh, jgh, jgh, jgh, jgh, jgh]) (v := (0, jby q3)) (st2 := [(0, jby q3), (0, 0), (4, 1)]) (hs2 := [jzE_62, (101, [], [0]), jgh, jgh, jgh, (11, [(4, 13), (4, 14), (0, jby q3), (0, 0), (0, 0), (0, 0)], []), jgh, jgh, jgh, jgh, jgh, jgh, jgh, jgh, jgh]) (jE_173_4 (d := 0) (by omega)) (by rfl) (by rfl) (by decide +kernel) (by rfl) (by rfl) (by omega) (by omega) (by omega) (by omega) rfl rfl ?_
  have hb_q1 := jby_b q3
  generalize hq_q1 : jby q3 = q1 at hb_q1 ⊢
  refine jT_xi2l (x := q1) (z := q1) (pcN := 8) jIE_370_7 rfl (jw_idd (by omega) (by omega)) rfl ?_
  refine jT_adv 1 (pcN := 9) (LN := [(0, (4, 0)), (1, (1, q3)), (3, (4, 1))]) (stN := []) (hsN := [jzE_62, (101, [], [q1]), jgh, jgh, jgh, (11, [(4, 13), (4, 14), (0, q1), (0, 0), (0, 0), (0, 0)], []), jgh, jgh, jgh, jgh, jgh, jgh, jgh, jgh, jgh]) (c1 := 0) (s1 := 0) (c2 := 0) (s2 := 0) (by exact rfl) ?_ (by omega) (by omega)
  refine jT_xgoto (pcN := 16) jIE_370_9 rfl ?_
  refine jT_xiconst (k := 0) (pcN := 17) jIE_370_16 rfl ?_
  subst hq_q1
  exact jT_ret rfl (by decide) (by show 15 ≤ 15; omega) (by omega) (by omega) ⟨rfl, rfl, rfl⟩
theorem jE_191_6 {xs : List Int} {d : Nat} : jT xs d 191 1 0 [(0, (4, 0)), (1, (0, 1)), (2, (0, 1))] [] [jgh] 0 0 (fun k v hsN => k = 0 ∧ v = (0, 0) ∧ hsN = [jgh] ++ []) := by
  refine jT_advK 5 (pcN := 18) (LN := [(0, (4, 0)), (1, (0, 1)), (2, (0, 1))]) (stN := [(0, 0)]) (hsN := [jgh]) (c1 := 0) (s1 := 0) (c2 := 0) (s2 := 0) (by decide +kernel) ?_ (by omega) (by omega)
  exact jT_ret rfl (by decide) (by show 1 ≤ 1; omega) (by omega) (by omega) ⟨rfl, rfl, rfl⟩
theorem jIE_316_0 : jmI (jm 316) 0 = (.aload_n 0, 1) := by rfl
theorem jIE_316_1 : jmI (jm 316) 1 = (.iconst 0, 1) := by rfl
def jzE_70 : JC := (14, [(0, 0), (4, 1), (4, 2), (4, 3), (4, 4), (0, 0), (4, 5), (0, 0), (4, 6), (4, 7), (1, 1), (4, 8), (0, 0), (4, 9), (0, 0), (0, 0), (0, 0), (0, 0), (0, 0), (0, 0), (0, 0), (4, 10), (4, 11), (4, 12), (4, 13), (4, 14), (4, 15), (0, 0)], [])
def jpE_71 : List JC := [jzE_70, jgh, jgh, jgh, jgh, jgh, jgh, jgh, jgh, (100, [], (List.replicate 120 0)), jgh, jgh, jgh, jgh, jgh, jgh]
theorem jIE_316_5 : jmI (jm 316) 5 = (.iconst 0, 1) := by rfl
theorem jIE_316_6 : jmI (jm 316) 6 = (.istore_n 3, 1) := by rfl
theorem jIE_316_7 : jmI (jm 316) 7 = (.bipush 56, 2) := by rfl
theorem jIE_316_9 : jmI (jm 316) 9 = (.istore 4, 2) := by rfl
theorem jIE_316_11 : jmI (jm 316) 11 = (.iload 4, 2) := by rfl
theorem jIE_316_13 : jmI (jm 316) 13 = (.ifCond .lt 30, 3) := by rfl
theorem jEl_ct_7_8 {xs : List Int} {d b1 b2 : Nat} {Q : Nat → JV → List JC → Prop} {v w m : Int} (h_v : (-9223372036854775808) ≤ v ∧ v ≤ 9223372036854775807) (h_m : 0 ≤ m ∧ m ≤ 8) (hm : m + (0) = w) (h : jT xs d 316 16 43 [(4, (0, (-8))), (3, (0, w)), (0, (4, 0)), (1, (1, v))] [] [jzE_70, jgh, jgh, jgh, jgh, jgh, jgh, jgh, jgh, (100, [], (List.replicate 120 0)), jgh, jgh, jgh, jgh, jgh, jgh] b1 b2 Q) : jT xs d 316 16 11 [(4, (0, (-8))), (3, (0, m)), (0, (4, 0)), (1, (1, v))] [] [jzE_70, jgh, jgh, jgh, jgh, jgh, jgh, jgh, jgh, (100, [], (List.replicate 120 0)), jgh, jgh, jgh, jgh, jgh, jgh] b1 b2 Q := by
  have e : m = w := by omega
  subst e
  refine jT_xiload (v := (0, (-8))) (pcN := 13) jIE_316_11 rfl rfl rfl ?_
  refine jT_xifT (pcN := 43) jIE_316_13 rfl (by decide +kernel) rfl ?_
  exact h
theorem jIE_316_16 : jmI (jm 316) 16 = (.iload_n 3, 1) := by rfl
theorem jIE_316_17 : jmI (jm 316) 17 = (.lload_n 1, 1) := by rfl
theorem jIE_316_18 : jmI (jm 316) 18 = (.iload 4, 2) := by rfl
theorem jIE_316_25 : jmI (jm 316) 25 = (.lconst 0, 1) := by rfl
theorem jIE_316_27 : jmI (jm 316) 27 = (.ifCond .ne 7, 3) := by rfl
theorem jIE_316_34 : jmI (jm 316) 34 = (.iconst 1, 1) := by rfl
theorem jIE_316_35 : jmI (jm 316) 35 = (.iadd, 1) := by rfl
theorem jIE_316_36 : jmI (jm 316) 36 = (.istore_n 3, 1) := by rfl
theorem jIE_316_37 : jmI (jm 316) 37 = (.iinc 4 (-8), 3) := by rfl
theorem jIE_316_40 : jmI (jm 316) 40 = (.goto (-29), 3) := by rfl
theorem jIE_316_30 : jmI (jm 316) 30 = (.iconst 0, 1) := by rfl
theorem jIE_316_31 : jmI (jm 316) 31 = (.goto 4, 3) := by rfl
theorem jEl_ct_7_7 {xs : List Int} {d b1 b2 : Nat} {Q : Nat → JV → List JC → Prop} {v w m : Int} (h_v : (-9223372036854775808) ≤ v ∧ v ≤ 9223372036854775807) (h_m : 0 ≤ m ∧ m ≤ 7) (hm : m + (jb1 (v % 256)) = w) (h : jT xs d 316 16 43 [(4, (0, (-8))), (3, (0, w)), (0, (4, 0)), (1, (1, v))] [] [jzE_70, jgh, jgh, jgh, jgh, jgh, jgh, jgh, jgh, (100, [], (List.replicate 120 0)), jgh, jgh, jgh, jgh, jgh, jgh] b1 b2 Q) : jT xs d 316 16 11 [(4, (0, 0)), (3, (0, m)), (0, (4, 0)), (1, (1, v))] [] [jzE_70, jgh, jgh, jgh, jgh, jgh, jgh, jgh, jgh, (100, [], (List.replicate 120 0)), jgh, jgh, jgh, jgh, jgh, jgh] b1 b2 Q := by
  rcases (show (0 ≤ (v % 256) - 1) ∨ ((v % 256) - 1 < 0) by omega) with g_0 | g_0
  · refine jT_xiload (v := (0, 0)) (pcN := 13) jIE_316_11 rfl rfl rfl ?_
    refine jT_xifF (t := 43) (pcN := 16) jIE_316_13 rfl (by decide +kernel) rfl rfl ?_
    refine jT_xiload_n (v := (0, m)) (pcN := 17) jIE_316_16 rfl rfl rfl ?_
    refine jT_xlload_n (v := (1, v)) (pcN := 18) jIE_316_17 rfl rfl rfl ?_
    refine jT_xiload (v := (0, 0)) (pcN := 20) jIE_316_18 rfl rfl rfl ?_
    refine jT_lushr (x := v) (y := 0) (z := v) (by rfl) (by rfl) (jushr_0 (by omega) (by omega)) ?_
    refine jT_adv 1 (pcN := 24) (LN := [(4, (0, 0)), (3, (0, m)), (0, (4, 0)), (1, (1, v))]) (stN := [(1, 255), (1, v), (0, m)]) (hsN := jpE_71) (c1 := 0) (s1 := 0) (c2 := b1) (s2 := b2) (by exact rfl) ?_ (by omega) (by omega)
    refine jT_land (x := v) (y := 255) (z := v % 256) (by rfl) (by rfl) (jland_255 _) ?_
    have hb_q1 : 0 ≤ v % 256 ∧ v % 256 ≤ 255 := ⟨by omega, by omega⟩
    generalize hq_q1 : v % 256 = q1 at hb_q1 g_0 ⊢
    refine jT_xlconst (z := 0) (pcN := 26) jIE_316_25 rfl rfl ?_
    refine jT_lcmp (a := q1) (b := 0) (z := 1) (by rfl) (by rfl) (jwl_idd (by omega) (by omega)) (jwl_idd (by omega) (by omega)) (by rw [decide_eq_true (show (0 : Int) < q1 by omega)]; rfl) ?_
    refine jT_xifT (pcN := 34) jIE_316_27 rfl (by decide +kernel) rfl ?_
    refine jT_xiconst (k := 1) (pcN := 35) jIE_316_34 rfl ?_
    refine jT_xiadd (x := m) (y := 1) (z := m + 1) (pcN := 36) jIE_316_35 rfl (rfl) rfl ?_
    refine jT_xistore_n (v := (0, m + 1)) (LN := [(3, (0, m + 1)), (4, (0, 0)), (0, (4, 0)), (1, (1, v))]) (pcN := 37) jIE_316_36 rfl rfl rfl rfl ?_
    refine jT_xiinc (x := 0) (z := (-8)) (LN := [(4, (0, (-8))), (3, (0, m + 1)), (0, (4, 0)), (1, (1, v))]) (pcN := 40) jIE_316_37 rfl rfl (by decide) rfl rfl ?_
    refine jT_xgoto (pcN := 11) jIE_316_40 rfl ?_
    refine jT_loc (LN := [(4, (0, (-8))), (3, (0, m + 1)), (0, (4, 0)), (1, (1, v))]) (by show List.Nodup [4, 3, 0, 1]; decide) (by intro q hq; simp only [List.mem_cons, List.not_mem_nil, or_false] at hq; rcases hq with rfl | rfl | rfl | rfl <;> rfl) ?_
    exact jEl_ct_7_8 h_v ⟨by omega, by omega⟩ (by have := jb1_1 (b := v % 256) (by omega); omega) h
  · refine jT_xiload (v := (0, 0)) (pcN := 13) jIE_316_11 rfl rfl rfl ?_
    refine jT_xifF (t := 43) (pcN := 16) jIE_316_13 rfl (by decide +kernel) rfl rfl ?_
    refine jT_xiload_n (v := (0, m)) (pcN := 17) jIE_316_16 rfl rfl rfl ?_
    refine jT_xlload_n (v := (1, v)) (pcN := 18) jIE_316_17 rfl rfl rfl ?_
    refine jT_xiload (v := (0, 0)) (pcN := 20) jIE_316_18 rfl rfl rfl ?_
    refine jT_lushr (x := v) (y := 0) (z := v) (by rfl) (by rfl) (jushr_0 (by omega) (by omega)) ?_
    refine jT_adv 1 (pcN := 24) (LN := [(4, (0, 0)), (3, (0, m)), (0, (4, 0)), (1, (1, v))]) (stN := [(1, 255), (1, v), (0, m)]) (hsN := jpE_71) (c1 := 0) (s1 := 0) (c2 := b1) (s2 := b2) (by exact rfl) ?_ (by omega) (by omega)
    refine jT_land (x := v) (y := 255) (z := v % 256) (by rfl) (by rfl) (jland_255 _) ?_
    have hb_q1 : 0 ≤ v % 256 ∧ v % 256 ≤ 255 := ⟨by omega, by omega⟩
    generalize hq_q1 : v % 256 = q1 at hb_q1 g_0 ⊢
    refine jT_xlconst (z := 0) (pcN := 26) jIE_316_25 rfl rfl ?_
    refine jT_lcmp (a := q1) (b := 0) (z := 0) (by rfl) (by rfl) (jwl_idd (by omega) (by omega)) (jwl_idd (by omega) (by omega)) (by rw [decide_eq_false (show ¬ ((0 : Int) < q1) by omega), decide_eq_true (show (q1 : Int) = 0 by omega)]; rfl) ?_
    refine jT_xifF (t := 34) (pcN := 30) jIE_316_27 rfl (by decide +kernel) rfl rfl ?_
    refine jT_xiconst (k := 0) (pcN := 31) jIE_316_30 rfl ?_
    refine jT_xgoto (pcN := 35) jIE_316_31 rfl ?_
    refine jT_xiadd (x := m) (y := 0) (z := m) (pcN := 36) jIE_316_35 rfl (by omega) rfl ?_
    refine jT_xistore_n (v := (0, m)) (LN := [(3, (0, m)), (4, (0, 0)), (0, (4, 0)), (1, (1, v))]) (pcN := 37) jIE_316_36 rfl rfl rfl rfl ?_
    refine jT_xiinc (x := 0) (z := (-8)) (LN := [(4, (0, (-8))), (3, (0, m)), (0, (4, 0)), (1, (1, v))]) (pcN := 40) jIE_316_37 rfl rfl (by decide) rfl rfl ?_
    refine jT_xgoto (pcN := 11) jIE_316_40 rfl ?_
    refine jT_loc (LN := [(4, (0, (-8))), (3, (0, m)), (0, (4, 0)), (1, (1, v))]) (by show List.Nodup [4, 3, 0, 1]; decide) (by intro q hq; simp only [List.mem_cons, List.not_mem_nil, or_false] at hq; rcases hq with rfl | rfl | rfl | rfl <;> rfl) ?_
    exact jEl_ct_7_8 h_v ⟨by omega, by omega⟩ (by have := jb1_0 (b := v % 256) (by omega); omega) h
theorem jEl_ct_7_6 {xs : List Int} {d b1 b2 : Nat} {Q : Nat → JV → List JC → Prop} {v w m : Int} (h_v : (-9223372036854775808) ≤ v ∧ v ≤ 9223372036854775807) (h_m : 0 ≤ m ∧ m ≤ 6) (hm : m + (jb1 (v / 256 % 256) + (jb1 (v % 256))) = w) (h : jT xs d 316 16 43 [(4, (0, (-8))), (3, (0, w)), (0, (4, 0)), (1, (1, v))] [] [jzE_70, jgh, jgh, jgh, jgh, jgh, jgh, jgh, jgh, (100, [], (List.replicate 120 0)), jgh, jgh, jgh, jgh, jgh, jgh] b1 b2 Q) : jT xs d 316 16 11 [(4, (0, 8)), (3, (0, m)), (0, (4, 0)), (1, (1, v))] [] [jzE_70, jgh, jgh, jgh, jgh, jgh, jgh, jgh, jgh, (100, [], (List.replicate 120 0)), jgh, jgh, jgh, jgh, jgh, jgh] b1 b2 Q := by
  rcases (show (0 ≤ ((v % 18446744073709551616 / 256) % 256) - 1) ∨ (((v % 18446744073709551616 / 256) % 256) - 1 < 0) by omega) with g_0 | g_0
  · refine jT_xiload (v := (0, 8)) (pcN := 13) jIE_316_11 rfl rfl rfl ?_
    refine jT_xifF (t := 43) (pcN := 16) jIE_316_13 rfl (by decide +kernel) rfl rfl ?_
    refine jT_xiload_n (v := (0, m)) (pcN := 17) jIE_316_16 rfl rfl rfl ?_
    refine jT_xlload_n (v := (1, v)) (pcN := 18) jIE_316_17 rfl rfl rfl ?_
    refine jT_xiload (v := (0, 8)) (pcN := 20) jIE_316_18 rfl rfl rfl ?_
    refine jT_lushr (x := v) (y := 8) (z := v % 18446744073709551616 / 256) (by rfl) (by rfl) (jushr_8 (by omega) (by omega)) ?_
    have hb_q1 : 0 ≤ v % 18446744073709551616 / 256 ∧ v % 18446744073709551616 / 256 ≤ 72057594037927935 := ⟨by omega, by omega⟩
    generalize hq_q1 : v % 18446744073709551616 / 256 = q1 at hb_q1 g_0 ⊢
    refine jT_adv 1 (pcN := 24) (LN := [(4, (0, 8)), (3, (0, m)), (0, (4, 0)), (1, (1, v))]) (stN := [(1, 255), (1, q1), (0, m)]) (hsN := jpE_71) (c1 := 0) (s1 := 0) (c2 := b1) (s2 := b2) (by exact rfl) ?_ (by omega) (by omega)
    refine jT_land (x := q1) (y := 255) (z := q1 % 256) (by rfl) (by rfl) (jland_255 _) ?_
    have hb_q2 : 0 ≤ q1 % 256 ∧ q1 % 256 ≤ 255 := ⟨by omega, by omega⟩
    generalize hq_q2 : q1 % 256 = q2 at hb_q2 g_0 ⊢
    refine jT_xlconst (z := 0) (pcN := 26) jIE_316_25 rfl rfl ?_
    refine jT_lcmp (a := q2) (b := 0) (z := 1) (by rfl) (by rfl) (jwl_idd (by omega) (by omega)) (jwl_idd (by omega) (by omega)) (by rw [decide_eq_true (show (0 : Int) < q2 by omega)]; rfl) ?_
    refine jT_xifT (pcN := 34) jIE_316_27 rfl (by decide +kernel) rfl ?_
    refine jT_xiconst (k := 1) (pcN := 35) jIE_316_34 rfl ?_
    refine jT_xiadd (x := m) (y := 1) (z := m + 1) (pcN := 36) jIE_316_35 rfl (rfl) rfl ?_
    refine jT_xistore_n (v := (0, m + 1)) (LN := [(3, (0, m + 1)), (4, (0, 8)), (0, (4, 0)), (1, (1, v))]) (pcN := 37) jIE_316_36 rfl rfl rfl rfl ?_
    refine jT_xiinc (x := 8) (z := 0) (LN := [(4, (0, 0)), (3, (0, m + 1)), (0, (4, 0)), (1, (1, v))]) (pcN := 40) jIE_316_37 rfl rfl (by decide) rfl rfl ?_
    refine jT_xgoto (pcN := 11) jIE_316_40 rfl ?_
    refine jT_loc (LN := [(4, (0, 0)), (3, (0, m + 1)), (0, (4, 0)), (1, (1, v))]) (by show List.Nodup [4, 3, 0, 1]; decide) (by intro q hq; simp only [List.mem_cons, List.not_mem_nil, or_false] at hq; rcases hq with rfl | rfl | rfl | rfl <;> rfl) ?_
    exact jEl_ct_7_7 h_v ⟨by omega, by omega⟩ (by have := jb1_1 (b := v / 256 % 256) (by omega); omega) h
  · refine jT_xiload (v := (0, 8)) (pcN := 13) jIE_316_11 rfl rfl rfl ?_
    refine jT_xifF (t := 43) (pcN := 16) jIE_316_13 rfl (by decide +kernel) rfl rfl ?_
    refine jT_xiload_n (v := (0, m)) (pcN := 17) jIE_316_16 rfl rfl rfl ?_
    refine jT_xlload_n (v := (1, v)) (pcN := 18) jIE_316_17 rfl rfl rfl ?_
    refine jT_xiload (v := (0, 8)) (pcN := 20) jIE_316_18 rfl rfl rfl ?_
    refine jT_lushr (x := v) (y := 8) (z := v % 18446744073709551616 / 256) (by rfl) (by rfl) (jushr_8 (by omega) (by omega)) ?_
    have hb_q1 : 0 ≤ v % 18446744073709551616 / 256 ∧ v % 18446744073709551616 / 256 ≤ 72057594037927935 := ⟨by omega, by omega⟩
    generalize hq_q1 : v % 18446744073709551616 / 256 = q1 at hb_q1 g_0 ⊢
    refine jT_adv 1 (pcN := 24) (LN := [(4, (0, 8)), (3, (0, m)), (0, (4, 0)), (1, (1, v))]) (stN := [(1, 255), (1, q1), (0, m)]) (hsN := jpE_71) (c1 := 0) (s1 := 0) (c2 := b1) (s2 := b2) (by exact rfl) ?_ (by omega) (by omega)
    refine jT_land (x := q1) (y := 255) (z := q1 % 256) (by rfl) (by rfl) (jland_255 _) ?_
    have hb_q2 : 0 ≤ q1 % 256 ∧ q1 % 256 ≤ 255 := ⟨by omega, by omega⟩
    generalize hq_q2 : q1 % 256 = q2 at hb_q2 g_0 ⊢
    refine jT_xlconst (z := 0) (pcN := 26) jIE_316_25 rfl rfl ?_
    refine jT_lcmp (a := q2) (b := 0) (z := 0) (by rfl) (by rfl) (jwl_idd (by omega) (by omega)) (jwl_idd (by omega) (by omega)) (by rw [decide_eq_false (show ¬ ((0 : Int) < q2) by omega), decide_eq_true (show (q2 : Int) = 0 by omega)]; rfl) ?_
    refine jT_xifF (t := 34) (pcN := 30) jIE_316_27 rfl (by decide +kernel) rfl rfl ?_
    refine jT_xiconst (k := 0) (pcN := 31) jIE_316_30 rfl ?_
    refine jT_xgoto (pcN := 35) jIE_316_31 rfl ?_
    refine jT_xiadd (x := m) (y := 0) (z := m) (pcN := 36) jIE_316_35 rfl (by omega) rfl ?_
    refine jT_xistore_n (v := (0, m)) (LN := [(3, (0, m)), (4, (0, 8)), (0, (4, 0)), (1, (1, v))]) (pcN := 37) jIE_316_36 rfl rfl rfl rfl ?_
    refine jT_xiinc (x := 8) (z := 0) (LN := [(4, (0, 0)), (3, (0, m)), (0, (4, 0)), (1, (1, v))]) (pcN := 40) jIE_316_37 rfl rfl (by decide) rfl rfl ?_
    refine jT_xgoto (pcN := 11) jIE_316_40 rfl ?_
    refine jT_loc (LN := [(4, (0, 0)), (3, (0, m)), (0, (4, 0)), (1, (1, v))]) (by show List.Nodup [4, 3, 0, 1]; decide) (by intro q hq; simp only [List.mem_cons, List.not_mem_nil, or_false] at hq; rcases hq with rfl | rfl | rfl | rfl <;> rfl) ?_
    exact jEl_ct_7_7 h_v ⟨by omega, by omega⟩ (by have := jb1_0 (b := v / 256 % 256) (by omega); omega) h
theorem jEl_ct_7_5 {xs : List Int} {d b1 b2 : Nat} {Q : Nat → JV → List JC → Prop} {v w m : Int} (h_v : (-9223372036854775808) ≤ v ∧ v ≤ 9223372036854775807) (h_m : 0 ≤ m ∧ m ≤ 5) (hm : m + (jb1 (v / 65536 % 256) + (jb1 (v / 256 % 256) + (jb1 (v % 256)))) = w) (h : jT xs d 316 16 43 [(4, (0, (-8))), (3, (0, w)), (0, (4, 0)), (1, (1, v))] [] [jzE_70, jgh, jgh, jgh, jgh, jgh, jgh, jgh, jgh, (100, [], (List.replicate 120 0)), jgh, jgh, jgh, jgh, jgh, jgh] b1 b2 Q) : jT xs d 316 16 11 [(4, (0, 16)), (3, (0, m)), (0, (4, 0)), (1, (1, v))] [] [jzE_70, jgh, jgh, jgh, jgh, jgh, jgh, jgh, jgh, (100, [], (List.replicate 120 0)), jgh, jgh, jgh, jgh, jgh, jgh] b1 b2 Q := by
  rcases (show (0 ≤ ((v % 18446744073709551616 / 65536) % 256) - 1) ∨ (((v % 18446744073709551616 / 65536) % 256) - 1 < 0) by omega) with g_0 | g_0
  · refine jT_xiload (v := (0, 16)) (pcN := 13) jIE_316_11 rfl rfl rfl ?_
    refine jT_xifF (t := 43) (pcN := 16) jIE_316_13 rfl (by decide +kernel) rfl rfl ?_
    refine jT_xiload_n (v := (0, m)) (pcN := 17) jIE_316_16 rfl rfl rfl ?_
    refine jT_xlload_n (v := (1, v)) (pcN := 18) jIE_316_17 rfl rfl rfl ?_
    refine jT_xiload (v := (0, 16)) (pcN := 20) jIE_316_18 rfl rfl rfl ?_
    refine jT_lushr (x := v) (y := 16) (z := v % 18446744073709551616 / 65536) (by rfl) (by rfl) (jushr_16 (by omega) (by omega)) ?_
    have hb_q1 : 0 ≤ v % 18446744073709551616 / 65536 ∧ v % 18446744073709551616 / 65536 ≤ 281474976710655 := ⟨by omega, by omega⟩
    generalize hq_q1 : v % 18446744073709551616 / 65536 = q1 at hb_q1 g_0 ⊢
    refine jT_adv 1 (pcN := 24) (LN := [(4, (0, 16)), (3, (0, m)), (0, (4, 0)), (1, (1, v))]) (stN := [(1, 255), (1, q1), (0, m)]) (hsN := jpE_71) (c1 := 0) (s1 := 0) (c2 := b1) (s2 := b2) (by exact rfl) ?_ (by omega) (by omega)
    refine jT_land (x := q1) (y := 255) (z := q1 % 256) (by rfl) (by rfl) (jland_255 _) ?_
    have hb_q2 : 0 ≤ q1 % 256 ∧ q1 % 256 ≤ 255 := ⟨by omega, by omega⟩
    generalize hq_q2 : q1 % 256 = q2 at hb_q2 g_0 ⊢
    refine jT_xlconst (z := 0) (pcN := 26) jIE_316_25 rfl rfl ?_
    refine jT_lcmp (a := q2) (b := 0) (z := 1) (by rfl) (by rfl) (jwl_idd (by omega) (by omega)) (jwl_idd (by omega) (by omega)) (by rw [decide_eq_true (show (0 : Int) < q2 by omega)]; rfl) ?_
    refine jT_xifT (pcN := 34) jIE_316_27 rfl (by decide +kernel) rfl ?_
    refine jT_xiconst (k := 1) (pcN := 35) jIE_316_34 rfl ?_
    refine jT_xiadd (x := m) (y := 1) (z := m + 1) (pcN := 36) jIE_316_35 rfl (rfl) rfl ?_
    refine jT_xistore_n (v := (0, m + 1)) (LN := [(3, (0, m + 1)), (4, (0, 16)), (0, (4, 0)), (1, (1, v))]) (pcN := 37) jIE_316_36 rfl rfl rfl rfl ?_
    refine jT_xiinc (x := 16) (z := 8) (LN := [(4, (0, 8)), (3, (0, m + 1)), (0, (4, 0)), (1, (1, v))]) (pcN := 40) jIE_316_37 rfl rfl (by decide) rfl rfl ?_
    refine jT_xgoto (pcN := 11) jIE_316_40 rfl ?_
    refine jT_loc (LN := [(4, (0, 8)), (3, (0, m + 1)), (0, (4, 0)), (1, (1, v))]) (by show List.Nodup [4, 3, 0, 1]; decide) (by intro q hq; simp only [List.mem_cons, List.not_mem_nil, or_false] at hq; rcases hq with rfl | rfl | rfl | rfl <;> rfl) ?_
    exact jEl_ct_7_6 h_v ⟨by omega, by omega⟩ (by have := jb1_1 (b := v / 65536 % 256) (by omega); omega) h
  · refine jT_xiload (v := (0, 16)) (pcN := 13) jIE_316_11 rfl rfl rfl ?_
    refine jT_xifF (t := 43) (pcN := 16) jIE_316_13 rfl (by decide +kernel) rfl rfl ?_
    refine jT_xiload_n (v := (0, m)) (pcN := 17) jIE_316_16 rfl rfl rfl ?_
    refine jT_xlload_n (v := (1, v)) (pcN := 18) jIE_316_17 rfl rfl rfl ?_
    refine jT_xiload (v := (0, 16)) (pcN := 20) jIE_316_18 rfl rfl rfl ?_
    refine jT_lushr (x := v) (y := 16) (z := v % 18446744073709551616 / 65536) (by rfl) (by rfl) (jushr_16 (by omega) (by omega)) ?_
    have hb_q1 : 0 ≤ v % 18446744073709551616 / 65536 ∧ v % 18446744073709551616 / 65536 ≤ 281474976710655 := ⟨by omega, by omega⟩
    generalize hq_q1 : v % 18446744073709551616 / 65536 = q1 at hb_q1 g_0 ⊢
    refine jT_adv 1 (pcN := 24) (LN := [(4, (0, 16)), (3, (0, m)), (0, (4, 0)), (1, (1, v))]) (stN := [(1, 255), (1, q1), (0, m)]) (hsN := jpE_71) (c1 := 0) (s1 := 0) (c2 := b1) (s2 := b2) (by exact rfl) ?_ (by omega) (by omega)
    refine jT_land (x := q1) (y := 255) (z := q1 % 256) (by rfl) (by rfl) (jland_255 _) ?_
    have hb_q2 : 0 ≤ q1 % 256 ∧ q1 % 256 ≤ 255 := ⟨by omega, by omega⟩
    generalize hq_q2 : q1 % 256 = q2 at hb_q2 g_0 ⊢
    refine jT_xlconst (z := 0) (pcN := 26) jIE_316_25 rfl rfl ?_
    refine jT_lcmp (a := q2) (b := 0) (z := 0) (by rfl) (by rfl) (jwl_idd (by omega) (by omega)) (jwl_idd (by omega) (by omega)) (by rw [decide_eq_false (show ¬ ((0 : Int) < q2) by omega), decide_eq_true (show (q2 : Int) = 0 by omega)]; rfl) ?_
    refine jT_xifF (t := 34) (pcN := 30) jIE_316_27 rfl (by decide +kernel) rfl rfl ?_
    refine jT_xiconst (k := 0) (pcN := 31) jIE_316_30 rfl ?_
    refine jT_xgoto (pcN := 35) jIE_316_31 rfl ?_
    refine jT_xiadd (x := m) (y := 0) (z := m) (pcN := 36) jIE_316_35 rfl (by omega) rfl ?_
    refine jT_xistore_n (v := (0, m)) (LN := [(3, (0, m)), (4, (0, 16)), (0, (4, 0)), (1, (1, v))]) (pcN := 37) jIE_316_36 rfl rfl rfl rfl ?_
    refine jT_xiinc (x := 16) (z := 8) (LN := [(4, (0, 8)), (3, (0, m)), (0, (4, 0)), (1, (1, v))]) (pcN := 40) jIE_316_37 rfl rfl (by decide) rfl rfl ?_
    refine jT_xgoto (pcN := 11) jIE_316_40 rfl ?_
    refine jT_loc (LN := [(4, (0, 8)), (3, (0, m)), (0, (4, 0)), (1, (1, v))]) (by show List.Nodup [4, 3, 0, 1]; decide) (by intro q hq; simp only [List.mem_cons, List.not_mem_nil, or_false] at hq; rcases hq with rfl | rfl | rfl | rfl <;> rfl) ?_
    exact jEl_ct_7_6 h_v ⟨by omega, by omega⟩ (by have := jb1_0 (b := v / 65536 % 256) (by omega); omega) h
theorem jEl_ct_7_4 {xs : List Int} {d b1 b2 : Nat} {Q : Nat → JV → List JC → Prop} {v w m : Int} (h_v : (-9223372036854775808) ≤ v ∧ v ≤ 9223372036854775807) (h_m : 0 ≤ m ∧ m ≤ 4) (hm : m + (jb1 (v / 16777216 % 256) + (jb1 (v / 65536 % 256) + (jb1 (v / 256 % 256) + (jb1 (v % 256))))) = w) (h : jT xs d 316 16 43 [(4, (0, (-8))), (3, (0, w)), (0, (4, 0)), (1, (1, v))] [] [jzE_70, jgh, jgh, jgh, jgh, jgh, jgh, jgh, jgh, (100, [], (List.replicate 120 0)), jgh, jgh, jgh, jgh, jgh, jgh] b1 b2 Q) : jT xs d 316 16 11 [(4, (0, 24)), (3, (0, m)), (0, (4, 0)), (1, (1, v))] [] [jzE_70, jgh, jgh, jgh, jgh, jgh, jgh, jgh, jgh, (100, [], (List.replicate 120 0)), jgh, jgh, jgh, jgh, jgh, jgh] b1 b2 Q := by
  rcases (show (0 ≤ ((v % 18446744073709551616 / 16777216) % 256) - 1) ∨ (((v % 18446744073709551616 / 16777216) % 256) - 1 < 0) by omega) with g_0 | g_0
  · refine jT_xiload (v := (0, 24)) (pcN := 13) jIE_316_11 rfl rfl rfl ?_
    refine jT_xifF (t := 43) (pcN := 16) jIE_316_13 rfl (by decide +kernel) rfl rfl ?_
    refine jT_xiload_n (v := (0, m)) (pcN := 17) jIE_316_16 rfl rfl rfl ?_
    refine jT_xlload_n (v := (1, v)) (pcN := 18) jIE_316_17 rfl rfl rfl ?_
    refine jT_xiload (v := (0, 24)) (pcN := 20) jIE_316_18 rfl rfl rfl ?_
    refine jT_lushr (x := v) (y := 24) (z := v % 18446744073709551616 / 16777216) (by rfl) (by rfl) (jushr_24 (by omega) (by omega)) ?_
    have hb_q1 : 0 ≤ v % 18446744073709551616 / 16777216 ∧ v % 18446744073709551616 / 16777216 ≤ 1099511627775 := ⟨by omega, by omega⟩
    generalize hq_q1 : v % 18446744073709551616 / 16777216 = q1 at hb_q1 g_0 ⊢
    refine jT_adv 1 (pcN := 24) (LN := [(4, (0, 24)), (3, (0, m)), (0, (4, 0)), (1, (1, v))]) (stN := [(1, 255), (1, q1), (0, m)]) (hsN := jpE_71) (c1 := 0) (s1 := 0) (c2 := b1) (s2 := b2) (by exact rfl) ?_ (by omega) (by omega)
    refine jT_land (x := q1) (y := 255) (z := q1 % 256) (by rfl) (by rfl) (jland_255 _) ?_
    have hb_q2 : 0 ≤ q1 % 256 ∧ q1 % 256 ≤ 255 := ⟨by omega, by omega⟩
    generalize hq_q2 : q1 % 256 = q2 at hb_q2 g_0 ⊢
    refine jT_xlconst (z := 0) (pcN := 26) jIE_316_25 rfl rfl ?_
    refine jT_lcmp (a := q2) (b := 0) (z := 1) (by rfl) (by rfl) (jwl_idd (by omega) (by omega)) (jwl_idd (by omega) (by omega)) (by rw [decide_eq_true (show (0 : Int) < q2 by omega)]; rfl) ?_
    refine jT_xifT (pcN := 34) jIE_316_27 rfl (by decide +kernel) rfl ?_
    refine jT_xiconst (k := 1) (pcN := 35) jIE_316_34 rfl ?_
    refine jT_xiadd (x := m) (y := 1) (z := m + 1) (pcN := 36) jIE_316_35 rfl (rfl) rfl ?_
    refine jT_xistore_n (v := (0, m + 1)) (LN := [(3, (0, m + 1)), (4, (0, 24)), (0, (4, 0)), (1, (1, v))]) (pcN := 37) jIE_316_36 rfl rfl rfl rfl ?_
    refine jT_xiinc (x := 24) (z := 16) (LN := [(4, (0, 16)), (3, (0, m + 1)), (0, (4, 0)), (1, (1, v))]) (pcN := 40) jIE_316_37 rfl rfl (by decide) rfl rfl ?_
    refine jT_xgoto (pcN := 11) jIE_316_40 rfl ?_
    refine jT_loc (LN := [(4, (0, 16)), (3, (0, m + 1)), (0, (4, 0)), (1, (1, v))]) (by show List.Nodup [4, 3, 0, 1]; decide) (by intro q hq; simp only [List.mem_cons, List.not_mem_nil, or_false] at hq; rcases hq with rfl | rfl | rfl | rfl <;> rfl) ?_
    exact jEl_ct_7_5 h_v ⟨by omega, by omega⟩ (by have := jb1_1 (b := v / 16777216 % 256) (by omega); omega) h
  · refine jT_xiload (v := (0, 24)) (pcN := 13) jIE_316_11 rfl rfl rfl ?_
    refine jT_xifF (t := 43) (pcN := 16) jIE_316_13 rfl (by decide +kernel) rfl rfl ?_
    refine jT_xiload_n (v := (0, m)) (pcN := 17) jIE_316_16 rfl rfl rfl ?_
    refine jT_xlload_n (v := (1, v)) (pcN := 18) jIE_316_17 rfl rfl rfl ?_
    refine jT_xiload (v := (0, 24)) (pcN := 20) jIE_316_18 rfl rfl rfl ?_
    refine jT_lushr (x := v) (y := 24) (z := v % 18446744073709551616 / 16777216) (by rfl) (by rfl) (jushr_24 (by omega) (by omega)) ?_
    have hb_q1 : 0 ≤ v % 18446744073709551616 / 16777216 ∧ v % 18446744073709551616 / 16777216 ≤ 1099511627775 := ⟨by omega, by omega⟩
    generalize hq_q1 : v % 18446744073709551616 / 16777216 = q1 at hb_q1 g_0 ⊢
    refine jT_adv 1 (pcN := 24) (LN := [(4, (0, 24)), (3, (0, m)), (0, (4, 0)), (1, (1, v))]) (stN := [(1, 255), (1, q1), (0, m)]) (hsN := jpE_71) (c1 := 0) (s1 := 0) (c2 := b1) (s2 := b2) (by exact rfl) ?_ (by omega) (by omega)
    refine jT_land (x := q1) (y := 255) (z := q1 % 256) (by rfl) (by rfl) (jland_255 _) ?_
    have hb_q2 : 0 ≤ q1 % 256 ∧ q1 % 256 ≤ 255 := ⟨by omega, by omega⟩
    generalize hq_q2 : q1 % 256 = q2 at hb_q2 g_0 ⊢
    refine jT_xlconst (z := 0) (pcN := 26) jIE_316_25 rfl rfl ?_
    refine jT_lcmp (a := q2) (b := 0) (z := 0) (by rfl) (by rfl) (jwl_idd (by omega) (by omega)) (jwl_idd (by omega) (by omega)) (by rw [decide_eq_false (show ¬ ((0 : Int) < q2) by omega), decide_eq_true (show (q2 : Int) = 0 by omega)]; rfl) ?_
    refine jT_xifF (t := 34) (pcN := 30) jIE_316_27 rfl (by decide +kernel) rfl rfl ?_
    refine jT_xiconst (k := 0) (pcN := 31) jIE_316_30 rfl ?_
    refine jT_xgoto (pcN := 35) jIE_316_31 rfl ?_
    refine jT_xiadd (x := m) (y := 0) (z := m) (pcN := 36) jIE_316_35 rfl (by omega) rfl ?_
    refine jT_xistore_n (v := (0, m)) (LN := [(3, (0, m)), (4, (0, 24)), (0, (4, 0)), (1, (1, v))]) (pcN := 37) jIE_316_36 rfl rfl rfl rfl ?_
    refine jT_xiinc (x := 24) (z := 16) (LN := [(4, (0, 16)), (3, (0, m)), (0, (4, 0)), (1, (1, v))]) (pcN := 40) jIE_316_37 rfl rfl (by decide) rfl rfl ?_
    refine jT_xgoto (pcN := 11) jIE_316_40 rfl ?_
    refine jT_loc (LN := [(4, (0, 16)), (3, (0, m)), (0, (4, 0)), (1, (1, v))]) (by show List.Nodup [4, 3, 0, 1]; decide) (by intro q hq; simp only [List.mem_cons, List.not_mem_nil, or_false] at hq; rcases hq with rfl | rfl | rfl | rfl <;> rfl) ?_
    exact jEl_ct_7_5 h_v ⟨by omega, by omega⟩ (by have := jb1_0 (b := v / 16777216 % 256) (by omega); omega) h
theorem jEl_ct_7_3 {xs : List Int} {d b1 b2 : Nat} {Q : Nat → JV → List JC → Prop} {v w m : Int} (h_v : (-9223372036854775808) ≤ v ∧ v ≤ 9223372036854775807) (h_m : 0 ≤ m ∧ m ≤ 3) (hm : m + (jb1 (v / 4294967296 % 256) + (jb1 (v / 16777216 % 256) + (jb1 (v / 65536 % 256) + (jb1 (v / 256 % 256) + (jb1 (v % 256)))))) = w) (h : jT xs d 316 16 43 [(4, (0, (-8))), (3, (0, w)), (0, (4, 0)), (1, (1, v))] [] [jzE_70, jgh, jgh, jgh, jgh, jgh, jgh, jgh, jgh, (100, [], (List.replicate 120 0)), jgh, jgh, jgh, jgh, jgh, jgh] b1 b2 Q) : jT xs d 316 16 11 [(4, (0, 32)), (3, (0, m)), (0, (4, 0)), (1, (1, v))] [] [jzE_70, jgh, jgh, jgh, jgh, jgh, jgh, jgh, jgh, (100, [], (List.replicate 120 0)), jgh, jgh, jgh, jgh, jgh, jgh] b1 b2 Q := by
  rcases (show (0 ≤ ((v % 18446744073709551616 / 4294967296) % 256) - 1) ∨ (((v % 18446744073709551616 / 4294967296) % 256) - 1 < 0) by omega) with g_0 | g_0
  · refine jT_xiload (v := (0, 32)) (pcN := 13) jIE_316_11 rfl rfl rfl ?_
    refine jT_xifF (t := 43) (pcN := 16) jIE_316_13 rfl (by decide +kernel) rfl rfl ?_
    refine jT_xiload_n (v := (0, m)) (pcN := 17) jIE_316_16 rfl rfl rfl ?_
    refine jT_xlload_n (v := (1, v)) (pcN := 18) jIE_316_17 rfl rfl rfl ?_
    refine jT_xiload (v := (0, 32)) (pcN := 20) jIE_316_18 rfl rfl rfl ?_
    refine jT_lushr (x := v) (y := 32) (z := v % 18446744073709551616 / 4294967296) (by rfl) (by rfl) (jushr_32 (by omega) (by omega)) ?_
    have hb_q1 : 0 ≤ v % 18446744073709551616 / 4294967296 ∧ v % 18446744073709551616 / 4294967296 ≤ 4294967295 := ⟨by omega, by omega⟩
    generalize hq_q1 : v % 18446744073709551616 / 4294967296 = q1 at hb_q1 g_0 ⊢
    refine jT_adv 1 (pcN := 24) (LN := [(4, (0, 32)), (3, (0, m)), (0, (4, 0)), (1, (1, v))]) (stN := [(1, 255), (1, q1), (0, m)]) (hsN := jpE_71) (c1 := 0) (s1 := 0) (c2 := b1) (s2 := b2) (by exact rfl) ?_ (by omega) (by omega)
    refine jT_land (x := q1) (y := 255) (z := q1 % 256) (by rfl) (by rfl) (jland_255 _) ?_
    have hb_q2 : 0 ≤ q1 % 256 ∧ q1 % 256 ≤ 255 := ⟨by omega, by omega⟩
    generalize hq_q2 : q1 % 256 = q2 at hb_q2 g_0 ⊢
    refine jT_xlconst (z := 0) (pcN := 26) jIE_316_25 rfl rfl ?_
    refine jT_lcmp (a := q2) (b := 0) (z := 1) (by rfl) (by rfl) (jwl_idd (by omega) (by omega)) (jwl_idd (by omega) (by omega)) (by rw [decide_eq_true (show (0 : Int) < q2 by omega)]; rfl) ?_
    refine jT_xifT (pcN := 34) jIE_316_27 rfl (by decide +kernel) rfl ?_
    refine jT_xiconst (k := 1) (pcN := 35) jIE_316_34 rfl ?_
    refine jT_xiadd (x := m) (y := 1) (z := m + 1) (pcN := 36) jIE_316_35 rfl (rfl) rfl ?_
    refine jT_xistore_n (v := (0, m + 1)) (LN := [(3, (0, m + 1)), (4, (0, 32)), (0, (4, 0)), (1, (1, v))]) (pcN := 37) jIE_316_36 rfl rfl rfl rfl ?_
    refine jT_xiinc (x := 32) (z := 24) (LN := [(4, (0, 24)), (3, (0, m + 1)), (0, (4, 0)), (1, (1, v))]) (pcN := 40) jIE_316_37 rfl rfl (by decide) rfl rfl ?_
    refine jT_xgoto (pcN := 11) jIE_316_40 rfl ?_
    refine jT_loc (LN := [(4, (0, 24)), (3, (0, m + 1)), (0, (4, 0)), (1, (1, v))]) (by show List.Nodup [4, 3, 0, 1]; decide) (by intro q hq; simp only [List.mem_cons, List.not_mem_nil, or_false] at hq; rcases hq with rfl | rfl | rfl | rfl <;> rfl) ?_
    exact jEl_ct_7_4 h_v ⟨by omega, by omega⟩ (by have := jb1_1 (b := v / 4294967296 % 256) (by omega); omega) h
  · refine jT_xiload (v := (0, 32)) (pcN := 13) jIE_316_11 rfl rfl rfl ?_
    refine jT_xifF (t := 43) (pcN := 16) jIE_316_13 rfl (by decide +kernel) rfl rfl ?_
    refine jT_xiload_n (v := (0, m)) (pcN := 17) jIE_316_16 rfl rfl rfl ?_
    refine jT_xlload_n (v := (1, v)) (pcN := 18) jIE_316_17 rfl rfl rfl ?_
    refine jT_xiload (v := (0, 32)) (pcN := 20) jIE_316_18 rfl rfl rfl ?_
    refine jT_lushr (x := v) (y := 32) (z := v % 18446744073709551616 / 4294967296) (by rfl) (by rfl) (jushr_32 (by omega) (by omega)) ?_
    have hb_q1 : 0 ≤ v % 18446744073709551616 / 4294967296 ∧ v % 18446744073709551616 / 4294967296 ≤ 4294967295 := ⟨by omega, by omega⟩
    generalize hq_q1 : v % 18446744073709551616 / 4294967296 = q1 at hb_q1 g_0 ⊢
    refine jT_adv 1 (pcN := 24) (LN := [(4, (0, 32)), (3, (0, m)), (0, (4, 0)), (1, (1, v))]) (stN := [(1, 255), (1, q1), (0, m)]) (hsN := jpE_71) (c1 := 0) (s1 := 0) (c2 := b1) (s2 := b2) (by exact rfl) ?_ (by omega) (by omega)
    refine jT_land (x := q1) (y := 255) (z := q1 % 256) (by rfl) (by rfl) (jland_255 _) ?_
    have hb_q2 : 0 ≤ q1 % 256 ∧ q1 % 256 ≤ 255 := ⟨by omega, by omega⟩
    generalize hq_q2 : q1 % 256 = q2 at hb_q2 g_0 ⊢
    refine jT_xlconst (z := 0) (pcN := 26) jIE_316_25 rfl rfl ?_
    refine jT_lcmp (a := q2) (b := 0) (z := 0) (by rfl) (by rfl) (jwl_idd (by omega) (by omega)) (jwl_idd (by omega) (by omega)) (by rw [decide_eq_false (show ¬ ((0 : Int) < q2) by omega), decide_eq_true (show (q2 : Int) = 0 by omega)]; rfl) ?_
    refine jT_xifF (t := 34) (pcN := 30) jIE_316_27 rfl (by decide +kernel) rfl rfl ?_
    refine jT_xiconst (k := 0) (pcN := 31) jIE_316_30 rfl ?_
    refine jT_xgoto (pcN := 35) jIE_316_31 rfl ?_
    refine jT_xiadd (x := m) (y := 0) (z := m) (pcN := 36) jIE_316_35 rfl (by omega) rfl ?_
    refine jT_xistore_n (v := (0, m)) (LN := [(3, (0, m)), (4, (0, 32)), (0, (4, 0)), (1, (1, v))]) (pcN := 37) jIE_316_36 rfl rfl rfl rfl ?_
    refine jT_xiinc (x := 32) (z := 24) (LN := [(4, (0, 24)), (3, (0, m)), (0, (4, 0)), (1, (1, v))]) (pcN := 40) jIE_316_37 rfl rfl (by decide) rfl rfl ?_
    refine jT_xgoto (pcN := 11) jIE_316_40 rfl ?_
    refine jT_loc (LN := [(4, (0, 24)), (3, (0, m)), (0, (4, 0)), (1, (1, v))]) (by show List.Nodup [4, 3, 0, 1]; decide) (by intro q hq; simp only [List.mem_cons, List.not_mem_nil, or_false] at hq; rcases hq with rfl | rfl | rfl | rfl <;> rfl) ?_
    exact jEl_ct_7_4 h_v ⟨by omega, by omega⟩ (by have := jb1_0 (b := v / 4294967296 % 256) (by omega); omega) h
theorem jEl_ct_7_2 {xs : List Int} {d b1 b2 : Nat} {Q : Nat → JV → List JC → Prop} {v w m : Int} (h_v : (-9223372036854775808) ≤ v ∧ v ≤ 9223372036854775807) (h_m : 0 ≤ m ∧ m ≤ 2) (hm : m + (jb1 (v / 1099511627776 % 256) + (jb1 (v / 4294967296 % 256) + (jb1 (v / 16777216 % 256) + (jb1 (v / 65536 % 256) + (jb1 (v / 256 % 256) + (jb1 (v % 256))))))) = w) (h : jT xs d 316 16 43 [(4, (0, (-8))), (3, (0, w)), (0, (4, 0)), (1, (1, v))] [] [jzE_70, jgh, jgh, jgh, jgh, jgh, jgh, jgh, jgh, (100, [], (List.replicate 120 0)), jgh, jgh, jgh, jgh, jgh, jgh] b1 b2 Q) : jT xs d 316 16 11 [(4, (0, 40)), (3, (0, m)), (0, (4, 0)), (1, (1, v))] [] [jzE_70, jgh, jgh, jgh, jgh, jgh, jgh, jgh, jgh, (100, [], (List.replicate 120 0)), jgh, jgh, jgh, jgh, jgh, jgh] b1 b2 Q := by
  rcases (show (0 ≤ ((v % 18446744073709551616 / 1099511627776) % 256) - 1) ∨ (((v % 18446744073709551616 / 1099511627776) % 256) - 1 < 0) by omega) with g_0 | g_0
  · refine jT_xiload (v := (0, 40)) (pcN := 13) jIE_316_11 rfl rfl rfl ?_
    refine jT_xifF (t := 43) (pcN := 16) jIE_316_13 rfl (by decide +kernel) rfl rfl ?_
    refine jT_xiload_n (v := (0, m)) (pcN := 17) jIE_316_16 rfl rfl rfl ?_
    refine jT_xlload_n (v := (1, v)) (pcN := 18) jIE_316_17 rfl rfl rfl ?_
    refine jT_xiload (v := (0, 40)) (pcN := 20) jIE_316_18 rfl rfl rfl ?_
    refine jT_lushr (x := v) (y := 40) (z := v % 18446744073709551616 / 1099511627776) (by rfl) (by rfl) (jushr_40 (by omega) (by omega)) ?_
    have hb_q1 : 0 ≤ v % 18446744073709551616 / 1099511627776 ∧ v % 18446744073709551616 / 1099511627776 ≤ 16777215 := ⟨by omega, by omega⟩
    generalize hq_q1 : v % 18446744073709551616 / 1099511627776 = q1 at hb_q1 g_0 ⊢
    refine jT_adv 1 (pcN := 24) (LN := [(4, (0, 40)), (3, (0, m)), (0, (4, 0)), (1, (1, v))]) (stN := [(1, 255), (1, q1), (0, m)]) (hsN := jpE_71) (c1 := 0) (s1 := 0) (c2 := b1) (s2 := b2) (by exact rfl) ?_ (by omega) (by omega)
    refine jT_land (x := q1) (y := 255) (z := q1 % 256) (by rfl) (by rfl) (jland_255 _) ?_
    have hb_q2 : 0 ≤ q1 % 256 ∧ q1 % 256 ≤ 255 := ⟨by omega, by omega⟩
    generalize hq_q2 : q1 % 256 = q2 at hb_q2 g_0 ⊢
    refine jT_xlconst (z := 0) (pcN := 26) jIE_316_25 rfl rfl ?_
    refine jT_lcmp (a := q2) (b := 0) (z := 1) (by rfl) (by rfl) (jwl_idd (by omega) (by omega)) (jwl_idd (by omega) (by omega)) (by rw [decide_eq_true (show (0 : Int) < q2 by omega)]; rfl) ?_
    refine jT_xifT (pcN := 34) jIE_316_27 rfl (by decide +kernel) rfl ?_
    refine jT_xiconst (k := 1) (pcN := 35) jIE_316_34 rfl ?_
    refine jT_xiadd (x := m) (y := 1) (z := m + 1) (pcN := 36) jIE_316_35 rfl (rfl) rfl ?_
    refine jT_xistore_n (v := (0, m + 1)) (LN := [(3, (0, m + 1)), (4, (0, 40)), (0, (4, 0)), (1, (1, v))]) (pcN := 37) jIE_316_36 rfl rfl rfl rfl ?_
    refine jT_xiinc (x := 40) (z := 32) (LN := [(4, (0, 32)), (3, (0, m + 1)), (0, (4, 0)), (1, (1, v))]) (pcN := 40) jIE_316_37 rfl rfl (by decide) rfl rfl ?_
    refine jT_xgoto (pcN := 11) jIE_316_40 rfl ?_
    refine jT_loc (LN := [(4, (0, 32)), (3, (0, m + 1)), (0, (4, 0)), (1, (1, v))]) (by show List.Nodup [4, 3, 0, 1]; decide) (by intro q hq; simp only [List.mem_cons, List.not_mem_nil, or_false] at hq; rcases hq with rfl | rfl | rfl | rfl <;> rfl) ?_
    exact jEl_ct_7_3 h_v ⟨by omega, by omega⟩ (by have := jb1_1 (b := v / 1099511627776 % 256) (by omega); omega) h
  · refine jT_xiload (v := (0, 40)) (pcN := 13) jIE_316_11 rfl rfl rfl ?_
    refine jT_xifF (t := 43) (pcN := 16) jIE_316_13 rfl (by decide +kernel) rfl rfl ?_
    refine jT_xiload_n (v := (0, m)) (pcN := 17) jIE_316_16 rfl rfl rfl ?_
    refine jT_xlload_n (v := (1, v)) (pcN := 18) jIE_316_17 rfl rfl rfl ?_
    refine jT_xiload (v := (0, 40)) (pcN := 20) jIE_316_18 rfl rfl rfl ?_
    refine jT_lushr (x := v) (y := 40) (z := v % 18446744073709551616 / 1099511627776) (by rfl) (by rfl) (jushr_40 (by omega) (by omega)) ?_
    have hb_q1 : 0 ≤ v % 18446744073709551616 / 1099511627776 ∧ v % 18446744073709551616 / 1099511627776 ≤ 16777215 := ⟨by omega, by omega⟩
    generalize hq_q1 : v % 18446744073709551616 / 1099511627776 = q1 at hb_q1 g_0 ⊢
    refine jT_adv 1 (pcN := 24) (LN := [(4, (0, 40)), (3, (0, m)), (0, (4, 0)), (1, (1, v))]) (stN := [(1, 255), (1, q1), (0, m)]) (hsN := jpE_71) (c1 := 0) (s1 := 0) (c2 := b1) (s2 := b2) (by exact rfl) ?_ (by omega) (by omega)
    refine jT_land (x := q1) (y := 255) (z := q1 % 256) (by rfl) (by rfl) (jland_255 _) ?_
    have hb_q2 : 0 ≤ q1 % 256 ∧ q1 % 256 ≤ 255 := ⟨by omega, by omega⟩
    generalize hq_q2 : q1 % 256 = q2 at hb_q2 g_0 ⊢
    refine jT_xlconst (z := 0) (pcN := 26) jIE_316_25 rfl rfl ?_
    refine jT_lcmp (a := q2) (b := 0) (z := 0) (by rfl) (by rfl) (jwl_idd (by omega) (by omega)) (jwl_idd (by omega) (by omega)) (by rw [decide_eq_false (show ¬ ((0 : Int) < q2) by omega), decide_eq_true (show (q2 : Int) = 0 by omega)]; rfl) ?_
    refine jT_xifF (t := 34) (pcN := 30) jIE_316_27 rfl (by decide +kernel) rfl rfl ?_
    refine jT_xiconst (k := 0) (pcN := 31) jIE_316_30 rfl ?_
    refine jT_xgoto (pcN := 35) jIE_316_31 rfl ?_
    refine jT_xiadd (x := m) (y := 0) (z := m) (pcN := 36) jIE_316_35 rfl (by omega) rfl ?_
    refine jT_xistore_n (v := (0, m)) (LN := [(3, (0, m)), (4, (0, 40)), (0, (4, 0)), (1, (1, v))]) (pcN := 37) jIE_316_36 rfl rfl rfl rfl ?_
    refine jT_xiinc (x := 40) (z := 32) (LN := [(4, (0, 32)), (3, (0, m)), (0, (4, 0)), (1, (1, v))]) (pcN := 40) jIE_316_37 rfl rfl (by decide) rfl rfl ?_
    refine jT_xgoto (pcN := 11) jIE_316_40 rfl ?_
    refine jT_loc (LN := [(4, (0, 32)), (3, (0, m)), (0, (4, 0)), (1, (1, v))]) (by show List.Nodup [4, 3, 0, 1]; decide) (by intro q hq; simp only [List.mem_cons, List.not_mem_nil, or_false] at hq; rcases hq with rfl | rfl | rfl | rfl <;> rfl) ?_
    exact jEl_ct_7_3 h_v ⟨by omega, by omega⟩ (by have := jb1_0 (b := v / 1099511627776 % 256) (by omega); omega) h
theorem jEl_ct_7_1 {xs : List Int} {d b1 b2 : Nat} {Q : Nat → JV → List JC → Prop} {v w m : Int} (h_v : (-9223372036854775808) ≤ v ∧ v ≤ 9223372036854775807) (h_m : 0 ≤ m ∧ m ≤ 1) (hm : m + (jb1 (v / 281474976710656 % 256) + (jb1 (v / 1099511627776 % 256) + (jb1 (v / 4294967296 % 256) + (jb1 (v / 16777216 % 256) + (jb1 (v / 65536 % 256) + (jb1 (v / 256 % 256) + (jb1 (v % 256)))))))) = w) (h : jT xs d 316 16 43 [(4, (0, (-8))), (3, (0, w)), (0, (4, 0)), (1, (1, v))] [] [jzE_70, jgh, jgh, jgh, jgh, jgh, jgh, jgh, jgh, (100, [], (List.replicate 120 0)), jgh, jgh, jgh, jgh, jgh, jgh] b1 b2 Q) : jT xs d 316 16 11 [(4, (0, 48)), (3, (0, m)), (0, (4, 0)), (1, (1, v))] [] [jzE_70, jgh, jgh, jgh, jgh, jgh, jgh, jgh, jgh, (100, [], (List.replicate 120 0)), jgh, jgh, jgh, jgh, jgh, jgh] b1 b2 Q := by
  rcases (show (0 ≤ ((v % 18446744073709551616 / 281474976710656) % 256) - 1) ∨ (((v % 18446744073709551616 / 281474976710656) % 256) - 1 < 0) by omega) with g_0 | g_0
  · refine jT_xiload (v := (0, 48)) (pcN := 13) jIE_316_11 rfl rfl rfl ?_
    refine jT_xifF (t := 43) (pcN := 16) jIE_316_13 rfl (by decide +kernel) rfl rfl ?_
    refine jT_xiload_n (v := (0, m)) (pcN := 17) jIE_316_16 rfl rfl rfl ?_
    refine jT_xlload_n (v := (1, v)) (pcN := 18) jIE_316_17 rfl rfl rfl ?_
    refine jT_xiload (v := (0, 48)) (pcN := 20) jIE_316_18 rfl rfl rfl ?_
    refine jT_lushr (x := v) (y := 48) (z := v % 18446744073709551616 / 281474976710656) (by rfl) (by rfl) (jushr_48 (by omega) (by omega)) ?_
    have hb_q1 : 0 ≤ v % 18446744073709551616 / 281474976710656 ∧ v % 18446744073709551616 / 281474976710656 ≤ 65535 := ⟨by omega, by omega⟩
    generalize hq_q1 : v % 18446744073709551616 / 281474976710656 = q1 at hb_q1 g_0 ⊢
    refine jT_adv 1 (pcN := 24) (LN := [(4, (0, 48)), (3, (0, m)), (0, (4, 0)), (1, (1, v))]) (stN := [(1, 255), (1, q1), (0, m)]) (hsN := jpE_71) (c1 := 0) (s1 := 0) (c2 := b1) (s2 := b2) (by exact rfl) ?_ (by omega) (by omega)
    refine jT_land (x := q1) (y := 255) (z := q1 % 256) (by rfl) (by rfl) (jland_255 _) ?_
    have hb_q2 : 0 ≤ q1 % 256 ∧ q1 % 256 ≤ 255 := ⟨by omega, by omega⟩
    generalize hq_q2 : q1 % 256 = q2 at hb_q2 g_0 ⊢
    refine jT_xlconst (z := 0) (pcN := 26) jIE_316_25 rfl rfl ?_
    refine jT_lcmp (a := q2) (b := 0) (z := 1) (by rfl) (by rfl) (jwl_idd (by omega) (by omega)) (jwl_idd (by omega) (by omega)) (by rw [decide_eq_true (show (0 : Int) < q2 by omega)]; rfl) ?_
    refine jT_xifT (pcN := 34) jIE_316_27 rfl (by decide +kernel) rfl ?_
    refine jT_xiconst (k := 1) (pcN := 35) jIE_316_34 rfl ?_
    refine jT_xiadd (x := m) (y := 1) (z := m + 1) (pcN := 36) jIE_316_35 rfl (rfl) rfl ?_
    refine jT_xistore_n (v := (0, m + 1)) (LN := [(3, (0, m + 1)), (4, (0, 48)), (0, (4, 0)), (1, (1, v))]) (pcN := 37) jIE_316_36 rfl rfl rfl rfl ?_
    refine jT_xiinc (x := 48) (z := 40) (LN := [(4, (0, 40)), (3, (0, m + 1)), (0, (4, 0)), (1, (1, v))]) (pcN := 40) jIE_316_37 rfl rfl (by decide) rfl rfl ?_
    refine jT_xgoto (pcN := 11) jIE_316_40 rfl ?_
    refine jT_loc (LN := [(4, (0, 40)), (3, (0, m + 1)), (0, (4, 0)), (1, (1, v))]) (by show List.Nodup [4, 3, 0, 1]; decide) (by intro q hq; simp only [List.mem_cons, List.not_mem_nil, or_false] at hq; rcases hq with rfl | rfl | rfl | rfl <;> rfl) ?_
    exact jEl_ct_7_2 h_v ⟨by omega, by omega⟩ (by have := jb1_1 (b := v / 281474976710656 % 256) (by omega); omega) h
  · refine jT_xiload (v := (0, 48)) (pcN := 13) jIE_316_11 rfl rfl rfl ?_
    refine jT_xifF (t := 43) (pcN := 16) jIE_316_13 rfl (by decide +kernel) rfl rfl ?_
    refine jT_xiload_n (v := (0, m)) (pcN := 17) jIE_316_16 rfl rfl rfl ?_
    refine jT_xlload_n (v := (1, v)) (pcN := 18) jIE_316_17 rfl rfl rfl ?_
    refine jT_xiload (v := (0, 48)) (pcN := 20) jIE_316_18 rfl rfl rfl ?_
    refine jT_lushr (x := v) (y := 48) (z := v % 18446744073709551616 / 281474976710656) (by rfl) (by rfl) (jushr_48 (by omega) (by omega)) ?_
    have hb_q1 : 0 ≤ v % 18446744073709551616 / 281474976710656 ∧ v % 18446744073709551616 / 281474976710656 ≤ 65535 := ⟨by omega, by omega⟩
    generalize hq_q1 : v % 18446744073709551616 / 281474976710656 = q1 at hb_q1 g_0 ⊢
    refine jT_adv 1 (pcN := 24) (LN := [(4, (0, 48)), (3, (0, m)), (0, (4, 0)), (1, (1, v))]) (stN := [(1, 255), (1, q1), (0, m)]) (hsN := jpE_71) (c1 := 0) (s1 := 0) (c2 := b1) (s2 := b2) (by exact rfl) ?_ (by omega) (by omega)
    refine jT_land (x := q1) (y := 255) (z := q1 % 256) (by rfl) (by rfl) (jland_255 _) ?_
    have hb_q2 : 0 ≤ q1 % 256 ∧ q1 % 256 ≤ 255 := ⟨by omega, by omega⟩
    generalize hq_q2 : q1 % 256 = q2 at hb_q2 g_0 ⊢
    refine jT_xlconst (z := 0) (pcN := 26) jIE_316_25 rfl rfl ?_
    refine jT_lcmp (a := q2) (b := 0) (z := 0) (by rfl) (by rfl) (jwl_idd (by omega) (by omega)) (jwl_idd (by omega) (by omega)) (by rw [decide_eq_false (show ¬ ((0 : Int) < q2) by omega), decide_eq_true (show (q2 : Int) = 0 by omega)]; rfl) ?_
    refine jT_xifF (t := 34) (pcN := 30) jIE_316_27 rfl (by decide +kernel) rfl rfl ?_
    refine jT_xiconst (k := 0) (pcN := 31) jIE_316_30 rfl ?_
    refine jT_xgoto (pcN := 35) jIE_316_31 rfl ?_
    refine jT_xiadd (x := m) (y := 0) (z := m) (pcN := 36) jIE_316_35 rfl (by omega) rfl ?_
    refine jT_xistore_n (v := (0, m)) (LN := [(3, (0, m)), (4, (0, 48)), (0, (4, 0)), (1, (1, v))]) (pcN := 37) jIE_316_36 rfl rfl rfl rfl ?_
    refine jT_xiinc (x := 48) (z := 40) (LN := [(4, (0, 40)), (3, (0, m)), (0, (4, 0)), (1, (1, v))]) (pcN := 40) jIE_316_37 rfl rfl (by decide) rfl rfl ?_
    refine jT_xgoto (pcN := 11) jIE_316_40 rfl ?_
    refine jT_loc (LN := [(4, (0, 40)), (3, (0, m)), (0, (4, 0)), (1, (1, v))]) (by show List.Nodup [4, 3, 0, 1]; decide) (by intro q hq; simp only [List.mem_cons, List.not_mem_nil, or_false] at hq; rcases hq with rfl | rfl | rfl | rfl <;> rfl) ?_
    exact jEl_ct_7_2 h_v ⟨by omega, by omega⟩ (by have := jb1_0 (b := v / 281474976710656 % 256) (by omega); omega) h
theorem jEl_ct_7_0 {xs : List Int} {d b1 b2 : Nat} {Q : Nat → JV → List JC → Prop} {v w m : Int} (h_v : (-9223372036854775808) ≤ v ∧ v ≤ 9223372036854775807) (h_m : 0 ≤ m ∧ m ≤ 0) (hm : m + (jb1 (v / 72057594037927936 % 256) + (jb1 (v / 281474976710656 % 256) + (jb1 (v / 1099511627776 % 256) + (jb1 (v / 4294967296 % 256) + (jb1 (v / 16777216 % 256) + (jb1 (v / 65536 % 256) + (jb1 (v / 256 % 256) + (jb1 (v % 256))))))))) = w) (h : jT xs d 316 16 43 [(4, (0, (-8))), (3, (0, w)), (0, (4, 0)), (1, (1, v))] [] [jzE_70, jgh, jgh, jgh, jgh, jgh, jgh, jgh, jgh, (100, [], (List.replicate 120 0)), jgh, jgh, jgh, jgh, jgh, jgh] b1 b2 Q) : jT xs d 316 16 11 [(4, (0, 56)), (3, (0, m)), (0, (4, 0)), (1, (1, v))] [] [jzE_70, jgh, jgh, jgh, jgh, jgh, jgh, jgh, jgh, (100, [], (List.replicate 120 0)), jgh, jgh, jgh, jgh, jgh, jgh] b1 b2 Q := by
  rcases (show (0 ≤ (v % 18446744073709551616 / 72057594037927936) - 1) ∨ ((v % 18446744073709551616 / 72057594037927936) - 1 < 0) by omega) with g_0 | g_0
  · refine jT_xiload (v := (0, 56)) (pcN := 13) jIE_316_11 rfl rfl rfl ?_
    refine jT_xifF (t := 43) (pcN := 16) jIE_316_13 rfl (by decide +kernel) rfl rfl ?_
    refine jT_xiload_n (v := (0, m)) (pcN := 17) jIE_316_16 rfl rfl rfl ?_
    refine jT_xlload_n (v := (1, v)) (pcN := 18) jIE_316_17 rfl rfl rfl ?_
    refine jT_xiload (v := (0, 56)) (pcN := 20) jIE_316_18 rfl rfl rfl ?_
    refine jT_lushr (x := v) (y := 56) (z := v % 18446744073709551616 / 72057594037927936) (by rfl) (by rfl) (jushr_56 (by omega) (by omega)) ?_
    have hb_q1 : 0 ≤ v % 18446744073709551616 / 72057594037927936 ∧ v % 18446744073709551616 / 72057594037927936 ≤ 255 := ⟨by omega, by omega⟩
    generalize hq_q1 : v % 18446744073709551616 / 72057594037927936 = q1 at hb_q1 g_0 ⊢
    refine jT_adv 1 (pcN := 24) (LN := [(4, (0, 56)), (3, (0, m)), (0, (4, 0)), (1, (1, v))]) (stN := [(1, 255), (1, q1), (0, m)]) (hsN := jpE_71) (c1 := 0) (s1 := 0) (c2 := b1) (s2 := b2) (by exact rfl) ?_ (by omega) (by omega)
    refine jT_land (x := q1) (y := 255) (z := q1) (by rfl) (by rfl) (by rw [jland_255]; omega) ?_
    refine jT_xlconst (z := 0) (pcN := 26) jIE_316_25 rfl rfl ?_
    refine jT_lcmp (a := q1) (b := 0) (z := 1) (by rfl) (by rfl) (jwl_idd (by omega) (by omega)) (jwl_idd (by omega) (by omega)) (by rw [decide_eq_true (show (0 : Int) < q1 by omega)]; rfl) ?_
    refine jT_xifT (pcN := 34) jIE_316_27 rfl (by decide +kernel) rfl ?_
    refine jT_xiconst (k := 1) (pcN := 35) jIE_316_34 rfl ?_
    refine jT_xiadd (x := m) (y := 1) (z := m + 1) (pcN := 36) jIE_316_35 rfl (rfl) rfl ?_
    refine jT_xistore_n (v := (0, m + 1)) (LN := [(3, (0, m + 1)), (4, (0, 56)), (0, (4, 0)), (1, (1, v))]) (pcN := 37) jIE_316_36 rfl rfl rfl rfl ?_
    refine jT_xiinc (x := 56) (z := 48) (LN := [(4, (0, 48)), (3, (0, m + 1)), (0, (4, 0)), (1, (1, v))]) (pcN := 40) jIE_316_37 rfl rfl (by decide) rfl rfl ?_
    refine jT_xgoto (pcN := 11) jIE_316_40 rfl ?_
    refine jT_loc (LN := [(4, (0, 48)), (3, (0, m + 1)), (0, (4, 0)), (1, (1, v))]) (by show List.Nodup [4, 3, 0, 1]; decide) (by intro q hq; simp only [List.mem_cons, List.not_mem_nil, or_false] at hq; rcases hq with rfl | rfl | rfl | rfl <;> rfl) ?_
    exact jEl_ct_7_1 h_v ⟨by omega, by omega⟩ (by have := jb1_1 (b := v / 72057594037927936 % 256) (by omega); omega) h
  · refine jT_xiload (v := (0, 56)) (pcN := 13) jIE_316_11 rfl rfl rfl ?_
    refine jT_xifF (t := 43) (pcN := 16) jIE_316_13 rfl (by decide +kernel) rfl rfl ?_
    refine jT_xiload_n (v := (0, m)) (pcN := 17) jIE_316_16 rfl rfl rfl ?_
    refine jT_xlload_n (v := (1, v)) (pcN := 18) jIE_316_17 rfl rfl rfl ?_
    refine jT_xiload (v := (0, 56)) (pcN := 20) jIE_316_18 rfl rfl rfl ?_
    refine jT_lushr (x := v) (y := 56) (z := v % 18446744073709551616 / 72057594037927936) (by rfl) (by rfl) (jushr_56 (by omega) (by omega)) ?_
    have hb_q1 : 0 ≤ v % 18446744073709551616 / 72057594037927936 ∧ v % 18446744073709551616 / 72057594037927936 ≤ 255 := ⟨by omega, by omega⟩
    generalize hq_q1 : v % 18446744073709551616 / 72057594037927936 = q1 at hb_q1 g_0 ⊢
    refine jT_adv 1 (pcN := 24) (LN := [(4, (0, 56)), (3, (0, m)), (0, (4, 0)), (1, (1, v))]) (stN := [(1, 255), (1, q1), (0, m)]) (hsN := jpE_71) (c1 := 0) (s1 := 0) (c2 := b1) (s2 := b2) (by exact rfl) ?_ (by omega) (by omega)
    refine jT_land (x := q1) (y := 255) (z := q1) (by rfl) (by rfl) (by rw [jland_255]; omega) ?_
    refine jT_xlconst (z := 0) (pcN := 26) jIE_316_25 rfl rfl ?_
    refine jT_lcmp (a := q1) (b := 0) (z := 0) (by rfl) (by rfl) (jwl_idd (by omega) (by omega)) (jwl_idd (by omega) (by omega)) (by rw [decide_eq_false (show ¬ ((0 : Int) < q1) by omega), decide_eq_true (show (q1 : Int) = 0 by omega)]; rfl) ?_
    refine jT_xifF (t := 34) (pcN := 30) jIE_316_27 rfl (by decide +kernel) rfl rfl ?_
    refine jT_xiconst (k := 0) (pcN := 31) jIE_316_30 rfl ?_
    refine jT_xgoto (pcN := 35) jIE_316_31 rfl ?_
    refine jT_xiadd (x := m) (y := 0) (z := m) (pcN := 36) jIE_316_35 rfl (by omega) rfl ?_
    refine jT_xistore_n (v := (0, m)) (LN := [(3, (0, m)), (4, (0, 56)), (0, (4, 0)), (1, (1, v))]) (pcN := 37) jIE_316_36 rfl rfl rfl rfl ?_
    refine jT_xiinc (x := 56) (z := 48) (LN := [(4, (0, 48)), (3, (0, m)), (0, (4, 0)), (1, (1, v))]) (pcN := 40) jIE_316_37 rfl rfl (by decide) rfl rfl ?_
    refine jT_xgoto (pcN := 11) jIE_316_40 rfl ?_
    refine jT_loc (LN := [(4, (0, 48)), (3, (0, m)), (0, (4, 0)), (1, (1, v))]) (by show List.Nodup [4, 3, 0, 1]; decide) (by intro q hq; simp only [List.mem_cons, List.not_mem_nil, or_false] at hq; rcases hq with rfl | rfl | rfl | rfl <;> rfl) ?_
    exact jEl_ct_7_1 h_v ⟨by omega, by omega⟩ (by have := jb1_0 (b := v / 72057594037927936 % 256) (by omega); omega) h
theorem jIE_316_43 : jmI (jm 316) 43 = (.aload_n 0, 1) := by rfl
theorem jIE_316_44 : jmI (jm 316) 44 = (.aload_n 0, 1) := by rfl
theorem jIE_316_45 : jmI (jm 316) 45 = (.getfield 488, 3) := by rfl
theorem jIE_316_48 : jmI (jm 316) 48 = (.iload_n 3, 1) := by rfl
theorem jIE_316_49 : jmI (jm 316) 49 = (.iadd, 1) := by rfl
theorem jIE_316_50 : jmI (jm 316) 50 = (.bipush 120, 2) := by rfl
theorem jIE_316_52 : jmI (jm 316) 52 = (.if_icmp .gt 7, 3) := by rfl
theorem jIE_316_55 : jmI (jm 316) 55 = (.iconst 1, 1) := by rfl
theorem jIE_316_56 : jmI (jm 316) 56 = (.goto 4, 3) := by rfl
theorem jIE_316_60 : jmI (jm 316) 60 = (.iconst 1, 1) := by rfl
theorem jIE_316_64 : jmI (jm 316) 64 = (.ifCond .eq 5, 3) := by rfl
theorem jIE_316_69 : jmI (jm 316) 69 = (.bipush 56, 2) := by rfl
theorem jIE_316_71 : jmI (jm 316) 71 = (.istore 4, 2) := by rfl
def jpE_103 : List JC := [jzE_70, jgh, jgh, jgh, jgh, jgh, jgh, jgh, jgh, jgh, jgh, jgh, jgh, jgh, jgh, jgh]
theorem jIE_316_73 : jmI (jm 316) 73 = (.iload 4, 2) := by rfl
theorem jIE_316_75 : jmI (jm 316) 75 = (.ifCond .lt 49, 3) := by rfl
theorem jEl_st_8_8 {xs : List Int} {d b1 b2 : Nat} {Q : Nat → JV → List JC → Prop} {v w l : Int} {X : List Int} (hX : X.length = 120) (h_v : (-9223372036854775808) ≤ v ∧ v ≤ 9223372036854775807) (h_l : 0 ≤ l ∧ l ≤ 8) (hl : l + (0) = w) (h : jT xs d 316 16 124 [(0, (4, 0))] [] [(14, [(0, 0), (4, 1), (4, 2), (4, 3), (4, 4), (0, 0), (4, 5), (0, 0), (4, 6), (4, 7), (1, 1), (4, 8), (0, 0), (4, 9), (0, w), (0, 0), (0, 0), (0, 0), (0, 0), (0, 0), (0, 0), (4, 10), (4, 11), (4, 12), (4, 13), (4, 14), (4, 15), (0, 0)], []), jgh, jgh, jgh, jgh, jgh, jgh, jgh, jgh, jgh, jgh, jgh, jgh, jgh, jgh, jgh] b1 b2 Q) : jT xs d 316 16 73 [(4, (0, (-8))), (0, (4, 0)), (1, (1, v))] [] [(14, [(0, 0), (4, 1), (4, 2), (4, 3), (4, 4), (0, 0), (4, 5), (0, 0), (4, 6), (4, 7), (1, 1), (4, 8), (0, 0), (4, 9), (0, l), (0, 0), (0, 0), (0, 0), (0, 0), (0, 0), (0, 0), (4, 10), (4, 11), (4, 12), (4, 13), (4, 14), (4, 15), (0, 0)], []), jgh, jgh, jgh, jgh, jgh, jgh, jgh, jgh, (100, [], X), jgh, jgh, jgh, jgh, jgh, jgh] b1 b2 Q := by
  have e : l = w := by omega
  subst e
  refine jT_xiload (v := (0, (-8))) (pcN := 75) jIE_316_73 rfl rfl rfl ?_
  refine jT_xifT (pcN := 124) jIE_316_75 rfl (by decide +kernel) rfl ?_
  refine jT_loc (LN := [(0, (4, 0))]) (by show List.Nodup [0]; decide) (by intro q hq; simp only [List.mem_cons, List.not_mem_nil, or_false] at hq; rcases hq with rfl <;> rfl) ?_
  refine jT_forget (a := 9) (c := (100, [], X)) rfl rfl ?_
  refine jT_eq (LN := [(0, (4, 0))]) (stN := []) (hsN := [(14, [(0, 0), (4, 1), (4, 2), (4, 3), (4, 4), (0, 0), (4, 5), (0, 0), (4, 6), (4, 7), (1, 1), (4, 8), (0, 0), (4, 9), (0, l), (0, 0), (0, 0), (0, 0), (0, 0), (0, 0), (0, 0), (4, 10), (4, 11), (4, 12), (4, 13), (4, 14), (4, 15), (0, 0)], []), jgh, jgh, jgh, jgh, jgh, jgh, jgh, jgh, jgh, jgh, jgh, jgh, jgh, jgh, jgh]) rfl rfl rfl ?_
  exact h
theorem jIE_316_78 : jmI (jm 316) 78 = (.lload_n 1, 1) := by rfl
theorem jIE_316_79 : jmI (jm 316) 79 = (.iload 4, 2) := by rfl
theorem jIE_316_86 : jmI (jm 316) 86 = (.l2i, 1) := by rfl
theorem jIE_316_87 : jmI (jm 316) 87 = (.istore 5, 2) := by rfl
theorem jIE_316_89 : jmI (jm 316) 89 = (.iload 5, 2) := by rfl
theorem jIE_316_91 : jmI (jm 316) 91 = (.ifCond .ne 6, 3) := by rfl
theorem jIE_316_97 : jmI (jm 316) 97 = (.aload_n 0, 1) := by rfl
theorem jIE_316_98 : jmI (jm 316) 98 = (.getfield 42, 3) := by rfl
theorem jIE_316_101 : jmI (jm 316) 101 = (.aload_n 0, 1) := by rfl
theorem jIE_316_102 : jmI (jm 316) 102 = (.getfield 488, 3) := by rfl
theorem jIE_316_105 : jmI (jm 316) 105 = (.iload 5, 2) := by rfl
theorem jIE_316_108 : jmI (jm 316) 108 = (.aload_n 0, 1) := by rfl
theorem jIE_316_110 : jmI (jm 316) 110 = (.getfield 488, 3) := by rfl
theorem jIE_316_113 : jmI (jm 316) 113 = (.iconst 1, 1) := by rfl
theorem jIE_316_114 : jmI (jm 316) 114 = (.iadd, 1) := by rfl
theorem jIE_316_118 : jmI (jm 316) 118 = (.iinc 4 (-8), 3) := by rfl
theorem jIE_316_121 : jmI (jm 316) 121 = (.goto (-48), 3) := by rfl
theorem jIE_316_94 : jmI (jm 316) 94 = (.goto 24, 3) := by rfl
theorem jEl_st_8_7 {xs : List Int} {d b1 b2 : Nat} {Q : Nat → JV → List JC → Prop} {v w l : Int} {X : List Int} (hX : X.length = 120) (h_v : (-9223372036854775808) ≤ v ∧ v ≤ 9223372036854775807) (h_l : 0 ≤ l ∧ l ≤ 7) (hl : l + (jb1 (v % 256)) = w) (h : jT xs d 316 16 124 [(0, (4, 0))] [] [(14, [(0, 0), (4, 1), (4, 2), (4, 3), (4, 4), (0, 0), (4, 5), (0, 0), (4, 6), (4, 7), (1, 1), (4, 8), (0, 0), (4, 9), (0, w), (0, 0), (0, 0), (0, 0), (0, 0), (0, 0), (0, 0), (4, 10), (4, 11), (4, 12), (4, 13), (4, 14), (4, 15), (0, 0)], []), jgh, jgh, jgh, jgh, jgh, jgh, jgh, jgh, jgh, jgh, jgh, jgh, jgh, jgh, jgh] b1 b2 Q) : jT xs d 316 16 73 [(4, (0, 0)), (0, (4, 0)), (1, (1, v))] [] [(14, [(0, 0), (4, 1), (4, 2), (4, 3), (4, 4), (0, 0), (4, 5), (0, 0), (4, 6), (4, 7), (1, 1), (4, 8), (0, 0), (4, 9), (0, l), (0, 0), (0, 0), (0, 0), (0, 0), (0, 0), (0, 0), (4, 10), (4, 11), (4, 12), (4, 13), (4, 14), (4, 15), (0, 0)], []), jgh, jgh, jgh, jgh, jgh, jgh, jgh, jgh, (100, [], X), jgh, jgh, jgh, jgh, jgh, jgh] b1 b2 Q := by
  rcases (show (0 ≤ (v % 256) - 1) ∨ ((v % 256) - 1 < 0) by omega) with g_0 | g_0
  · refine jT_xiload (v := (0, 0)) (pcN := 75) jIE_316_73 rfl rfl rfl ?_
    refine jT_xifF (t := 124) (pcN := 78) jIE_316_75 rfl (by decide +kernel) rfl rfl ?_
    refine jT_xlload_n (v := (1, v)) (pcN := 79) jIE_316_78 rfl rfl rfl ?_
    refine jT_xiload (v := (0, 0)) (pcN := 81) jIE_316_79 rfl rfl rfl ?_
    refine jT_lushr (x := v) (y := 0) (z := v) (by rfl) (by rfl) (jushr_0 (by omega) (by omega)) ?_
    refine jT_adv 1 (pcN := 85) (LN := [(4, (0, 0)), (0, (4, 0)), (1, (1, v))]) (stN := [(1, 255), (1, v)]) (hsN := [(14, [(0, 0), (4, 1), (4, 2), (4, 3), (4, 4), (0, 0), (4, 5), (0, 0), (4, 6), (4, 7), (1, 1), (4, 8), (0, 0), (4, 9), (0, l), (0, 0), (0, 0), (0, 0), (0, 0), (0, 0), (0, 0), (4, 10), (4, 11), (4, 12), (4, 13), (4, 14), (4, 15), (0, 0)], []), jgh, jgh, jgh, jgh, jgh, jgh, jgh, jgh, (100, [], X), jgh, jgh, jgh, jgh, jgh, jgh]) (c1 := 0) (s1 := 0) (c2 := b1) (s2 := b2) (by exact rfl) ?_ (by omega) (by omega)
    refine jT_land (x := v) (y := 255) (z := v % 256) (by rfl) (by rfl) (jland_255 _) ?_
    have hb_q1 : 0 ≤ v % 256 ∧ v % 256 ≤ 255 := ⟨by omega, by omega⟩
    generalize hq_q1 : v % 256 = q1 at hb_q1 g_0 ⊢
    refine jT_xl2i (pcN := 87) jIE_316_86 rfl rfl ?_
    refine jT_xistore (v := (0, q1)) (LN := [(5, (0, q1)), (4, (0, 0)), (0, (4, 0)), (1, (1, v))]) (pcN := 89) jIE_316_87 rfl rfl rfl rfl ?_
    refine jT_xiload (v := (0, q1)) (pcN := 91) jIE_316_89 rfl rfl rfl ?_
    refine jT_ifT (a := q1) (t := 97) (by rfl) (by rfl) (by rfl) (jw_idd (by omega) (by omega)) (by simp only [jcP] <;> omega) ?_
    refine jT_xaload_n (v := (4, 0)) (pcN := 98) jIE_316_97 rfl rfl rfl ?_
    refine jT_xgetf (a := 0) (t := 1) (ci := 14) (fi := 13) (c := (14, [(0, 0), (4, 1), (4, 2), (4, 3), (4, 4), (0, 0), (4, 5), (0, 0), (4, 6), (4, 7), (1, 1), (4, 8), (0, 0), (4, 9), (0, l), (0, 0), (0, 0), (0, 0), (0, 0), (0, 0), (0, 0), (4, 10), (4, 11), (4, 12), (4, 13), (4, 14), (4, 15), (0, 0)], [])) (v := (4, 9)) (pcN := 101) jIE_316_98 rfl rfl rfl rfl rfl rfl rfl ?_
    refine jT_xaload_n (v := (4, 0)) (pcN := 102) jIE_316_101 rfl rfl rfl ?_
    refine jT_xgetf (a := 0) (t := 1) (ci := 14) (fi := 14) (c := (14, [(0, 0), (4, 1), (4, 2), (4, 3), (4, 4), (0, 0), (4, 5), (0, 0), (4, 6), (4, 7), (1, 1), (4, 8), (0, 0), (4, 9), (0, l), (0, 0), (0, 0), (0, 0), (0, 0), (0, 0), (0, 0), (4, 10), (4, 11), (4, 12), (4, 13), (4, 14), (4, 15), (0, 0)], [])) (v := (0, l)) (pcN := 105) jIE_316_102 rfl rfl rfl rfl rfl rfl rfl ?_
    refine jT_xiload (v := (0, q1)) (pcN := 107) jIE_316_105 rfl rfl rfl ?_
    refine jT_iast (x := q1) (a := 9) (j := (l).toNat) (fs := []) (X := X) (by rfl) (by rfl) (by rfl) (jw_nn (by omega) (by omega)) (by rw [show List.length (X : List Int) = 120 from hX]; omega) ?_
    refine jT_eq (LN := [(5, (0, q1)), (4, (0, 0)), (0, (4, 0)), (1, (1, v))]) (stN := []) (hsN := [(14, [(0, 0), (4, 1), (4, 2), (4, 3), (4, 4), (0, 0), (4, 5), (0, 0), (4, 6), (4, 7), (1, 1), (4, 8), (0, 0), (4, 9), (0, l), (0, 0), (0, 0), (0, 0), (0, 0), (0, 0), (0, 0), (4, 10), (4, 11), (4, 12), (4, 13), (4, 14), (4, 15), (0, 0)], []), jgh, jgh, jgh, jgh, jgh, jgh, jgh, jgh, (100, [], ((X).set ((l).toNat) q1)), jgh, jgh, jgh, jgh, jgh, jgh]) rfl rfl rfl ?_
    refine jT_xaload_n (v := (4, 0)) (pcN := 109) jIE_316_108 rfl rfl rfl ?_
    refine jT_adv 1 (pcN := 110) (LN := [(5, (0, q1)), (4, (0, 0)), (0, (4, 0)), (1, (1, v))]) (stN := [(4, 0), (4, 0)]) (hsN := [(14, [(0, 0), (4, 1), (4, 2), (4, 3), (4, 4), (0, 0), (4, 5), (0, 0), (4, 6), (4, 7), (1, 1), (4, 8), (0, 0), (4, 9), (0, l), (0, 0), (0, 0), (0, 0), (0, 0), (0, 0), (0, 0), (4, 10), (4, 11), (4, 12), (4, 13), (4, 14), (4, 15), (0, 0)], []), jgh, jgh, jgh, jgh, jgh, jgh, jgh, jgh, (100, [], ((X).set ((l).toNat) q1)), jgh, jgh, jgh, jgh, jgh, jgh]) (c1 := 0) (s1 := 0) (c2 := b1) (s2 := b2) (by exact rfl) ?_ (by omega) (by omega)
    refine jT_xgetf (a := 0) (t := 1) (ci := 14) (fi := 14) (c := (14, [(0, 0), (4, 1), (4, 2), (4, 3), (4, 4), (0, 0), (4, 5), (0, 0), (4, 6), (4, 7), (1, 1), (4, 8), (0, 0), (4, 9), (0, l), (0, 0), (0, 0), (0, 0), (0, 0), (0, 0), (0, 0), (4, 10), (4, 11), (4, 12), (4, 13), (4, 14), (4, 15), (0, 0)], [])) (v := (0, l)) (pcN := 113) jIE_316_110 rfl rfl rfl rfl rfl rfl rfl ?_
    refine jT_xiconst (k := 1) (pcN := 114) jIE_316_113 rfl ?_
    refine jT_xiadd (x := l) (y := 1) (z := l + 1) (pcN := 115) jIE_316_114 rfl (rfl) rfl ?_
    refine jT_adv 1 (pcN := 118) (LN := [(5, (0, q1)), (4, (0, 0)), (0, (4, 0)), (1, (1, v))]) (stN := []) (hsN := [(14, [(0, 0), (4, 1), (4, 2), (4, 3), (4, 4), (0, 0), (4, 5), (0, 0), (4, 6), (4, 7), (1, 1), (4, 8), (0, 0), (4, 9), (0, l + 1), (0, 0), (0, 0), (0, 0), (0, 0), (0, 0), (0, 0), (4, 10), (4, 11), (4, 12), (4, 13), (4, 14), (4, 15), (0, 0)], []), jgh, jgh, jgh, jgh, jgh, jgh, jgh, jgh, (100, [], ((X).set ((l).toNat) q1)), jgh, jgh, jgh, jgh, jgh, jgh]) (c1 := 0) (s1 := 0) (c2 := b1) (s2 := b2) (by exact rfl) ?_ (by omega) (by omega)
    refine jT_xiinc (x := 0) (z := (-8)) (LN := [(4, (0, (-8))), (5, (0, q1)), (0, (4, 0)), (1, (1, v))]) (pcN := 121) jIE_316_118 rfl rfl (by decide) rfl rfl ?_
    refine jT_xgoto (pcN := 73) jIE_316_121 rfl ?_
    refine jT_loc (LN := [(4, (0, (-8))), (0, (4, 0)), (1, (1, v))]) (by show List.Nodup [4, 0, 1]; decide) (by intro q hq; simp only [List.mem_cons, List.not_mem_nil, or_false] at hq; rcases hq with rfl | rfl | rfl <;> rfl) ?_
    exact jEl_st_8_8 (by rw [List.length_set]; exact (hX)) h_v ⟨by omega, by omega⟩ (by have := jb1_1 (b := v % 256) (by omega); omega) h
  · refine jT_xiload (v := (0, 0)) (pcN := 75) jIE_316_73 rfl rfl rfl ?_
    refine jT_xifF (t := 124) (pcN := 78) jIE_316_75 rfl (by decide +kernel) rfl rfl ?_
    refine jT_xlload_n (v := (1, v)) (pcN := 79) jIE_316_78 rfl rfl rfl ?_
    refine jT_xiload (v := (0, 0)) (pcN := 81) jIE_316_79 rfl rfl rfl ?_
    refine jT_lushr (x := v) (y := 0) (z := v) (by rfl) (by rfl) (jushr_0 (by omega) (by omega)) ?_
    refine jT_adv 1 (pcN := 85) (LN := [(4, (0, 0)), (0, (4, 0)), (1, (1, v))]) (stN := [(1, 255), (1, v)]) (hsN := [(14, [(0, 0), (4, 1), (4, 2), (4, 3), (4, 4), (0, 0), (4, 5), (0, 0), (4, 6), (4, 7), (1, 1), (4, 8), (0, 0), (4, 9), (0, l), (0, 0), (0, 0), (0, 0), (0, 0), (0, 0), (0, 0), (4, 10), (4, 11), (4, 12), (4, 13), (4, 14), (4, 15), (0, 0)], []), jgh, jgh, jgh, jgh, jgh, jgh, jgh, jgh, (100, [], X), jgh, jgh, jgh, jgh, jgh, jgh]) (c1 := 0) (s1 := 0) (c2 := b1) (s2 := b2) (by exact rfl) ?_ (by omega) (by omega)
    refine jT_land (x := v) (y := 255) (z := v % 256) (by rfl) (by rfl) (jland_255 _) ?_
    have hb_q1 : 0 ≤ v % 256 ∧ v % 256 ≤ 255 := ⟨by omega, by omega⟩
    generalize hq_q1 : v % 256 = q1 at hb_q1 g_0 ⊢
    refine jT_xl2i (pcN := 87) jIE_316_86 rfl rfl ?_
    refine jT_xistore (v := (0, q1)) (LN := [(5, (0, q1)), (4, (0, 0)), (0, (4, 0)), (1, (1, v))]) (pcN := 89) jIE_316_87 rfl rfl rfl rfl ?_
    refine jT_xiload (v := (0, q1)) (pcN := 91) jIE_316_89 rfl rfl rfl ?_
    refine jT_ifF (a := q1) (t := 97) (by rfl) (by rfl) (by rfl) (jw_idd (by omega) (by omega)) (by simp only [jcP] <;> omega) ?_
    refine jT_xgoto (pcN := 118) jIE_316_94 rfl ?_
    refine jT_xiinc (x := 0) (z := (-8)) (LN := [(4, (0, (-8))), (5, (0, q1)), (0, (4, 0)), (1, (1, v))]) (pcN := 121) jIE_316_118 rfl rfl (by decide) rfl rfl ?_
    refine jT_xgoto (pcN := 73) jIE_316_121 rfl ?_
    refine jT_loc (LN := [(4, (0, (-8))), (0, (4, 0)), (1, (1, v))]) (by show List.Nodup [4, 0, 1]; decide) (by intro q hq; simp only [List.mem_cons, List.not_mem_nil, or_false] at hq; rcases hq with rfl | rfl | rfl <;> rfl) ?_
    exact jEl_st_8_8 (hX) h_v ⟨by omega, by omega⟩ (by have := jb1_0 (b := v % 256) (by omega); omega) h
theorem jEl_st_8_6 {xs : List Int} {d b1 b2 : Nat} {Q : Nat → JV → List JC → Prop} {v w l : Int} {X : List Int} (hX : X.length = 120) (h_v : (-9223372036854775808) ≤ v ∧ v ≤ 9223372036854775807) (h_l : 0 ≤ l ∧ l ≤ 6) (hl : l + (jb1 (v / 256 % 256) + (jb1 (v % 256))) = w) (h : jT xs d 316 16 124 [(0, (4, 0))] [] [(14, [(0, 0), (4, 1), (4, 2), (4, 3), (4, 4), (0, 0), (4, 5), (0, 0), (4, 6), (4, 7), (1, 1), (4, 8), (0, 0), (4, 9), (0, w), (0, 0), (0, 0), (0, 0), (0, 0), (0, 0), (0, 0), (4, 10), (4, 11), (4, 12), (4, 13), (4, 14), (4, 15), (0, 0)], []), jgh, jgh, jgh, jgh, jgh, jgh, jgh, jgh, jgh, jgh, jgh, jgh, jgh, jgh, jgh] b1 b2 Q) : jT xs d 316 16 73 [(4, (0, 8)), (0, (4, 0)), (1, (1, v))] [] [(14, [(0, 0), (4, 1), (4, 2), (4, 3), (4, 4), (0, 0), (4, 5), (0, 0), (4, 6), (4, 7), (1, 1), (4, 8), (0, 0), (4, 9), (0, l), (0, 0), (0, 0), (0, 0), (0, 0), (0, 0), (0, 0), (4, 10), (4, 11), (4, 12), (4, 13), (4, 14), (4, 15), (0, 0)], []), jgh, jgh, jgh, jgh, jgh, jgh, jgh, jgh, (100, [], X), jgh, jgh, jgh, jgh, jgh, jgh] b1 b2 Q := by
  rcases (show (0 ≤ ((v % 18446744073709551616 / 256) % 256) - 1) ∨ (((v % 18446744073709551616 / 256) % 256) - 1 < 0) by omega) with g_0 | g_0
  · refine jT_xiload (v := (0, 8)) (pcN := 75) jIE_316_73 rfl rfl rfl ?_
    refine jT_xifF (t := 124) (pcN := 78) jIE_316_75 rfl (by decide +kernel) rfl rfl ?_
    refine jT_xlload_n (v := (1, v)) (pcN := 79) jIE_316_78 rfl rfl rfl ?_
    refine jT_xiload (v := (0, 8)) (pcN := 81) jIE_316_79 rfl rfl rfl ?_
    refine jT_lushr (x := v) (y := 8) (z := v % 18446744073709551616 / 256) (by rfl) (by rfl) (jushr_8 (by omega) (by omega)) ?_
    have hb_q1 : 0 ≤ v % 18446744073709551616 / 256 ∧ v % 18446744073709551616 / 256 ≤ 72057594037927935 := ⟨by omega, by omega⟩
    generalize hq_q1 : v % 18446744073709551616 / 256 = q1 at hb_q1 g_0 ⊢
    refine jT_adv 1 (pcN := 85) (LN := [(4, (0, 8)), (0, (4, 0)), (1, (1, v))]) (stN := [(1, 255), (1, q1)]) (hsN := [(14, [(0, 0), (4, 1), (4, 2), (4, 3), (4, 4), (0, 0), (4, 5), (0, 0), (4, 6), (4, 7), (1, 1), (4, 8), (0, 0), (4, 9), (0, l), (0, 0), (0, 0), (0, 0), (0, 0), (0, 0), (0, 0), (4, 10), (4, 11), (4, 12), (4, 13), (4, 14), (4, 15), (0, 0)], []), jgh, jgh, jgh, jgh, jgh, jgh, jgh, jgh, (100, [], X), jgh, jgh, jgh, jgh, jgh, jgh]) (c1 := 0) (s1 := 0) (c2 := b1) (s2 := b2) (by exact rfl) ?_ (by omega) (by omega)
    refine jT_land (x := q1) (y := 255) (z := q1 % 256) (by rfl) (by rfl) (jland_255 _) ?_
    have hb_q2 : 0 ≤ q1 % 256 ∧ q1 % 256 ≤ 255 := ⟨by omega, by omega⟩
    generalize hq_q2 : q1 % 256 = q2 at hb_q2 g_0 ⊢
    refine jT_xl2i (pcN := 87) jIE_316_86 rfl rfl ?_
    refine jT_xistore (v := (0, q2)) (LN := [(5, (0, q2)), (4, (0, 8)), (0, (4, 0)), (1, (1, v))]) (pcN := 89) jIE_316_87 rfl rfl rfl rfl ?_
    refine jT_xiload (v := (0, q2)) (pcN := 91) jIE_316_89 rfl rfl rfl ?_
    refine jT_ifT (a := q2) (t := 97) (by rfl) (by rfl) (by rfl) (jw_idd (by omega) (by omega)) (by simp only [jcP] <;> omega) ?_
    refine jT_xaload_n (v := (4, 0)) (pcN := 98) jIE_316_97 rfl rfl rfl ?_
    refine jT_xgetf (a := 0) (t := 1) (ci := 14) (fi := 13) (c := (14, [(0, 0), (4, 1), (4, 2), (4, 3), (4, 4), (0, 0), (4, 5), (0, 0), (4, 6), (4, 7), (1, 1), (4, 8), (0, 0), (4, 9), (0, l), (0, 0), (0, 0), (0, 0), (0, 0), (0, 0), (0, 0), (4, 10), (4, 11), (4, 12), (4, 13), (4, 14), (4, 15), (0, 0)], [])) (v := (4, 9)) (pcN := 101) jIE_316_98 rfl rfl rfl rfl rfl rfl rfl ?_
    refine jT_xaload_n (v := (4, 0)) (pcN := 102) jIE_316_101 rfl rfl rfl ?_
    refine jT_xgetf (a := 0) (t := 1) (ci := 14) (fi := 14) (c := (14, [(0, 0), (4, 1), (4, 2), (4, 3), (4, 4), (0, 0), (4, 5), (0, 0), (4, 6), (4, 7), (1, 1), (4, 8), (0, 0), (4, 9), (0, l), (0, 0), (0, 0), (0, 0), (0, 0), (0, 0), (0, 0), (4, 10), (4, 11), (4, 12), (4, 13), (4, 14), (4, 15), (0, 0)], [])) (v := (0, l)) (pcN := 105) jIE_316_102 rfl rfl rfl rfl rfl rfl rfl ?_
    refine jT_xiload (v := (0, q2)) (pcN := 107) jIE_316_105 rfl rfl rfl ?_
    refine jT_iast (x := q2) (a := 9) (j := (l).toNat) (fs := []) (X := X) (by rfl) (by rfl) (by rfl) (jw_nn (by omega) (by omega)) (by rw [show List.length (X : List Int) = 120 from hX]; omega) ?_
    refine jT_eq (LN := [(5, (0, q2)), (4, (0, 8)), (0, (4, 0)), (1, (1, v))]) (stN := []) (hsN := [(14, [(0, 0), (4, 1), (4, 2), (4, 3), (4, 4), (0, 0), (4, 5), (0, 0), (4, 6), (4, 7), (1, 1), (4, 8), (0, 0), (4, 9), (0, l), (0, 0), (0, 0), (0, 0), (0, 0), (0, 0), (0, 0), (4, 10), (4, 11), (4, 12), (4, 13), (4, 14), (4, 15), (0, 0)], []), jgh, jgh, jgh, jgh, jgh, jgh, jgh, jgh, (100, [], ((X).set ((l).toNat) q2)), jgh, jgh, jgh, jgh, jgh, jgh]) rfl rfl rfl ?_
    refine jT_xaload_n (v := (4, 0)) (pcN := 109) jIE_316_108 rfl rfl rfl ?_
    refine jT_adv 1 (pcN := 110) (LN := [(5, (0, q2)), (4, (0, 8)), (0, (4, 0)), (1, (1, v))]) (stN := [(4, 0), (4, 0)]) (hsN := [(14, [(0, 0), (4, 1), (4, 2), (4, 3), (4, 4), (0, 0), (4, 5), (0, 0), (4, 6), (4, 7), (1, 1), (4, 8), (0, 0), (4, 9), (0, l), (0, 0), (0, 0), (0, 0), (0, 0), (0, 0), (0, 0), (4, 10), (4, 11), (4, 12), (4, 13), (4, 14), (4, 15), (0, 0)], []), jgh, jgh, jgh, jgh, jgh, jgh, jgh, jgh, (100, [], ((X).set ((l).toNat) q2)), jgh, jgh, jgh, jgh, jgh, jgh]) (c1 := 0) (s1 := 0) (c2 := b1) (s2 := b2) (by exact rfl) ?_ (by omega) (by omega)
    refine jT_xgetf (a := 0) (t := 1) (ci := 14) (fi := 14) (c := (14, [(0, 0), (4, 1), (4, 2), (4, 3), (4, 4), (0, 0), (4, 5), (0, 0), (4, 6), (4, 7), (1, 1), (4, 8), (0, 0), (4, 9), (0, l), (0, 0), (0, 0), (0, 0), (0, 0), (0, 0), (0, 0), (4, 10), (4, 11), (4, 12), (4, 13), (4, 14), (4, 15), (0, 0)], [])) (v := (0, l)) (pcN := 113) jIE_316_110 rfl rfl rfl rfl rfl rfl rfl ?_
    refine jT_xiconst (k := 1) (pcN := 114) jIE_316_113 rfl ?_
    refine jT_xiadd (x := l) (y := 1) (z := l + 1) (pcN := 115) jIE_316_114 rfl (rfl) rfl ?_
    refine jT_adv 1 (pcN := 118) (LN := [(5, (0, q2)), (4, (0, 8)), (0, (4, 0)), (1, (1, v))]) (stN := []) (hsN := [(14, [(0, 0), (4, 1), (4, 2), (4, 3), (4, 4), (0, 0), (4, 5), (0, 0), (4, 6), (4, 7), (1, 1), (4, 8), (0, 0), (4, 9), (0, l + 1), (0, 0), (0, 0), (0, 0), (0, 0), (0, 0), (0, 0), (4, 10), (4, 11), (4, 12), (4, 13), (4, 14), (4, 15), (0, 0)], []), jgh, jgh, jgh, jgh, jgh, jgh, jgh, jgh, (100, [], ((X).set ((l).toNat) q2)), jgh, jgh, jgh, jgh, jgh, jgh]) (c1 := 0) (s1 := 0) (c2 := b1) (s2 := b2) (by exact rfl) ?_ (by omega) (by omega)
    refine jT_xiinc (x := 8) (z := 0) (LN := [(4, (0, 0)), (5, (0, q2)), (0, (4, 0)), (1, (1, v))]) (pcN := 121) jIE_316_118 rfl rfl (by decide) rfl rfl ?_
    refine jT_xgoto (pcN := 73) jIE_316_121 rfl ?_
    refine jT_loc (LN := [(4, (0, 0)), (0, (4, 0)), (1, (1, v))]) (by show List.Nodup [4, 0, 1]; decide) (by intro q hq; simp only [List.mem_cons, List.not_mem_nil, or_false] at hq; rcases hq with rfl | rfl | rfl <;> rfl) ?_
    exact jEl_st_8_7 (by rw [List.length_set]; exact (hX)) h_v ⟨by omega, by omega⟩ (by have := jb1_1 (b := v / 256 % 256) (by omega); omega) h
  · refine jT_xiload (v := (0, 8)) (pcN := 75) jIE_316_73 rfl rfl rfl ?_
    refine jT_xifF (t := 124) (pcN := 78) jIE_316_75 rfl (by decide +kernel) rfl rfl ?_
    refine jT_xlload_n (v := (1, v)) (pcN := 79) jIE_316_78 rfl rfl rfl ?_
    refine jT_xiload (v := (0, 8)) (pcN := 81) jIE_316_79 rfl rfl rfl ?_
    refine jT_lushr (x := v) (y := 8) (z := v % 18446744073709551616 / 256) (by rfl) (by rfl) (jushr_8 (by omega) (by omega)) ?_
    have hb_q1 : 0 ≤ v % 18446744073709551616 / 256 ∧ v % 18446744073709551616 / 256 ≤ 72057594037927935 := ⟨by omega, by omega⟩
    generalize hq_q1 : v % 18446744073709551616 / 256 = q1 at hb_q1 g_0 ⊢
    refine jT_adv 1 (pcN := 85) (LN := [(4, (0, 8)), (0, (4, 0)), (1, (1, v))]) (stN := [(1, 255), (1, q1)]) (hsN := [(14, [(0, 0), (4, 1), (4, 2), (4, 3), (4, 4), (0, 0), (4, 5), (0, 0), (4, 6), (4, 7), (1, 1), (4, 8), (0, 0), (4, 9), (0, l), (0, 0), (0, 0), (0, 0), (0, 0), (0, 0), (0, 0), (4, 10), (4, 11), (4, 12), (4, 13), (4, 14), (4, 15), (0, 0)], []), jgh, jgh, jgh, jgh, jgh, jgh, jgh, jgh, (100, [], X), jgh, jgh, jgh, jgh, jgh, jgh]) (c1 := 0) (s1 := 0) (c2 := b1) (s2 := b2) (by exact rfl) ?_ (by omega) (by omega)
    refine jT_land (x := q1) (y := 255) (z := q1 % 256) (by rfl) (by rfl) (jland_255 _) ?_
    have hb_q2 : 0 ≤ q1 % 256 ∧ q1 % 256 ≤ 255 := ⟨by omega, by omega⟩
    generalize hq_q2 : q1 % 256 = q2 at hb_q2 g_0 ⊢
    refine jT_xl2i (pcN := 87) jIE_316_86 rfl rfl ?_
    refine jT_xistore (v := (0, q2)) (LN := [(5, (0, q2)), (4, (0, 8)), (0, (4, 0)), (1, (1, v))]) (pcN := 89) jIE_316_87 rfl rfl rfl rfl ?_
    refine jT_xiload (v := (0, q2)) (pcN := 91) jIE_316_89 rfl rfl rfl ?_
    refine jT_ifF (a := q2) (t := 97) (by rfl) (by rfl) (by rfl) (jw_idd (by omega) (by omega)) (by simp only [jcP] <;> omega) ?_
    refine jT_xgoto (pcN := 118) jIE_316_94 rfl ?_
    refine jT_xiinc (x := 8) (z := 0) (LN := [(4, (0, 0)), (5, (0, q2)), (0, (4, 0)), (1, (1, v))]) (pcN := 121) jIE_316_118 rfl rfl (by decide) rfl rfl ?_
    refine jT_xgoto (pcN := 73) jIE_316_121 rfl ?_
    refine jT_loc (LN := [(4, (0, 0)), (0, (4, 0)), (1, (1, v))]) (by show List.Nodup [4, 0, 1]; decide) (by intro q hq; simp only [List.mem_cons, List.not_mem_nil, or_false] at hq; rcases hq with rfl | rfl | rfl <;> rfl) ?_
    exact jEl_st_8_7 (hX) h_v ⟨by omega, by omega⟩ (by have := jb1_0 (b := v / 256 % 256) (by omega); omega) h
theorem jEl_st_8_5 {xs : List Int} {d b1 b2 : Nat} {Q : Nat → JV → List JC → Prop} {v w l : Int} {X : List Int} (hX : X.length = 120) (h_v : (-9223372036854775808) ≤ v ∧ v ≤ 9223372036854775807) (h_l : 0 ≤ l ∧ l ≤ 5) (hl : l + (jb1 (v / 65536 % 256) + (jb1 (v / 256 % 256) + (jb1 (v % 256)))) = w) (h : jT xs d 316 16 124 [(0, (4, 0))] [] [(14, [(0, 0), (4, 1), (4, 2), (4, 3), (4, 4), (0, 0), (4, 5), (0, 0), (4, 6), (4, 7), (1, 1), (4, 8), (0, 0), (4, 9), (0, w), (0, 0), (0, 0), (0, 0), (0, 0), (0, 0), (0, 0), (4, 10), (4, 11), (4, 12), (4, 13), (4, 14), (4, 15), (0, 0)], []), jgh, jgh, jgh, jgh, jgh, jgh, jgh, jgh, jgh, jgh, jgh, jgh, jgh, jgh, jgh] b1 b2 Q) : jT xs d 316 16 73 [(4, (0, 16)), (0, (4, 0)), (1, (1, v))] [] [(14, [(0, 0), (4, 1), (4, 2), (4, 3), (4, 4), (0, 0), (4, 5), (0, 0), (4, 6), (4, 7), (1, 1), (4, 8), (0, 0), (4, 9), (0, l), (0, 0), (0, 0), (0, 0), (0, 0), (0, 0), (0, 0), (4, 10), (4, 11), (4, 12), (4, 13), (4, 14), (4, 15), (0, 0)], []), jgh, jgh, jgh, jgh, jgh, jgh, jgh, jgh, (100, [], X), jgh, jgh, jgh, jgh, jgh, jgh] b1 b2 Q := by
  rcases (show (0 ≤ ((v % 18446744073709551616 / 65536) % 256) - 1) ∨ (((v % 18446744073709551616 / 65536) % 256) - 1 < 0) by omega) with g_0 | g_0
  · refine jT_xiload (v := (0, 16)) (pcN := 75) jIE_316_73 rfl rfl rfl ?_
    refine jT_xifF (t := 124) (pcN := 78) jIE_316_75 rfl (by decide +kernel) rfl rfl ?_
    refine jT_xlload_n (v := (1, v)) (pcN := 79) jIE_316_78 rfl rfl rfl ?_
    refine jT_xiload (v := (0, 16)) (pcN := 81) jIE_316_79 rfl rfl rfl ?_
    refine jT_lushr (x := v) (y := 16) (z := v % 18446744073709551616 / 65536) (by rfl) (by rfl) (jushr_16 (by omega) (by omega)) ?_
    have hb_q1 : 0 ≤ v % 18446744073709551616 / 65536 ∧ v % 18446744073709551616 / 65536 ≤ 281474976710655 := ⟨by omega, by omega⟩
    generalize hq_q1 : v % 18446744073709551616 / 65536 = q1 at hb_q1 g_0 ⊢
    refine jT_adv 1 (pcN := 85) (LN := [(4, (0, 16)), (0, (4, 0)), (1, (1, v))]) (stN := [(1, 255), (1, q1)]) (hsN := [(14, [(0, 0), (4, 1), (4, 2), (4, 3), (4, 4), (0, 0), (4, 5), (0, 0), (4, 6), (4, 7), (1, 1), (4, 8), (0, 0), (4, 9), (0, l), (0, 0), (0, 0), (0, 0), (0, 0), (0, 0), (0, 0), (4, 10), (4, 11), (4, 12), (4, 13), (4, 14), (4, 15), (0, 0)], []), jgh, jgh, jgh, jgh, jgh, jgh, jgh, jgh, (100, [], X), jgh, jgh, jgh, jgh, jgh, jgh]) (c1 := 0) (s1 := 0) (c2 := b1) (s2 := b2) (by exact rfl) ?_ (by omega) (by omega)
    refine jT_land (x := q1) (y := 255) (z := q1 % 256) (by rfl) (by rfl) (jland_255 _) ?_
    have hb_q2 : 0 ≤ q1 % 256 ∧ q1 % 256 ≤ 255 := ⟨by omega, by omega⟩
    generalize hq_q2 : q1 % 256 = q2 at hb_q2 g_0 ⊢
    refine jT_xl2i (pcN := 87) jIE_316_86 rfl rfl ?_
    refine jT_xistore (v := (0, q2)) (LN := [(5, (0, q2)), (4, (0, 16)), (0, (4, 0)), (1, (1, v))]) (pcN := 89) jIE_316_87 rfl rfl rfl rfl ?_
    refine jT_xiload (v := (0, q2)) (pcN := 91) jIE_316_89 rfl rfl rfl ?_
    refine jT_ifT (a := q2) (t := 97) (by rfl) (by rfl) (by rfl) (jw_idd (by omega) (by omega)) (by simp only [jcP] <;> omega) ?_
    refine jT_xaload_n (v := (4, 0)) (pcN := 98) jIE_316_97 rfl rfl rfl ?_
    refine jT_xgetf (a := 0) (t := 1) (ci := 14) (fi := 13) (c := (14, [(0, 0), (4, 1), (4, 2), (4, 3), (4, 4), (0, 0), (4, 5), (0, 0), (4, 6), (4, 7), (1, 1), (4, 8), (0, 0), (4, 9), (0, l), (0, 0), (0, 0), (0, 0), (0, 0), (0, 0), (0, 0), (4, 10), (4, 11), (4, 12), (4, 13), (4, 14), (4, 15), (0, 0)], [])) (v := (4, 9)) (pcN := 101) jIE_316_98 rfl rfl rfl rfl rfl rfl rfl ?_
    refine jT_xaload_n (v := (4, 0)) (pcN := 102) jIE_316_101 rfl rfl rfl ?_
    refine jT_xgetf (a := 0) (t := 1) (ci := 14) (fi := 14) (c := (14, [(0, 0), (4, 1), (4, 2), (4, 3), (4, 4), (0, 0), (4, 5), (0, 0), (4, 6), (4, 7), (1, 1), (4, 8), (0, 0), (4, 9), (0, l), (0, 0), (0, 0), (0, 0), (0, 0), (0, 0), (0, 0), (4, 10), (4, 11), (4, 12), (4, 13), (4, 14), (4, 15), (0, 0)], [])) (v := (0, l)) (pcN := 105) jIE_316_102 rfl rfl rfl rfl rfl rfl rfl ?_
    refine jT_xiload (v := (0, q2)) (pcN := 107) jIE_316_105 rfl rfl rfl ?_
    refine jT_iast (x := q2) (a := 9) (j := (l).toNat) (fs := []) (X := X) (by rfl) (by rfl) (by rfl) (jw_nn (by omega) (by omega)) (by rw [show List.length (X : List Int) = 120 from hX]; omega) ?_
    refine jT_eq (LN := [(5, (0, q2)), (4, (0, 16)), (0, (4, 0)), (1, (1, v))]) (stN := []) (hsN := [(14, [(0, 0), (4, 1), (4, 2), (4, 3), (4, 4), (0, 0), (4, 5), (0, 0), (4, 6), (4, 7), (1, 1), (4, 8), (0, 0), (4, 9), (0, l), (0, 0), (0, 0), (0, 0), (0, 0), (0, 0), (0, 0), (4, 10), (4, 11), (4, 12), (4, 13), (4, 14), (4, 15), (0, 0)], []), jgh, jgh, jgh, jgh, jgh, jgh, jgh, jgh, (100, [], ((X).set ((l).toNat) q2)), jgh, jgh, jgh, jgh, jgh, jgh]) rfl rfl rfl ?_
    refine jT_xaload_n (v := (4, 0)) (pcN := 109) jIE_316_108 rfl rfl rfl ?_
    refine jT_adv 1 (pcN := 110) (LN := [(5, (0, q2)), (4, (0, 16)), (0, (4, 0)), (1, (1, v))]) (stN := [(4, 0), (4, 0)]) (hsN := [(14, [(0, 0), (4, 1), (4, 2), (4, 3), (4, 4), (0, 0), (4, 5), (0, 0), (4, 6), (4, 7), (1, 1), (4, 8), (0, 0), (4, 9), (0, l), (0, 0), (0, 0), (0, 0), (0, 0), (0, 0), (0, 0), (4, 10), (4, 11), (4, 12), (4, 13), (4, 14), (4, 15), (0, 0)], []), jgh, jgh, jgh, jgh, jgh, jgh, jgh, jgh, (100, [], ((X).set ((l).toNat) q2)), jgh, jgh, jgh, jgh, jgh, jgh]) (c1 := 0) (s1 := 0) (c2 := b1) (s2 := b2) (by exact rfl) ?_ (by omega) (by omega)
    refine jT_xgetf (a := 0) (t := 1) (ci := 14) (fi := 14) (c := (14, [(0, 0), (4, 1), (4, 2), (4, 3), (4, 4), (0, 0), (4, 5), (0, 0), (4, 6), (4, 7), (1, 1), (4, 8), (0, 0), (4, 9), (0, l), (0, 0), (0, 0), (0, 0), (0, 0), (0, 0), (0, 0), (4, 10), (4, 11), (4, 12), (4, 13), (4, 14), (4, 15), (0, 0)], [])) (v := (0, l)) (pcN := 113) jIE_316_110 rfl rfl rfl rfl rfl rfl rfl ?_
    refine jT_xiconst (k := 1) (pcN := 114) jIE_316_113 rfl ?_
    refine jT_xiadd (x := l) (y := 1) (z := l + 1) (pcN := 115) jIE_316_114 rfl (rfl) rfl ?_
    refine jT_adv 1 (pcN := 118) (LN := [(5, (0, q2)), (4, (0, 16)), (0, (4, 0)), (1, (1, v))]) (stN := []) (hsN := [(14, [(0, 0), (4, 1), (4, 2), (4, 3), (4, 4), (0, 0), (4, 5), (0, 0), (4, 6), (4, 7), (1, 1), (4, 8), (0, 0), (4, 9), (0, l + 1), (0, 0), (0, 0), (0, 0), (0, 0), (0, 0), (0, 0), (4, 10), (4, 11), (4, 12), (4, 13), (4, 14), (4, 15), (0, 0)], []), jgh, jgh, jgh, jgh, jgh, jgh, jgh, jgh, (100, [], ((X).set ((l).toNat) q2)), jgh, jgh, jgh, jgh, jgh, jgh]) (c1 := 0) (s1 := 0) (c2 := b1) (s2 := b2) (by exact rfl) ?_ (by omega) (by omega)
    refine jT_xiinc (x := 16) (z := 8) (LN := [(4, (0, 8)), (5, (0, q2)), (0, (4, 0)), (1, (1, v))]) (pcN := 121) jIE_316_118 rfl rfl (by decide) rfl rfl ?_
    refine jT_xgoto (pcN := 73) jIE_316_121 rfl ?_
    refine jT_loc (LN := [(4, (0, 8)), (0, (4, 0)), (1, (1, v))]) (by show List.Nodup [4, 0, 1]; decide) (by intro q hq; simp only [List.mem_cons, List.not_mem_nil, or_false] at hq; rcases hq with rfl | rfl | rfl <;> rfl) ?_
    exact jEl_st_8_6 (by rw [List.length_set]; exact (hX)) h_v ⟨by omega, by omega⟩ (by have := jb1_1 (b := v / 65536 % 256) (by omega); omega) h
  · refine jT_xiload (v := (0, 16)) (pcN := 75) jIE_316_73 rfl rfl rfl ?_
    refine jT_xifF (t := 124) (pcN := 78) jIE_316_75 rfl (by decide +kernel) rfl rfl ?_
    refine jT_xlload_n (v := (1, v)) (pcN := 79) jIE_316_78 rfl rfl rfl ?_
    refine jT_xiload (v := (0, 16)) (pcN := 81) jIE_316_79 rfl rfl rfl ?_
    refine jT_lushr (x := v) (y := 16) (z := v % 18446744073709551616 / 65536) (by rfl) (by rfl) (jushr_16 (by omega) (by omega)) ?_
    have hb_q1 : 0 ≤ v % 18446744073709551616 / 65536 ∧ v % 18446744073709551616 / 65536 ≤ 281474976710655 := ⟨by omega, by omega⟩
    generalize hq_q1 : v % 18446744073709551616 / 65536 = q1 at hb_q1 g_0 ⊢
    refine jT_adv 1 (pcN := 85) (LN := [(4, (0, 16)), (0, (4, 0)), (1, (1, v))]) (stN := [(1, 255), (1, q1)]) (hsN := [(14, [(0, 0), (4, 1), (4, 2), (4, 3), (4, 4), (0, 0), (4, 5), (0, 0), (4, 6), (4, 7), (1, 1), (4, 8), (0, 0), (4, 9), (0, l), (0, 0), (0, 0), (0, 0), (0, 0), (0, 0), (0, 0), (4, 10), (4, 11), (4, 12), (4, 13), (4, 14), (4, 15), (0, 0)], []), jgh, jgh, jgh, jgh, jgh, jgh, jgh, jgh, (100, [], X), jgh, jgh, jgh, jgh, jgh, jgh]) (c1 := 0) (s1 := 0) (c2 := b1) (s2 := b2) (by exact rfl) ?_ (by omega) (by omega)
    refine jT_land (x := q1) (y := 255) (z := q1 % 256) (by rfl) (by rfl) (jland_255 _) ?_
    have hb_q2 : 0 ≤ q1 % 256 ∧ q1 % 256 ≤ 255 := ⟨by omega, by omega⟩
    generalize hq_q2 : q1 % 256 = q2 at hb_q2 g_0 ⊢
    refine jT_xl2i (pcN := 87) jIE_316_86 rfl rfl ?_
    refine jT_xistore (v := (0, q2)) (LN := [(5, (0, q2)), (4, (0, 16)), (0, (4, 0)), (1, (1, v))]) (pcN := 89) jIE_316_87 rfl rfl rfl rfl ?_
    refine jT_xiload (v := (0, q2)) (pcN := 91) jIE_316_89 rfl rfl rfl ?_
    refine jT_ifF (a := q2) (t := 97) (by rfl) (by rfl) (by rfl) (jw_idd (by omega) (by omega)) (by simp only [jcP] <;> omega) ?_
    refine jT_xgoto (pcN := 118) jIE_316_94 rfl ?_
    refine jT_xiinc (x := 16) (z := 8) (LN := [(4, (0, 8)), (5, (0, q2)), (0, (4, 0)), (1, (1, v))]) (pcN := 121) jIE_316_118 rfl rfl (by decide) rfl rfl ?_
    refine jT_xgoto (pcN := 73) jIE_316_121 rfl ?_
    refine jT_loc (LN := [(4, (0, 8)), (0, (4, 0)), (1, (1, v))]) (by show List.Nodup [4, 0, 1]; decide) (by intro q hq; simp only [List.mem_cons, List.not_mem_nil, or_false] at hq; rcases hq with rfl | rfl | rfl <;> rfl) ?_
    exact jEl_st_8_6 (hX) h_v ⟨by omega, by omega⟩ (by have := jb1_0 (b := v / 65536 % 256) (by omega); omega) h
theorem jEl_st_8_4 {xs : List Int} {d b1 b2 : Nat} {Q : Nat → JV → List JC → Prop} {v w l : Int} {X : List Int} (hX : X.length = 120) (h_v : (-9223372036854775808) ≤ v ∧ v ≤ 9223372036854775807) (h_l : 0 ≤ l ∧ l ≤ 4) (hl : l + (jb1 (v / 16777216 % 256) + (jb1 (v / 65536 % 256) + (jb1 (v / 256 % 256) + (jb1 (v % 256))))) = w) (h : jT xs d 316 16 124 [(0, (4, 0))] [] [(14, [(0, 0), (4, 1), (4, 2), (4, 3), (4, 4), (0, 0), (4, 5), (0, 0), (4, 6), (4, 7), (1, 1), (4, 8), (0, 0), (4, 9), (0, w), (0, 0), (0, 0), (0, 0), (0, 0), (0, 0), (0, 0), (4, 10), (4, 11), (4, 12), (4, 13), (4, 14), (4, 15), (0, 0)], []), jgh, jgh, jgh, jgh, jgh, jgh, jgh, jgh, jgh, jgh, jgh, jgh, jgh, jgh, jgh] b1 b2 Q) : jT xs d 316 16 73 [(4, (0, 24)), (0, (4, 0)), (1, (1, v))] [] [(14, [(0, 0), (4, 1), (4, 2), (4, 3), (4, 4), (0, 0), (4, 5), (0, 0), (4, 6), (4, 7), (1, 1), (4, 8), (0, 0), (4, 9), (0, l), (0, 0), (0, 0), (0, 0), (0, 0), (0, 0), (0, 0), (4, 10), (4, 11), (4, 12), (4, 13), (4, 14), (4, 15), (0, 0)], []), jgh, jgh, jgh, jgh, jgh, jgh, jgh, jgh, (100, [], X), jgh, jgh, jgh, jgh, jgh, jgh] b1 b2 Q := by
  rcases (show (0 ≤ ((v % 18446744073709551616 / 16777216) % 256) - 1) ∨ (((v % 18446744073709551616 / 16777216) % 256) - 1 < 0) by omega) with g_0 | g_0
  · refine jT_xiload (v := (0, 24)) (pcN := 75) jIE_316_73 rfl rfl rfl ?_
    refine jT_xifF (t := 124) (pcN := 78) jIE_316_75 rfl (by decide +kernel) rfl rfl ?_
    refine jT_xlload_n (v := (1, v)) (pcN := 79) jIE_316_78 rfl rfl rfl ?_
    refine jT_xiload (v := (0, 24)) (pcN := 81) jIE_316_79 rfl rfl rfl ?_
    refine jT_lushr (x := v) (y := 24) (z := v % 18446744073709551616 / 16777216) (by rfl) (by rfl) (jushr_24 (by omega) (by omega)) ?_
    have hb_q1 : 0 ≤ v % 18446744073709551616 / 16777216 ∧ v % 18446744073709551616 / 16777216 ≤ 1099511627775 := ⟨by omega, by omega⟩
    generalize hq_q1 : v % 18446744073709551616 / 16777216 = q1 at hb_q1 g_0 ⊢
    refine jT_adv 1 (pcN := 85) (LN := [(4, (0, 24)), (0, (4, 0)), (1, (1, v))]) (stN := [(1, 255), (1, q1)]) (hsN := [(14, [(0, 0), (4, 1), (4, 2), (4, 3), (4, 4), (0, 0), (4, 5), (0, 0), (4, 6), (4, 7), (1, 1), (4, 8), (0, 0), (4, 9), (0, l), (0, 0), (0, 0), (0, 0), (0, 0), (0, 0), (0, 0), (4, 10), (4, 11), (4, 12), (4, 13), (4, 14), (4, 15), (0, 0)], []), jgh, jgh, jgh, jgh, jgh, jgh, jgh, jgh, (100, [], X), jgh, jgh, jgh, jgh, jgh, jgh]) (c1 := 0) (s1 := 0) (c2 := b1) (s2 := b2) (by exact rfl) ?_ (by omega) (by omega)
    refine jT_land (x := q1) (y := 255) (z := q1 % 256) (by rfl) (by rfl) (jland_255 _) ?_
    have hb_q2 : 0 ≤ q1 % 256 ∧ q1 % 256 ≤ 255 := ⟨by omega, by omega⟩
    generalize hq_q2 : q1 % 256 = q2 at hb_q2 g_0 ⊢
    refine jT_xl2i (pcN := 87) jIE_316_86 rfl rfl ?_
    refine jT_xistore (v := (0, q2)) (LN := [(5, (0, q2)), (4, (0, 24)), (0, (4, 0)), (1, (1, v))]) (pcN := 89) jIE_316_87 rfl rfl rfl rfl ?_
    refine jT_xiload (v := (0, q2)) (pcN := 91) jIE_316_89 rfl rfl rfl ?_
    refine jT_ifT (a := q2) (t := 97) (by rfl) (by rfl) (by rfl) (jw_idd (by omega) (by omega)) (by simp only [jcP] <;> omega) ?_
    refine jT_xaload_n (v := (4, 0)) (pcN := 98) jIE_316_97 rfl rfl rfl ?_
    refine jT_xgetf (a := 0) (t := 1) (ci := 14) (fi := 13) (c := (14, [(0, 0), (4, 1), (4, 2), (4, 3), (4, 4), (0, 0), (4, 5), (0, 0), (4, 6), (4, 7), (1, 1), (4, 8), (0, 0), (4, 9), (0, l), (0, 0), (0, 0), (0, 0), (0, 0), (0, 0), (0, 0), (4, 10), (4, 11), (4, 12), (4, 13), (4, 14), (4, 15), (0, 0)], [])) (v := (4, 9)) (pcN := 101) jIE_316_98 rfl rfl rfl rfl rfl rfl rfl ?_
    refine jT_xaload_n (v := (4, 0)) (pcN := 102) jIE_316_101 rfl rfl rfl ?_
    refine jT_xgetf (a := 0) (t := 1) (ci := 14) (fi := 14) (c := (14, [(0, 0), (4, 1), (4, 2), (4, 3), (4, 4), (0, 0), (4, 5), (0, 0), (4, 6), (4, 7), (1, 1), (4, 8), (0, 0), (4, 9), (0, l), (0, 0), (0, 0), (0, 0), (0, 0), (0, 0), (0, 0), (4, 10), (4, 11), (4, 12), (4, 13), (4, 14), (4, 15), (0, 0)], [])) (v := (0, l)) (pcN := 105) jIE_316_102 rfl rfl rfl rfl rfl rfl rfl ?_
    refine jT_xiload (v := (0, q2)) (pcN := 107) jIE_316_105 rfl rfl rfl ?_
    refine jT_iast (x := q2) (a := 9) (j := (l).toNat) (fs := []) (X := X) (by rfl) (by rfl) (by rfl) (jw_nn (by omega) (by omega)) (by rw [show List.length (X : List Int) = 120 from hX]; omega) ?_
    refine jT_eq (LN := [(5, (0, q2)), (4, (0, 24)), (0, (4, 0)), (1, (1, v))]) (stN := []) (hsN := [(14, [(0, 0), (4, 1), (4, 2), (4, 3), (4, 4), (0, 0), (4, 5), (0, 0), (4, 6), (4, 7), (1, 1), (4, 8), (0, 0), (4, 9), (0, l), (0, 0), (0, 0), (0, 0), (0, 0), (0, 0), (0, 0), (4, 10), (4, 11), (4, 12), (4, 13), (4, 14), (4, 15), (0, 0)], []), jgh, jgh, jgh, jgh, jgh, jgh, jgh, jgh, (100, [], ((X).set ((l).toNat) q2)), jgh, jgh, jgh, jgh, jgh, jgh]) rfl rfl rfl ?_
    refine jT_xaload_n (v := (4, 0)) (pcN := 109) jIE_316_108 rfl rfl rfl ?_
    refine jT_adv 1 (pcN := 110) (LN := [(5, (0, q2)), (4, (0, 24)), (0, (4, 0)), (1, (1, v))]) (stN := [(4, 0), (4, 0)]) (hsN := [(14, [(0, 0), (4, 1), (4, 2), (4, 3), (4, 4), (0, 0), (4, 5), (0, 0), (4, 6), (4, 7), (1, 1), (4, 8), (0, 0), (4, 9), (0, l), (0, 0), (0, 0), (0, 0), (0, 0), (0, 0), (0, 0), (4, 10), (4, 11), (4, 12), (4, 13), (4, 14), (4, 15), (0, 0)], []), jgh, jgh, jgh, jgh, jgh, jgh, jgh, jgh, (100, [], ((X).set ((l).toNat) q2)), jgh, jgh, jgh, jgh, jgh, jgh]) (c1 := 0) (s1 := 0) (c2 := b1) (s2 := b2) (by exact rfl) ?_ (by omega) (by omega)
    refine jT_xgetf (a := 0) (t := 1) (ci := 14) (fi := 14) (c := (14, [(0, 0), (4, 1), (4, 2), (4, 3), (4, 4), (0, 0), (4, 5), (0, 0), (4, 6), (4, 7), (1, 1), (4, 8), (0, 0), (4, 9), (0, l), (0, 0), (0, 0), (0, 0), (0, 0), (0, 0), (0, 0), (4, 10), (4, 11), (4, 12), (4, 13), (4, 14), (4, 15), (0, 0)], [])) (v := (0, l)) (pcN := 113) jIE_316_110 rfl rfl rfl rfl rfl rfl rfl ?_
    refine jT_xiconst (k := 1) (pcN := 114) jIE_316_113 rfl ?_
    refine jT_xiadd (x := l) (y := 1) (z := l + 1) (pcN := 115) jIE_316_114 rfl (rfl) rfl ?_
    refine jT_adv 1 (pcN := 118) (LN := [(5, (0, q2)), (4, (0, 24)), (0, (4, 0)), (1, (1, v))]) (stN := []) (hsN := [(14, [(0, 0), (4, 1), (4, 2), (4, 3), (4, 4), (0, 0), (4, 5), (0, 0), (4, 6), (4, 7), (1, 1), (4, 8), (0, 0), (4, 9), (0, l + 1), (0, 0), (0, 0), (0, 0), (0, 0), (0, 0), (0, 0), (4, 10), (4, 11), (4, 12), (4, 13), (4, 14), (4, 15), (0, 0)], []), jgh, jgh, jgh, jgh, jgh, jgh, jgh, jgh, (100, [], ((X).set ((l).toNat) q2)), jgh, jgh, jgh, jgh, jgh, jgh]) (c1 := 0) (s1 := 0) (c2 := b1) (s2 := b2) (by exact rfl) ?_ (by omega) (by omega)
    refine jT_xiinc (x := 24) (z := 16) (LN := [(4, (0, 16)), (5, (0, q2)), (0, (4, 0)), (1, (1, v))]) (pcN := 121) jIE_316_118 rfl rfl (by decide) rfl rfl ?_
    refine jT_xgoto (pcN := 73) jIE_316_121 rfl ?_
    refine jT_loc (LN := [(4, (0, 16)), (0, (4, 0)), (1, (1, v))]) (by show List.Nodup [4, 0, 1]; decide) (by intro q hq; simp only [List.mem_cons, List.not_mem_nil, or_false] at hq; rcases hq with rfl | rfl | rfl <;> rfl) ?_
    exact jEl_st_8_5 (by rw [List.length_set]; exact (hX)) h_v ⟨by omega, by omega⟩ (by have := jb1_1 (b := v / 16777216 % 256) (by omega); omega) h
  · refine jT_xiload (v := (0, 24)) (pcN := 75) jIE_316_73 rfl rfl rfl ?_
    refine jT_xifF (t := 124) (pcN := 78) jIE_316_75 rfl (by decide +kernel) rfl rfl ?_
    refine jT_xlload_n (v := (1, v)) (pcN := 79) jIE_316_78 rfl rfl rfl ?_
    refine jT_xiload (v := (0, 24)) (pcN := 81) jIE_316_79 rfl rfl rfl ?_
    refine jT_lushr (x := v) (y := 24) (z := v % 18446744073709551616 / 16777216) (by rfl) (by rfl) (jushr_24 (by omega) (by omega)) ?_
    have hb_q1 : 0 ≤ v % 18446744073709551616 / 16777216 ∧ v % 18446744073709551616 / 16777216 ≤ 1099511627775 := ⟨by omega, by omega⟩
    generalize hq_q1 : v % 18446744073709551616 / 16777216 = q1 at hb_q1 g_0 ⊢
    refine jT_adv 1 (pcN := 85) (LN := [(4, (0, 24)), (0, (4, 0)), (1, (1, v))]) (stN := [(1, 255), (1, q1)]) (hsN := [(14, [(0, 0), (4, 1), (4, 2), (4, 3), (4, 4), (0, 0), (4, 5), (0, 0), (4, 6), (4, 7), (1, 1), (4, 8), (0, 0), (4, 9), (0, l), (0, 0), (0, 0), (0, 0), (0, 0), (0, 0), (0, 0), (4, 10), (4, 11), (4, 12), (4, 13), (4, 14), (4, 15), (0, 0)], []), jgh, jgh, jgh, jgh, jgh, jgh, jgh, jgh, (100, [], X), jgh, jgh, jgh, jgh, jgh, jgh]) (c1 := 0) (s1 := 0) (c2 := b1) (s2 := b2) (by exact rfl) ?_ (by omega) (by omega)
    refine jT_land (x := q1) (y := 255) (z := q1 % 256) (by rfl) (by rfl) (jland_255 _) ?_
    have hb_q2 : 0 ≤ q1 % 256 ∧ q1 % 256 ≤ 255 := ⟨by omega, by omega⟩
    generalize hq_q2 : q1 % 256 = q2 at hb_q2 g_0 ⊢
    refine jT_xl2i (pcN := 87) jIE_316_86 rfl rfl ?_
    refine jT_xistore (v := (0, q2)) (LN := [(5, (0, q2)), (4, (0, 24)), (0, (4, 0)), (1, (1, v))]) (pcN := 89) jIE_316_87 rfl rfl rfl rfl ?_
    refine jT_xiload (v := (0, q2)) (pcN := 91) jIE_316_89 rfl rfl rfl ?_
    refine jT_ifF (a := q2) (t := 97) (by rfl) (by rfl) (by rfl) (jw_idd (by omega) (by omega)) (by simp only [jcP] <;> omega) ?_
    refine jT_xgoto (pcN := 118) jIE_316_94 rfl ?_
    refine jT_xiinc (x := 24) (z := 16) (LN := [(4, (0, 16)), (5, (0, q2)), (0, (4, 0)), (1, (1, v))]) (pcN := 121) jIE_316_118 rfl rfl (by decide) rfl rfl ?_
    refine jT_xgoto (pcN := 73) jIE_316_121 rfl ?_
    refine jT_loc (LN := [(4, (0, 16)), (0, (4, 0)), (1, (1, v))]) (by show List.Nodup [4, 0, 1]; decide) (by intro q hq; simp only [List.mem_cons, List.not_mem_nil, or_false] at hq; rcases hq with rfl | rfl | rfl <;> rfl) ?_
    exact jEl_st_8_5 (hX) h_v ⟨by omega, by omega⟩ (by have := jb1_0 (b := v / 16777216 % 256) (by omega); omega) h
theorem jEl_st_8_3 {xs : List Int} {d b1 b2 : Nat} {Q : Nat → JV → List JC → Prop} {v w l : Int} {X : List Int} (hX : X.length = 120) (h_v : (-9223372036854775808) ≤ v ∧ v ≤ 9223372036854775807) (h_l : 0 ≤ l ∧ l ≤ 3) (hl : l + (jb1 (v / 4294967296 % 256) + (jb1 (v / 16777216 % 256) + (jb1 (v / 65536 % 256) + (jb1 (v / 256 % 256) + (jb1 (v % 256)))))) = w) (h : jT xs d 316 16 124 [(0, (4, 0))] [] [(14, [(0, 0), (4, 1), (4, 2), (4, 3), (4, 4), (0, 0), (4, 5), (0, 0), (4, 6), (4, 7), (1, 1), (4, 8), (0, 0), (4, 9), (0, w), (0, 0), (0, 0), (0, 0), (0, 0), (0, 0), (0, 0), (4, 10), (4, 11), (4, 12), (4, 13), (4, 14), (4, 15), (0, 0)], []), jgh, jgh, jgh, jgh, jgh, jgh, jgh, jgh, jgh, jgh, jgh, jgh, jgh, jgh, jgh] b1 b2 Q) : jT xs d 316 16 73 [(4, (0, 32)), (0, (4, 0)), (1, (1, v))] [] [(14, [(0, 0), (4, 1), (4, 2), (4, 3), (4, 4), (0, 0), (4, 5), (0, 0), (4, 6), (4, 7), (1, 1), (4, 8), (0, 0), (4, 9), (0, l), (0, 0), (0, 0), (0, 0), (0, 0), (0, 0), (0, 0), (4, 10), (4, 11), (4, 12), (4, 13), (4, 14), (4, 15), (0, 0)], []), jgh, jgh, jgh, jgh, jgh, jgh, jgh, jgh, (100, [], X), jgh, jgh, jgh, jgh, jgh, jgh] b1 b2 Q := by
  rcases (show (0 ≤ ((v % 18446744073709551616 / 4294967296) % 256) - 1) ∨ (((v % 18446744073709551616 / 4294967296) % 256) - 1 < 0) by omega) with g_0 | g_0
  · refine jT_xiload (v := (0, 32)) (pcN := 75) jIE_316_73 rfl rfl rfl ?_
    refine jT_xifF (t := 124) (pcN := 78) jIE_316_75 rfl (by decide +kernel) rfl rfl ?_
    refine jT_xlload_n (v := (1, v)) (pcN := 79) jIE_316_78 rfl rfl rfl ?_
    refine jT_xiload (v := (0, 32)) (pcN := 81) jIE_316_79 rfl rfl rfl ?_
    refine jT_lushr (x := v) (y := 32) (z := v % 18446744073709551616 / 4294967296) (by rfl) (by rfl) (jushr_32 (by omega) (by omega)) ?_
    have hb_q1 : 0 ≤ v % 18446744073709551616 / 4294967296 ∧ v % 18446744073709551616 / 4294967296 ≤ 4294967295 := ⟨by omega, by omega⟩
    generalize hq_q1 : v % 18446744073709551616 / 4294967296 = q1 at hb_q1 g_0 ⊢
    refine jT_adv 1 (pcN := 85) (LN := [(4, (0, 32)), (0, (4, 0)), (1, (1, v))]) (stN := [(1, 255), (1, q1)]) (hsN := [(14, [(0, 0), (4, 1), (4, 2), (4, 3), (4, 4), (0, 0), (4, 5), (0, 0), (4, 6), (4, 7), (1, 1), (4, 8), (0, 0), (4, 9), (0, l), (0, 0), (0, 0), (0, 0), (0, 0), (0, 0), (0, 0), (4, 10), (4, 11), (4, 12), (4, 13), (4, 14), (4, 15), (0, 0)], []), jgh, jgh, jgh, jgh, jgh, jgh, jgh, jgh, (100, [], X), jgh, jgh, jgh, jgh, jgh, jgh]) (c1 := 0) (s1 := 0) (c2 := b1) (s2 := b2) (by exact rfl) ?_ (by omega) (by omega)
    refine jT_land (x := q1) (y := 255) (z := q1 % 256) (by rfl) (by rfl) (jland_255 _) ?_
    have hb_q2 : 0 ≤ q1 % 256 ∧ q1 % 256 ≤ 255 := ⟨by omega, by omega⟩
    generalize hq_q2 : q1 % 256 = q2 at hb_q2 g_0 ⊢
    refine jT_xl2i (pcN := 87) jIE_316_86 rfl rfl ?_
    refine jT_xistore (v := (0, q2)) (LN := [(5, (0, q2)), (4, (0, 32)), (0, (4, 0)), (1, (1, v))]) (pcN := 89) jIE_316_87 rfl rfl rfl rfl ?_
    refine jT_xiload (v := (0, q2)) (pcN := 91) jIE_316_89 rfl rfl rfl ?_
    refine jT_ifT (a := q2) (t := 97) (by rfl) (by rfl) (by rfl) (jw_idd (by omega) (by omega)) (by simp only [jcP] <;> omega) ?_
    refine jT_xaload_n (v := (4, 0)) (pcN := 98) jIE_316_97 rfl rfl rfl ?_
    refine jT_xgetf (a := 0) (t := 1) (ci := 14) (fi := 13) (c := (14, [(0, 0), (4, 1), (4, 2), (4, 3), (4, 4), (0, 0), (4, 5), (0, 0), (4, 6), (4, 7), (1, 1), (4, 8), (0, 0), (4, 9), (0, l), (0, 0), (0, 0), (0, 0), (0, 0), (0, 0), (0, 0), (4, 10), (4, 11), (4, 12), (4, 13), (4, 14), (4, 15), (0, 0)], [])) (v := (4, 9)) (pcN := 101) jIE_316_98 rfl rfl rfl rfl rfl rfl rfl ?_
    refine jT_xaload_n (v := (4, 0)) (pcN := 102) jIE_316_101 rfl rfl rfl ?_
    refine jT_xgetf (a := 0) (t := 1) (ci := 14) (fi := 14) (c := (14, [(0, 0), (4, 1), (4, 2), (4, 3), (4, 4), (0, 0), (4, 5), (0, 0), (4, 6), (4, 7), (1, 1), (4, 8), (0, 0), (4, 9), (0, l), (0, 0), (0, 0), (0, 0), (0, 0), (0, 0), (0, 0), (4, 10), (4, 11), (4, 12), (4, 13), (4, 14), (4, 15), (0, 0)], [])) (v := (0, l)) (pcN := 105) jIE_316_102 rfl rfl rfl rfl rfl rfl rfl ?_
    refine jT_xiload (v := (0, q2)) (pcN := 107) jIE_316_105 rfl rfl rfl ?_
    refine jT_iast (x := q2) (a := 9) (j := (l).toNat) (fs := []) (X := X) (by rfl) (by rfl) (by rfl) (jw_nn (by omega) (by omega)) (by rw [show List.length (X : List Int) = 120 from hX]; omega) ?_
    refine jT_eq (LN := [(5, (0, q2)), (4, (0, 32)), (0, (4, 0)), (1, (1, v))]) (stN := []) (hsN := [(14, [(0, 0), (4, 1), (4, 2), (4, 3), (4, 4), (0, 0), (4, 5), (0, 0), (4, 6), (4, 7), (1, 1), (4, 8), (0, 0), (4, 9), (0, l), (0, 0), (0, 0), (0, 0), (0, 0), (0, 0), (0, 0), (4, 10), (4, 11), (4, 12), (4, 13), (4, 14), (4, 15), (0, 0)], []), jgh, jgh, jgh, jgh, jgh, jgh, jgh, jgh, (100, [], ((X).set ((l).toNat) q2)), jgh, jgh, jgh, jgh, jgh, jgh]) rfl rfl rfl ?_
    refine jT_xaload_n (v := (4, 0)) (pcN := 109) jIE_316_108 rfl rfl rfl ?_
    refine jT_adv 1 (pcN := 110) (LN := [(5, (0, q2)), (4, (0, 32)), (0, (4, 0)), (1, (1, v))]) (stN := [(4, 0), (4, 0)]) (hsN := [(14, [(0, 0), (4, 1), (4, 2), (4, 3), (4, 4), (0, 0), (4, 5), (0, 0), (4, 6), (4, 7), (1, 1), (4, 8), (0, 0), (4, 9), (0, l), (0, 0), (0, 0), (0, 0), (0, 0), (0, 0), (0, 0), (4, 10), (4, 11), (4, 12), (4, 13), (4, 14), (4, 15), (0, 0)], []), jgh, jgh, jgh, jgh, jgh, jgh, jgh, jgh, (100, [], ((X).set ((l).toNat) q2)), jgh, jgh, jgh, jgh, jgh, jgh]) (c1 := 0) (s1 := 0) (c2 := b1) (s2 := b2) (by exact rfl) ?_ (by omega) (by omega)
    refine jT_xgetf (a := 0) (t := 1) (ci := 14) (fi := 14) (c := (14, [(0, 0), (4, 1), (4, 2), (4, 3), (4, 4), (0, 0), (4, 5), (0, 0), (4, 6), (4, 7), (1, 1), (4, 8), (0, 0), (4, 9), (0, l), (0, 0), (0, 0), (0, 0), (0, 0), (0, 0), (0, 0), (4, 10), (4, 11), (4, 12), (4, 13), (4, 14), (4, 15), (0, 0)], [])) (v := (0, l)) (pcN := 113) jIE_316_110 rfl rfl rfl rfl rfl rfl rfl ?_
    refine jT_xiconst (k := 1) (pcN := 114) jIE_316_113 rfl ?_
    refine jT_xiadd (x := l) (y := 1) (z := l + 1) (pcN := 115) jIE_316_114 rfl (rfl) rfl ?_
    refine jT_adv 1 (pcN := 118) (LN := [(5, (0, q2)), (4, (0, 32)), (0, (4, 0)), (1, (1, v))]) (stN := []) (hsN := [(14, [(0, 0), (4, 1), (4, 2), (4, 3), (4, 4), (0, 0), (4, 5), (0, 0), (4, 6), (4, 7), (1, 1), (4, 8), (0, 0), (4, 9), (0, l + 1), (0, 0), (0, 0), (0, 0), (0, 0), (0, 0), (0, 0), (4, 10), (4, 11), (4, 12), (4, 13), (4, 14), (4, 15), (0, 0)], []), jgh, jgh, jgh, jgh, jgh, jgh, jgh, jgh, (100, [], ((X).set ((l).toNat) q2)), jgh, jgh, jgh, jgh, jgh, jgh]) (c1 := 0) (s1 := 0) (c2 := b1) (s2 := b2) (by exact rfl) ?_ (by omega) (by omega)
    refine jT_xiinc (x := 32) (z := 24) (LN := [(4, (0, 24)), (5, (0, q2)), (0, (4, 0)), (1, (1, v))]) (pcN := 121) jIE_316_118 rfl rfl (by decide) rfl rfl ?_
    refine jT_xgoto (pcN := 73) jIE_316_121 rfl ?_
    refine jT_loc (LN := [(4, (0, 24)), (0, (4, 0)), (1, (1, v))]) (by show List.Nodup [4, 0, 1]; decide) (by intro q hq; simp only [List.mem_cons, List.not_mem_nil, or_false] at hq; rcases hq with rfl | rfl | rfl <;> rfl) ?_
    exact jEl_st_8_4 (by rw [List.length_set]; exact (hX)) h_v ⟨by omega, by omega⟩ (by have := jb1_1 (b := v / 4294967296 % 256) (by omega); omega) h
  · refine jT_xiload (v := (0, 32)) (pcN := 75) jIE_316_73 rfl rfl rfl ?_
    refine jT_xifF (t := 124) (pcN := 78) jIE_316_75 rfl (by decide +kernel) rfl rfl ?_
    refine jT_xlload_n (v := (1, v)) (pcN := 79) jIE_316_78 rfl rfl rfl ?_
    refine jT_xiload (v := (0, 32)) (pcN := 81) jIE_316_79 rfl rfl rfl ?_
    refine jT_lushr (x := v) (y := 32) (z := v % 18446744073709551616 / 4294967296) (by rfl) (by rfl) (jushr_32 (by omega) (by omega)) ?_
    have hb_q1 : 0 ≤ v % 18446744073709551616 / 4294967296 ∧ v % 18446744073709551616 / 4294967296 ≤ 4294967295 := ⟨by omega, by omega⟩
    generalize hq_q1 : v % 18446744073709551616 / 4294967296 = q1 at hb_q1 g_0 ⊢
    refine jT_adv 1 (pcN := 85) (LN := [(4, (0, 32)), (0, (4, 0)), (1, (1, v))]) (stN := [(1, 255), (1, q1)]) (hsN := [(14, [(0, 0), (4, 1), (4, 2), (4, 3), (4, 4), (0, 0), (4, 5), (0, 0), (4, 6), (4, 7), (1, 1), (4, 8), (0, 0), (4, 9), (0, l), (0, 0), (0, 0), (0, 0), (0, 0), (0, 0), (0, 0), (4, 10), (4, 11), (4, 12), (4, 13), (4, 14), (4, 15), (0, 0)], []), jgh, jgh, jgh, jgh, jgh, jgh, jgh, jgh, (100, [], X), jgh, jgh, jgh, jgh, jgh, jgh]) (c1 := 0) (s1 := 0) (c2 := b1) (s2 := b2) (by exact rfl) ?_ (by omega) (by omega)
    refine jT_land (x := q1) (y := 255) (z := q1 % 256) (by rfl) (by rfl) (jland_255 _) ?_
    have hb_q2 : 0 ≤ q1 % 256 ∧ q1 % 256 ≤ 255 := ⟨by omega, by omega⟩
    generalize hq_q2 : q1 % 256 = q2 at hb_q2 g_0 ⊢
    refine jT_xl2i (pcN := 87) jIE_316_86 rfl rfl ?_
    refine jT_xistore (v := (0, q2)) (LN := [(5, (0, q2)), (4, (0, 32)), (0, (4, 0)), (1, (1, v))]) (pcN := 89) jIE_316_87 rfl rfl rfl rfl ?_
    refine jT_xiload (v := (0, q2)) (pcN := 91) jIE_316_89 rfl rfl rfl ?_
    refine jT_ifF (a := q2) (t := 97) (by rfl) (by rfl) (by rfl) (jw_idd (by omega) (by omega)) (by simp only [jcP] <;> omega) ?_
    refine jT_xgoto (pcN := 118) jIE_316_94 rfl ?_
    refine jT_xiinc (x := 32) (z := 24) (LN := [(4, (0, 24)), (5, (0, q2)), (0, (4, 0)), (1, (1, v))]) (pcN := 121) jIE_316_118 rfl rfl (by decide) rfl rfl ?_
    refine jT_xgoto (pcN := 73) jIE_316_121 rfl ?_
    refine jT_loc (LN := [(4, (0, 24)), (0, (4, 0)), (1, (1, v))]) (by show List.Nodup [4, 0, 1]; decide) (by intro q hq; simp only [List.mem_cons, List.not_mem_nil, or_false] at hq; rcases hq with rfl | rfl | rfl <;> rfl) ?_
    exact jEl_st_8_4 (hX) h_v ⟨by omega, by omega⟩ (by have := jb1_0 (b := v / 4294967296 % 256) (by omega); omega) h
theorem jEl_st_8_2 {xs : List Int} {d b1 b2 : Nat} {Q : Nat → JV → List JC → Prop} {v w l : Int} {X : List Int} (hX : X.length = 120) (h_v : (-9223372036854775808) ≤ v ∧ v ≤ 9223372036854775807) (h_l : 0 ≤ l ∧ l ≤ 2) (hl : l + (jb1 (v / 1099511627776 % 256) + (jb1 (v / 4294967296 % 256) + (jb1 (v / 16777216 % 256) + (jb1 (v / 65536 % 256) + (jb1 (v / 256 % 256) + (jb1 (v % 256))))))) = w) (h : jT xs d 316 16 124 [(0, (4, 0))] [] [(14, [(0, 0), (4, 1), (4, 2), (4, 3), (4, 4), (0, 0), (4, 5), (0, 0), (4, 6), (4, 7), (1, 1), (4, 8), (0, 0), (4, 9), (0, w), (0, 0), (0, 0), (0, 0), (0, 0), (0, 0), (0, 0), (4, 10), (4, 11), (4, 12), (4, 13), (4, 14), (4, 15), (0, 0)], []), jgh, jgh, jgh, jgh, jgh, jgh, jgh, jgh, jgh, jgh, jgh, jgh, jgh, jgh, jgh] b1 b2 Q) : jT xs d 316 16 73 [(4, (0, 40)), (0, (4, 0)), (1, (1, v))] [] [(14, [(0, 0), (4, 1), (4, 2), (4, 3), (4, 4), (0, 0), (4, 5), (0, 0), (4, 6), (4, 7), (1, 1), (4, 8), (0, 0), (4, 9), (0, l), (0, 0), (0, 0), (0, 0), (0, 0), (0, 0), (0, 0), (4, 10), (4, 11), (4, 12), (4, 13), (4, 14), (4, 15), (0, 0)], []), jgh, jgh, jgh, jgh, jgh, jgh, jgh, jgh, (100, [], X), jgh, jgh, jgh, jgh, jgh, jgh] b1 b2 Q := by
  rcases (show (0 ≤ ((v % 18446744073709551616 / 1099511627776) % 256) - 1) ∨ (((v % 18446744073709551616 / 1099511627776) % 256) - 1 < 0) by omega) with g_0 | g_0
  · refine jT_xiload (v := (0, 40)) (pcN := 75) jIE_316_73 rfl rfl rfl ?_
    refine jT_xifF (t := 124) (pcN := 78) jIE_316_75 rfl (by decide +kernel) rfl rfl ?_
    refine jT_xlload_n (v := (1, v)) (pcN := 79) jIE_316_78 rfl rfl rfl ?_
    refine jT_xiload (v := (0, 40)) (pcN := 81) jIE_316_79 rfl rfl rfl ?_
    refine jT_lushr (x := v) (y := 40) (z := v % 18446744073709551616 / 1099511627776) (by rfl) (by rfl) (jushr_40 (by omega) (by omega)) ?_
    have hb_q1 : 0 ≤ v % 18446744073709551616 / 1099511627776 ∧ v % 18446744073709551616 / 1099511627776 ≤ 16777215 := ⟨by omega, by omega⟩
    generalize hq_q1 : v % 18446744073709551616 / 1099511627776 = q1 at hb_q1 g_0 ⊢
    refine jT_adv 1 (pcN := 85) (LN := [(4, (0, 40)), (0, (4, 0)), (1, (1, v))]) (stN := [(1, 255), (1, q1)]) (hsN := [(14, [(0, 0), (4, 1), (4, 2), (4, 3), (4, 4), (0, 0), (4, 5), (0, 0), (4, 6), (4, 7), (1, 1), (4, 8), (0, 0), (4, 9), (0, l), (0, 0), (0, 0), (0, 0), (0, 0), (0, 0), (0, 0), (4, 10), (4, 11), (4, 12), (4, 13), (4, 14), (4, 15), (0, 0)], []), jgh, jgh, jgh, jgh, jgh, jgh, jgh, jgh, (100, [], X), jgh, jgh, jgh, jgh, jgh, jgh]) (c1 := 0) (s1 := 0) (c2 := b1) (s2 := b2) (by exact rfl) ?_ (by omega) (by omega)
    refine jT_land (x := q1) (y := 255) (z := q1 % 256) (by rfl) (by rfl) (jland_255 _) ?_
    have hb_q2 : 0 ≤ q1 % 256 ∧ q1 % 256 ≤ 255 := ⟨by omega, by omega⟩
    generalize hq_q2 : q1 % 256 = q2 at hb_q2 g_0 ⊢
    refine jT_xl2i (pcN := 87) jIE_316_86 rfl rfl ?_
    refine jT_xistore (v := (0, q2)) (LN := [(5, (0, q2)), (4, (0, 40)), (0, (4, 0)), (1, (1, v))]) (pcN := 89) jIE_316_87 rfl rfl rfl rfl ?_
    refine jT_xiload (v := (0, q2)) (pcN := 91) jIE_316_89 rfl rfl rfl ?_
    refine jT_ifT (a := q2) (t := 97) (by rfl) (by rfl) (by rfl) (jw_idd (by omega) (by omega)) (by simp only [jcP] <;> omega) ?_
    refine jT_xaload_n (v := (4, 0)) (pcN := 98) jIE_316_97 rfl rfl rfl ?_
    refine jT_xgetf (a := 0) (t := 1) (ci := 14) (fi := 13) (c := (14, [(0, 0), (4, 1), (4, 2), (4, 3), (4, 4), (0, 0), (4, 5), (0, 0), (4, 6), (4, 7), (1, 1), (4, 8), (0, 0), (4, 9), (0, l), (0, 0), (0, 0), (0, 0), (0, 0), (0, 0), (0, 0), (4, 10), (4, 11), (4, 12), (4, 13), (4, 14), (4, 15), (0, 0)], [])) (v := (4, 9)) (pcN := 101) jIE_316_98 rfl rfl rfl rfl rfl rfl rfl ?_
    refine jT_xaload_n (v := (4, 0)) (pcN := 102) jIE_316_101 rfl rfl rfl ?_
    refine jT_xgetf (a := 0) (t := 1) (ci := 14) (fi := 14) (c := (14, [(0, 0), (4, 1), (4, 2), (4, 3), (4, 4), (0, 0), (4, 5), (0, 0), (4, 6), (4, 7), (1, 1), (4, 8), (0, 0), (4, 9), (0, l), (0, 0), (0, 0), (0, 0), (0, 0), (0, 0), (0, 0), (4, 10), (4, 11), (4, 12), (4, 13), (4, 14), (4, 15), (0, 0)], [])) (v := (0, l)) (pcN := 105) jIE_316_102 rfl rfl rfl rfl rfl rfl rfl ?_
    refine jT_xiload (v := (0, q2)) (pcN := 107) jIE_316_105 rfl rfl rfl ?_
    refine jT_iast (x := q2) (a := 9) (j := (l).toNat) (fs := []) (X := X) (by rfl) (by rfl) (by rfl) (jw_nn (by omega) (by omega)) (by rw [show List.length (X : List Int) = 120 from hX]; omega) ?_
    refine jT_eq (LN := [(5, (0, q2)), (4, (0, 40)), (0, (4, 0)), (1, (1, v))]) (stN := []) (hsN := [(14, [(0, 0), (4, 1), (4, 2), (4, 3), (4, 4), (0, 0), (4, 5), (0, 0), (4, 6), (4, 7), (1, 1), (4, 8), (0, 0), (4, 9), (0, l), (0, 0), (0, 0), (0, 0), (0, 0), (0, 0), (0, 0), (4, 10), (4, 11), (4, 12), (4, 13), (4, 14), (4, 15), (0, 0)], []), jgh, jgh, jgh, jgh, jgh, jgh, jgh, jgh, (100, [], ((X).set ((l).toNat) q2)), jgh, jgh, jgh, jgh, jgh, jgh]) rfl rfl rfl ?_
    refine jT_xaload_n (v := (4, 0)) (pcN := 109) jIE_316_108 rfl rfl rfl ?_
    refine jT_adv 1 (pcN := 110) (LN := [(5, (0, q2)), (4, (0, 40)), (0, (4, 0)), (1, (1, v))]) (stN := [(4, 0), (4, 0)]) (hsN := [(14, [(0, 0), (4, 1), (4, 2), (4, 3), (4, 4), (0, 0), (4, 5), (0, 0), (4, 6), (4, 7), (1, 1), (4, 8), (0, 0), (4, 9), (0, l), (0, 0), (0, 0), (0, 0), (0, 0), (0, 0), (0, 0), (4, 10), (4, 11), (4, 12), (4, 13), (4, 14), (4, 15), (0, 0)], []), jgh, jgh, jgh, jgh, jgh, jgh, jgh, jgh, (100, [], ((X).set ((l).toNat) q2)), jgh, jgh, jgh, jgh, jgh, jgh]) (c1 := 0) (s1 := 0) (c2 := b1) (s2 := b2) (by exact rfl) ?_ (by omega) (by omega)
    refine jT_xgetf (a := 0) (t := 1) (ci := 14) (fi := 14) (c := (14, [(0, 0), (4, 1), (4, 2), (4, 3), (4, 4), (0, 0), (4, 5), (0, 0), (4, 6), (4, 7), (1, 1), (4, 8), (0, 0), (4, 9), (0, l), (0, 0), (0, 0), (0, 0), (0, 0), (0, 0), (0, 0), (4, 10), (4, 11), (4, 12), (4, 13), (4, 14), (4, 15), (0, 0)], [])) (v := (0, l)) (pcN := 113) jIE_316_110 rfl rfl rfl rfl rfl rfl rfl ?_
    refine jT_xiconst (k := 1) (pcN := 114) jIE_316_113 rfl ?_
    refine jT_xiadd (x := l) (y := 1) (z := l + 1) (pcN := 115) jIE_316_114 rfl (rfl) rfl ?_
    refine jT_adv 1 (pcN := 118) (LN := [(5, (0, q2)), (4, (0, 40)), (0, (4, 0)), (1, (1, v))]) (stN := []) (hsN := [(14, [(0, 0), (4, 1), (4, 2), (4, 3), (4, 4), (0, 0), (4, 5), (0, 0), (4, 6), (4, 7), (1, 1), (4, 8), (0, 0), (4, 9), (0, l + 1), (0, 0), (0, 0), (0, 0), (0, 0), (0, 0), (0, 0), (4, 10), (4, 11), (4, 12), (4, 13), (4, 14), (4, 15), (0, 0)], []), jgh, jgh, jgh, jgh, jgh, jgh, jgh, jgh, (100, [], ((X).set ((l).toNat) q2)), jgh, jgh, jgh, jgh, jgh, jgh]) (c1 := 0) (s1 := 0) (c2 := b1) (s2 := b2) (by exact rfl) ?_ (by omega) (by omega)
    refine jT_xiinc (x := 40) (z := 32) (LN := [(4, (0, 32)), (5, (0, q2)), (0, (4, 0)), (1, (1, v))]) (pcN := 121) jIE_316_118 rfl rfl (by decide) rfl rfl ?_
    refine jT_xgoto (pcN := 73) jIE_316_121 rfl ?_
    refine jT_loc (LN := [(4, (0, 32)), (0, (4, 0)), (1, (1, v))]) (by show List.Nodup [4, 0, 1]; decide) (by intro q hq; simp only [List.mem_cons, List.not_mem_nil, or_false] at hq; rcases hq with rfl | rfl | rfl <;> rfl) ?_
    exact jEl_st_8_3 (by rw [List.length_set]; exact (hX)) h_v ⟨by omega, by omega⟩ (by have := jb1_1 (b := v / 1099511627776 % 256) (by omega); omega) h
  · refine jT_xiload (v := (0, 40)) (pcN := 75) jIE_316_73 rfl rfl rfl ?_
    refine jT_xifF (t := 124) (pcN := 78) jIE_316_75 rfl (by decide +kernel) rfl rfl ?_
    refine jT_xlload_n (v := (1, v)) (pcN := 79) jIE_316_78 rfl rfl rfl ?_
    refine jT_xiload (v := (0, 40)) (pcN := 81) jIE_316_79 rfl rfl rfl ?_
    refine jT_lushr (x := v) (y := 40) (z := v % 18446744073709551616 / 1099511627776) (by rfl) (by rfl) (jushr_40 (by omega) (by omega)) ?_
    have hb_q1 : 0 ≤ v % 18446744073709551616 / 1099511627776 ∧ v % 18446744073709551616 / 1099511627776 ≤ 16777215 := ⟨by omega, by omega⟩
    generalize hq_q1 : v % 18446744073709551616 / 1099511627776 = q1 at hb_q1 g_0 ⊢
    refine jT_adv 1 (pcN := 85) (LN := [(4, (0, 40)), (0, (4, 0)), (1, (1, v))]) (stN := [(1, 255), (1, q1)]) (hsN := [(14, [(0, 0), (4, 1), (4, 2), (4, 3), (4, 4), (0, 0), (4, 5), (0, 0), (4, 6), (4, 7), (1, 1), (4, 8), (0, 0), (4, 9), (0, l), (0, 0), (0, 0), (0, 0), (0, 0), (0, 0), (0, 0), (4, 10), (4, 11), (4, 12), (4, 13), (4, 14), (4, 15), (0, 0)], []), jgh, jgh, jgh, jgh, jgh, jgh, jgh, jgh, (100, [], X), jgh, jgh, jgh, jgh, jgh, jgh]) (c1 := 0) (s1 := 0) (c2 := b1) (s2 := b2) (by exact rfl) ?_ (by omega) (by omega)
    refine jT_land (x := q1) (y := 255) (z := q1 % 256) (by rfl) (by rfl) (jland_255 _) ?_
    have hb_q2 : 0 ≤ q1 % 256 ∧ q1 % 256 ≤ 255 := ⟨by omega, by omega⟩
    generalize hq_q2 : q1 % 256 = q2 at hb_q2 g_0 ⊢
    refine jT_xl2i (pcN := 87) jIE_316_86 rfl rfl ?_
    refine jT_xistore (v := (0, q2)) (LN := [(5, (0, q2)), (4, (0, 40)), (0, (4, 0)), (1, (1, v))]) (pcN := 89) jIE_316_87 rfl rfl rfl rfl ?_
    refine jT_xiload (v := (0, q2)) (pcN := 91) jIE_316_89 rfl rfl rfl ?_
    refine jT_ifF (a := q2) (t := 97) (by rfl) (by rfl) (by rfl) (jw_idd (by omega) (by omega)) (by simp only [jcP] <;> omega) ?_
    refine jT_xgoto (pcN := 118) jIE_316_94 rfl ?_
    refine jT_xiinc (x := 40) (z := 32) (LN := [(4, (0, 32)), (5, (0, q2)), (0, (4, 0)), (1, (1, v))]) (pcN := 121) jIE_316_118 rfl rfl (by decide) rfl rfl ?_
    refine jT_xgoto (pcN := 73) jIE_316_121 rfl ?_
    refine jT_loc (LN := [(4, (0, 32)), (0, (4, 0)), (1, (1, v))]) (by show List.Nodup [4, 0, 1]; decide) (by intro q hq; simp only [List.mem_cons, List.not_mem_nil, or_false] at hq; rcases hq with rfl | rfl | rfl <;> rfl) ?_
    exact jEl_st_8_3 (hX) h_v ⟨by omega, by omega⟩ (by have := jb1_0 (b := v / 1099511627776 % 256) (by omega); omega) h
theorem jEl_st_8_1 {xs : List Int} {d b1 b2 : Nat} {Q : Nat → JV → List JC → Prop} {v w l : Int} {X : List Int} (hX : X.length = 120) (h_v : (-9223372036854775808) ≤ v ∧ v ≤ 9223372036854775807) (h_l : 0 ≤ l ∧ l ≤ 1) (hl : l + (jb1 (v / 281474976710656 % 256) + (jb1 (v / 1099511627776 % 256) + (jb1 (v / 4294967296 % 256) + (jb1 (v / 16777216 % 256) + (jb1 (v / 65536 % 256) + (jb1 (v / 256 % 256) + (jb1 (v % 256)))))))) = w) (h : jT xs d 316 16 124 [(0, (4, 0))] [] [(14, [(0, 0), (4, 1), (4, 2), (4, 3), (4, 4), (0, 0), (4, 5), (0, 0), (4, 6), (4, 7), (1, 1), (4, 8), (0, 0), (4, 9), (0, w), (0, 0), (0, 0), (0, 0), (0, 0), (0, 0), (0, 0), (4, 10), (4, 11), (4, 12), (4, 13), (4, 14), (4, 15), (0, 0)], []), jgh, jgh, jgh, jgh, jgh, jgh, jgh, jgh, jgh, jgh, jgh, jgh, jgh, jgh, jgh] b1 b2 Q) : jT xs d 316 16 73 [(4, (0, 48)), (0, (4, 0)), (1, (1, v))] [] [(14, [(0, 0), (4, 1), (4, 2), (4, 3), (4, 4), (0, 0), (4, 5), (0, 0), (4, 6), (4, 7), (1, 1), (4, 8), (0, 0), (4, 9), (0, l), (0, 0), (0, 0), (0, 0), (0, 0), (0, 0), (0, 0), (4, 10), (4, 11), (4, 12), (4, 13), (4, 14), (4, 15), (0, 0)], []), jgh, jgh, jgh, jgh, jgh, jgh, jgh, jgh, (100, [], X), jgh, jgh, jgh, jgh, jgh, jgh] b1 b2 Q := by
  rcases (show (0 ≤ ((v % 18446744073709551616 / 281474976710656) % 256) - 1) ∨ (((v % 18446744073709551616 / 281474976710656) % 256) - 1 < 0) by omega) with g_0 | g_0
  · refine jT_xiload (v := (0, 48)) (pcN := 75) jIE_316_73 rfl rfl rfl ?_
    refine jT_xifF (t := 124) (pcN := 78) jIE_316_75 rfl (by decide +kernel) rfl rfl ?_
    refine jT_xlload_n (v := (1, v)) (pcN := 79) jIE_316_78 rfl rfl rfl ?_
    refine jT_xiload (v := (0, 48)) (pcN := 81) jIE_316_79 rfl rfl rfl ?_
    refine jT_lushr (x := v) (y := 48) (z := v % 18446744073709551616 / 281474976710656) (by rfl) (by rfl) (jushr_48 (by omega) (by omega)) ?_
    have hb_q1 : 0 ≤ v % 18446744073709551616 / 281474976710656 ∧ v % 18446744073709551616 / 281474976710656 ≤ 65535 := ⟨by omega, by omega⟩
    generalize hq_q1 : v % 18446744073709551616 / 281474976710656 = q1 at hb_q1 g_0 ⊢
    refine jT_adv 1 (pcN := 85) (LN := [(4, (0, 48)), (0, (4, 0)), (1, (1, v))]) (stN := [(1, 255), (1, q1)]) (hsN := [(14, [(0, 0), (4, 1), (4, 2), (4, 3), (4, 4), (0, 0), (4, 5), (0, 0), (4, 6), (4, 7), (1, 1), (4, 8), (0, 0), (4, 9), (0, l), (0, 0), (0, 0), (0, 0), (0, 0), (0, 0), (0, 0), (4, 10), (4, 11), (4, 12), (4, 13), (4, 14), (4, 15), (0, 0)], []), jgh, jgh, jgh, jgh, jgh, jgh, jgh, jgh, (100, [], X), jgh, jgh, jgh, jgh, jgh, jgh]) (c1 := 0) (s1 := 0) (c2 := b1) (s2 := b2) (by exact rfl) ?_ (by omega) (by omega)
    refine jT_land (x := q1) (y := 255) (z := q1 % 256) (by rfl) (by rfl) (jland_255 _) ?_
    have hb_q2 : 0 ≤ q1 % 256 ∧ q1 % 256 ≤ 255 := ⟨by omega, by omega⟩
    generalize hq_q2 : q1 % 256 = q2 at hb_q2 g_0 ⊢
    refine jT_xl2i (pcN := 87) jIE_316_86 rfl rfl ?_
    refine jT_xistore (v := (0, q2)) (LN := [(5, (0, q2)), (4, (0, 48)), (0, (4, 0)), (1, (1, v))]) (pcN := 89) jIE_316_87 rfl rfl rfl rfl ?_
    refine jT_xiload (v := (0, q2)) (pcN := 91) jIE_316_89 rfl rfl rfl ?_
    refine jT_ifT (a := q2) (t := 97) (by rfl) (by rfl) (by rfl) (jw_idd (by omega) (by omega)) (by simp only [jcP] <;> omega) ?_
    refine jT_xaload_n (v := (4, 0)) (pcN := 98) jIE_316_97 rfl rfl rfl ?_
    refine jT_xgetf (a := 0) (t := 1) (ci := 14) (fi := 13) (c := (14, [(0, 0), (4, 1), (4, 2), (4, 3), (4, 4), (0, 0), (4, 5), (0, 0), (4, 6), (4, 7), (1, 1), (4, 8), (0, 0), (4, 9), (0, l), (0, 0), (0, 0), (0, 0), (0, 0), (0, 0), (0, 0), (4, 10), (4, 11), (4, 12), (4, 13), (4, 14), (4, 15), (0, 0)], [])) (v := (4, 9)) (pcN := 101) jIE_316_98 rfl rfl rfl rfl rfl rfl rfl ?_
    refine jT_xaload_n (v := (4, 0)) (pcN := 102) jIE_316_101 rfl rfl rfl ?_
    refine jT_xgetf (a := 0) (t := 1) (ci := 14) (fi := 14) (c := (14, [(0, 0), (4, 1), (4, 2), (4, 3), (4, 4), (0, 0), (4, 5), (0, 0), (4, 6), (4, 7), (1, 1), (4, 8), (0, 0), (4, 9), (0, l), (0, 0), (0, 0), (0, 0), (0, 0), (0, 0), (0, 0), (4, 10), (4, 11), (4, 12), (4, 13), (4, 14), (4, 15), (0, 0)], [])) (v := (0, l)) (pcN := 105) jIE_316_102 rfl rfl rfl rfl rfl rfl rfl ?_
    refine jT_xiload (v := (0, q2)) (pcN := 107) jIE_316_105 rfl rfl rfl ?_
    refine jT_iast (x := q2) (a := 9) (j := (l).toNat) (fs := []) (X := X) (by rfl) (by rfl) (by rfl) (jw_nn (by omega) (by omega)) (by rw [show List.length (X : List Int) = 120 from hX]; omega) ?_
    refine jT_eq (LN := [(5, (0, q2)), (4, (0, 48)), (0, (4, 0)), (1, (1, v))]) (stN := []) (hsN := [(14, [(0, 0), (4, 1), (4, 2), (4, 3), (4, 4), (0, 0), (4, 5), (0, 0), (4, 6), (4, 7), (1, 1), (4, 8), (0, 0), (4, 9), (0, l), (0, 0), (0, 0), (0, 0), (0, 0), (0, 0), (0, 0), (4, 10), (4, 11), (4, 12), (4, 13), (4, 14), (4, 15), (0, 0)], []), jgh, jgh, jgh, jgh, jgh, jgh, jgh, jgh, (100, [], ((X).set ((l).toNat) q2)), jgh, jgh, jgh, jgh, jgh, jgh]) rfl rfl rfl ?_
    refine jT_xaload_n (v := (4, 0)) (pcN := 109) jIE_316_108 rfl rfl rfl ?_
    refine jT_adv 1 (pcN := 110) (LN := [(5, (0, q2)), (4, (0, 48)), (0, (4, 0)), (1, (1, v))]) (stN := [(4, 0), (4, 0)]) (hsN := [(14, [(0, 0), (4, 1), (4, 2), (4, 3), (4, 4), (0, 0), (4, 5), (0, 0), (4, 6), (4, 7), (1, 1), (4, 8), (0, 0), (4, 9), (0, l), (0, 0), (0, 0), (0, 0), (0, 0), (0, 0), (0, 0), (4, 10), (4, 11), (4, 12), (4, 13), (4, 14), (4, 15), (0, 0)], []), jgh, jgh, jgh, jgh, jgh, jgh, jgh, jgh, (100, [], ((X).set ((l).toNat) q2)), jgh, jgh, jgh, jgh, jgh, jgh]) (c1 := 0) (s1 := 0) (c2 := b1) (s2 := b2) (by exact rfl) ?_ (by omega) (by omega)
    refine jT_xgetf (a := 0) (t := 1) (ci := 14) (fi := 14) (c := (14, [(0, 0), (4, 1), (4, 2), (4, 3), (4, 4), (0, 0), (4, 5), (0, 0), (4, 6), (4, 7), (1, 1), (4, 8), (0, 0), (4, 9), (0, l), (0, 0), (0, 0), (0, 0), (0, 0), (0, 0), (0, 0), (4, 10), (4, 11), (4, 12), (4, 13), (4, 14), (4, 15), (0, 0)], [])) (v := (0, l)) (pcN := 113) jIE_316_110 rfl rfl rfl rfl rfl rfl rfl ?_
    refine jT_xiconst (k := 1) (pcN := 114) jIE_316_113 rfl ?_
    refine jT_xiadd (x := l) (y := 1) (z := l + 1) (pcN := 115) jIE_316_114 rfl (rfl) rfl ?_
    refine jT_adv 1 (pcN := 118) (LN := [(5, (0, q2)), (4, (0, 48)), (0, (4, 0)), (1, (1, v))]) (stN := []) (hsN := [(14, [(0, 0), (4, 1), (4, 2), (4, 3), (4, 4), (0, 0), (4, 5), (0, 0), (4, 6), (4, 7), (1, 1), (4, 8), (0, 0), (4, 9), (0, l + 1), (0, 0), (0, 0), (0, 0), (0, 0), (0, 0), (0, 0), (4, 10), (4, 11), (4, 12), (4, 13), (4, 14), (4, 15), (0, 0)], []), jgh, jgh, jgh, jgh, jgh, jgh, jgh, jgh, (100, [], ((X).set ((l).toNat) q2)), jgh, jgh, jgh, jgh, jgh, jgh]) (c1 := 0) (s1 := 0) (c2 := b1) (s2 := b2) (by exact rfl) ?_ (by omega) (by omega)
    refine jT_xiinc (x := 48) (z := 40) (LN := [(4, (0, 40)), (5, (0, q2)), (0, (4, 0)), (1, (1, v))]) (pcN := 121) jIE_316_118 rfl rfl (by decide) rfl rfl ?_
    refine jT_xgoto (pcN := 73) jIE_316_121 rfl ?_
    refine jT_loc (LN := [(4, (0, 40)), (0, (4, 0)), (1, (1, v))]) (by show List.Nodup [4, 0, 1]; decide) (by intro q hq; simp only [List.mem_cons, List.not_mem_nil, or_false] at hq; rcases hq with rfl | rfl | rfl <;> rfl) ?_
    exact jEl_st_8_2 (by rw [List.length_set]; exact (hX)) h_v ⟨by omega, by omega⟩ (by have := jb1_1 (b := v / 281474976710656 % 256) (by omega); omega) h
  · refine jT_xiload (v := (0, 48)) (pcN := 75) jIE_316_73 rfl rfl rfl ?_
    refine jT_xifF (t := 124) (pcN := 78) jIE_316_75 rfl (by decide +kernel) rfl rfl ?_
    refine jT_xlload_n (v := (1, v)) (pcN := 79) jIE_316_78 rfl rfl rfl ?_
    refine jT_xiload (v := (0, 48)) (pcN := 81) jIE_316_79 rfl rfl rfl ?_
    refine jT_lushr (x := v) (y := 48) (z := v % 18446744073709551616 / 281474976710656) (by rfl) (by rfl) (jushr_48 (by omega) (by omega)) ?_
    have hb_q1 : 0 ≤ v % 18446744073709551616 / 281474976710656 ∧ v % 18446744073709551616 / 281474976710656 ≤ 65535 := ⟨by omega, by omega⟩
    generalize hq_q1 : v % 18446744073709551616 / 281474976710656 = q1 at hb_q1 g_0 ⊢
    refine jT_adv 1 (pcN := 85) (LN := [(4, (0, 48)), (0, (4, 0)), (1, (1, v))]) (stN := [(1, 255), (1, q1)]) (hsN := [(14, [(0, 0), (4, 1), (4, 2), (4, 3), (4, 4), (0, 0), (4, 5), (0, 0), (4, 6), (4, 7), (1, 1), (4, 8), (0, 0), (4, 9), (0, l), (0, 0), (0, 0), (0, 0), (0, 0), (0, 0), (0, 0), (4, 10), (4, 11), (4, 12), (4, 13), (4, 14), (4, 15), (0, 0)], []), jgh, jgh, jgh, jgh, jgh, jgh, jgh, jgh, (100, [], X), jgh, jgh, jgh, jgh, jgh, jgh]) (c1 := 0) (s1 := 0) (c2 := b1) (s2 := b2) (by exact rfl) ?_ (by omega) (by omega)
    refine jT_land (x := q1) (y := 255) (z := q1 % 256) (by rfl) (by rfl) (jland_255 _) ?_
    have hb_q2 : 0 ≤ q1 % 256 ∧ q1 % 256 ≤ 255 := ⟨by omega, by omega⟩
    generalize hq_q2 : q1 % 256 = q2 at hb_q2 g_0 ⊢
    refine jT_xl2i (pcN := 87) jIE_316_86 rfl rfl ?_
    refine jT_xistore (v := (0, q2)) (LN := [(5, (0, q2)), (4, (0, 48)), (0, (4, 0)), (1, (1, v))]) (pcN := 89) jIE_316_87 rfl rfl rfl rfl ?_
    refine jT_xiload (v := (0, q2)) (pcN := 91) jIE_316_89 rfl rfl rfl ?_
    refine jT_ifF (a := q2) (t := 97) (by rfl) (by rfl) (by rfl) (jw_idd (by omega) (by omega)) (by simp only [jcP] <;> omega) ?_
    refine jT_xgoto (pcN := 118) jIE_316_94 rfl ?_
    refine jT_xiinc (x := 48) (z := 40) (LN := [(4, (0, 40)), (5, (0, q2)), (0, (4, 0)), (1, (1, v))]) (pcN := 121) jIE_316_118 rfl rfl (by decide) rfl rfl ?_
    refine jT_xgoto (pcN := 73) jIE_316_121 rfl ?_
    refine jT_loc (LN := [(4, (0, 40)), (0, (4, 0)), (1, (1, v))]) (by show List.Nodup [4, 0, 1]; decide) (by intro q hq; simp only [List.mem_cons, List.not_mem_nil, or_false] at hq; rcases hq with rfl | rfl | rfl <;> rfl) ?_
    exact jEl_st_8_2 (hX) h_v ⟨by omega, by omega⟩ (by have := jb1_0 (b := v / 281474976710656 % 256) (by omega); omega) h
theorem jEl_st_8_0 {xs : List Int} {d b1 b2 : Nat} {Q : Nat → JV → List JC → Prop} {v w l : Int} {X : List Int} (hX : X.length = 120) (h_v : (-9223372036854775808) ≤ v ∧ v ≤ 9223372036854775807) (h_l : 0 ≤ l ∧ l ≤ 0) (hl : l + (jb1 (v / 72057594037927936 % 256) + (jb1 (v / 281474976710656 % 256) + (jb1 (v / 1099511627776 % 256) + (jb1 (v / 4294967296 % 256) + (jb1 (v / 16777216 % 256) + (jb1 (v / 65536 % 256) + (jb1 (v / 256 % 256) + (jb1 (v % 256))))))))) = w) (h : jT xs d 316 16 124 [(0, (4, 0))] [] [(14, [(0, 0), (4, 1), (4, 2), (4, 3), (4, 4), (0, 0), (4, 5), (0, 0), (4, 6), (4, 7), (1, 1), (4, 8), (0, 0), (4, 9), (0, w), (0, 0), (0, 0), (0, 0), (0, 0), (0, 0), (0, 0), (4, 10), (4, 11), (4, 12), (4, 13), (4, 14), (4, 15), (0, 0)], []), jgh, jgh, jgh, jgh, jgh, jgh, jgh, jgh, jgh, jgh, jgh, jgh, jgh, jgh, jgh] b1 b2 Q) : jT xs d 316 16 73 [(4, (0, 56)), (0, (4, 0)), (1, (1, v))] [] [(14, [(0, 0), (4, 1), (4, 2), (4, 3), (4, 4), (0, 0), (4, 5), (0, 0), (4, 6), (4, 7), (1, 1), (4, 8), (0, 0), (4, 9), (0, l), (0, 0), (0, 0), (0, 0), (0, 0), (0, 0), (0, 0), (4, 10), (4, 11), (4, 12), (4, 13), (4, 14), (4, 15), (0, 0)], []), jgh, jgh, jgh, jgh, jgh, jgh, jgh, jgh, (100, [], X), jgh, jgh, jgh, jgh, jgh, jgh] b1 b2 Q := by
  rcases (show (0 ≤ (v % 18446744073709551616 / 72057594037927936) - 1) ∨ ((v % 18446744073709551616 / 72057594037927936) - 1 < 0) by omega) with g_0 | g_0
  · refine jT_xiload (v := (0, 56)) (pcN := 75) jIE_316_73 rfl rfl rfl ?_
    refine jT_xifF (t := 124) (pcN := 78) jIE_316_75 rfl (by decide +kernel) rfl rfl ?_
    refine jT_xlload_n (v := (1, v)) (pcN := 79) jIE_316_78 rfl rfl rfl ?_
    refine jT_xiload (v := (0, 56)) (pcN := 81) jIE_316_79 rfl rfl rfl ?_
    refine jT_lushr (x := v) (y := 56) (z := v % 18446744073709551616 / 72057594037927936) (by rfl) (by rfl) (jushr_56 (by omega) (by omega)) ?_
    have hb_q1 : 0 ≤ v % 18446744073709551616 / 72057594037927936 ∧ v % 18446744073709551616 / 72057594037927936 ≤ 255 := ⟨by omega, by omega⟩
    generalize hq_q1 : v % 18446744073709551616 / 72057594037927936 = q1 at hb_q1 g_0 ⊢
    refine jT_adv 1 (pcN := 85) (LN := [(4, (0, 56)), (0, (4, 0)), (1, (1, v))]) (stN := [(1, 255), (1, q1)]) (hsN := [(14, [(0, 0), (4, 1), (4, 2), (4, 3), (4, 4), (0, 0), (4, 5), (0, 0), (4, 6), (4, 7), (1, 1), (4, 8), (0, 0), (4, 9), (0, l), (0, 0), (0, 0), (0, 0), (0, 0), (0, 0), (0, 0), (4, 10), (4, 11), (4, 12), (4, 13), (4, 14), (4, 15), (0, 0)], []), jgh, jgh, jgh, jgh, jgh, jgh, jgh, jgh, (100, [], X), jgh, jgh, jgh, jgh, jgh, jgh]) (c1 := 0) (s1 := 0) (c2 := b1) (s2 := b2) (by exact rfl) ?_ (by omega) (by omega)
    refine jT_land (x := q1) (y := 255) (z := q1) (by rfl) (by rfl) (by rw [jland_255]; omega) ?_
    refine jT_xl2i (pcN := 87) jIE_316_86 rfl rfl ?_
    refine jT_xistore (v := (0, q1)) (LN := [(5, (0, q1)), (4, (0, 56)), (0, (4, 0)), (1, (1, v))]) (pcN := 89) jIE_316_87 rfl rfl rfl rfl ?_
    refine jT_xiload (v := (0, q1)) (pcN := 91) jIE_316_89 rfl rfl rfl ?_
    refine jT_ifT (a := q1) (t := 97) (by rfl) (by rfl) (by rfl) (jw_idd (by omega) (by omega)) (by simp only [jcP] <;> omega) ?_
    refine jT_xaload_n (v := (4, 0)) (pcN := 98) jIE_316_97 rfl rfl rfl ?_
    refine jT_xgetf (a := 0) (t := 1) (ci := 14) (fi := 13) (c := (14, [(0, 0), (4, 1), (4, 2), (4, 3), (4, 4), (0, 0), (4, 5), (0, 0), (4, 6), (4, 7), (1, 1), (4, 8), (0, 0), (4, 9), (0, l), (0, 0), (0, 0), (0, 0), (0, 0), (0, 0), (0, 0), (4, 10), (4, 11), (4, 12), (4, 13), (4, 14), (4, 15), (0, 0)], [])) (v := (4, 9)) (pcN := 101) jIE_316_98 rfl rfl rfl rfl rfl rfl rfl ?_
    refine jT_xaload_n (v := (4, 0)) (pcN := 102) jIE_316_101 rfl rfl rfl ?_
    refine jT_xgetf (a := 0) (t := 1) (ci := 14) (fi := 14) (c := (14, [(0, 0), (4, 1), (4, 2), (4, 3), (4, 4), (0, 0), (4, 5), (0, 0), (4, 6), (4, 7), (1, 1), (4, 8), (0, 0), (4, 9), (0, l), (0, 0), (0, 0), (0, 0), (0, 0), (0, 0), (0, 0), (4, 10), (4, 11), (4, 12), (4, 13), (4, 14), (4, 15), (0, 0)], [])) (v := (0, l)) (pcN := 105) jIE_316_102 rfl rfl rfl rfl rfl rfl rfl ?_
    refine jT_xiload (v := (0, q1)) (pcN := 107) jIE_316_105 rfl rfl rfl ?_
    refine jT_iast (x := q1) (a := 9) (j := (l).toNat) (fs := []) (X := X) (by rfl) (by rfl) (by rfl) (jw_nn (by omega) (by omega)) (by rw [show List.length (X : List Int) = 120 from hX]; omega) ?_
    refine jT_eq (LN := [(5, (0, q1)), (4, (0, 56)), (0, (4, 0)), (1, (1, v))]) (stN := []) (hsN := [(14, [(0, 0), (4, 1), (4, 2), (4, 3), (4, 4), (0, 0), (4, 5), (0, 0), (4, 6), (4, 7), (1, 1), (4, 8), (0, 0), (4, 9), (0, l), (0, 0), (0, 0), (0, 0), (0, 0), (0, 0), (0, 0), (4, 10), (4, 11), (4, 12), (4, 13), (4, 14), (4, 15), (0, 0)], []), jgh, jgh, jgh, jgh, jgh, jgh, jgh, jgh, (100, [], ((X).set ((l).toNat) q1)), jgh, jgh, jgh, jgh, jgh, jgh]) rfl rfl rfl ?_
    refine jT_xaload_n (v := (4, 0)) (pcN := 109) jIE_316_108 rfl rfl rfl ?_
    refine jT_adv 1 (pcN := 110) (LN := [(5, (0, q1)), (4, (0, 56)), (0, (4, 0)), (1, (1, v))]) (stN := [(4, 0), (4, 0)]) (hsN := [(14, [(0, 0), (4, 1), (4, 2), (4, 3), (4, 4), (0, 0), (4, 5), (0, 0), (4, 6), (4, 7), (1, 1), (4, 8), (0, 0), (4, 9), (0, l), (0, 0), (0, 0), (0, 0), (0, 0), (0, 0), (0, 0), (4, 10), (4, 11), (4, 12), (4, 13), (4, 14), (4, 15), (0, 0)], []), jgh, jgh, jgh, jgh, jgh, jgh, jgh, jgh, (100, [], ((X).set ((l).toNat) q1)), jgh, jgh, jgh, jgh, jgh, jgh]) (c1 := 0) (s1 := 0) (c2 := b1) (s2 := b2) (by exact rfl) ?_ (by omega) (by omega)
    refine jT_xgetf (a := 0) (t := 1) (ci := 14) (fi := 14) (c := (14, [(0, 0), (4, 1), (4, 2), (4, 3), (4, 4), (0, 0), (4, 5), (0, 0), (4, 6), (4, 7), (1, 1), (4, 8), (0, 0), (4, 9), (0, l), (0, 0), (0, 0), (0, 0), (0, 0), (0, 0), (0, 0), (4, 10), (4, 11), (4, 12), (4, 13), (4, 14), (4, 15), (0, 0)], [])) (v := (0, l)) (pcN := 113) jIE_316_110 rfl rfl rfl rfl rfl rfl rfl ?_
    refine jT_xiconst (k := 1) (pcN := 114) jIE_316_113 rfl ?_
    refine jT_xiadd (x := l) (y := 1) (z := l + 1) (pcN := 115) jIE_316_114 rfl (rfl) rfl ?_
    refine jT_adv 1 (pcN := 118) (LN := [(5, (0, q1)), (4, (0, 56)), (0, (4, 0)), (1, (1, v))]) (stN := []) (hsN := [(14, [(0, 0), (4, 1), (4, 2), (4, 3), (4, 4), (0, 0), (4, 5), (0, 0), (4, 6), (4, 7), (1, 1), (4, 8), (0, 0), (4, 9), (0, l + 1), (0, 0), (0, 0), (0, 0), (0, 0), (0, 0), (0, 0), (4, 10), (4, 11), (4, 12), (4, 13), (4, 14), (4, 15), (0, 0)], []), jgh, jgh, jgh, jgh, jgh, jgh, jgh, jgh, (100, [], ((X).set ((l).toNat) q1)), jgh, jgh, jgh, jgh, jgh, jgh]) (c1 := 0) (s1 := 0) (c2 := b1) (s2 := b2) (by exact rfl) ?_ (by omega) (by omega)
    refine jT_xiinc (x := 56) (z := 48) (LN := [(4, (0, 48)), (5, (0, q1)), (0, (4, 0)), (1, (1, v))]) (pcN := 121) jIE_316_118 rfl rfl (by decide) rfl rfl ?_
    refine jT_xgoto (pcN := 73) jIE_316_121 rfl ?_
    refine jT_loc (LN := [(4, (0, 48)), (0, (4, 0)), (1, (1, v))]) (by show List.Nodup [4, 0, 1]; decide) (by intro q hq; simp only [List.mem_cons, List.not_mem_nil, or_false] at hq; rcases hq with rfl | rfl | rfl <;> rfl) ?_
    exact jEl_st_8_1 (by rw [List.length_set]; exact (hX)) h_v ⟨by omega, by omega⟩ (by have := jb1_1 (b := v / 72057594037927936 % 256) (by omega); omega) h
  · refine jT_xiload (v := (0, 56)) (pcN := 75) jIE_316_73 rfl rfl rfl ?_
    refine jT_xifF (t := 124) (pcN := 78) jIE_316_75 rfl (by decide +kernel) rfl rfl ?_
    refine jT_xlload_n (v := (1, v)) (pcN := 79) jIE_316_78 rfl rfl rfl ?_
    refine jT_xiload (v := (0, 56)) (pcN := 81) jIE_316_79 rfl rfl rfl ?_
    refine jT_lushr (x := v) (y := 56) (z := v % 18446744073709551616 / 72057594037927936) (by rfl) (by rfl) (jushr_56 (by omega) (by omega)) ?_
    have hb_q1 : 0 ≤ v % 18446744073709551616 / 72057594037927936 ∧ v % 18446744073709551616 / 72057594037927936 ≤ 255 := ⟨by omega, by omega⟩
    generalize hq_q1 : v % 18446744073709551616 / 72057594037927936 = q1 at hb_q1 g_0 ⊢
    refine jT_adv 1 (pcN := 85) (LN := [(4, (0, 56)), (0, (4, 0)), (1, (1, v))]) (stN := [(1, 255), (1, q1)]) (hsN := [(14, [(0, 0), (4, 1), (4, 2), (4, 3), (4, 4), (0, 0), (4, 5), (0, 0), (4, 6), (4, 7), (1, 1), (4, 8), (0, 0), (4, 9), (0, l), (0, 0), (0, 0), (0, 0), (0, 0), (0, 0), (0, 0), (4, 10), (4, 11), (4, 12), (4, 13), (4, 14), (4, 15), (0, 0)], []), jgh, jgh, jgh, jgh, jgh, jgh, jgh, jgh, (100, [], X), jgh, jgh, jgh, jgh, jgh, jgh]) (c1 := 0) (s1 := 0) (c2 := b1) (s2 := b2) (by exact rfl) ?_ (by omega) (by omega)
    refine jT_land (x := q1) (y := 255) (z := q1) (by rfl) (by rfl) (by rw [jland_255]; omega) ?_
    refine jT_xl2i (pcN := 87) jIE_316_86 rfl rfl ?_
    refine jT_xistore (v := (0, q1)) (LN := [(5, (0, q1)), (4, (0, 56)), (0, (4, 0)), (1, (1, v))]) (pcN := 89) jIE_316_87 rfl rfl rfl rfl ?_
    refine jT_xiload (v := (0, q1)) (pcN := 91) jIE_316_89 rfl rfl rfl ?_
    refine jT_ifF (a := q1) (t := 97) (by rfl) (by rfl) (by rfl) (jw_idd (by omega) (by omega)) (by simp only [jcP] <;> omega) ?_
    refine jT_xgoto (pcN := 118) jIE_316_94 rfl ?_
    refine jT_xiinc (x := 56) (z := 48) (LN := [(4, (0, 48)), (5, (0, q1)), (0, (4, 0)), (1, (1, v))]) (pcN := 121) jIE_316_118 rfl rfl (by decide) rfl rfl ?_
    refine jT_xgoto (pcN := 73) jIE_316_121 rfl ?_
    refine jT_loc (LN := [(4, (0, 48)), (0, (4, 0)), (1, (1, v))]) (by show List.Nodup [4, 0, 1]; decide) (by intro q hq; simp only [List.mem_cons, List.not_mem_nil, or_false] at hq; rcases hq with rfl | rfl | rfl <;> rfl) ?_
    exact jEl_st_8_1 (hX) h_v ⟨by omega, by omega⟩ (by have := jb1_0 (b := v / 72057594037927936 % 256) (by omega); omega) h
theorem jIE_316_124 : jmI (jm 316) 124 = (.aload_n 0, 1) := by rfl
theorem jIE_316_125 : jmI (jm 316) 125 = (.getfield 488, 3) := by rfl
theorem jE_316_9 {xs : List Int} {d : Nat} {q3 : Int} (h_q3 : (-9223372036854775808) ≤ q3 ∧ q3 ≤ 9223372036854775807) : jT xs (d + 1) 316 16 0 [(0, (4, 0)), (1, (1, q3))] [] jpE_71 0 0 (fun k v hsN => k = 0 ∧ v = (0, jby q3) ∧ hsN = [(14, [(0, 0), (4, 1), (4, 2), (4, 3), (4, 4), (0, 0), (4, 5), (0, 0), (4, 6), (4, 7), (1, 1), (4, 8), (0, 0), (4, 9), (0, jby q3), (0, 0), (0, 0), (0, 0), (0, 0), (0, 0), (0, 0), (4, 10), (4, 11), (4, 12), (4, 13), (4, 14), (4, 15), (0, 0)], []), jgh, jgh, jgh, jgh, jgh, jgh, jgh, jgh, jgh, jgh, jgh, jgh, jgh, jgh, jgh]) := by
  refine jT_xaload_n (v := (4, 0)) (pcN := 1) jIE_316_0 rfl rfl rfl ?_
  refine jT_xiconst (k := 0) (pcN := 2) jIE_316_1 rfl ?_
  refine jT_adv 1 (pcN := 5) (LN := [(0, (4, 0)), (1, (1, q3))]) (stN := []) (hsN := jpE_71) (c1 := 0) (s1 := 0) (c2 := 0) (s2 := 0) (by exact rfl) ?_ (by omega) (by omega)
  refine jT_xiconst (k := 0) (pcN := 6) jIE_316_5 rfl ?_
  refine jT_xistore_n (v := (0, 0)) (LN := [(3, (0, 0)), (0, (4, 0)), (1, (1, q3))]) (pcN := 7) jIE_316_6 rfl rfl rfl rfl ?_
  refine jT_xbipush (k := 56) (pcN := 9) jIE_316_7 (by decide) rfl ?_
  refine jT_xistore (v := (0, 56)) (LN := [(4, (0, 56)), (3, (0, 0)), (0, (4, 0)), (1, (1, q3))]) (pcN := 11) jIE_316_9 rfl rfl rfl rfl ?_
  refine jT_loc (LN := [(4, (0, 56)), (3, (0, 0)), (0, (4, 0)), (1, (1, q3))]) (by show List.Nodup [4, 3, 0, 1]; decide) (by intro q hq; simp only [List.mem_cons, List.not_mem_nil, or_false] at hq; rcases hq with rfl | rfl | rfl | rfl <;> rfl) ?_
  refine jEl_ct_7_0 (w := jby q3) (m := 0) (by omega) (by omega) (by unfold jby; omega) ?_
  have hb_q1 := jby_b q3
  generalize hq_q1 : jby q3 = q1 at hb_q1 ⊢
  refine jT_xaload_n (v := (4, 0)) (pcN := 44) jIE_316_43 rfl rfl rfl ?_
  refine jT_xaload_n (v := (4, 0)) (pcN := 45) jIE_316_44 rfl rfl rfl ?_
  refine jT_xgetf (a := 0) (t := 1) (ci := 14) (fi := 14) (c := jzE_70) (v := (0, 0)) (pcN := 48) jIE_316_45 rfl rfl rfl rfl rfl rfl rfl ?_
  refine jT_xiload_n (v := (0, q1)) (pcN := 49) jIE_316_48 rfl rfl rfl ?_
  refine jT_xiadd (x := 0) (y := q1) (z := q1) (pcN := 50) jIE_316_49 rfl (by omega) rfl ?_
  refine jT_xbipush (k := 120) (pcN := 52) jIE_316_50 (by decide) rfl ?_
  refine jT_icF (a := q1) (b := 120) (t := 59) (by rfl) (by rfl) (by rfl) (jw_idd (by omega) (by omega)) (jw_idd (by omega) (by omega)) (by simp only [jcP] <;> omega) ?_
  refine jT_xiconst (k := 1) (pcN := 56) jIE_316_55 rfl ?_
  refine jT_xgoto (pcN := 60) jIE_316_56 rfl ?_
  refine jT_xiconst (k := 1) (pcN := 61) jIE_316_60 rfl ?_
  refine jT_fR [0] 16 (y := 191) (pcN := 64) (dC := 0) (bc1 := 0) (bc2 := 0) (c1 := 0) (c2 := 0) (as := [(4, 0), (0, 1), (0, 1)]) (asC := [(4, 0), (0, 1), (0, 1)]) (LN := [(4, (0, (-8))), (3, (0, q1)), (0, (4, 0)), (1, (1, q3))]) (stN := []) (hsC := [jgh]) (v := (0, 0)) (st2 := [(0, 0)]) (jE_191_6 (d := 0)) (by rfl) (by rfl) (by decide +kernel) (by rfl) (by rfl) (by omega) (by omega) (by omega) (by omega) rfl ?_
  refine jT_xifT (pcN := 69) jIE_316_64 rfl (by decide +kernel) rfl ?_
  refine jT_xbipush (k := 56) (pcN := 71) jIE_316_69 (by decide) rfl ?_
  refine jT_xistore (v := (0, 56)) (LN := [(4, (0, 56)), (3, (0, q1)), (0, (4, 0)), (1, (1, q3))]) (pcN := 73) jIE_316_71 rfl rfl rfl rfl ?_
  refine jT_loc (LN := [(4, (0, 56)), (0, (4, 0)), (1, (1, q3))]) (by show List.Nodup [4, 0, 1]; decide) (by intro q hq; simp only [List.mem_cons, List.not_mem_nil, or_false] at hq; rcases hq with rfl | rfl | rfl <;> rfl) ?_
  refine jEl_st_8_0 (w := q1) (l := 0) (List.length_replicate) (by omega) (by omega) (by rw [← hq_q1]; unfold jby; omega) ?_
  refine jT_xaload_n (v := (4, 0)) (pcN := 125) jIE_316_124 rfl rfl rfl ?_
  refine jT_xgetf (a := 0) (t := 1) (ci := 14) (fi := 14) (c := (14, [(0, 0), (4, 1), (4, 2), (4, 3), (4, 4), (0, 0), (4, 5), (0, 0), (4, 6), (4, 7), (1, 1), (4, 8), (0, 0), (4, 9), (0, q1), (0, 0), (0, 0), (0, 0), (0, 0), (0, 0), (0, 0), (4, 10), (4, 11), (4, 12), (4, 13), (4, 14), (4, 15), (0, 0)], [])) (v := (0, q1)) (pcN := 128) jIE_316_125 rfl rfl rfl rfl rfl rfl rfl ?_
  subst hq_q1
  exact jT_ret rfl (by decide) (by show 16 ≤ 16; omega) (by omega) (by omega) ⟨rfl, rfl, rfl⟩
theorem jIE_186_0 : jmI (jm 186) 0 = (.aload_n 0, 1) := by rfl
theorem jIE_186_1 : jmI (jm 186) 1 = (.getfield 78, 3) := by rfl
theorem jE_186_10 {xs : List Int} {d : Nat} {q4 : Int} (h_q4 : 0 ≤ q4 ∧ q4 ≤ 8) : jT xs d 186 16 0 [(0, (4, 0))] [] [(14, [(0, 0), (4, 1), (4, 2), (4, 3), (4, 4), (0, 0), (4, 5), (0, 0), (4, 6), (4, 7), (1, 1), (4, 8), (0, 0), (4, 9), (0, q4), (0, 0), (0, 0), (0, 0), (0, 0), (0, 0), (0, 0), (4, 10), (4, 11), (4, 12), (4, 13), (4, 14), (4, 15), (0, 0)], []), jgh, jgh, jgh, jgh, jgh, jgh, jgh, jgh, jgh, jgh, jgh, jgh, jgh, jgh, jgh] 0 0 (fun k v hsN => k = 0 ∧ v = (0, 0) ∧ hsN = [(14, [(0, 0), (4, 1), (4, 2), (4, 3), (4, 4), (0, 0), (4, 5), (0, 0), (4, 6), (4, 7), (1, 1), (4, 8), (0, 0), (4, 9), (0, q4), (0, 0), (0, 0), (0, 0), (0, 0), (0, 0), (0, 0), (4, 10), (4, 11), (4, 12), (4, 13), (4, 14), (4, 15), (0, 0)], []), jgh, jgh, jgh, jgh, jgh, jgh, jgh, jgh, jgh, jgh, jgh, jgh, jgh, jgh, jgh] ++ []) := by
  refine jT_xaload_n (v := (4, 0)) (pcN := 1) jIE_186_0 rfl rfl rfl ?_
  refine jT_xgetf (a := 0) (t := 1) (ci := 14) (fi := 0) (c := (14, [(0, 0), (4, 1), (4, 2), (4, 3), (4, 4), (0, 0), (4, 5), (0, 0), (4, 6), (4, 7), (1, 1), (4, 8), (0, 0), (4, 9), (0, q4), (0, 0), (0, 0), (0, 0), (0, 0), (0, 0), (0, 0), (4, 10), (4, 11), (4, 12), (4, 13), (4, 14), (4, 15), (0, 0)], [])) (v := (0, 0)) (pcN := 4) jIE_186_1 rfl rfl rfl rfl rfl rfl rfl ?_
  exact jT_ret rfl (by decide) (by show 16 ≤ 16; omega) (by omega) (by omega) ⟨rfl, rfl, rfl⟩
theorem jIE_379_3494 : jmI (jm 379) 3494 = (.aload_n 1, 1) := by rfl
theorem jIE_379_3495 : jmI (jm 379) 3495 = (.aload_n 0, 1) := by rfl
theorem jIE_379_3496 : jmI (jm 379) 3496 = (.iload 5, 2) := by rfl
theorem jIE_379_3498 : jmI (jm 379) 3498 = (.iconst 1, 1) := by rfl
theorem jIE_379_3499 : jmI (jm 379) 3499 = (.iadd, 1) := by rfl
def jzE_133 : JC := (13, [(4, 4), (4, 5), (4, 6), (4, 7), (4, 8), (4, 9), (4, 10), (4, 11), (4, 12), (4, 13), (0, 0), (4, 14), (0, 0)], [])
def jzE_134 : JC := (14, [(0, 0), (4, 15), (4, 16), (4, 17), (4, 18), (0, 0), (4, 19), (0, 0), (4, 20), (4, 21), (1, 1), (4, 22), (0, 0), (4, 23), (0, 0), (0, 0), (0, 0), (0, 0), (0, 0), (0, 0), (0, 0), (4, 24), (4, 25), (4, 26), (4, 27), (4, 28), (4, 29), (0, 0)], [])
def jzE_135 : JC := (11, [(4, 30), (4, 31), (0, 0), (0, 0), (0, 0), (0, 0)], [])
def jpE_136 : List JC := [jzE_133, jzE_134, (101, [], [0]), jgh, jgh, jgh, jgh, jzE_135, jgh, jgh, jgh, jgh, jgh, jgh, jgh, jgh, jgh, jgh, jgh, jgh, jgh, jgh, jgh, (100, [], (List.replicate 120 0)), jgh, jgh, jgh, jgh, jgh, jgh, (100, [], (List.replicate 120 0)), jgh]
theorem jIE_379_3501 : jmI (jm 379) 3501 = (.i2l, 1) := by rfl
theorem jIE_379_3502 : jmI (jm 379) 3502 = (.bipush 32, 2) := by rfl
theorem jIE_379_3505 : jmI (jm 379) 3505 = (.aload_n 0, 1) := by rfl
theorem jIE_379_3506 : jmI (jm 379) 3506 = (.iload 5, 2) := by rfl
theorem jIE_379_3508 : jmI (jm 379) 3508 = (.iconst 2, 1) := by rfl
theorem jIE_379_3509 : jmI (jm 379) 3509 = (.iadd, 1) := by rfl
theorem jIE_379_3511 : jmI (jm 379) 3511 = (.i2l, 1) := by rfl
theorem jIE_379_3517 : jmI (jm 379) 3517 = (.aload_n 3, 1) := by rfl
theorem jIE_379_3521 : jmI (jm 379) 3521 = (.istore 6, 2) := by rfl
theorem jIE_379_3523 : jmI (jm 379) 3523 = (.aload_n 2, 1) := by rfl
theorem jIE_379_3524 : jmI (jm 379) 3524 = (.aload_n 0, 1) := by rfl
theorem jIE_379_3525 : jmI (jm 379) 3525 = (.iload 5, 2) := by rfl
theorem jIE_379_3527 : jmI (jm 379) 3527 = (.iconst 1, 1) := by rfl
theorem jIE_379_3528 : jmI (jm 379) 3528 = (.iadd, 1) := by rfl
theorem jIE_379_3530 : jmI (jm 379) 3530 = (.i2l, 1) := by rfl
theorem jIE_379_3531 : jmI (jm 379) 3531 = (.bipush 32, 2) := by rfl
theorem jIE_379_3534 : jmI (jm 379) 3534 = (.aload_n 0, 1) := by rfl
theorem jIE_379_3535 : jmI (jm 379) 3535 = (.iload 5, 2) := by rfl
theorem jIE_379_3537 : jmI (jm 379) 3537 = (.iconst 2, 1) := by rfl
theorem jIE_379_3538 : jmI (jm 379) 3538 = (.iadd, 1) := by rfl
theorem jIE_379_3540 : jmI (jm 379) 3540 = (.i2l, 1) := by rfl
theorem jIE_379_3549 : jmI (jm 379) 3549 = (.istore 7, 2) := by rfl
theorem jIE_379_3551 : jmI (jm 379) 3551 = (.aload_n 2, 1) := by rfl
theorem jIE_379_3555 : jmI (jm 379) 3555 = (.iload 6, 2) := by rfl
theorem jIE_379_3557 : jmI (jm 379) 3557 = (.if_icmp .eq 5, 3) := by rfl
theorem jIE_379_3562 : jmI (jm 379) 3562 = (.iload 6, 2) := by rfl
theorem jIE_379_3564 : jmI (jm 379) 3564 = (.ifCond .ne 15, 3) := by rfl
theorem jIE_379_3567 : jmI (jm 379) 3567 = (.aload_n 3, 1) := by rfl
theorem jIE_379_3568 : jmI (jm 379) 3568 = (.iconst 0, 1) := by rfl
theorem jIE_379_3569 : jmI (jm 379) 3569 = (.laload, 1) := by rfl
theorem jIE_379_3570 : jmI (jm 379) 3570 = (.iload 7, 2) := by rfl
theorem jIE_379_3572 : jmI (jm 379) 3572 = (.i2l, 1) := by rfl
theorem jIE_379_3574 : jmI (jm 379) 3574 = (.ifCond .eq 5, 3) := by rfl
theorem jIE_379_3579 : jmI (jm 379) 3579 = (.goto 161, 3) := by rfl
theorem jIE_379_3740 : jmI (jm 379) 3740 = (.iinc 5 5, 3) := by rfl
theorem jIE_379_3743 : jmI (jm 379) 3743 = (.goto (-3715), 3) := by rfl
theorem jIE_379_28 : jmI (jm 379) 28 = (.iload 5, 2) := by rfl
theorem jIE_379_30 : jmI (jm 379) 30 = (.aload_n 0, 1) := by rfl
theorem jIE_379_32 : jmI (jm 379) 32 = (.iconst 5, 1) := by rfl
theorem jIE_379_33 : jmI (jm 379) 33 = (.isub, 1) := by rfl
theorem jIE_379_34 : jmI (jm 379) 34 = (.if_icmp .gt 3712, 3) := by rfl
theorem jIE_379_3746 : jmI (jm 379) 3746 = (.iconst 1, 1) := by rfl
set_option maxRecDepth 100000 in
theorem jL_48_0 {d : Nat} {x0 x1 x2 x3 x4 : Int} (h_x0 : (-2147483648) ≤ x0 ∧ x0 ≤ 2147483647) (h_x1 : (-2147483648) ≤ x1 ∧ x1 ≤ 2147483647) (h_x2 : (-2147483648) ≤ x2 ∧ x2 ≤ 2147483647) (h_x3 : (-2147483648) ≤ x3 ∧ x3 ≤ 2147483647) (h_x4 : (-2147483648) ≤ x4 ∧ x4 ≤ 2147483647) : jT [x0, x1, x2, x3, x4] (d + 3) 379 32 3494 [(5, (0, 0)), (4, (4, 3)), (3, (4, 2)), (2, (4, 1)), (1, (4, 0)), (0, (6, 0))] [] jpE_136 0 0 (fun k v hsN => k = 0 ∧ v = (0, 1)) := by
  refine jT_xaload_n (v := (4, 0)) (pcN := 3495) jIE_379_3494 rfl rfl rfl ?_
  refine jT_xaload_n (v := (6, 0)) (pcN := 3496) jIE_379_3495 rfl rfl rfl ?_
  refine jT_xiload (v := (0, 0)) (pcN := 3498) jIE_379_3496 rfl rfl rfl ?_
  refine jT_xiconst (k := 1) (pcN := 3499) jIE_379_3498 rfl ?_
  refine jT_xiadd (x := 0) (y := 1) (z := 1) (pcN := 3500) jIE_379_3499 rfl (by decide) rfl ?_
  refine jT_adv 1 (pcN := 3501) (LN := [(5, (0, 0)), (4, (4, 3)), (3, (4, 2)), (2, (4, 1)), (1, (4, 0)), (0, (6, 0))]) (stN := [(0, x1), (4, 0)]) (hsN := jpE_136) (c1 := 0) (s1 := 0) (c2 := 0) (s2 := 0) (by exact rfl) ?_ (by omega) (by omega)
  refine jT_xi2l (x := x1) (z := x1) (pcN := 3502) jIE_379_3501 rfl (jw_idd (by omega) (by omega)) rfl ?_
  refine jT_xbipush (k := 32) (pcN := 3504) jIE_379_3502 (by decide) rfl ?_
  refine jT_lshl (x := x1) (y := 32) (z := jshl x1 32) (by rfl) (by rfl) rfl ?_
  have hb_q1 : (-9223372036854775808) ≤ jshl x1 32 ∧ jshl x1 32 ≤ 9223372036854775807 := ⟨Int64.le_toInt _, Int.le_of_lt_add_one (Int64.toInt_lt _)⟩
  generalize hq_q1 : jshl x1 32 = q1 at hb_q1 ⊢
  refine jT_xaload_n (v := (6, 0)) (pcN := 3506) jIE_379_3505 rfl rfl rfl ?_
  refine jT_xiload (v := (0, 0)) (pcN := 3508) jIE_379_3506 rfl rfl rfl ?_
  refine jT_xiconst (k := 2) (pcN := 3509) jIE_379_3508 rfl ?_
  refine jT_xiadd (x := 0) (y := 2) (z := 2) (pcN := 3510) jIE_379_3509 rfl (by decide) rfl ?_
  refine jT_adv 1 (pcN := 3511) (LN := [(5, (0, 0)), (4, (4, 3)), (3, (4, 2)), (2, (4, 1)), (1, (4, 0)), (0, (6, 0))]) (stN := [(0, x2), (1, q1), (4, 0)]) (hsN := jpE_136) (c1 := 0) (s1 := 0) (c2 := 0) (s2 := 0) (by exact rfl) ?_ (by omega) (by omega)
  refine jT_xi2l (x := x2) (z := x2) (pcN := 3512) jIE_379_3511 rfl (jw_idd (by omega) (by omega)) rfl ?_
  refine jT_adv 1 (pcN := 3515) (LN := [(5, (0, 0)), (4, (4, 3)), (3, (4, 2)), (2, (4, 1)), (1, (4, 0)), (0, (6, 0))]) (stN := [(1, 4294967295), (1, x2), (1, q1), (4, 0)]) (hsN := jpE_136) (c1 := 0) (s1 := 0) (c2 := 0) (s2 := 0) (by exact rfl) ?_ (by omega) (by omega)
  refine jT_land (x := x2) (y := 4294967295) (z := (Int64.ofInt x2 &&& Int64.ofInt 4294967295).toInt) (by rfl) (by rfl) rfl ?_
  have hb_q2 : (-9223372036854775808) ≤ (Int64.ofInt x2 &&& Int64.ofInt 4294967295).toInt ∧ (Int64.ofInt x2 &&& Int64.ofInt 4294967295).toInt ≤ 9223372036854775807 := ⟨Int64.le_toInt _, Int.le_of_lt_add_one (Int64.toInt_lt _)⟩
  generalize hq_q2 : (Int64.ofInt x2 &&& Int64.ofInt 4294967295).toInt = q2 at hb_q2 ⊢
  refine jT_lor (x := q1) (y := q2) (z := (Int64.ofInt q1 ||| Int64.ofInt q2).toInt) (by rfl) (by rfl) rfl ?_
  have hb_q3 : (-9223372036854775808) ≤ (Int64.ofInt q1 ||| Int64.ofInt q2).toInt ∧ (Int64.ofInt q1 ||| Int64.ofInt q2).toInt ≤ 9223372036854775807 := ⟨Int64.le_toInt _, Int.le_of_lt_add_one (Int64.toInt_lt _)⟩
  generalize hq_q3 : (Int64.ofInt q1 ||| Int64.ofInt q2).toInt = q3 at hb_q3 ⊢
  refine jT_xaload_n (v := (4, 2)) (pcN := 3518) jIE_379_3517 rfl rfl rfl ?_
  refine jT_fB [0, 2, 4, 5, 6, 7, 8, 9, 10, 11, 12, 13, 14, 30, 31] 32 (y := 370) (pcN := 3521) (dC := 2) (bc1 := 0) (bc2 := 0) (c1 := 0) (c2 := 0) (as := [(4, 0), (1, q3), (4, 2)]) (asC := [(4, 0), (1, q3), (4, 1)]) (LN := [(5, (0, 0)), (4, (4, 3)), (3, (4, 2)), (2, (4, 1)), (1, (4, 0)), (0, (6, 0))]) (stN := []) (hsC := jpE_67) (hsD := [jzE_62, (101, [], [jby q3]), jgh, jgh, jgh, (11, [(4, 13), (4, 14), (0, jby q3), (0, 0), (0, 0), (0, 0)], []), jgh, jgh, jgh, jgh, jgh, jgh, jgh, jgh, jgh]) (v := (0, 0)) (st2 := [(0, 0)]) (hs2 := [jzE_133, jzE_134, (101, [], [jby q3]), jgh, jgh, jgh, jgh, (11, [(4, 30), (4, 31), (0, jby q3), (0, 0), (0, 0), (0, 0)], []), jgh, jgh, jgh, jgh, jgh, jgh, jgh, jgh, jgh, jgh, jgh, jgh, jgh, jgh, jgh, (100, [], (List.replicate 120 0)), jgh, jgh, jgh, jgh, jgh, jgh, jgh, jgh]) (jE_370_5 (d := 0) (by omega)) (by rfl) (by rfl) (by decide +kernel) (by rfl) (by rfl) (by omega) (by omega) (by omega) (by omega) rfl rfl ?_
  have hb_q4 := jby_b q3
  generalize hq_q4 : jby q3 = q4 at hb_q4 ⊢
  refine jT_xistore (v := (0, 0)) (LN := [(6, (0, 0)), (5, (0, 0)), (4, (4, 3)), (3, (4, 2)), (2, (4, 1)), (1, (4, 0)), (0, (6, 0))]) (pcN := 3523) jIE_379_3521 rfl rfl rfl rfl ?_
  refine jT_xaload_n (v := (4, 1)) (pcN := 3524) jIE_379_3523 rfl rfl rfl ?_
  refine jT_xaload_n (v := (6, 0)) (pcN := 3525) jIE_379_3524 rfl rfl rfl ?_
  refine jT_xiload (v := (0, 0)) (pcN := 3527) jIE_379_3525 rfl rfl rfl ?_
  refine jT_xiconst (k := 1) (pcN := 3528) jIE_379_3527 rfl ?_
  refine jT_xiadd (x := 0) (y := 1) (z := 1) (pcN := 3529) jIE_379_3528 rfl (by decide) rfl ?_
  refine jT_adv 1 (pcN := 3530) (LN := [(6, (0, 0)), (5, (0, 0)), (4, (4, 3)), (3, (4, 2)), (2, (4, 1)), (1, (4, 0)), (0, (6, 0))]) (stN := [(0, x1), (4, 1)]) (hsN := [jzE_133, jzE_134, (101, [], [q4]), jgh, jgh, jgh, jgh, (11, [(4, 30), (4, 31), (0, q4), (0, 0), (0, 0), (0, 0)], []), jgh, jgh, jgh, jgh, jgh, jgh, jgh, jgh, jgh, jgh, jgh, jgh, jgh, jgh, jgh, (100, [], (List.replicate 120 0)), jgh, jgh, jgh, jgh, jgh, jgh, jgh, jgh]) (c1 := 0) (s1 := 0) (c2 := 0) (s2 := 0) (by exact rfl) ?_ (by omega) (by omega)
  refine jT_xi2l (x := x1) (z := x1) (pcN := 3531) jIE_379_3530 rfl (jw_idd (by omega) (by omega)) rfl ?_
  refine jT_xbipush (k := 32) (pcN := 3533) jIE_379_3531 (by decide) rfl ?_
  refine jT_lshl (x := x1) (y := 32) (z := jshl x1 32) (by rfl) (by rfl) rfl ?_
  rw [hq_q1]
  refine jT_xaload_n (v := (6, 0)) (pcN := 3535) jIE_379_3534 rfl rfl rfl ?_
  refine jT_xiload (v := (0, 0)) (pcN := 3537) jIE_379_3535 rfl rfl rfl ?_
  refine jT_xiconst (k := 2) (pcN := 3538) jIE_379_3537 rfl ?_
  refine jT_xiadd (x := 0) (y := 2) (z := 2) (pcN := 3539) jIE_379_3538 rfl (by decide) rfl ?_
  refine jT_adv 1 (pcN := 3540) (LN := [(6, (0, 0)), (5, (0, 0)), (4, (4, 3)), (3, (4, 2)), (2, (4, 1)), (1, (4, 0)), (0, (6, 0))]) (stN := [(0, x2), (1, q1), (4, 1)]) (hsN := [jzE_133, jzE_134, (101, [], [q4]), jgh, jgh, jgh, jgh, (11, [(4, 30), (4, 31), (0, q4), (0, 0), (0, 0), (0, 0)], []), jgh, jgh, jgh, jgh, jgh, jgh, jgh, jgh, jgh, jgh, jgh, jgh, jgh, jgh, jgh, (100, [], (List.replicate 120 0)), jgh, jgh, jgh, jgh, jgh, jgh, jgh, jgh]) (c1 := 0) (s1 := 0) (c2 := 0) (s2 := 0) (by exact rfl) ?_ (by omega) (by omega)
  refine jT_xi2l (x := x2) (z := x2) (pcN := 3541) jIE_379_3540 rfl (jw_idd (by omega) (by omega)) rfl ?_
  refine jT_adv 1 (pcN := 3544) (LN := [(6, (0, 0)), (5, (0, 0)), (4, (4, 3)), (3, (4, 2)), (2, (4, 1)), (1, (4, 0)), (0, (6, 0))]) (stN := [(1, 4294967295), (1, x2), (1, q1), (4, 1)]) (hsN := [jzE_133, jzE_134, (101, [], [q4]), jgh, jgh, jgh, jgh, (11, [(4, 30), (4, 31), (0, q4), (0, 0), (0, 0), (0, 0)], []), jgh, jgh, jgh, jgh, jgh, jgh, jgh, jgh, jgh, jgh, jgh, jgh, jgh, jgh, jgh, (100, [], (List.replicate 120 0)), jgh, jgh, jgh, jgh, jgh, jgh, jgh, jgh]) (c1 := 0) (s1 := 0) (c2 := 0) (s2 := 0) (by exact rfl) ?_ (by omega) (by omega)
  refine jT_land (x := x2) (y := 4294967295) (z := (Int64.ofInt x2 &&& Int64.ofInt 4294967295).toInt) (by rfl) (by rfl) rfl ?_
  rw [hq_q2]
  refine jT_lor (x := q1) (y := q2) (z := (Int64.ofInt q1 ||| Int64.ofInt q2).toInt) (by rfl) (by rfl) rfl ?_
  rw [hq_q3]
  refine jT_callB [1, 15, 16, 17, 18, 19, 20, 21, 22, 23, 24, 25, 26, 27, 28, 29] (y := 316) (pcN := 3549) (dC := 1) (bc1 := 0) (bc2 := 0) (c1 := 0) (c2 := 0) (as := [(4, 1), (1, q3)]) (asC := [(4, 0), (1, q3)]) (LN := [(6, (0, 0)), (5, (0, 0)), (4, (4, 3)), (3, (4, 2)), (2, (4, 1)), (1, (4, 0)), (0, (6, 0))]) (stN := []) (hsC := jpE_71) (hsD := [(14, [(0, 0), (4, 1), (4, 2), (4, 3), (4, 4), (0, 0), (4, 5), (0, 0), (4, 6), (4, 7), (1, 1), (4, 8), (0, 0), (4, 9), (0, jby q3), (0, 0), (0, 0), (0, 0), (0, 0), (0, 0), (0, 0), (4, 10), (4, 11), (4, 12), (4, 13), (4, 14), (4, 15), (0, 0)], []), jgh, jgh, jgh, jgh, jgh, jgh, jgh, jgh, jgh, jgh, jgh, jgh, jgh, jgh, jgh]) (v := (0, jby q3)) (st2 := [(0, jby q3)]) (hs2 := [jzE_133, (14, [(0, 0), (4, 15), (4, 16), (4, 17), (4, 18), (0, 0), (4, 19), (0, 0), (4, 20), (4, 21), (1, 1), (4, 22), (0, 0), (4, 23), (0, jby q3), (0, 0), (0, 0), (0, 0), (0, 0), (0, 0), (0, 0), (4, 24), (4, 25), (4, 26), (4, 27), (4, 28), (4, 29), (0, 0)], []), (101, [], [q4]), jgh, jgh, jgh, jgh, (11, [(4, 30), (4, 31), (0, q4), (0, 0), (0, 0), (0, 0)], []), jgh, jgh, jgh, jgh, jgh, jgh, jgh, jgh, jgh, jgh, jgh, jgh, jgh, jgh, jgh, jgh, jgh, jgh, jgh, jgh, jgh, jgh, jgh, jgh]) (jE_316_9 (d := 0) (by omega)) (by rfl) (by rfl) (by rfl) (by rfl) ⟨rfl, rfl, rfl, rfl, rfl, rfl, rfl, rfl, rfl, rfl, rfl, rfl, rfl, rfl, rfl, rfl, trivial⟩ (by rfl) (by rfl) (by omega) (by show 32 ≤ 32; omega) (by omega) (by omega) rfl rfl ?_
  rw [hq_q4]
  refine jT_xistore (v := (0, q4)) (LN := [(7, (0, q4)), (6, (0, 0)), (5, (0, 0)), (4, (4, 3)), (3, (4, 2)), (2, (4, 1)), (1, (4, 0)), (0, (6, 0))]) (pcN := 3551) jIE_379_3549 rfl rfl rfl rfl ?_
  refine jT_xaload_n (v := (4, 1)) (pcN := 3552) jIE_379_3551 rfl rfl rfl ?_
  refine jT_callA [1, 15, 16, 17, 18, 19, 20, 21, 22, 23, 24, 25, 26, 27, 28, 29] (y := 186) (pcN := 3555) (dC := 0) (bc1 := 0) (bc2 := 0) (c1 := 0) (c2 := 0) (as := [(4, 1)]) (asC := [(4, 0)]) (LN := [(7, (0, q4)), (6, (0, 0)), (5, (0, 0)), (4, (4, 3)), (3, (4, 2)), (2, (4, 1)), (1, (4, 0)), (0, (6, 0))]) (stN := []) (hsC := [(14, [(0, 0), (4, 1), (4, 2), (4, 3), (4, 4), (0, 0), (4, 5), (0, 0), (4, 6), (4, 7), (1, 1), (4, 8), (0, 0), (4, 9), (0, q4), (0, 0), (0, 0), (0, 0), (0, 0), (0, 0), (0, 0), (4, 10), (4, 11), (4, 12), (4, 13), (4, 14), (4, 15), (0, 0)], []), jgh, jgh, jgh, jgh, jgh, jgh, jgh, jgh, jgh, jgh, jgh, jgh, jgh, jgh, jgh]) (ex := []) (v := (0, 0)) (st2 := [(0, 0)]) (hs2 := [jzE_133, (14, [(0, 0), (4, 15), (4, 16), (4, 17), (4, 18), (0, 0), (4, 19), (0, 0), (4, 20), (4, 21), (1, 1), (4, 22), (0, 0), (4, 23), (0, q4), (0, 0), (0, 0), (0, 0), (0, 0), (0, 0), (0, 0), (4, 24), (4, 25), (4, 26), (4, 27), (4, 28), (4, 29), (0, 0)], []), (101, [], [q4]), jgh, jgh, jgh, jgh, (11, [(4, 30), (4, 31), (0, q4), (0, 0), (0, 0), (0, 0)], []), jgh, jgh, jgh, jgh, jgh, jgh, jgh, jgh, jgh, jgh, jgh, jgh, jgh, jgh, jgh, jgh, jgh, jgh, jgh, jgh, jgh, jgh, jgh, jgh]) (jE_186_10 (d := 0) (by omega)) (by rfl) (by rfl) (by rfl) (by rfl) ⟨rfl, rfl, rfl, rfl, rfl, rfl, rfl, rfl, rfl, rfl, rfl, rfl, rfl, rfl, rfl, rfl, trivial⟩ (by rfl) (by rfl) (by omega) (by show 32 ≤ 32; omega) (by omega) (by omega) rfl rfl ?_
  refine jT_xiload (v := (0, 0)) (pcN := 3557) jIE_379_3555 rfl rfl rfl ?_
  refine jT_xicT (pcN := 3562) jIE_379_3557 rfl (by decide +kernel) rfl ?_
  refine jT_xiload (v := (0, 0)) (pcN := 3564) jIE_379_3562 rfl rfl rfl ?_
  refine jT_xifF (t := 3579) (pcN := 3567) jIE_379_3564 rfl (by decide +kernel) rfl rfl ?_
  refine jT_xaload_n (v := (4, 2)) (pcN := 3568) jIE_379_3567 rfl rfl rfl ?_
  refine jT_xiconst (k := 0) (pcN := 3569) jIE_379_3568 rfl ?_
  refine jT_lald (x := q4) (a := 2) (j := 0) (fs := []) (X := [q4]) jIE_379_3569 rfl rfl rfl rfl ?_
  refine jT_eq (LN := [(7, (0, q4)), (6, (0, 0)), (5, (0, 0)), (4, (4, 3)), (3, (4, 2)), (2, (4, 1)), (1, (4, 0)), (0, (6, 0))]) (stN := [(1, q4)]) (hsN := [jzE_133, (14, [(0, 0), (4, 15), (4, 16), (4, 17), (4, 18), (0, 0), (4, 19), (0, 0), (4, 20), (4, 21), (1, 1), (4, 22), (0, 0), (4, 23), (0, q4), (0, 0), (0, 0), (0, 0), (0, 0), (0, 0), (0, 0), (4, 24), (4, 25), (4, 26), (4, 27), (4, 28), (4, 29), (0, 0)], []), (101, [], [q4]), jgh, jgh, jgh, jgh, (11, [(4, 30), (4, 31), (0, q4), (0, 0), (0, 0), (0, 0)], []), jgh, jgh, jgh, jgh, jgh, jgh, jgh, jgh, jgh, jgh, jgh, jgh, jgh, jgh, jgh, jgh, jgh, jgh, jgh, jgh, jgh, jgh, jgh, jgh]) rfl rfl rfl ?_
  refine jT_xiload (v := (0, q4)) (pcN := 3572) jIE_379_3570 rfl rfl rfl ?_
  refine jT_xi2l (x := q4) (z := q4) (pcN := 3573) jIE_379_3572 rfl (jw_idd (by omega) (by omega)) rfl ?_
  refine jT_lcmp (a := q4) (b := q4) (z := 0) (by rfl) (by rfl) (jwl_idd (by omega) (by omega)) (jwl_idd (by omega) (by omega)) (by rw [decide_eq_false (show ¬ ((q4 : Int) < q4) by omega), decide_eq_true (show (q4 : Int) = q4 by omega)]; rfl) ?_
  refine jT_xifT (pcN := 3579) jIE_379_3574 rfl (by decide +kernel) rfl ?_
  refine jT_xgoto (pcN := 3740) jIE_379_3579 rfl ?_
  refine jT_xiinc (x := 0) (z := 5) (LN := [(5, (0, 5)), (7, (0, q4)), (6, (0, 0)), (4, (4, 3)), (3, (4, 2)), (2, (4, 1)), (1, (4, 0)), (0, (6, 0))]) (pcN := 3743) jIE_379_3740 rfl rfl (by decide) rfl rfl ?_
  refine jT_xgoto (pcN := 28) jIE_379_3743 rfl ?_
  refine jT_xiload (v := (0, 5)) (pcN := 30) jIE_379_28 rfl rfl rfl ?_
  refine jT_xaload_n (v := (6, 0)) (pcN := 31) jIE_379_30 rfl rfl rfl ?_
  refine jT_adv 1 (pcN := 32) (LN := [(5, (0, 5)), (7, (0, q4)), (6, (0, 0)), (4, (4, 3)), (3, (4, 2)), (2, (4, 1)), (1, (4, 0)), (0, (6, 0))]) (stN := [(0, 5), (0, 5)]) (hsN := [jzE_133, (14, [(0, 0), (4, 15), (4, 16), (4, 17), (4, 18), (0, 0), (4, 19), (0, 0), (4, 20), (4, 21), (1, 1), (4, 22), (0, 0), (4, 23), (0, q4), (0, 0), (0, 0), (0, 0), (0, 0), (0, 0), (0, 0), (4, 24), (4, 25), (4, 26), (4, 27), (4, 28), (4, 29), (0, 0)], []), (101, [], [q4]), jgh, jgh, jgh, jgh, (11, [(4, 30), (4, 31), (0, q4), (0, 0), (0, 0), (0, 0)], []), jgh, jgh, jgh, jgh, jgh, jgh, jgh, jgh, jgh, jgh, jgh, jgh, jgh, jgh, jgh, jgh, jgh, jgh, jgh, jgh, jgh, jgh, jgh, jgh]) (c1 := 0) (s1 := 0) (c2 := 0) (s2 := 0) (by exact rfl) ?_ (by omega) (by omega)
  refine jT_xiconst (k := 5) (pcN := 33) jIE_379_32 rfl ?_
  refine jT_xisub (x := 5) (y := 5) (z := 0) (pcN := 34) jIE_379_33 rfl (by decide) rfl ?_
  refine jT_xicT (pcN := 3746) jIE_379_34 rfl (by decide +kernel) rfl ?_
  refine jT_xiconst (k := 1) (pcN := 3747) jIE_379_3746 rfl ?_
  exact jT_ret rfl (by decide) (by show 32 ≤ 32; decide) (by omega) (by omega) ⟨rfl, rfl⟩
