/-! the law's loop -/
theorem jand63 (x : Int) : 0 ≤ (Int32.ofInt x &&& Int32.ofInt 63).toInt ∧ (Int32.ofInt x &&& Int32.ofInt 63).toInt ≤ 63 := by
  have h : (Int32.ofInt x &&& Int32.ofInt 63).toBitVec.toNat ≤ 63 := by
    rw [Int32.toBitVec_and, BitVec.toNat_and]
    exact Nat.le_trans Nat.and_le_right (by decide)
  show 0 ≤ (Int32.ofInt x &&& Int32.ofInt 63).toBitVec.toInt ∧ (Int32.ofInt x &&& Int32.ofInt 63).toBitVec.toInt ≤ 63
  rw [BitVec.toInt_eq_toNat_of_lt (by omega)]
  omega
theorem jIW_379_28 : jmI (jm 379) 28 = (.iload 5, 2) := by rfl
theorem jIW_379_30 : jmI (jm 379) 30 = (.aload_n 0, 1) := by rfl
theorem jIW_379_32 : jmI (jm 379) 32 = (.iconst 5, 1) := by rfl
theorem jIW_379_33 : jmI (jm 379) 33 = (.isub, 1) := by rfl
theorem jIW_379_34 : jmI (jm 379) 34 = (.if_icmp .gt 3712, 3) := by rfl
theorem jIW_379_3746 : jmI (jm 379) 3746 = (.iconst 1, 1) := by rfl
theorem jIW_379_3740 : jmI (jm 379) 3740 = (.iinc 5 5, 3) := by rfl
theorem jIW_379_3743 : jmI (jm 379) 3743 = (.goto (-3715), 3) := by rfl
theorem jIW_379_37 : jmI (jm 379) 37 = (.aload_n 0, 1) := by rfl
theorem jIW_379_38 : jmI (jm 379) 38 = (.iload 5, 2) := by rfl
theorem jIW_379_41 : jmI (jm 379) 41 = (.bipush 63, 2) := by rfl
set_option maxRecDepth 100000 in
theorem jLaw_0 : jT [] 80 379 0 28 [(5, (0, 0)), (4, (4, 155)), (3, (4, 154)), (2, (4, 106)), (1, (4, 0)), (0, (6, 0))] [] jFULL 579650 6609605 (fun k v _ => k = 0 ∧ v = (0, 1)) := by
  refine jT_xiload (v := (0, 0)) (pcN := 30) jIW_379_28 rfl rfl rfl ?_
  refine jT_xaload_n (v := (6, 0)) (pcN := 31) jIW_379_30 rfl rfl rfl ?_
  refine jT_adv 1 (pcN := 32) (LN := [(5, (0, 0)), (4, (4, 155)), (3, (4, 154)), (2, (4, 106)), (1, (4, 0)), (0, (6, 0))]) (stN := [(0, 0), (0, 0)]) (hsN := jFULL) (c1 := 0) (s1 := 0) (c2 := 579650) (s2 := 6609605) (by exact rfl) ?_ (by omega) (by omega)
  refine jT_xiconst (k := 5) (pcN := 33) jIW_379_32 rfl ?_
  refine jT_xisub (x := 0) (y := 5) (z := (-5)) (pcN := 34) jIW_379_33 rfl (by decide) rfl ?_
  refine jT_xicT (pcN := 3746) jIW_379_34 rfl (by decide +kernel) rfl ?_
  refine jT_xiconst (k := 1) (pcN := 3747) jIW_379_3746 rfl ?_
  exact jT_ret rfl (by decide) (Nat.zero_le _) (by omega) (by omega) ⟨rfl, rfl⟩
set_option maxRecDepth 100000 in
theorem jLaw_1 {x0 : Int} : jT [x0] 80 379 0 28 [(5, (0, 0)), (4, (4, 155)), (3, (4, 154)), (2, (4, 106)), (1, (4, 0)), (0, (6, 0))] [] jFULL 579650 6609605 (fun k v _ => k = 0 ∧ v = (0, 1)) := by
  refine jT_xiload (v := (0, 0)) (pcN := 30) jIW_379_28 rfl rfl rfl ?_
  refine jT_xaload_n (v := (6, 0)) (pcN := 31) jIW_379_30 rfl rfl rfl ?_
  refine jT_adv 1 (pcN := 32) (LN := [(5, (0, 0)), (4, (4, 155)), (3, (4, 154)), (2, (4, 106)), (1, (4, 0)), (0, (6, 0))]) (stN := [(0, 1), (0, 0)]) (hsN := jFULL) (c1 := 0) (s1 := 0) (c2 := 579650) (s2 := 6609605) (by exact rfl) ?_ (by omega) (by omega)
  refine jT_xiconst (k := 5) (pcN := 33) jIW_379_32 rfl ?_
  refine jT_xisub (x := 1) (y := 5) (z := (-4)) (pcN := 34) jIW_379_33 rfl (by decide) rfl ?_
  refine jT_xicT (pcN := 3746) jIW_379_34 rfl (by decide +kernel) rfl ?_
  refine jT_xiconst (k := 1) (pcN := 3747) jIW_379_3746 rfl ?_
  exact jT_ret rfl (by decide) (Nat.zero_le _) (by omega) (by omega) ⟨rfl, rfl⟩
set_option maxRecDepth 100000 in
theorem jLaw_2 {x0 : Int} {x1 : Int} : jT [x0, x1] 80 379 0 28 [(5, (0, 0)), (4, (4, 155)), (3, (4, 154)), (2, (4, 106)), (1, (4, 0)), (0, (6, 0))] [] jFULL 579650 6609605 (fun k v _ => k = 0 ∧ v = (0, 1)) := by
  refine jT_xiload (v := (0, 0)) (pcN := 30) jIW_379_28 rfl rfl rfl ?_
  refine jT_xaload_n (v := (6, 0)) (pcN := 31) jIW_379_30 rfl rfl rfl ?_
  refine jT_adv 1 (pcN := 32) (LN := [(5, (0, 0)), (4, (4, 155)), (3, (4, 154)), (2, (4, 106)), (1, (4, 0)), (0, (6, 0))]) (stN := [(0, 2), (0, 0)]) (hsN := jFULL) (c1 := 0) (s1 := 0) (c2 := 579650) (s2 := 6609605) (by exact rfl) ?_ (by omega) (by omega)
  refine jT_xiconst (k := 5) (pcN := 33) jIW_379_32 rfl ?_
  refine jT_xisub (x := 2) (y := 5) (z := (-3)) (pcN := 34) jIW_379_33 rfl (by decide) rfl ?_
  refine jT_xicT (pcN := 3746) jIW_379_34 rfl (by decide +kernel) rfl ?_
  refine jT_xiconst (k := 1) (pcN := 3747) jIW_379_3746 rfl ?_
  exact jT_ret rfl (by decide) (Nat.zero_le _) (by omega) (by omega) ⟨rfl, rfl⟩
set_option maxRecDepth 100000 in
theorem jLaw_3 {x0 : Int} {x1 : Int} {x2 : Int} : jT [x0, x1, x2] 80 379 0 28 [(5, (0, 0)), (4, (4, 155)), (3, (4, 154)), (2, (4, 106)), (1, (4, 0)), (0, (6, 0))] [] jFULL 579650 6609605 (fun k v _ => k = 0 ∧ v = (0, 1)) := by
  refine jT_xiload (v := (0, 0)) (pcN := 30) jIW_379_28 rfl rfl rfl ?_
  refine jT_xaload_n (v := (6, 0)) (pcN := 31) jIW_379_30 rfl rfl rfl ?_
  refine jT_adv 1 (pcN := 32) (LN := [(5, (0, 0)), (4, (4, 155)), (3, (4, 154)), (2, (4, 106)), (1, (4, 0)), (0, (6, 0))]) (stN := [(0, 3), (0, 0)]) (hsN := jFULL) (c1 := 0) (s1 := 0) (c2 := 579650) (s2 := 6609605) (by exact rfl) ?_ (by omega) (by omega)
  refine jT_xiconst (k := 5) (pcN := 33) jIW_379_32 rfl ?_
  refine jT_xisub (x := 3) (y := 5) (z := (-2)) (pcN := 34) jIW_379_33 rfl (by decide) rfl ?_
  refine jT_xicT (pcN := 3746) jIW_379_34 rfl (by decide +kernel) rfl ?_
  refine jT_xiconst (k := 1) (pcN := 3747) jIW_379_3746 rfl ?_
  exact jT_ret rfl (by decide) (Nat.zero_le _) (by omega) (by omega) ⟨rfl, rfl⟩
set_option maxRecDepth 100000 in
theorem jLaw_4 {x0 : Int} {x1 : Int} {x2 : Int} {x3 : Int} : jT [x0, x1, x2, x3] 80 379 0 28 [(5, (0, 0)), (4, (4, 155)), (3, (4, 154)), (2, (4, 106)), (1, (4, 0)), (0, (6, 0))] [] jFULL 579650 6609605 (fun k v _ => k = 0 ∧ v = (0, 1)) := by
  refine jT_xiload (v := (0, 0)) (pcN := 30) jIW_379_28 rfl rfl rfl ?_
  refine jT_xaload_n (v := (6, 0)) (pcN := 31) jIW_379_30 rfl rfl rfl ?_
  refine jT_adv 1 (pcN := 32) (LN := [(5, (0, 0)), (4, (4, 155)), (3, (4, 154)), (2, (4, 106)), (1, (4, 0)), (0, (6, 0))]) (stN := [(0, 4), (0, 0)]) (hsN := jFULL) (c1 := 0) (s1 := 0) (c2 := 579650) (s2 := 6609605) (by exact rfl) ?_ (by omega) (by omega)
  refine jT_xiconst (k := 5) (pcN := 33) jIW_379_32 rfl ?_
  refine jT_xisub (x := 4) (y := 5) (z := (-1)) (pcN := 34) jIW_379_33 rfl (by decide) rfl ?_
  refine jT_xicT (pcN := 3746) jIW_379_34 rfl (by decide +kernel) rfl ?_
  refine jT_xiconst (k := 1) (pcN := 3747) jIW_379_3746 rfl ?_
  exact jT_ret rfl (by decide) (Nat.zero_le _) (by omega) (by omega) ⟨rfl, rfl⟩
set_option maxRecDepth 100000 in
theorem jLaw_end {x0 x1 x2 x3 x4 : Int} : jT [x0, x1, x2, x3, x4] 80 379 0 3740 [(5, (0, 0)), (4, (4, 155)), (3, (4, 154)), (2, (4, 106)), (1, (4, 0)), (0, (6, 0))] [] jFULL 579650 6609605 (fun k v _ => k = 0 ∧ v = (0, 1)) := by
  refine jT_xiinc (x := 0) (z := 5) (LN := [(5, (0, 5)), (4, (4, 155)), (3, (4, 154)), (2, (4, 106)), (1, (4, 0)), (0, (6, 0))]) (pcN := 3743) jIW_379_3740 rfl rfl (by decide) rfl rfl ?_
  refine jT_xgoto (pcN := 28) jIW_379_3743 rfl ?_
  refine jT_xiload (v := (0, 5)) (pcN := 30) jIW_379_28 rfl rfl rfl ?_
  refine jT_xaload_n (v := (6, 0)) (pcN := 31) jIW_379_30 rfl rfl rfl ?_
  refine jT_adv 1 (pcN := 32) (LN := [(5, (0, 5)), (4, (4, 155)), (3, (4, 154)), (2, (4, 106)), (1, (4, 0)), (0, (6, 0))]) (stN := [(0, 5), (0, 5)]) (hsN := jFULL) (c1 := 0) (s1 := 0) (c2 := 579650) (s2 := 6609605) (by exact rfl) ?_ (by omega) (by omega)
  refine jT_xiconst (k := 5) (pcN := 33) jIW_379_32 rfl ?_
  refine jT_xisub (x := 5) (y := 5) (z := 0) (pcN := 34) jIW_379_33 rfl (by decide) rfl ?_
  refine jT_xicT (pcN := 3746) jIW_379_34 rfl (by decide +kernel) rfl ?_
  refine jT_xiconst (k := 1) (pcN := 3747) jIW_379_3746 rfl ?_
  exact jT_ret rfl (by decide) (Nat.zero_le _) (by omega) (by omega) ⟨rfl, rfl⟩
set_option maxRecDepth 100000 in
theorem jLaw_5 {x0 x1 x2 x3 x4 : Int} (h_x0 : (-2147483648) ≤ x0 ∧ x0 ≤ 2147483647) (h_x1 : (-2147483648) ≤ x1 ∧ x1 ≤ 2147483647) (h_x2 : (-2147483648) ≤ x2 ∧ x2 ≤ 2147483647) (h_x3 : (-2147483648) ≤ x3 ∧ x3 ≤ 2147483647) (h_x4 : (-2147483648) ≤ x4 ∧ x4 ≤ 2147483647) : jT [x0, x1, x2, x3, x4] 80 379 0 28 [(5, (0, 0)), (4, (4, 155)), (3, (4, 154)), (2, (4, 106)), (1, (4, 0)), (0, (6, 0))] [] jFULL 579650 6609605 (fun k v _ => k = 0 ∧ v = (0, 1)) := by
  refine jT_xiload (v := (0, 0)) (pcN := 30) jIW_379_28 rfl rfl rfl ?_
  refine jT_xaload_n (v := (6, 0)) (pcN := 31) jIW_379_30 rfl rfl rfl ?_
  refine jT_adv 1 (pcN := 32) (LN := [(5, (0, 0)), (4, (4, 155)), (3, (4, 154)), (2, (4, 106)), (1, (4, 0)), (0, (6, 0))]) (stN := [(0, 5), (0, 0)]) (hsN := jFULL) (c1 := 0) (s1 := 0) (c2 := 579650) (s2 := 6609605) (by exact rfl) ?_ (by omega) (by omega)
  refine jT_xiconst (k := 5) (pcN := 33) jIW_379_32 rfl ?_
  refine jT_xisub (x := 5) (y := 5) (z := 0) (pcN := 34) jIW_379_33 rfl (by decide) rfl ?_
  refine jT_xicF (t := 3746) (pcN := 37) jIW_379_34 rfl (by decide +kernel) rfl rfl ?_
  refine jT_xaload_n (v := (6, 0)) (pcN := 38) jIW_379_37 rfl rfl rfl ?_
  refine jT_xiload (v := (0, 0)) (pcN := 40) jIW_379_38 rfl rfl rfl ?_
  refine jT_adv 1 (pcN := 41) (LN := [(5, (0, 0)), (4, (4, 155)), (3, (4, 154)), (2, (4, 106)), (1, (4, 0)), (0, (6, 0))]) (stN := [(0, x0)]) (hsN := jFULL) (c1 := 0) (s1 := 0) (c2 := 579650) (s2 := 6609605) (by exact rfl) ?_ (by omega) (by omega)
  refine jT_xbipush (k := 63) (pcN := 43) jIW_379_41 (by decide) rfl ?_
  refine jT_iand (x := x0) (y := 63) (z := (Int32.ofInt x0 &&& Int32.ofInt 63).toInt) (by rfl) (by rfl) rfl ?_
  have hb_q1 : (-2147483648) ≤ (Int32.ofInt x0 &&& Int32.ofInt 63).toInt ∧ (Int32.ofInt x0 &&& Int32.ofInt 63).toInt ≤ 2147483647 := ⟨Int32.le_toInt _, Int.le_of_lt_add_one (Int32.toInt_lt _)⟩
  generalize hq_q1 : (Int32.ofInt x0 &&& Int32.ofInt 63).toInt = q1 at hb_q1 ⊢
  have h63 := jand63 x0
  rw [hq_q1] at h63
  rcases (show q1 = 0 ∨ q1 = 1 ∨ q1 = 2 ∨ q1 = 3 ∨ q1 = 4 ∨ q1 = 5 ∨ q1 = 6 ∨ q1 = 7 ∨ q1 = 8 ∨ q1 = 9 ∨ q1 = 10 ∨ q1 = 11 ∨ q1 = 12 ∨ q1 = 13 ∨ q1 = 14 ∨ q1 = 15 ∨ q1 = 16 ∨ q1 = 17 ∨ q1 = 18 ∨ q1 = 19 ∨ q1 = 20 ∨ q1 = 21 ∨ q1 = 22 ∨ q1 = 23 ∨ q1 = 24 ∨ q1 = 25 ∨ q1 = 26 ∨ q1 = 27 ∨ q1 = 28 ∨ q1 = 29 ∨ q1 = 30 ∨ q1 = 31 ∨ q1 = 32 ∨ q1 = 33 ∨ q1 = 34 ∨ q1 = 35 ∨ q1 = 36 ∨ q1 = 37 ∨ q1 = 38 ∨ q1 = 39 ∨ q1 = 40 ∨ q1 = 41 ∨ q1 = 42 ∨ q1 = 43 ∨ q1 = 44 ∨ q1 = 45 ∨ q1 = 46 ∨ q1 = 47 ∨ q1 = 48 ∨ q1 = 49 ∨ q1 = 50 ∨ q1 = 51 ∨ q1 = 52 ∨ q1 = 53 ∨ q1 = 54 ∨ q1 = 55 ∨ q1 = 56 ∨ q1 = 57 ∨ q1 = 58 ∨ q1 = 59 ∨ q1 = 60 ∨ q1 = 61 ∨ q1 = 62 ∨ q1 = 63 by omega) with e | e | e | e | e | e | e | e | e | e | e | e | e | e | e | e | e | e | e | e | e | e | e | e | e | e | e | e | e | e | e | e | e | e | e | e | e | e | e | e | e | e | e | e | e | e | e | e | e | e | e | e | e | e | e | e | e | e | e | e | e | e | e | e
  · rw [e]
    refine jT_adv 1 (pcN := 276) (LN := [(5, (0, 0)), (4, (4, 155)), (3, (4, 154)), (2, (4, 106)), (1, (4, 0)), (0, (6, 0))]) (stN := []) (hsN := jFULL) (c1 := 0) (s1 := 0) (c2 := 579650) (s2 := 6609605) (by exact rfl) ?_ (by omega) (by omega)
    exact jop_0 h_x0 h_x1 h_x2 h_x3 h_x4
  · rw [e]
    refine jT_adv 1 (pcN := 363) (LN := [(5, (0, 0)), (4, (4, 155)), (3, (4, 154)), (2, (4, 106)), (1, (4, 0)), (0, (6, 0))]) (stN := []) (hsN := jFULL) (c1 := 0) (s1 := 0) (c2 := 579650) (s2 := 6609605) (by exact rfl) ?_ (by omega) (by omega)
    exact jop_1 h_x0 h_x1 h_x2 h_x3 h_x4
  · rw [e]
    refine jT_adv 1 (pcN := 443) (LN := [(5, (0, 0)), (4, (4, 155)), (3, (4, 154)), (2, (4, 106)), (1, (4, 0)), (0, (6, 0))]) (stN := []) (hsN := jFULL) (c1 := 0) (s1 := 0) (c2 := 579650) (s2 := 6609605) (by exact rfl) ?_ (by omega) (by omega)
    exact jop_2 h_x0 h_x1 h_x2 h_x3 h_x4
  · rw [e]
    refine jT_adv 1 (pcN := 551) (LN := [(5, (0, 0)), (4, (4, 155)), (3, (4, 154)), (2, (4, 106)), (1, (4, 0)), (0, (6, 0))]) (stN := []) (hsN := jFULL) (c1 := 0) (s1 := 0) (c2 := 579650) (s2 := 6609605) (by exact rfl) ?_ (by omega) (by omega)
    exact jop_3 h_x0 h_x1 h_x2 h_x3 h_x4
  · rw [e]
    refine jT_adv 1 (pcN := 631) (LN := [(5, (0, 0)), (4, (4, 155)), (3, (4, 154)), (2, (4, 106)), (1, (4, 0)), (0, (6, 0))]) (stN := []) (hsN := jFULL) (c1 := 0) (s1 := 0) (c2 := 579650) (s2 := 6609605) (by exact rfl) ?_ (by omega) (by omega)
    exact jop_4 h_x0 h_x1 h_x2 h_x3 h_x4
  · rw [e]
    refine jT_adv 1 (pcN := 687) (LN := [(5, (0, 0)), (4, (4, 155)), (3, (4, 154)), (2, (4, 106)), (1, (4, 0)), (0, (6, 0))]) (stN := []) (hsN := jFULL) (c1 := 0) (s1 := 0) (c2 := 579650) (s2 := 6609605) (by exact rfl) ?_ (by omega) (by omega)
    exact jop_5 h_x0 h_x1 h_x2 h_x3 h_x4
  · rw [e]
    refine jT_adv 1 (pcN := 767) (LN := [(5, (0, 0)), (4, (4, 155)), (3, (4, 154)), (2, (4, 106)), (1, (4, 0)), (0, (6, 0))]) (stN := []) (hsN := jFULL) (c1 := 0) (s1 := 0) (c2 := 579650) (s2 := 6609605) (by exact rfl) ?_ (by omega) (by omega)
    exact jop_6 h_x0 h_x1 h_x2 h_x3 h_x4
  · rw [e]
    refine jT_adv 1 (pcN := 847) (LN := [(5, (0, 0)), (4, (4, 155)), (3, (4, 154)), (2, (4, 106)), (1, (4, 0)), (0, (6, 0))]) (stN := []) (hsN := jFULL) (c1 := 0) (s1 := 0) (c2 := 579650) (s2 := 6609605) (by exact rfl) ?_ (by omega) (by omega)
    exact jop_7 h_x0 h_x1 h_x2 h_x3 h_x4
  · rw [e]
    refine jT_adv 1 (pcN := 903) (LN := [(5, (0, 0)), (4, (4, 155)), (3, (4, 154)), (2, (4, 106)), (1, (4, 0)), (0, (6, 0))]) (stN := []) (hsN := jFULL) (c1 := 0) (s1 := 0) (c2 := 579650) (s2 := 6609605) (by exact rfl) ?_ (by omega) (by omega)
    exact jop_8 h_x0 h_x1 h_x2 h_x3 h_x4
  · rw [e]
    refine jT_adv 1 (pcN := 971) (LN := [(5, (0, 0)), (4, (4, 155)), (3, (4, 154)), (2, (4, 106)), (1, (4, 0)), (0, (6, 0))]) (stN := []) (hsN := jFULL) (c1 := 0) (s1 := 0) (c2 := 579650) (s2 := 6609605) (by exact rfl) ?_ (by omega) (by omega)
    exact jop_9 h_x0 h_x1 h_x2 h_x3 h_x4
  · rw [e]
    refine jT_adv 1 (pcN := 1063) (LN := [(5, (0, 0)), (4, (4, 155)), (3, (4, 154)), (2, (4, 106)), (1, (4, 0)), (0, (6, 0))]) (stN := []) (hsN := jFULL) (c1 := 0) (s1 := 0) (c2 := 579650) (s2 := 6609605) (by exact rfl) ?_ (by omega) (by omega)
    exact jop_10 h_x0 h_x1 h_x2 h_x3 h_x4
  · rw [e]
    refine jT_adv 1 (pcN := 1166) (LN := [(5, (0, 0)), (4, (4, 155)), (3, (4, 154)), (2, (4, 106)), (1, (4, 0)), (0, (6, 0))]) (stN := []) (hsN := jFULL) (c1 := 0) (s1 := 0) (c2 := 579650) (s2 := 6609605) (by exact rfl) ?_ (by omega) (by omega)
    exact jop_11 h_x0 h_x1 h_x2 h_x3 h_x4
  · rw [e]
    refine jT_adv 1 (pcN := 1234) (LN := [(5, (0, 0)), (4, (4, 155)), (3, (4, 154)), (2, (4, 106)), (1, (4, 0)), (0, (6, 0))]) (stN := []) (hsN := jFULL) (c1 := 0) (s1 := 0) (c2 := 579650) (s2 := 6609605) (by exact rfl) ?_ (by omega) (by omega)
    exact jop_12 h_x0 h_x1 h_x2 h_x3 h_x4
  · rw [e]
    refine jT_adv 1 (pcN := 1314) (LN := [(5, (0, 0)), (4, (4, 155)), (3, (4, 154)), (2, (4, 106)), (1, (4, 0)), (0, (6, 0))]) (stN := []) (hsN := jFULL) (c1 := 0) (s1 := 0) (c2 := 579650) (s2 := 6609605) (by exact rfl) ?_ (by omega) (by omega)
    exact jop_13 h_x0 h_x1 h_x2 h_x3 h_x4
  · rw [e]
    refine jT_adv 1 (pcN := 1394) (LN := [(5, (0, 0)), (4, (4, 155)), (3, (4, 154)), (2, (4, 106)), (1, (4, 0)), (0, (6, 0))]) (stN := []) (hsN := jFULL) (c1 := 0) (s1 := 0) (c2 := 579650) (s2 := 6609605) (by exact rfl) ?_ (by omega) (by omega)
    exact jop_14 h_x0 h_x1 h_x2 h_x3 h_x4
  · rw [e]
    refine jT_adv 1 (pcN := 1462) (LN := [(5, (0, 0)), (4, (4, 155)), (3, (4, 154)), (2, (4, 106)), (1, (4, 0)), (0, (6, 0))]) (stN := []) (hsN := jFULL) (c1 := 0) (s1 := 0) (c2 := 579650) (s2 := 6609605) (by exact rfl) ?_ (by omega) (by omega)
    exact jop_15 h_x0 h_x1 h_x2 h_x3 h_x4
  · rw [e]
    refine jT_adv 1 (pcN := 1546) (LN := [(5, (0, 0)), (4, (4, 155)), (3, (4, 154)), (2, (4, 106)), (1, (4, 0)), (0, (6, 0))]) (stN := []) (hsN := jFULL) (c1 := 0) (s1 := 0) (c2 := 579650) (s2 := 6609605) (by exact rfl) ?_ (by omega) (by omega)
    exact jop_16 h_x0 h_x1 h_x2 h_x3 h_x4
  · rw [e]
    refine jT_adv 1 (pcN := 1614) (LN := [(5, (0, 0)), (4, (4, 155)), (3, (4, 154)), (2, (4, 106)), (1, (4, 0)), (0, (6, 0))]) (stN := []) (hsN := jFULL) (c1 := 0) (s1 := 0) (c2 := 579650) (s2 := 6609605) (by exact rfl) ?_ (by omega) (by omega)
    exact jop_17 h_x0 h_x1 h_x2 h_x3 h_x4
  · rw [e]
    refine jT_adv 1 (pcN := 1627) (LN := [(5, (0, 0)), (4, (4, 155)), (3, (4, 154)), (2, (4, 106)), (1, (4, 0)), (0, (6, 0))]) (stN := []) (hsN := jFULL) (c1 := 0) (s1 := 0) (c2 := 579650) (s2 := 6609605) (by exact rfl) ?_ (by omega) (by omega)
    exact jop_18 h_x0 h_x1 h_x2 h_x3 h_x4
  · rw [e]
    refine jT_adv 1 (pcN := 1671) (LN := [(5, (0, 0)), (4, (4, 155)), (3, (4, 154)), (2, (4, 106)), (1, (4, 0)), (0, (6, 0))]) (stN := []) (hsN := jFULL) (c1 := 0) (s1 := 0) (c2 := 579650) (s2 := 6609605) (by exact rfl) ?_ (by omega) (by omega)
    exact jop_19 h_x0 h_x1 h_x2 h_x3 h_x4
  · rw [e]
    refine jT_adv 1 (pcN := 1739) (LN := [(5, (0, 0)), (4, (4, 155)), (3, (4, 154)), (2, (4, 106)), (1, (4, 0)), (0, (6, 0))]) (stN := []) (hsN := jFULL) (c1 := 0) (s1 := 0) (c2 := 579650) (s2 := 6609605) (by exact rfl) ?_ (by omega) (by omega)
    exact jop_20 h_x0 h_x1 h_x2 h_x3 h_x4
  · rw [e]
    refine jT_adv 1 (pcN := 1795) (LN := [(5, (0, 0)), (4, (4, 155)), (3, (4, 154)), (2, (4, 106)), (1, (4, 0)), (0, (6, 0))]) (stN := []) (hsN := jFULL) (c1 := 0) (s1 := 0) (c2 := 579650) (s2 := 6609605) (by exact rfl) ?_ (by omega) (by omega)
    exact jop_21 h_x0 h_x1 h_x2 h_x3 h_x4
  · rw [e]
    refine jT_adv 1 (pcN := 1863) (LN := [(5, (0, 0)), (4, (4, 155)), (3, (4, 154)), (2, (4, 106)), (1, (4, 0)), (0, (6, 0))]) (stN := []) (hsN := jFULL) (c1 := 0) (s1 := 0) (c2 := 579650) (s2 := 6609605) (by exact rfl) ?_ (by omega) (by omega)
    exact jop_22 h_x0 h_x1 h_x2 h_x3 h_x4
  · rw [e]
    refine jT_adv 1 (pcN := 1942) (LN := [(5, (0, 0)), (4, (4, 155)), (3, (4, 154)), (2, (4, 106)), (1, (4, 0)), (0, (6, 0))]) (stN := []) (hsN := jFULL) (c1 := 0) (s1 := 0) (c2 := 579650) (s2 := 6609605) (by exact rfl) ?_ (by omega) (by omega)
    exact jop_23 h_x0 h_x1 h_x2 h_x3 h_x4
  · rw [e]
    refine jT_adv 1 (pcN := 2005) (LN := [(5, (0, 0)), (4, (4, 155)), (3, (4, 154)), (2, (4, 106)), (1, (4, 0)), (0, (6, 0))]) (stN := []) (hsN := jFULL) (c1 := 0) (s1 := 0) (c2 := 579650) (s2 := 6609605) (by exact rfl) ?_ (by omega) (by omega)
    exact jop_24 h_x0 h_x1 h_x2 h_x3 h_x4
  · rw [e]
    refine jT_adv 1 (pcN := 2018) (LN := [(5, (0, 0)), (4, (4, 155)), (3, (4, 154)), (2, (4, 106)), (1, (4, 0)), (0, (6, 0))]) (stN := []) (hsN := jFULL) (c1 := 0) (s1 := 0) (c2 := 579650) (s2 := 6609605) (by exact rfl) ?_ (by omega) (by omega)
    exact jop_25 h_x0 h_x1 h_x2 h_x3 h_x4
  · rw [e]
    refine jT_adv 1 (pcN := 2086) (LN := [(5, (0, 0)), (4, (4, 155)), (3, (4, 154)), (2, (4, 106)), (1, (4, 0)), (0, (6, 0))]) (stN := []) (hsN := jFULL) (c1 := 0) (s1 := 0) (c2 := 579650) (s2 := 6609605) (by exact rfl) ?_ (by omega) (by omega)
    exact jop_26 h_x0 h_x1 h_x2 h_x3 h_x4
  · rw [e]
    refine jT_adv 1 (pcN := 2142) (LN := [(5, (0, 0)), (4, (4, 155)), (3, (4, 154)), (2, (4, 106)), (1, (4, 0)), (0, (6, 0))]) (stN := []) (hsN := jFULL) (c1 := 0) (s1 := 0) (c2 := 579650) (s2 := 6609605) (by exact rfl) ?_ (by omega) (by omega)
    exact jop_27 h_x0 h_x1 h_x2 h_x3 h_x4
  · rw [e]
    refine jT_adv 1 (pcN := 2198) (LN := [(5, (0, 0)), (4, (4, 155)), (3, (4, 154)), (2, (4, 106)), (1, (4, 0)), (0, (6, 0))]) (stN := []) (hsN := jFULL) (c1 := 0) (s1 := 0) (c2 := 579650) (s2 := 6609605) (by exact rfl) ?_ (by omega) (by omega)
    exact jop_28 h_x0 h_x1 h_x2 h_x3 h_x4
  · rw [e]
    refine jT_adv 1 (pcN := 2254) (LN := [(5, (0, 0)), (4, (4, 155)), (3, (4, 154)), (2, (4, 106)), (1, (4, 0)), (0, (6, 0))]) (stN := []) (hsN := jFULL) (c1 := 0) (s1 := 0) (c2 := 579650) (s2 := 6609605) (by exact rfl) ?_ (by omega) (by omega)
    exact jop_29 h_x0 h_x1 h_x2 h_x3 h_x4
  · rw [e]
    refine jT_adv 1 (pcN := 2322) (LN := [(5, (0, 0)), (4, (4, 155)), (3, (4, 154)), (2, (4, 106)), (1, (4, 0)), (0, (6, 0))]) (stN := []) (hsN := jFULL) (c1 := 0) (s1 := 0) (c2 := 579650) (s2 := 6609605) (by exact rfl) ?_ (by omega) (by omega)
    exact jop_30 h_x0 h_x1 h_x2 h_x3 h_x4
  · rw [e]
    refine jT_adv 1 (pcN := 2418) (LN := [(5, (0, 0)), (4, (4, 155)), (3, (4, 154)), (2, (4, 106)), (1, (4, 0)), (0, (6, 0))]) (stN := []) (hsN := jFULL) (c1 := 0) (s1 := 0) (c2 := 579650) (s2 := 6609605) (by exact rfl) ?_ (by omega) (by omega)
    exact jop_31 h_x0 h_x1 h_x2 h_x3 h_x4
  · rw [e]
    refine jT_adv 1 (pcN := 2474) (LN := [(5, (0, 0)), (4, (4, 155)), (3, (4, 154)), (2, (4, 106)), (1, (4, 0)), (0, (6, 0))]) (stN := []) (hsN := jFULL) (c1 := 0) (s1 := 0) (c2 := 579650) (s2 := 6609605) (by exact rfl) ?_ (by omega) (by omega)
    exact jop_32 h_x0 h_x1 h_x2 h_x3 h_x4
  · rw [e]
    refine jT_adv 1 (pcN := 2542) (LN := [(5, (0, 0)), (4, (4, 155)), (3, (4, 154)), (2, (4, 106)), (1, (4, 0)), (0, (6, 0))]) (stN := []) (hsN := jFULL) (c1 := 0) (s1 := 0) (c2 := 579650) (s2 := 6609605) (by exact rfl) ?_ (by omega) (by omega)
    exact jop_33 h_x0 h_x1 h_x2 h_x3 h_x4
  · rw [e]
    refine jT_adv 1 (pcN := 2598) (LN := [(5, (0, 0)), (4, (4, 155)), (3, (4, 154)), (2, (4, 106)), (1, (4, 0)), (0, (6, 0))]) (stN := []) (hsN := jFULL) (c1 := 0) (s1 := 0) (c2 := 579650) (s2 := 6609605) (by exact rfl) ?_ (by omega) (by omega)
    exact jop_34 h_x0 h_x1 h_x2 h_x3 h_x4
  · rw [e]
    refine jT_adv 1 (pcN := 2678) (LN := [(5, (0, 0)), (4, (4, 155)), (3, (4, 154)), (2, (4, 106)), (1, (4, 0)), (0, (6, 0))]) (stN := []) (hsN := jFULL) (c1 := 0) (s1 := 0) (c2 := 579650) (s2 := 6609605) (by exact rfl) ?_ (by omega) (by omega)
    exact jop_35 h_x0 h_x1 h_x2 h_x3 h_x4
  · rw [e]
    refine jT_adv 1 (pcN := 2745) (LN := [(5, (0, 0)), (4, (4, 155)), (3, (4, 154)), (2, (4, 106)), (1, (4, 0)), (0, (6, 0))]) (stN := []) (hsN := jFULL) (c1 := 0) (s1 := 0) (c2 := 579650) (s2 := 6609605) (by exact rfl) ?_ (by omega) (by omega)
    exact jop_36 h_x0 h_x1 h_x2 h_x3 h_x4
  · rw [e]
    refine jT_adv 1 (pcN := 2813) (LN := [(5, (0, 0)), (4, (4, 155)), (3, (4, 154)), (2, (4, 106)), (1, (4, 0)), (0, (6, 0))]) (stN := []) (hsN := jFULL) (c1 := 0) (s1 := 0) (c2 := 579650) (s2 := 6609605) (by exact rfl) ?_ (by omega) (by omega)
    exact jop_37 h_x0 h_x1 h_x2 h_x3 h_x4
  · rw [e]
    refine jT_adv 1 (pcN := 2881) (LN := [(5, (0, 0)), (4, (4, 155)), (3, (4, 154)), (2, (4, 106)), (1, (4, 0)), (0, (6, 0))]) (stN := []) (hsN := jFULL) (c1 := 0) (s1 := 0) (c2 := 579650) (s2 := 6609605) (by exact rfl) ?_ (by omega) (by omega)
    exact jop_38 h_x0 h_x1 h_x2 h_x3 h_x4
  · rw [e]
    refine jT_adv 1 (pcN := 2973) (LN := [(5, (0, 0)), (4, (4, 155)), (3, (4, 154)), (2, (4, 106)), (1, (4, 0)), (0, (6, 0))]) (stN := []) (hsN := jFULL) (c1 := 0) (s1 := 0) (c2 := 579650) (s2 := 6609605) (by exact rfl) ?_ (by omega) (by omega)
    exact jop_39 h_x0 h_x1 h_x2 h_x3 h_x4
  · rw [e]
    refine jT_adv 1 (pcN := 2986) (LN := [(5, (0, 0)), (4, (4, 155)), (3, (4, 154)), (2, (4, 106)), (1, (4, 0)), (0, (6, 0))]) (stN := []) (hsN := jFULL) (c1 := 0) (s1 := 0) (c2 := 579650) (s2 := 6609605) (by exact rfl) ?_ (by omega) (by omega)
    exact jop_40 h_x0 h_x1 h_x2 h_x3 h_x4
  · rw [e]
    refine jT_adv 1 (pcN := 3054) (LN := [(5, (0, 0)), (4, (4, 155)), (3, (4, 154)), (2, (4, 106)), (1, (4, 0)), (0, (6, 0))]) (stN := []) (hsN := jFULL) (c1 := 0) (s1 := 0) (c2 := 579650) (s2 := 6609605) (by exact rfl) ?_ (by omega) (by omega)
    exact jop_41 h_x0 h_x1 h_x2 h_x3 h_x4
  · rw [e]
    refine jT_adv 1 (pcN := 3110) (LN := [(5, (0, 0)), (4, (4, 155)), (3, (4, 154)), (2, (4, 106)), (1, (4, 0)), (0, (6, 0))]) (stN := []) (hsN := jFULL) (c1 := 0) (s1 := 0) (c2 := 579650) (s2 := 6609605) (by exact rfl) ?_ (by omega) (by omega)
    exact jop_42 h_x0 h_x1 h_x2 h_x3 h_x4
  · rw [e]
    refine jT_adv 1 (pcN := 3123) (LN := [(5, (0, 0)), (4, (4, 155)), (3, (4, 154)), (2, (4, 106)), (1, (4, 0)), (0, (6, 0))]) (stN := []) (hsN := jFULL) (c1 := 0) (s1 := 0) (c2 := 579650) (s2 := 6609605) (by exact rfl) ?_ (by omega) (by omega)
    exact jop_43 h_x0 h_x1 h_x2 h_x3 h_x4
  · rw [e]
    refine jT_adv 1 (pcN := 3191) (LN := [(5, (0, 0)), (4, (4, 155)), (3, (4, 154)), (2, (4, 106)), (1, (4, 0)), (0, (6, 0))]) (stN := []) (hsN := jFULL) (c1 := 0) (s1 := 0) (c2 := 579650) (s2 := 6609605) (by exact rfl) ?_ (by omega) (by omega)
    exact jop_44 h_x0 h_x1 h_x2 h_x3 h_x4
  · rw [e]
    refine jT_adv 1 (pcN := 3290) (LN := [(5, (0, 0)), (4, (4, 155)), (3, (4, 154)), (2, (4, 106)), (1, (4, 0)), (0, (6, 0))]) (stN := []) (hsN := jFULL) (c1 := 0) (s1 := 0) (c2 := 579650) (s2 := 6609605) (by exact rfl) ?_ (by omega) (by omega)
    exact jop_45 h_x0 h_x1 h_x2 h_x3 h_x4
  · rw [e]
    refine jT_adv 1 (pcN := 3358) (LN := [(5, (0, 0)), (4, (4, 155)), (3, (4, 154)), (2, (4, 106)), (1, (4, 0)), (0, (6, 0))]) (stN := []) (hsN := jFULL) (c1 := 0) (s1 := 0) (c2 := 579650) (s2 := 6609605) (by exact rfl) ?_ (by omega) (by omega)
    exact jop_46 h_x0 h_x1 h_x2 h_x3 h_x4
  · rw [e]
    refine jT_adv 1 (pcN := 3426) (LN := [(5, (0, 0)), (4, (4, 155)), (3, (4, 154)), (2, (4, 106)), (1, (4, 0)), (0, (6, 0))]) (stN := []) (hsN := jFULL) (c1 := 0) (s1 := 0) (c2 := 579650) (s2 := 6609605) (by exact rfl) ?_ (by omega) (by omega)
    exact jop_47 h_x0 h_x1 h_x2 h_x3 h_x4
  · rw [e]
    refine jT_adv 1 (pcN := 3494) (LN := [(5, (0, 0)), (4, (4, 155)), (3, (4, 154)), (2, (4, 106)), (1, (4, 0)), (0, (6, 0))]) (stN := []) (hsN := jFULL) (c1 := 0) (s1 := 0) (c2 := 579650) (s2 := 6609605) (by exact rfl) ?_ (by omega) (by omega)
    exact jop_48 h_x0 h_x1 h_x2 h_x3 h_x4
  · rw [e]
    refine jT_adv 1 (pcN := 3582) (LN := [(5, (0, 0)), (4, (4, 155)), (3, (4, 154)), (2, (4, 106)), (1, (4, 0)), (0, (6, 0))]) (stN := []) (hsN := jFULL) (c1 := 0) (s1 := 0) (c2 := 579650) (s2 := 6609605) (by exact rfl) ?_ (by omega) (by omega)
    exact jop_49 h_x0 h_x1 h_x2 h_x3 h_x4
  · rw [e]
    refine jT_adv 1 (pcN := 3595) (LN := [(5, (0, 0)), (4, (4, 155)), (3, (4, 154)), (2, (4, 106)), (1, (4, 0)), (0, (6, 0))]) (stN := []) (hsN := jFULL) (c1 := 0) (s1 := 0) (c2 := 579650) (s2 := 6609605) (by exact rfl) ?_ (by omega) (by omega)
    exact jop_50 h_x0 h_x1 h_x2 h_x3 h_x4
  · rw [e]
    refine jT_adv 1 (pcN := 3608) (LN := [(5, (0, 0)), (4, (4, 155)), (3, (4, 154)), (2, (4, 106)), (1, (4, 0)), (0, (6, 0))]) (stN := []) (hsN := jFULL) (c1 := 0) (s1 := 0) (c2 := 579650) (s2 := 6609605) (by exact rfl) ?_ (by omega) (by omega)
    exact jop_51 h_x0 h_x1 h_x2 h_x3 h_x4
  · rw [e]
    refine jT_adv 1 (pcN := 3686) (LN := [(5, (0, 0)), (4, (4, 155)), (3, (4, 154)), (2, (4, 106)), (1, (4, 0)), (0, (6, 0))]) (stN := []) (hsN := jFULL) (c1 := 0) (s1 := 0) (c2 := 579650) (s2 := 6609605) (by exact rfl) ?_ (by omega) (by omega)
    exact jop_52 h_x0 h_x1 h_x2 h_x3 h_x4
  · rw [e]
    refine jT_adv 1 (pcN := 3727) (LN := [(5, (0, 0)), (4, (4, 155)), (3, (4, 154)), (2, (4, 106)), (1, (4, 0)), (0, (6, 0))]) (stN := []) (hsN := jFULL) (c1 := 0) (s1 := 0) (c2 := 579650) (s2 := 6609605) (by exact rfl) ?_ (by omega) (by omega)
    exact jop_53 h_x0 h_x1 h_x2 h_x3 h_x4
  · rw [e]
    refine jT_adv 1 (pcN := 3740) (LN := [(5, (0, 0)), (4, (4, 155)), (3, (4, 154)), (2, (4, 106)), (1, (4, 0)), (0, (6, 0))]) (stN := []) (hsN := jFULL) (c1 := 0) (s1 := 0) (c2 := 579650) (s2 := 6609605) (by exact rfl) ?_ (by omega) (by omega)
    exact jLaw_end
  · rw [e]
    refine jT_adv 1 (pcN := 3740) (LN := [(5, (0, 0)), (4, (4, 155)), (3, (4, 154)), (2, (4, 106)), (1, (4, 0)), (0, (6, 0))]) (stN := []) (hsN := jFULL) (c1 := 0) (s1 := 0) (c2 := 579650) (s2 := 6609605) (by exact rfl) ?_ (by omega) (by omega)
    exact jLaw_end
  · rw [e]
    refine jT_adv 1 (pcN := 3740) (LN := [(5, (0, 0)), (4, (4, 155)), (3, (4, 154)), (2, (4, 106)), (1, (4, 0)), (0, (6, 0))]) (stN := []) (hsN := jFULL) (c1 := 0) (s1 := 0) (c2 := 579650) (s2 := 6609605) (by exact rfl) ?_ (by omega) (by omega)
    exact jLaw_end
  · rw [e]
    refine jT_adv 1 (pcN := 3740) (LN := [(5, (0, 0)), (4, (4, 155)), (3, (4, 154)), (2, (4, 106)), (1, (4, 0)), (0, (6, 0))]) (stN := []) (hsN := jFULL) (c1 := 0) (s1 := 0) (c2 := 579650) (s2 := 6609605) (by exact rfl) ?_ (by omega) (by omega)
    exact jLaw_end
  · rw [e]
    refine jT_adv 1 (pcN := 3740) (LN := [(5, (0, 0)), (4, (4, 155)), (3, (4, 154)), (2, (4, 106)), (1, (4, 0)), (0, (6, 0))]) (stN := []) (hsN := jFULL) (c1 := 0) (s1 := 0) (c2 := 579650) (s2 := 6609605) (by exact rfl) ?_ (by omega) (by omega)
    exact jLaw_end
  · rw [e]
    refine jT_adv 1 (pcN := 3740) (LN := [(5, (0, 0)), (4, (4, 155)), (3, (4, 154)), (2, (4, 106)), (1, (4, 0)), (0, (6, 0))]) (stN := []) (hsN := jFULL) (c1 := 0) (s1 := 0) (c2 := 579650) (s2 := 6609605) (by exact rfl) ?_ (by omega) (by omega)
    exact jLaw_end
  · rw [e]
    refine jT_adv 1 (pcN := 3740) (LN := [(5, (0, 0)), (4, (4, 155)), (3, (4, 154)), (2, (4, 106)), (1, (4, 0)), (0, (6, 0))]) (stN := []) (hsN := jFULL) (c1 := 0) (s1 := 0) (c2 := 579650) (s2 := 6609605) (by exact rfl) ?_ (by omega) (by omega)
    exact jLaw_end
  · rw [e]
    refine jT_adv 1 (pcN := 3740) (LN := [(5, (0, 0)), (4, (4, 155)), (3, (4, 154)), (2, (4, 106)), (1, (4, 0)), (0, (6, 0))]) (stN := []) (hsN := jFULL) (c1 := 0) (s1 := 0) (c2 := 579650) (s2 := 6609605) (by exact rfl) ?_ (by omega) (by omega)
    exact jLaw_end
  · rw [e]
    refine jT_adv 1 (pcN := 3740) (LN := [(5, (0, 0)), (4, (4, 155)), (3, (4, 154)), (2, (4, 106)), (1, (4, 0)), (0, (6, 0))]) (stN := []) (hsN := jFULL) (c1 := 0) (s1 := 0) (c2 := 579650) (s2 := 6609605) (by exact rfl) ?_ (by omega) (by omega)
    exact jLaw_end
  · rw [e]
    refine jT_adv 1 (pcN := 3740) (LN := [(5, (0, 0)), (4, (4, 155)), (3, (4, 154)), (2, (4, 106)), (1, (4, 0)), (0, (6, 0))]) (stN := []) (hsN := jFULL) (c1 := 0) (s1 := 0) (c2 := 579650) (s2 := 6609605) (by exact rfl) ?_ (by omega) (by omega)
    exact jLaw_end
