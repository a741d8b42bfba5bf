/-! rhythms: their loops -/
theorem jmul_b {x y m n : Int} (h1 : 0 ≤ x) (h2 : x ≤ m) (h3 : 0 ≤ y) (h4 : y ≤ n) : 0 ≤ x * y ∧ x * y ≤ m * n :=
  ⟨Int.mul_nonneg h1 h3, Int.mul_le_mul h2 h4 h3 (Int.le_trans h1 h2)⟩
theorem jtm_b {x y : Int} (hx : 0 ≤ x) (hy : 1 ≤ y) : 0 ≤ x.tmod y ∧ x.tmod y ≤ y - 1 := by
  rw [Int.tmod_eq_emod_of_nonneg hx]
  have := Int.emod_nonneg x (show y ≠ 0 by omega)
  have := Int.emod_lt_of_pos x (show 0 < y by omega)
  omega
def jrh (p b : Int) : Nat → Int
  | 0 => 0
  | i + 1 => if ((i : Int) * b).tmod p < b then (Int32.ofInt (jrh p b i) ||| Int32.ofInt ((Int32.ofInt 1 <<< (Int32.ofInt (i : Int) &&& 31)).toInt)).toInt else jrh p b i
theorem jrh_b {p b : Int} : ∀ {n : Nat}, -2147483648 ≤ jrh p b n ∧ jrh p b n ≤ 2147483647
  | 0 => by unfold jrh; omega
  | n + 1 => by
    unfold jrh
    by_cases h : ((n : Int) * b).tmod p < b
    · rw [if_pos h]
      exact ⟨Int32.le_toInt _, Int.le_of_lt_add_one (Int32.toInt_lt _)⟩
    · rw [if_neg h]
      exact jrh_b
theorem jrh_s1 {p b i : Int} (h0 : 0 ≤ i) (h : (i * b).tmod p < b) : jrh p b (i + 1).toNat = (Int32.ofInt (jrh p b i.toNat) ||| Int32.ofInt ((Int32.ofInt 1 <<< (Int32.ofInt i &&& 31)).toInt)).toInt := by
  rw [show (i + 1).toNat = i.toNat + 1 by omega]
  have e : ((i.toNat : Nat) : Int) = i := Int.toNat_of_nonneg h0
  show (if (((i.toNat : Nat) : Int) * b).tmod p < b then _ else _) = _
  rw [e, if_pos h]
theorem jrh_s0 {p b i : Int} (h0 : 0 ≤ i) (h : ¬ (i * b).tmod p < b) : jrh p b (i + 1).toNat = jrh p b i.toNat := by
  rw [show (i + 1).toNat = i.toNat + 1 by omega]
  have e : ((i.toNat : Nat) : Int) = i := Int.toNat_of_nonneg h0
  show (if (((i.toNat : Nat) : Int) * b).tmod p < b then _ else _) = _
  rw [e, if_neg h]
theorem jor0 {x : Int} (h1 : -2147483648 ≤ x) (h2 : x ≤ 2147483647) : (Int32.ofInt x ||| Int32.ofInt 0).toInt = x := by
  rw [show Int32.ofInt 0 = 0 from rfl, Int32.or_zero, Int32.toInt_ofInt, Int.bmod_def]
  simp only [Int32.size]
  omega
theorem jIC_170_20 : jmI (jm 170) 20 = (.iload 4, 2) := by rfl
theorem jIC_170_22 : jmI (jm 170) 22 = (.iload_n 1, 1) := by rfl
theorem jIC_170_23 : jmI (jm 170) 23 = (.if_icmp .ge 26, 3) := by rfl
theorem jIC_170_49 : jmI (jm 170) 49 = (.iload_n 3, 1) := by rfl
theorem jIC_170_26 : jmI (jm 170) 26 = (.iload 4, 2) := by rfl
theorem jIC_170_28 : jmI (jm 170) 28 = (.iload_n 2, 1) := by rfl
theorem jIC_170_29 : jmI (jm 170) 29 = (.imul, 1) := by rfl
theorem jIC_170_30 : jmI (jm 170) 30 = (.iload_n 1, 1) := by rfl
theorem jIC_170_32 : jmI (jm 170) 32 = (.iload_n 2, 1) := by rfl
theorem jIC_170_33 : jmI (jm 170) 33 = (.if_icmp .ge 10, 3) := by rfl
theorem jIC_170_43 : jmI (jm 170) 43 = (.iinc 4 1, 3) := by rfl
theorem jIC_170_46 : jmI (jm 170) 46 = (.goto (-26), 3) := by rfl
theorem jIC_170_36 : jmI (jm 170) 36 = (.iload_n 3, 1) := by rfl
theorem jIC_170_37 : jmI (jm 170) 37 = (.iconst 1, 1) := by rfl
theorem jIC_170_38 : jmI (jm 170) 38 = (.iload 4, 2) := by rfl
theorem jIC_170_42 : jmI (jm 170) 42 = (.istore_n 3, 1) := by rfl
theorem jIC_313_42 : jmI (jm 313) 42 = (.iload 4, 2) := by rfl
theorem jIC_313_44 : jmI (jm 313) 44 = (.iload_n 1, 1) := by rfl
theorem jIC_313_45 : jmI (jm 313) 45 = (.if_icmp .ge 30, 3) := by rfl
theorem jIC_313_75 : jmI (jm 313) 75 = (.iload_n 3, 1) := by rfl
theorem jIC_313_48 : jmI (jm 313) 48 = (.iload_n 3, 1) := by rfl
theorem jIC_313_49 : jmI (jm 313) 49 = (.iload 4, 2) := by rfl
theorem jIC_313_51 : jmI (jm 313) 51 = (.iload_n 2, 1) := by rfl
theorem jIC_313_52 : jmI (jm 313) 52 = (.imul, 1) := by rfl
theorem jIC_313_53 : jmI (jm 313) 53 = (.iload_n 1, 1) := by rfl
theorem jIC_313_55 : jmI (jm 313) 55 = (.iload_n 2, 1) := by rfl
theorem jIC_313_56 : jmI (jm 313) 56 = (.if_icmp .ge 10, 3) := by rfl
theorem jIC_313_66 : jmI (jm 313) 66 = (.iconst 0, 1) := by rfl
theorem jIC_313_68 : jmI (jm 313) 68 = (.istore_n 3, 1) := by rfl
theorem jIC_313_69 : jmI (jm 313) 69 = (.iinc 4 1, 3) := by rfl
theorem jIC_313_72 : jmI (jm 313) 72 = (.goto (-30), 3) := by rfl
theorem jIC_313_59 : jmI (jm 313) 59 = (.iconst 1, 1) := by rfl
theorem jIC_313_60 : jmI (jm 313) 60 = (.iload 4, 2) := by rfl
theorem jIC_313_63 : jmI (jm 313) 63 = (.goto 4, 3) := by rfl
theorem jT_rh170 {xs : List Int} {d : Nat} {p b : Int} {hs : List JC} {n0 : Nat} (hn : n0 ≤ hs.length) (h_p : 1 ≤ p ∧ p ≤ 30) (h_b : 0 ≤ b ∧ b ≤ 30) : ∀ (q : Nat) (i f : Int), 0 ≤ i → i + (q : Int) = p → jrh p b i.toNat = f → jT xs d 170 n0 20 [(4, (0, i)), (3, (0, f)), (0, (4, 0)), (1, (0, p)), (2, (0, b))] [] hs 0 0 (fun k v hsN => k = 0 ∧ v = (0, jrh p b p.toNat) ∧ hsN = hs) := by
  intro q
  induction q with
  | zero =>
    intro i f h0 hi hf
    have h_i : i = p := by omega
    have h_f := jrh_b (p := p) (b := b) (n := i.toNat)
    rw [hf] at h_f
    have g_0 : 0 ≤ i - p := by omega
    refine jT_xiload (v := (0, i)) (pcN := 22) jIC_170_20 rfl rfl rfl ?_
    refine jT_xiload_n (v := (0, p)) (pcN := 23) jIC_170_22 rfl rfl rfl ?_
    refine jT_icT (a := i) (b := p) (t := 49) (by rfl) (by rfl) (by rfl) (jw_idd (by omega) (by omega)) (jw_idd (by omega) (by omega)) (by simp only [jcP] <;> omega) ?_
    refine jT_xiload_n (v := (0, f)) (pcN := 50) jIC_170_49 rfl rfl rfl ?_
    exact jT_ret rfl (by decide) hn (by omega) (by omega) ⟨rfl, by rw [← hf, h_i], rfl⟩
  | succ q ih =>
    intro i f h0 hi hf
    have h_i : 0 ≤ i ∧ i ≤ 29 := by omega
    have h_f := jrh_b (p := p) (b := b) (n := i.toNat)
    rw [hf] at h_f
    have g_0 : i - p < 0 := by omega
    rcases (show (0 ≤ ((i * b).tmod p) - b) ∨ (((i * b).tmod p) - b < 0) by omega) with g_1 | g_1
    · refine jT_xiload (v := (0, i)) (pcN := 22) jIC_170_20 rfl rfl rfl ?_
      refine jT_xiload_n (v := (0, p)) (pcN := 23) jIC_170_22 rfl rfl rfl ?_
      refine jT_icF (a := i) (b := p) (t := 49) (by rfl) (by rfl) (by rfl) (jw_idd (by omega) (by omega)) (jw_idd (by omega) (by omega)) (by simp only [jcP] <;> omega) ?_
      refine jT_xiload (v := (0, i)) (pcN := 28) jIC_170_26 rfl rfl rfl ?_
      refine jT_xiload_n (v := (0, b)) (pcN := 29) jIC_170_28 rfl rfl rfl ?_
      refine jT_ximul (x := i) (y := b) (z := i * b) (pcN := 30) jIC_170_29 rfl rfl rfl ?_
      have hb_q1 := jmul_b (x := i) (y := b) (m := 29) (n := 30) (by omega) (by omega) (by omega) (by omega)
      have hb_q1 : 0 ≤ i * b ∧ i * b ≤ 870 := ⟨hb_q1.1, by omega⟩
      generalize hq_q1 : i * b = q1 at hb_q1 g_1 ⊢
      refine jT_xiload_n (v := (0, p)) (pcN := 31) jIC_170_30 rfl rfl rfl ?_
      refine jT_irem (a := q1) (b := p) (by rfl) (by rfl) (jw_idd (by omega) (by omega)) (jw_idd (by omega) (by omega)) (by omega) ?_
      have hb_q2 := jtm_b (x := q1) (y := p) (by omega) (by omega)
      have hb_q2 : 0 ≤ q1.tmod p ∧ q1.tmod p ≤ 29 := ⟨hb_q2.1, by omega⟩
      generalize hq_q2 : q1.tmod p = q2 at hb_q2 g_1 ⊢
      refine jT_xiload_n (v := (0, b)) (pcN := 33) jIC_170_32 rfl rfl rfl ?_
      refine jT_icT (a := q2) (b := b) (t := 43) (by rfl) (by rfl) (by rfl) (jw_idd (by omega) (by omega)) (jw_idd (by omega) (by omega)) (by simp only [jcP] <;> omega) ?_
      refine jT_xiinc (x := i) (z := i + 1) (LN := [(4, (0, i + 1)), (3, (0, f)), (0, (4, 0)), (1, (0, p)), (2, (0, b))]) (pcN := 46) jIC_170_43 rfl rfl (rfl) rfl rfl ?_
      refine jT_xgoto (pcN := 20) jIC_170_46 rfl ?_
      exact ih (i + 1) f (by omega) (by omega) (by rw [jrh_s0 (by omega) (by rw [hq_q1, hq_q2]; omega), hf])
    · refine jT_xiload (v := (0, i)) (pcN := 22) jIC_170_20 rfl rfl rfl ?_
      refine jT_xiload_n (v := (0, p)) (pcN := 23) jIC_170_22 rfl rfl rfl ?_
      refine jT_icF (a := i) (b := p) (t := 49) (by rfl) (by rfl) (by rfl) (jw_idd (by omega) (by omega)) (jw_idd (by omega) (by omega)) (by simp only [jcP] <;> omega) ?_
      refine jT_xiload (v := (0, i)) (pcN := 28) jIC_170_26 rfl rfl rfl ?_
      refine jT_xiload_n (v := (0, b)) (pcN := 29) jIC_170_28 rfl rfl rfl ?_
      refine jT_ximul (x := i) (y := b) (z := i * b) (pcN := 30) jIC_170_29 rfl rfl rfl ?_
      have hb_q1 := jmul_b (x := i) (y := b) (m := 29) (n := 30) (by omega) (by omega) (by omega) (by omega)
      have hb_q1 : 0 ≤ i * b ∧ i * b ≤ 870 := ⟨hb_q1.1, by omega⟩
      generalize hq_q1 : i * b = q1 at hb_q1 g_1 ⊢
      refine jT_xiload_n (v := (0, p)) (pcN := 31) jIC_170_30 rfl rfl rfl ?_
      refine jT_irem (a := q1) (b := p) (by rfl) (by rfl) (jw_idd (by omega) (by omega)) (jw_idd (by omega) (by omega)) (by omega) ?_
      have hb_q2 := jtm_b (x := q1) (y := p) (by omega) (by omega)
      have hb_q2 : 0 ≤ q1.tmod p ∧ q1.tmod p ≤ 29 := ⟨hb_q2.1, by omega⟩
      generalize hq_q2 : q1.tmod p = q2 at hb_q2 g_1 ⊢
      refine jT_xiload_n (v := (0, b)) (pcN := 33) jIC_170_32 rfl rfl rfl ?_
      refine jT_icF (a := q2) (b := b) (t := 43) (by rfl) (by rfl) (by rfl) (jw_idd (by omega) (by omega)) (jw_idd (by omega) (by omega)) (by simp only [jcP] <;> omega) ?_
      refine jT_xiload_n (v := (0, f)) (pcN := 37) jIC_170_36 rfl rfl rfl ?_
      refine jT_xiconst (k := 1) (pcN := 38) jIC_170_37 rfl ?_
      refine jT_xiload (v := (0, i)) (pcN := 40) jIC_170_38 rfl rfl rfl ?_
      refine jT_ishl (x := 1) (y := i) (z := (Int32.ofInt 1 <<< (Int32.ofInt i &&& 31)).toInt) (by rfl) (by rfl) rfl ?_
      have hb_q3 : (-2147483648) ≤ (Int32.ofInt 1 <<< (Int32.ofInt i &&& 31)).toInt ∧ (Int32.ofInt 1 <<< (Int32.ofInt i &&& 31)).toInt ≤ 2147483647 := ⟨Int32.le_toInt _, Int.le_of_lt_add_one (Int32.toInt_lt _)⟩
      generalize hq_q3 : (Int32.ofInt 1 <<< (Int32.ofInt i &&& 31)).toInt = q3 at hb_q3 ⊢
      refine jT_ior (x := f) (y := q3) (z := (Int32.ofInt f ||| Int32.ofInt q3).toInt) (by rfl) (by rfl) rfl ?_
      have hb_q4 : (-2147483648) ≤ (Int32.ofInt f ||| Int32.ofInt q3).toInt ∧ (Int32.ofInt f ||| Int32.ofInt q3).toInt ≤ 2147483647 := ⟨Int32.le_toInt _, Int.le_of_lt_add_one (Int32.toInt_lt _)⟩
      generalize hq_q4 : (Int32.ofInt f ||| Int32.ofInt q3).toInt = q4 at hb_q4 ⊢
      refine jT_xistore_n (v := (0, q4)) (LN := [(3, (0, q4)), (4, (0, i)), (0, (4, 0)), (1, (0, p)), (2, (0, b))]) (pcN := 43) jIC_170_42 rfl rfl rfl rfl ?_
      refine jT_xiinc (x := i) (z := i + 1) (LN := [(4, (0, i + 1)), (3, (0, q4)), (0, (4, 0)), (1, (0, p)), (2, (0, b))]) (pcN := 46) jIC_170_43 rfl rfl (rfl) rfl rfl ?_
      refine jT_xgoto (pcN := 20) jIC_170_46 rfl ?_
      exact ih (i + 1) q4 (by omega) (by omega) (by rw [jrh_s1 (by omega) (by rw [hq_q1, hq_q2]; omega), hf, hq_q3, hq_q4])
theorem jT_rh313 {xs : List Int} {d : Nat} {p b : Int} {hs : List JC} {n0 : Nat} (hn : n0 ≤ hs.length) (h_p : 1 ≤ p ∧ p ≤ 30) (h_b : 0 ≤ b ∧ b ≤ 30) : ∀ (q : Nat) (i f : Int), 0 ≤ i → i + (q : Int) = p → jrh p b i.toNat = f → jT xs d 313 n0 42 [(4, (0, i)), (3, (0, f)), (0, (4, 0)), (1, (0, p)), (2, (0, b))] [] hs 0 0 (fun k v hsN => k = 0 ∧ v = (0, jrh p b p.toNat) ∧ hsN = hs) := by
  intro q
  induction q with
  | zero =>
    intro i f h0 hi hf
    have h_i : i = p := by omega
    have h_f := jrh_b (p := p) (b := b) (n := i.toNat)
    rw [hf] at h_f
    have g_0 : 0 ≤ i - p := by omega
    refine jT_xiload (v := (0, i)) (pcN := 44) jIC_313_42 rfl rfl rfl ?_
    refine jT_xiload_n (v := (0, p)) (pcN := 45) jIC_313_44 rfl rfl rfl ?_
    refine jT_icT (a := i) (b := p) (t := 75) (by rfl) (by rfl) (by rfl) (jw_idd (by omega) (by omega)) (jw_idd (by omega) (by omega)) (by simp only [jcP] <;> omega) ?_
    refine jT_xiload_n (v := (0, f)) (pcN := 76) jIC_313_75 rfl rfl rfl ?_
    exact jT_ret rfl (by decide) hn (by omega) (by omega) ⟨rfl, by rw [← hf, h_i], rfl⟩
  | succ q ih =>
    intro i f h0 hi hf
    have h_i : 0 ≤ i ∧ i ≤ 29 := by omega
    have h_f := jrh_b (p := p) (b := b) (n := i.toNat)
    rw [hf] at h_f
    have g_0 : i - p < 0 := by omega
    rcases (show (0 ≤ ((i * b).tmod p) - b) ∨ (((i * b).tmod p) - b < 0) by omega) with g_1 | g_1
    · refine jT_xiload (v := (0, i)) (pcN := 44) jIC_313_42 rfl rfl rfl ?_
      refine jT_xiload_n (v := (0, p)) (pcN := 45) jIC_313_44 rfl rfl rfl ?_
      refine jT_icF (a := i) (b := p) (t := 75) (by rfl) (by rfl) (by rfl) (jw_idd (by omega) (by omega)) (jw_idd (by omega) (by omega)) (by simp only [jcP] <;> omega) ?_
      refine jT_xiload_n (v := (0, f)) (pcN := 49) jIC_313_48 rfl rfl rfl ?_
      refine jT_xiload (v := (0, i)) (pcN := 51) jIC_313_49 rfl rfl rfl ?_
      refine jT_xiload_n (v := (0, b)) (pcN := 52) jIC_313_51 rfl rfl rfl ?_
      refine jT_ximul (x := i) (y := b) (z := i * b) (pcN := 53) jIC_313_52 rfl rfl rfl ?_
      have hb_q1 := jmul_b (x := i) (y := b) (m := 29) (n := 30) (by omega) (by omega) (by omega) (by omega)
      have hb_q1 : 0 ≤ i * b ∧ i * b ≤ 870 := ⟨hb_q1.1, by omega⟩
      generalize hq_q1 : i * b = q1 at hb_q1 g_1 ⊢
      refine jT_xiload_n (v := (0, p)) (pcN := 54) jIC_313_53 rfl rfl rfl ?_
      refine jT_irem (a := q1) (b := p) (by rfl) (by rfl) (jw_idd (by omega) (by omega)) (jw_idd (by omega) (by omega)) (by omega) ?_
      have hb_q2 := jtm_b (x := q1) (y := p) (by omega) (by omega)
      have hb_q2 : 0 ≤ q1.tmod p ∧ q1.tmod p ≤ 29 := ⟨hb_q2.1, by omega⟩
      generalize hq_q2 : q1.tmod p = q2 at hb_q2 g_1 ⊢
      refine jT_xiload_n (v := (0, b)) (pcN := 56) jIC_313_55 rfl rfl rfl ?_
      refine jT_icT (a := q2) (b := b) (t := 66) (by rfl) (by rfl) (by rfl) (jw_idd (by omega) (by omega)) (jw_idd (by omega) (by omega)) (by simp only [jcP] <;> omega) ?_
      refine jT_xiconst (k := 0) (pcN := 67) jIC_313_66 rfl ?_
      refine jT_ior (x := f) (y := 0) (z := (Int32.ofInt f ||| Int32.ofInt 0).toInt) (by rfl) (by rfl) rfl ?_
      have hb_q3 : (-2147483648) ≤ (Int32.ofInt f ||| Int32.ofInt 0).toInt ∧ (Int32.ofInt f ||| Int32.ofInt 0).toInt ≤ 2147483647 := ⟨Int32.le_toInt _, Int.le_of_lt_add_one (Int32.toInt_lt _)⟩
      generalize hq_q3 : (Int32.ofInt f ||| Int32.ofInt 0).toInt = q3 at hb_q3 ⊢
      refine jT_xistore_n (v := (0, q3)) (LN := [(3, (0, q3)), (4, (0, i)), (0, (4, 0)), (1, (0, p)), (2, (0, b))]) (pcN := 69) jIC_313_68 rfl rfl rfl rfl ?_
      refine jT_xiinc (x := i) (z := i + 1) (LN := [(4, (0, i + 1)), (3, (0, q3)), (0, (4, 0)), (1, (0, p)), (2, (0, b))]) (pcN := 72) jIC_313_69 rfl rfl (rfl) rfl rfl ?_
      refine jT_xgoto (pcN := 42) jIC_313_72 rfl ?_
      exact ih (i + 1) q3 (by omega) (by omega) (by rw [jrh_s0 (by omega) (by rw [hq_q1, hq_q2]; omega), hf, ← hq_q3]; exact (jor0 h_f.1 h_f.2).symm)
    · refine jT_xiload (v := (0, i)) (pcN := 44) jIC_313_42 rfl rfl rfl ?_
      refine jT_xiload_n (v := (0, p)) (pcN := 45) jIC_313_44 rfl rfl rfl ?_
      refine jT_icF (a := i) (b := p) (t := 75) (by rfl) (by rfl) (by rfl) (jw_idd (by omega) (by omega)) (jw_idd (by omega) (by omega)) (by simp only [jcP] <;> omega) ?_
      refine jT_xiload_n (v := (0, f)) (pcN := 49) jIC_313_48 rfl rfl rfl ?_
      refine jT_xiload (v := (0, i)) (pcN := 51) jIC_313_49 rfl rfl rfl ?_
      refine jT_xiload_n (v := (0, b)) (pcN := 52) jIC_313_51 rfl rfl rfl ?_
      refine jT_ximul (x := i) (y := b) (z := i * b) (pcN := 53) jIC_313_52 rfl rfl rfl ?_
      have hb_q1 := jmul_b (x := i) (y := b) (m := 29) (n := 30) (by omega) (by omega) (by omega) (by omega)
      have hb_q1 : 0 ≤ i * b ∧ i * b ≤ 870 := ⟨hb_q1.1, by omega⟩
      generalize hq_q1 : i * b = q1 at hb_q1 g_1 ⊢
      refine jT_xiload_n (v := (0, p)) (pcN := 54) jIC_313_53 rfl rfl rfl ?_
      refine jT_irem (a := q1) (b := p) (by rfl) (by rfl) (jw_idd (by omega) (by omega)) (jw_idd (by omega) (by omega)) (by omega) ?_
      have hb_q2 := jtm_b (x := q1) (y := p) (by omega) (by omega)
      have hb_q2 : 0 ≤ q1.tmod p ∧ q1.tmod p ≤ 29 := ⟨hb_q2.1, by omega⟩
      generalize hq_q2 : q1.tmod p = q2 at hb_q2 g_1 ⊢
      refine jT_xiload_n (v := (0, b)) (pcN := 56) jIC_313_55 rfl rfl rfl ?_
      refine jT_icF (a := q2) (b := b) (t := 66) (by rfl) (by rfl) (by rfl) (jw_idd (by omega) (by omega)) (jw_idd (by omega) (by omega)) (by simp only [jcP] <;> omega) ?_
      refine jT_xiconst (k := 1) (pcN := 60) jIC_313_59 rfl ?_
      refine jT_xiload (v := (0, i)) (pcN := 62) jIC_313_60 rfl rfl rfl ?_
      refine jT_ishl (x := 1) (y := i) (z := (Int32.ofInt 1 <<< (Int32.ofInt i &&& 31)).toInt) (by rfl) (by rfl) rfl ?_
      have hb_q3 : (-2147483648) ≤ (Int32.ofInt 1 <<< (Int32.ofInt i &&& 31)).toInt ∧ (Int32.ofInt 1 <<< (Int32.ofInt i &&& 31)).toInt ≤ 2147483647 := ⟨Int32.le_toInt _, Int.le_of_lt_add_one (Int32.toInt_lt _)⟩
      generalize hq_q3 : (Int32.ofInt 1 <<< (Int32.ofInt i &&& 31)).toInt = q3 at hb_q3 ⊢
      refine jT_xgoto (pcN := 67) jIC_313_63 rfl ?_
      refine jT_ior (x := f) (y := q3) (z := (Int32.ofInt f ||| Int32.ofInt q3).toInt) (by rfl) (by rfl) rfl ?_
      have hb_q4 : (-2147483648) ≤ (Int32.ofInt f ||| Int32.ofInt q3).toInt ∧ (Int32.ofInt f ||| Int32.ofInt q3).toInt ≤ 2147483647 := ⟨Int32.le_toInt _, Int.le_of_lt_add_one (Int32.toInt_lt _)⟩
      generalize hq_q4 : (Int32.ofInt f ||| Int32.ofInt q3).toInt = q4 at hb_q4 ⊢
      refine jT_xistore_n (v := (0, q4)) (LN := [(3, (0, q4)), (4, (0, i)), (0, (4, 0)), (1, (0, p)), (2, (0, b))]) (pcN := 69) jIC_313_68 rfl rfl rfl rfl ?_
      refine jT_xiinc (x := i) (z := i + 1) (LN := [(4, (0, i + 1)), (3, (0, q4)), (0, (4, 0)), (1, (0, p)), (2, (0, b))]) (pcN := 72) jIC_313_69 rfl rfl (rfl) rfl rfl ?_
      refine jT_xgoto (pcN := 42) jIC_313_72 rfl ?_
      exact ih (i + 1) q4 (by omega) (by omega) (by rw [jrh_s1 (by omega) (by rw [hq_q1, hq_q2]; omega), hf, hq_q3, hq_q4])
