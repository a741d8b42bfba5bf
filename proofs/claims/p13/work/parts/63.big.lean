/-! the model's long numbers: sums of whole numbers -/
theorem jsg (a : Int) : -1 ≤ a.sign ∧ a.sign ≤ 1 := by
  rcases Int.lt_trichotomy a 0 with h | h | h
  · rw [Int.sign_eq_neg_one_of_neg h]; omega
  · rw [h]; decide
  · rw [Int.sign_eq_one_of_pos h]; omega
theorem jsg0 {a : Int} (h : a ≠ 0) : a.sign ≠ 0 := fun q => h (Int.sign_eq_zero_iff_zero.mp q)
theorem jenc_of {R : Nat} {s v : Int} (hR : R = v.natAbs) (hB : R < 1000000000 ^ 54) (hs : R ≠ 0 → v.sign = s) : ja2 (if jcn R 54 = 0 then 0 else s) ((jcn R 54 : Nat) : Int) (fun k => ((jlm R k : Nat) : Int)) = jenc v := by
  subst hR
  unfold jenc
  congr 1
  by_cases h0 : v.natAbs = 0
  · rw [if_pos ((jcn_iff hB).mpr h0), show v = 0 from Int.natAbs_eq_zero.mp h0]; rfl
  · rw [if_neg (fun q => h0 ((jcn_iff hB).mp q)), hs h0]
theorem jsum_same {a b : Int} (h : a.sign = b.sign) : (((a + b).natAbs : Nat) : Int) = ((a.natAbs : Nat) : Int) + 1 * ((b.natAbs : Nat) : Int) := by
  rcases Int.lt_trichotomy a 0 with h1 | h1 | h1 <;> rcases Int.lt_trichotomy b 0 with h2 | h2 | h2 <;> simp only [h1, h2, Int.sign_eq_neg_one_of_neg, Int.sign_eq_one_of_pos, Int.sign_zero] at h <;> first | omega | exact absurd h (by decide)
theorem jsum_diff {a b : Int} (ha : a ≠ 0) (hb : b ≠ 0) (h : a.sign ≠ b.sign) (hl : b.natAbs ≤ a.natAbs) : (((a + b).natAbs : Nat) : Int) = ((a.natAbs : Nat) : Int) + (-1) * ((b.natAbs : Nat) : Int) := by
  rcases Int.lt_trichotomy a 0 with h1 | h1 | h1 <;> rcases Int.lt_trichotomy b 0 with h2 | h2 | h2 <;> simp only [h1, h2, Int.sign_eq_neg_one_of_neg, Int.sign_eq_one_of_pos, Int.sign_zero, ne_eq, not_true_eq_false] at h ha hb <;> omega
theorem jsum_sign {a b : Int} (hl : b.natAbs ≤ a.natAbs) (h0 : (a + b).natAbs ≠ 0) : (a + b).sign = a.sign := by
  rcases Int.lt_trichotomy a 0 with h1 | h1 | h1
  · rw [Int.sign_eq_neg_one_of_neg h1, Int.sign_eq_neg_one_of_neg (by omega)]
  · omega
  · rw [Int.sign_eq_one_of_pos h1, Int.sign_eq_one_of_pos (by omega)]

theorem jT_added {xs : List Int} {d : Nat} {a b : Int} (ha : a ≠ 0) (hb : b ≠ 0) (hA : a.natAbs < 1000000000 ^ 54) (hB : b.natAbs < 1000000000 ^ 54) (hS : (a + b).natAbs < 1000000000 ^ 54) : jT xs (d + 1) 181 2 0 [(0, (4, 0)), (1, (4, 1))] [] [(100, [], jenc a), (100, [], jenc b)] 1 56 (fun k v hsN => k = 0 ∧ v = (4, 2) ∧ hsN = [(100, [], jenc a), (100, [], jenc b), (100, [], jenc (a + b))]) := by
  have sa := jsg a
  have sb := jsg b
  have sa0 := jsg0 ha
  have sb0 := jsg0 hb
  refine jT_adv 2 (pcN := 2) (LN := [(0, (4, 0)), (1, (4, 1))]) (stN := [(0, 0), (4, 0)]) (hsN := [(100, [], jenc a), (100, [], jenc b)]) (c1 := 0) (s1 := 0) (c2 := 1) (s2 := 56) (by exact rfl) ?_ (by omega) (by omega)
  refine jT_iald (x := a.sign) (a := 0) (j := 0) (fs := []) (X := jenc a) (by rfl) (by rfl) (by rfl) (rfl) (rfl) ?_
  refine jT_ifT (t := 8) (by rfl) (by rfl) (by rfl) (jw_idd (by omega) (by omega)) (by simp only [jcP] <;> omega) ?_
  refine jT_adv 2 (pcN := 10) (LN := [(0, (4, 0)), (1, (4, 1))]) (stN := [(0, 0), (4, 1)]) (hsN := [(100, [], jenc a), (100, [], jenc b)]) (c1 := 0) (s1 := 0) (c2 := 1) (s2 := 56) (by exact rfl) ?_ (by omega) (by omega)
  refine jT_iald (x := b.sign) (a := 1) (j := 0) (fs := []) (X := jenc b) (by rfl) (by rfl) (by rfl) (rfl) (rfl) ?_
  refine jT_ifT (t := 16) (by rfl) (by rfl) (by rfl) (jw_idd (by omega) (by omega)) (by simp only [jcP] <;> omega) ?_
  refine jT_adv 2 (pcN := 18) (LN := [(0, (4, 0)), (1, (4, 1))]) (stN := [(4, 1), (4, 0)]) (hsN := [(100, [], jenc a), (100, [], jenc b)]) (c1 := 0) (s1 := 0) (c2 := 1) (s2 := 56) (by exact rfl) ?_ (by omega) (by omega)
  refine jT_call [0, 1] (y := 182) (pcN := 21) (dC := 0) (bc1 := 0) (bc2 := 0) (c1 := 1) (c2 := 56) (as := [(4, 0), (4, 1)]) (asC := [(4, 0), (4, 1)]) (LN := [(0, (4, 0)), (1, (4, 1))]) (stN := []) (hsC := [(100, [], jenc a), (100, [], jenc b)]) (jT_cmp (d := 0) (s0 := a.sign) (t0 := b.sign) hA hB) (by rfl) (by rfl) (by rfl) (by rfl) (⟨rfl, rfl, trivial⟩) (by rfl) (by rfl) (by omega) (by show 2 ≤ 2; omega) (by omega) (by omega) ?_ (fun _ _ hq => absurd hq.1 (by decide))
  rintro v hsN ⟨-, rfl, r, rfl, hr1, hr2, hr3, hr4⟩
  refine jT_eq (LN := [(0, (4, 0)), (1, (4, 1))]) (stN := [(0, r)]) (hsN := [(100, [], jenc a), (100, [], jenc b)]) rfl (rfl) (rfl) ?_
  by_cases c1 : r < 0
  · refine jT_ifT (t := 28) (by rfl) (by rfl) (by rfl) (jw_idd (by omega) (by omega)) (by simp only [jcP] <;> omega) ?_
    refine jT_adv 12 (pcN := 53) (LN := [(4, (4, 0)), (3, (4, 1)), (2, (0, 0)), (0, (4, 0)), (1, (4, 1))]) (stN := [(0, 0), (4, 1)]) (hsN := [(100, [], jenc a), (100, [], jenc b)]) (c1 := 0) (s1 := 0) (c2 := 1) (s2 := 56) (by exact rfl) ?_ (by omega) (by omega)
    refine jT_iald (x := b.sign) (a := 1) (j := 0) (fs := []) (X := jenc b) (by rfl) (by rfl) (by rfl) (rfl) (rfl) ?_
    refine jT_adv 2 (pcN := 57) (LN := [(4, (4, 0)), (3, (4, 1)), (2, (0, 0)), (0, (4, 0)), (1, (4, 1))]) (stN := [(0, 0), (4, 0), (0, b.sign)]) (hsN := [(100, [], jenc a), (100, [], jenc b)]) (c1 := 0) (s1 := 0) (c2 := 1) (s2 := 56) (by exact rfl) ?_ (by omega) (by omega)
    refine jT_iald (x := a.sign) (a := 0) (j := 0) (fs := []) (X := jenc a) (by rfl) (by rfl) (by rfl) (rfl) (rfl) ?_
    by_cases c2 : b.sign = a.sign
    · refine jT_icF (t := 65) (by rfl) (by rfl) (by rfl) (jw_idd (by omega) (by omega)) (jw_idd (by omega) (by omega)) (by simp only [jcP] <;> omega) ?_
      refine jT_adv 10 (pcN := 80) (LN := [(8, (0, 2)), (7, (0, 0)), (6, (4, 2)), (5, (0, 1)), (4, (4, 0)), (3, (4, 1)), (2, (0, 0)), (0, (4, 0)), (1, (4, 1))]) (stN := []) (hsN := [(100, [], jenc a), (100, [], jenc b), (100, [], List.replicate 56 0)]) (c1 := 1) (s1 := 56) (c2 := 0) (s2 := 0) (by exact rfl) ?_ (by omega) (by omega)
      refine jT_loc (LN := [(7, (0, 0)), (8, (0, 2)), (6, (4, 2)), (5, (0, 1)), (4, (4, 0)), (3, (4, 1))]) (by show List.Nodup [7, 8, 6, 5, 4, 3]; decide) (by intro q hq; simp only [List.mem_cons, List.not_mem_nil, or_false] at hq; rcases hq with rfl | rfl | rfl | rfl | rfl | rfl <;> rfl) ?_
      refine jT_eq (LN := [(7, (0, jq b.natAbs a.natAbs 1 0)), (8, (0, ((0 + 2 : Nat) : Int))), (6, (4, 2)), (5, (0, 1)), (4, (4, 0)), (3, (4, 1))]) (stN := []) (hsN := [(100, [], jenc a), (100, [], jenc b), (100, [], ja2 0 0 (fun j => if j < 0 then ((jlm (a + b).natAbs j : Nat) : Int) else 0))]) (by rw [jq_0]; rfl) rfl (by rw [jrep56]; rfl) ?_
      refine jT.mono (jT_add_r (d := d) (s0 := b.sign) (t0 := a.sign) (N := b.natAbs) (P := a.natAbs) (R := (a + b).natAbs) (e := 1) (Or.inl rfl) (by rw [Int.add_comm a b]; exact jsum_same c2) 54 0 rfl) (Nat.le_refl _) (Nat.le_refl _) (Nat.le_refl _) (fun k v hsN hq => ⟨hq.1, hq.2.1, ?_⟩)
      rw [hq.2.2, jenc_of (R := (a + b).natAbs) (s := b.sign) (v := a + b) rfl hS (fun h0 => by rw [Int.add_comm a b] at h0 ⊢; exact jsum_sign (by omega) h0)]
      rfl
    · refine jT_icT (t := 65) (by rfl) (by rfl) (by rfl) (jw_idd (by omega) (by omega)) (jw_idd (by omega) (by omega)) (by simp only [jcP] <;> omega) ?_
      refine jT_adv 9 (pcN := 80) (LN := [(8, (0, 2)), (7, (0, 0)), (6, (4, 2)), (5, (0, (-1))), (4, (4, 0)), (3, (4, 1)), (2, (0, 0)), (0, (4, 0)), (1, (4, 1))]) (stN := []) (hsN := [(100, [], jenc a), (100, [], jenc b), (100, [], List.replicate 56 0)]) (c1 := 1) (s1 := 56) (c2 := 0) (s2 := 0) (by exact rfl) ?_ (by omega) (by omega)
      refine jT_loc (LN := [(7, (0, 0)), (8, (0, 2)), (6, (4, 2)), (5, (0, (-1))), (4, (4, 0)), (3, (4, 1))]) (by show List.Nodup [7, 8, 6, 5, 4, 3]; decide) (by intro q hq; simp only [List.mem_cons, List.not_mem_nil, or_false] at hq; rcases hq with rfl | rfl | rfl | rfl | rfl | rfl <;> rfl) ?_
      refine jT_eq (LN := [(7, (0, jq b.natAbs a.natAbs (-1) 0)), (8, (0, ((0 + 2 : Nat) : Int))), (6, (4, 2)), (5, (0, (-1))), (4, (4, 0)), (3, (4, 1))]) (stN := []) (hsN := [(100, [], jenc a), (100, [], jenc b), (100, [], ja2 0 0 (fun j => if j < 0 then ((jlm (a + b).natAbs j : Nat) : Int) else 0))]) (by rw [jq_0]; rfl) rfl (by rw [jrep56]; rfl) ?_
      refine jT.mono (jT_add_r (d := d) (s0 := b.sign) (t0 := a.sign) (N := b.natAbs) (P := a.natAbs) (R := (a + b).natAbs) (e := (-1)) (Or.inr rfl) (by rw [Int.add_comm a b]; exact jsum_diff hb ha c2 (by omega)) 54 0 rfl) (Nat.le_refl _) (Nat.le_refl _) (Nat.le_refl _) (fun k v hsN hq => ⟨hq.1, hq.2.1, ?_⟩)
      rw [hq.2.2, jenc_of (R := (a + b).natAbs) (s := b.sign) (v := a + b) rfl hS (fun h0 => by rw [Int.add_comm a b] at h0 ⊢; exact jsum_sign (by omega) h0)]
      rfl
  · refine jT_ifF (t := 28) (by rfl) (by rfl) (by rfl) (jw_idd (by omega) (by omega)) (by simp only [jcP] <;> omega) ?_
    refine jT_adv 15 (pcN := 53) (LN := [(4, (4, 1)), (3, (4, 0)), (2, (0, 1)), (0, (4, 0)), (1, (4, 1))]) (stN := [(0, 0), (4, 0)]) (hsN := [(100, [], jenc a), (100, [], jenc b)]) (c1 := 0) (s1 := 0) (c2 := 1) (s2 := 56) (by exact rfl) ?_ (by omega) (by omega)
    refine jT_iald (x := a.sign) (a := 0) (j := 0) (fs := []) (X := jenc a) (by rfl) (by rfl) (by rfl) (rfl) (rfl) ?_
    refine jT_adv 2 (pcN := 57) (LN := [(4, (4, 1)), (3, (4, 0)), (2, (0, 1)), (0, (4, 0)), (1, (4, 1))]) (stN := [(0, 0), (4, 1), (0, a.sign)]) (hsN := [(100, [], jenc a), (100, [], jenc b)]) (c1 := 0) (s1 := 0) (c2 := 1) (s2 := 56) (by exact rfl) ?_ (by omega) (by omega)
    refine jT_iald (x := b.sign) (a := 1) (j := 0) (fs := []) (X := jenc b) (by rfl) (by rfl) (by rfl) (rfl) (rfl) ?_
    by_cases c2 : a.sign = b.sign
    · refine jT_icF (t := 65) (by rfl) (by rfl) (by rfl) (jw_idd (by omega) (by omega)) (jw_idd (by omega) (by omega)) (by simp only [jcP] <;> omega) ?_
      refine jT_adv 10 (pcN := 80) (LN := [(8, (0, 2)), (7, (0, 0)), (6, (4, 2)), (5, (0, 1)), (4, (4, 1)), (3, (4, 0)), (2, (0, 1)), (0, (4, 0)), (1, (4, 1))]) (stN := []) (hsN := [(100, [], jenc a), (100, [], jenc b), (100, [], List.replicate 56 0)]) (c1 := 1) (s1 := 56) (c2 := 0) (s2 := 0) (by exact rfl) ?_ (by omega) (by omega)
      refine jT_loc (LN := [(7, (0, 0)), (8, (0, 2)), (6, (4, 2)), (5, (0, 1)), (4, (4, 1)), (3, (4, 0))]) (by show List.Nodup [7, 8, 6, 5, 4, 3]; decide) (by intro q hq; simp only [List.mem_cons, List.not_mem_nil, or_false] at hq; rcases hq with rfl | rfl | rfl | rfl | rfl | rfl <;> rfl) ?_
      refine jT_eq (LN := [(7, (0, jq a.natAbs b.natAbs 1 0)), (8, (0, ((0 + 2 : Nat) : Int))), (6, (4, 2)), (5, (0, 1)), (4, (4, 1)), (3, (4, 0))]) (stN := []) (hsN := [(100, [], jenc a), (100, [], jenc b), (100, [], ja2 0 0 (fun j => if j < 0 then ((jlm (a + b).natAbs j : Nat) : Int) else 0))]) (by rw [jq_0]; rfl) rfl (by rw [jrep56]; rfl) ?_
      refine jT.mono (jT_add_l (d := d) (s0 := a.sign) (t0 := b.sign) (N := a.natAbs) (P := b.natAbs) (R := (a + b).natAbs) (e := 1) (Or.inl rfl) (jsum_same c2) 54 0 rfl) (Nat.le_refl _) (Nat.le_refl _) (Nat.le_refl _) (fun k v hsN hq => ⟨hq.1, hq.2.1, ?_⟩)
      rw [hq.2.2, jenc_of (R := (a + b).natAbs) (s := a.sign) (v := a + b) rfl hS (fun h0 => jsum_sign (by omega) h0)]
      rfl
    · refine jT_icT (t := 65) (by rfl) (by rfl) (by rfl) (jw_idd (by omega) (by omega)) (jw_idd (by omega) (by omega)) (by simp only [jcP] <;> omega) ?_
      refine jT_adv 9 (pcN := 80) (LN := [(8, (0, 2)), (7, (0, 0)), (6, (4, 2)), (5, (0, (-1))), (4, (4, 1)), (3, (4, 0)), (2, (0, 1)), (0, (4, 0)), (1, (4, 1))]) (stN := []) (hsN := [(100, [], jenc a), (100, [], jenc b), (100, [], List.replicate 56 0)]) (c1 := 1) (s1 := 56) (c2 := 0) (s2 := 0) (by exact rfl) ?_ (by omega) (by omega)
      refine jT_loc (LN := [(7, (0, 0)), (8, (0, 2)), (6, (4, 2)), (5, (0, (-1))), (4, (4, 1)), (3, (4, 0))]) (by show List.Nodup [7, 8, 6, 5, 4, 3]; decide) (by intro q hq; simp only [List.mem_cons, List.not_mem_nil, or_false] at hq; rcases hq with rfl | rfl | rfl | rfl | rfl | rfl <;> rfl) ?_
      refine jT_eq (LN := [(7, (0, jq a.natAbs b.natAbs (-1) 0)), (8, (0, ((0 + 2 : Nat) : Int))), (6, (4, 2)), (5, (0, (-1))), (4, (4, 1)), (3, (4, 0))]) (stN := []) (hsN := [(100, [], jenc a), (100, [], jenc b), (100, [], ja2 0 0 (fun j => if j < 0 then ((jlm (a + b).natAbs j : Nat) : Int) else 0))]) (by rw [jq_0]; rfl) rfl (by rw [jrep56]; rfl) ?_
      refine jT.mono (jT_add_l (d := d) (s0 := a.sign) (t0 := b.sign) (N := a.natAbs) (P := b.natAbs) (R := (a + b).natAbs) (e := (-1)) (Or.inr rfl) (jsum_diff ha hb c2 (by omega)) 54 0 rfl) (Nat.le_refl _) (Nat.le_refl _) (Nat.le_refl _) (fun k v hsN hq => ⟨hq.1, hq.2.1, ?_⟩)
      rw [hq.2.2, jenc_of (R := (a + b).natAbs) (s := a.sign) (v := a + b) rfl hS (fun h0 => jsum_sign (by omega) h0)]
      rfl
theorem jT_added1 {xs : List Int} {d : Nat} {a : Int} (ha : a ≠ 0) (hA : a.natAbs < 1000000000 ^ 54) (hS : (a + a).natAbs < 1000000000 ^ 54) : jT xs (d + 1) 181 1 0 [(0, (4, 0)), (1, (4, 0))] [] [(100, [], jenc a)] 1 56 (fun k v hsN => k = 0 ∧ v = (4, 1) ∧ hsN = [(100, [], jenc a), (100, [], jenc (a + a))]) := by
  have sa := jsg a
  have sa0 := jsg0 ha
  refine jT_adv 2 (pcN := 2) (LN := [(0, (4, 0)), (1, (4, 0))]) (stN := [(0, 0), (4, 0)]) (hsN := [(100, [], jenc a)]) (c1 := 0) (s1 := 0) (c2 := 1) (s2 := 56) (by exact rfl) ?_ (by omega) (by omega)
  refine jT_iald (x := a.sign) (a := 0) (j := 0) (fs := []) (X := jenc a) (by rfl) (by rfl) (by rfl) (rfl) (rfl) ?_
  refine jT_ifT (t := 8) (by rfl) (by rfl) (by rfl) (jw_idd (by omega) (by omega)) (by simp only [jcP] <;> omega) ?_
  refine jT_adv 2 (pcN := 10) (LN := [(0, (4, 0)), (1, (4, 0))]) (stN := [(0, 0), (4, 0)]) (hsN := [(100, [], jenc a)]) (c1 := 0) (s1 := 0) (c2 := 1) (s2 := 56) (by exact rfl) ?_ (by omega) (by omega)
  refine jT_iald (x := a.sign) (a := 0) (j := 0) (fs := []) (X := jenc a) (by rfl) (by rfl) (by rfl) (rfl) (rfl) ?_
  refine jT_ifT (t := 16) (by rfl) (by rfl) (by rfl) (jw_idd (by omega) (by omega)) (by simp only [jcP] <;> omega) ?_
  refine jT_adv 2 (pcN := 18) (LN := [(0, (4, 0)), (1, (4, 0))]) (stN := [(4, 0), (4, 0)]) (hsN := [(100, [], jenc a)]) (c1 := 0) (s1 := 0) (c2 := 1) (s2 := 56) (by exact rfl) ?_ (by omega) (by omega)
  refine jT_call [0] (y := 182) (pcN := 21) (dC := 0) (bc1 := 0) (bc2 := 0) (c1 := 1) (c2 := 56) (as := [(4, 0), (4, 0)]) (asC := [(4, 0), (4, 0)]) (LN := [(0, (4, 0)), (1, (4, 0))]) (stN := []) (hsC := [(100, [], jenc a)]) (jT_cmp1 (d := 0) (n := a.natAbs) (s0 := a.sign)) (by rfl) (by rfl) (by rfl) (by rfl) (⟨rfl, trivial⟩) (by rfl) (by rfl) (by omega) (by show 1 ≤ 1; omega) (by omega) (by omega) ?_ (fun _ _ hq => absurd hq.1 (by decide))
  rintro v hsN ⟨-, rfl, r, rfl, hr1, hr2, hr3, hr4⟩
  refine jT_eq (LN := [(0, (4, 0)), (1, (4, 0))]) (stN := [(0, r)]) (hsN := [(100, [], jenc a)]) rfl (rfl) (rfl) ?_
  refine jT_ifF (t := 28) (by rfl) (by rfl) (by rfl) (jw_idd (by omega) (by omega)) (by simp only [jcP] <;> omega) ?_
  refine jT_adv 15 (pcN := 53) (LN := [(4, (4, 0)), (3, (4, 0)), (2, (0, 1)), (0, (4, 0)), (1, (4, 0))]) (stN := [(0, 0), (4, 0)]) (hsN := [(100, [], jenc a)]) (c1 := 0) (s1 := 0) (c2 := 1) (s2 := 56) (by exact rfl) ?_ (by omega) (by omega)
  refine jT_iald (x := a.sign) (a := 0) (j := 0) (fs := []) (X := jenc a) (by rfl) (by rfl) (by rfl) (rfl) (rfl) ?_
  refine jT_adv 2 (pcN := 57) (LN := [(4, (4, 0)), (3, (4, 0)), (2, (0, 1)), (0, (4, 0)), (1, (4, 0))]) (stN := [(0, 0), (4, 0), (0, a.sign)]) (hsN := [(100, [], jenc a)]) (c1 := 0) (s1 := 0) (c2 := 1) (s2 := 56) (by exact rfl) ?_ (by omega) (by omega)
  refine jT_iald (x := a.sign) (a := 0) (j := 0) (fs := []) (X := jenc a) (by rfl) (by rfl) (by rfl) (rfl) (rfl) ?_
  refine jT_icF (t := 65) (by rfl) (by rfl) (by rfl) (jw_idd (by omega) (by omega)) (jw_idd (by omega) (by omega)) (by intro q; exact absurd rfl (show ¬ _ = _ from q)) ?_
  refine jT_adv 10 (pcN := 80) (LN := [(8, (0, 2)), (7, (0, 0)), (6, (4, 1)), (5, (0, 1)), (4, (4, 0)), (3, (4, 0)), (2, (0, 1)), (0, (4, 0)), (1, (4, 0))]) (stN := []) (hsN := [(100, [], jenc a), (100, [], List.replicate 56 0)]) (c1 := 1) (s1 := 56) (c2 := 0) (s2 := 0) (by exact rfl) ?_ (by omega) (by omega)
  refine jT_loc (LN := [(7, (0, 0)), (8, (0, 2)), (6, (4, 1)), (5, (0, 1)), (4, (4, 0)), (3, (4, 0))]) (by show List.Nodup [7, 8, 6, 5, 4, 3]; decide) (by intro q hq; simp only [List.mem_cons, List.not_mem_nil, or_false] at hq; rcases hq with rfl | rfl | rfl | rfl | rfl | rfl <;> rfl) ?_
  refine jT_eq (LN := [(7, (0, jq a.natAbs a.natAbs 1 0)), (8, (0, ((0 + 2 : Nat) : Int))), (6, (4, 1)), (5, (0, 1)), (4, (4, 0)), (3, (4, 0))]) (stN := []) (hsN := [(100, [], jenc a), (100, [], ja2 0 0 (fun j => if j < 0 then ((jlm (a + a).natAbs j : Nat) : Int) else 0))]) (by rw [jq_0]; rfl) rfl (by rw [jrep56]; rfl) ?_
  refine jT.mono (jT_add_s (d := d) (s0 := a.sign) (N := a.natAbs) (R := (a + a).natAbs) (e := 1) (Or.inl rfl) (jsum_same rfl) 54 0 rfl) (Nat.le_refl _) (Nat.le_refl _) (Nat.le_refl _) (fun k v hsN hq => ⟨hq.1, hq.2.1, ?_⟩)
  rw [hq.2.2, jenc_of (R := (a + a).natAbs) (s := a.sign) (v := a + a) rfl hS (fun h0 => jsum_sign (Nat.le_refl _) h0)]
  rfl
theorem jT_added_0l {xs : List Int} {d : Nat} {b : Int} : jT xs d 181 2 0 [(0, (4, 0)), (1, (4, 1))] [] [(100, [], jenc 0), (100, [], jenc b)] 0 0 (fun k v hsN => k = 0 ∧ v = (4, 1) ∧ hsN = [(100, [], jenc 0), (100, [], jenc b)]) := by
  refine jT_adv 2 (pcN := 2) (LN := [(0, (4, 0)), (1, (4, 1))]) (stN := [(0, 0), (4, 0)]) (hsN := [(100, [], jenc 0), (100, [], jenc b)]) (c1 := 0) (s1 := 0) (c2 := 0) (s2 := 0) (by exact rfl) ?_ (by omega) (by omega)
  refine jT_iald (x := 0) (a := 0) (j := 0) (fs := []) (X := jenc 0) (by rfl) (by rfl) (by rfl) (rfl) (rfl) ?_
  refine jT_adv 2 (pcN := 7) (LN := [(0, (4, 0)), (1, (4, 1))]) (stN := [(4, 1)]) (hsN := [(100, [], jenc 0), (100, [], jenc b)]) (c1 := 0) (s1 := 0) (c2 := 0) (s2 := 0) (by exact rfl) ?_ (by omega) (by omega)
  exact jT_ret rfl (by decide) (by show 2 ≤ 2; decide) (by omega) (by omega) ⟨rfl, rfl, rfl⟩
theorem jT_added_0r {xs : List Int} {d : Nat} {a : Int} (ha : a ≠ 0) : jT xs d 181 2 0 [(0, (4, 0)), (1, (4, 1))] [] [(100, [], jenc a), (100, [], jenc 0)] 0 0 (fun k v hsN => k = 0 ∧ v = (4, 0) ∧ hsN = [(100, [], jenc a), (100, [], jenc 0)]) := by
  have sa := jsg a
  have sa0 := jsg0 ha
  refine jT_adv 2 (pcN := 2) (LN := [(0, (4, 0)), (1, (4, 1))]) (stN := [(0, 0), (4, 0)]) (hsN := [(100, [], jenc a), (100, [], jenc 0)]) (c1 := 0) (s1 := 0) (c2 := 0) (s2 := 0) (by exact rfl) ?_ (by omega) (by omega)
  refine jT_iald (x := a.sign) (a := 0) (j := 0) (fs := []) (X := jenc a) (by rfl) (by rfl) (by rfl) (rfl) (rfl) ?_
  refine jT_ifT (t := 8) (by rfl) (by rfl) (by rfl) (jw_idd (by omega) (by omega)) (by simp only [jcP] <;> omega) ?_
  refine jT_adv 2 (pcN := 10) (LN := [(0, (4, 0)), (1, (4, 1))]) (stN := [(0, 0), (4, 1)]) (hsN := [(100, [], jenc a), (100, [], jenc 0)]) (c1 := 0) (s1 := 0) (c2 := 0) (s2 := 0) (by exact rfl) ?_ (by omega) (by omega)
  refine jT_iald (x := 0) (a := 1) (j := 0) (fs := []) (X := jenc 0) (by rfl) (by rfl) (by rfl) (rfl) (rfl) ?_
  refine jT_adv 2 (pcN := 15) (LN := [(0, (4, 0)), (1, (4, 1))]) (stN := [(4, 0)]) (hsN := [(100, [], jenc a), (100, [], jenc 0)]) (c1 := 0) (s1 := 0) (c2 := 0) (s2 := 0) (by exact rfl) ?_ (by omega) (by omega)
  exact jT_ret rfl (by decide) (by show 2 ≤ 2; decide) (by omega) (by omega) ⟨rfl, rfl, rfl⟩
theorem jT_doubled {xs : List Int} {d : Nat} {a : Int} (ha : a ≠ 0) (hA : a.natAbs < 1000000000 ^ 54) (hS : (a + a).natAbs < 1000000000 ^ 54) : jT xs (d + 2) 183 1 0 [(0, (4, 0))] [] [(100, [], jenc a)] 1 56 (fun k v hsN => k = 0 ∧ v = (4, 1) ∧ hsN = [(100, [], jenc a), (100, [], jenc (a + a))]) := by
  refine jT_adv 2 (pcN := 2) (LN := [(0, (4, 0))]) (stN := [(4, 0), (4, 0)]) (hsN := [(100, [], jenc a)]) (c1 := 0) (s1 := 0) (c2 := 1) (s2 := 56) (by exact rfl) ?_ (by omega) (by omega)
  refine jT_call [0] (y := 181) (pcN := 5) (dC := 1) (bc1 := 1) (bc2 := 56) (c1 := 0) (c2 := 0) (as := [(4, 0), (4, 0)]) (asC := [(4, 0), (4, 0)]) (LN := [(0, (4, 0))]) (stN := []) (hsC := [(100, [], jenc a)]) (jT_added1 (d := 0) ha hA hS) (by rfl) (by rfl) (by rfl) (by rfl) (⟨rfl, trivial⟩) (by rfl) (by rfl) (by omega) (by show 1 ≤ 1; omega) (by omega) (by omega) ?_ (fun _ _ hq => absurd hq.1 (by decide))
  rintro v hsN ⟨-, rfl, rfl⟩
  refine jT_eq (LN := [(0, (4, 0))]) (stN := [(4, 1)]) (hsN := [(100, [], jenc a), (100, [], jenc (a + a))]) rfl (rfl) (rfl) ?_
  exact jT_ret rfl (by decide) (by show 1 ≤ 2; decide) (by omega) (by omega) ⟨rfl, rfl, rfl⟩
theorem jT_div {xs : List Int} {d b : Nat} {a : Int} (hA : a.natAbs < 1000000000 ^ 54) (hb : 0 < b) (hb2 : b < 2147483648) : jT xs (d + 1) 180 1 0 [(0, (4, 0)), (1, (0, ((b : Nat) : Int)))] [] [(100, [], jenc a)] 1 56 (fun k v hsN => k = 0 ∧ v = (4, 1) ∧ hsN = [(100, [], jenc a), (100, [], jenc (a.tdiv ((b : Nat) : Int)))]) := by
  refine jT.mono (jT_divided (d := d) (n := a.natAbs) (b := b) (s0 := a.sign) (c0 := ((jcn a.natAbs 54 : Nat) : Int)) hA hb hb2) (Nat.le_refl _) (Nat.le_refl _) (Nat.le_refl _) (fun k v hsN hq => ⟨hq.1, hq.2.1, ?_⟩)
  have e1 : a.natAbs / b = (a.tdiv ((b : Nat) : Int)).natAbs := by rw [Int.natAbs_tdiv]; rfl
  rw [hq.2.2, jenc_of (R := a.natAbs / b) (s := a.sign) (v := a.tdiv ((b : Nat) : Int)) e1 (Nat.lt_of_le_of_lt (Nat.div_le_self _ _) hA) (fun h0 => ?_)]
  · rfl
  · rcases Int.lt_trichotomy a 0 with h1 | h1 | h1
    · rw [Int.sign_eq_neg_one_of_neg h1]
      have h2 : (-a).tdiv ((b : Nat) : Int) = -(a.tdiv ((b : Nat) : Int)) := Int.neg_tdiv ..
      have h3 := Int.tdiv_nonneg (a := -a) (b := ((b : Nat) : Int)) (by omega) (by omega)
      exact Int.sign_eq_neg_one_of_neg (by omega)
    · rw [h1] at h0
      simp at h0
    · rw [Int.sign_eq_one_of_pos h1]
      have h2 := Int.tdiv_nonneg (a := a) (b := ((b : Nat) : Int)) (by omega) (by omega)
      exact Int.sign_eq_one_of_pos (by omega)
