/-! greatest common divisors -/
theorem jgcd_half {b c : Nat} (hc : 0 < c) (h : c ≤ b) : 2 * (b % c) < b := by
  have h1 := Nat.div_add_mod b c
  have h2 := Nat.mod_lt b hc
  have h3 : c * 1 ≤ c * (b / c) := Nat.mul_le_mul_left _ (Nat.div_pos h hc)
  omega
theorem jgcd_rec {x y : Int} : Nat.gcd y.natAbs (x.tmod y).natAbs = Nat.gcd x.natAbs y.natAbs := by
  rw [Int.natAbs_tmod, Nat.gcd_comm, ← Nat.gcd_rec, Nat.gcd_comm]

theorem jT_gcd_s {xs : List Int} {d : Nat} {x y : Int} (hx : -9223372036854775808 < x ∧ x < 9223372036854775808) (hy : -9223372036854775808 < y ∧ y < 9223372036854775808) (hr : y ≠ 0 → jT xs d 194 0 0 [(0, (1, y)), (2, (1, x.tmod y))] [] [] 0 0 (fun k v hsN => k = 0 ∧ v = (1, ((Nat.gcd y.natAbs (x.tmod y).natAbs : Nat) : Int)) ∧ hsN = [])) : jT xs (d + 1) 194 0 0 [(0, (1, x)), (2, (1, y))] [] [] 0 0 (fun k v hsN => k = 0 ∧ v = (1, ((Nat.gcd x.natAbs y.natAbs : Nat) : Int)) ∧ hsN = []) := by
  by_cases h0 : y = 0
  · refine jT_adv 2 (pcN := 2) (LN := [(0, (1, x)), (2, (1, y))]) (stN := [(1, 0), (1, y)]) (hsN := []) (c1 := 0) (s1 := 0) (c2 := 0) (s2 := 0) (by exact rfl) ?_ (by omega) (by omega)
    refine jT_lcmp (a := y) (b := 0) (z := 0) (by rfl) (by rfl) (jwl_idd (by omega) (by omega)) (rfl) (by rw [h0]; rfl) ?_
    refine jT_adv 2 (pcN := 7) (LN := [(0, (1, x)), (2, (1, y))]) (stN := [(1, x)]) (hsN := []) (c1 := 0) (s1 := 0) (c2 := 0) (s2 := 0) (by exact rfl) ?_ (by omega) (by omega)
    refine jT_labs (z := ((x.natAbs : Nat) : Int)) (by rfl) (by rfl) (by rfl) (by rfl) (by rw [jwl_idd (by omega) (by omega)]; by_cases h : x < 0; (rw [decide_eq_true h]; show -x = _; omega); (rw [decide_eq_false h]; show x = _; omega)) ?_
    refine jT_adv 1 (pcN := 20) (LN := [(0, (1, x)), (2, (1, y))]) (stN := [(1, ((x.natAbs : Nat) : Int))]) (hsN := []) (c1 := 0) (s1 := 0) (c2 := 0) (s2 := 0) (by exact rfl) ?_ (by omega) (by omega)
    exact jT_ret rfl (by decide) (by show 0 ≤ 0; decide) (by omega) (by omega) ⟨rfl, by rw [h0]; show _ = (1, ((Nat.gcd x.natAbs 0 : Nat) : Int)); rw [Nat.gcd_zero_right], rfl⟩
  · by_cases hy0 : 0 < y
    · refine jT_adv 2 (pcN := 2) (LN := [(0, (1, x)), (2, (1, y))]) (stN := [(1, 0), (1, y)]) (hsN := []) (c1 := 0) (s1 := 0) (c2 := 0) (s2 := 0) (by exact rfl) ?_ (by omega) (by omega)
      refine jT_lcmp (a := y) (b := 0) (z := 1) (by rfl) (by rfl) (jwl_idd (by omega) (by omega)) (rfl) (by rw [decide_eq_true hy0]; rfl) ?_
      refine jT_adv 4 (pcN := 16) (LN := [(0, (1, x)), (2, (1, y))]) (stN := [(1, y), (1, x), (1, y)]) (hsN := []) (c1 := 0) (s1 := 0) (c2 := 0) (s2 := 0) (by exact rfl) ?_ (by omega) (by omega)
      refine jT_lrem (a := x) (b := y) (by rfl) (by rfl) (jwl_idd (by omega) (by omega)) (jwl_idd (by omega) (by omega)) (h0) ?_
      refine jT_call [] (y := 194) (pcN := 20) (dC := d) (bc1 := 0) (bc2 := 0) (c1 := 0) (c2 := 0) (as := [(1, y), (1, x.tmod y)]) (asC := [(1, y), (1, x.tmod y)]) (LN := [(0, (1, x)), (2, (1, y))]) (stN := []) (hsC := []) (hr h0) (by rfl) (by rfl) (by rfl) (by rfl) (trivial) (by rfl) (by rfl) (by omega) (by show 0 ≤ 0; omega) (by omega) (by omega) ?_ (fun _ _ hq => absurd hq.1 (by decide))
      rintro v hsN ⟨-, rfl, rfl⟩
      refine jT_eq (LN := [(0, (1, x)), (2, (1, y))]) (stN := [(1, ((Nat.gcd y.natAbs (x.tmod y).natAbs : Nat) : Int))]) (hsN := []) rfl (rfl) (rfl) ?_
      exact jT_ret rfl (by decide) (by show 0 ≤ 0; decide) (by omega) (by omega) ⟨rfl, by rw [jgcd_rec], rfl⟩
    · refine jT_adv 2 (pcN := 2) (LN := [(0, (1, x)), (2, (1, y))]) (stN := [(1, 0), (1, y)]) (hsN := []) (c1 := 0) (s1 := 0) (c2 := 0) (s2 := 0) (by exact rfl) ?_ (by omega) (by omega)
      refine jT_lcmp (a := y) (b := 0) (z := (-1)) (by rfl) (by rfl) (jwl_idd (by omega) (by omega)) (rfl) (by rw [decide_eq_false (show ¬ (0 : Int) < y from hy0), decide_eq_false h0]; rfl) ?_
      refine jT_adv 4 (pcN := 16) (LN := [(0, (1, x)), (2, (1, y))]) (stN := [(1, y), (1, x), (1, y)]) (hsN := []) (c1 := 0) (s1 := 0) (c2 := 0) (s2 := 0) (by exact rfl) ?_ (by omega) (by omega)
      refine jT_lrem (a := x) (b := y) (by rfl) (by rfl) (jwl_idd (by omega) (by omega)) (jwl_idd (by omega) (by omega)) (h0) ?_
      refine jT_call [] (y := 194) (pcN := 20) (dC := d) (bc1 := 0) (bc2 := 0) (c1 := 0) (c2 := 0) (as := [(1, y), (1, x.tmod y)]) (asC := [(1, y), (1, x.tmod y)]) (LN := [(0, (1, x)), (2, (1, y))]) (stN := []) (hsC := []) (hr h0) (by rfl) (by rfl) (by rfl) (by rfl) (trivial) (by rfl) (by rfl) (by omega) (by show 0 ≤ 0; omega) (by omega) (by omega) ?_ (fun _ _ hq => absurd hq.1 (by decide))
      rintro v hsN ⟨-, rfl, rfl⟩
      refine jT_eq (LN := [(0, (1, x)), (2, (1, y))]) (stN := [(1, ((Nat.gcd y.natAbs (x.tmod y).natAbs : Nat) : Int))]) (hsN := []) rfl (rfl) (rfl) ?_
      exact jT_ret rfl (by decide) (by show 0 ≤ 0; decide) (by omega) (by omega) ⟨rfl, by rw [jgcd_rec], rfl⟩
theorem jT_gcd {xs : List Int} : ∀ (q d : Nat) (x y : Int), -9223372036854775808 < x ∧ x < 9223372036854775808 → -9223372036854775808 < y ∧ y < 9223372036854775808 → y.natAbs < 2 ^ q → jT xs (d + 2 * q + 1) 194 0 0 [(0, (1, x)), (2, (1, y))] [] [] 0 0 (fun k v hsN => k = 0 ∧ v = (1, ((Nat.gcd x.natAbs y.natAbs : Nat) : Int)) ∧ hsN = []) := by
  intro q
  induction q with
  | zero =>
    intro d x y hx hy h
    exact jT_gcd_s hx hy (fun h0 => absurd (show y = 0 by omega) h0)
  | succ q ih =>
    intro d x y hx hy h
    refine jT_gcd_s (d := d + 2 * q + 2) hx hy (fun h0 => ?_)
    have hz : (x.tmod y).natAbs < y.natAbs := by
      rw [Int.natAbs_tmod]
      exact Nat.mod_lt _ (by omega)
    refine jT_gcd_s (d := d + 2 * q + 1) hy (by omega) (fun hz0 => ?_)
    have hw : 2 * (y.tmod (x.tmod y)).natAbs < y.natAbs := by
      rw [Int.natAbs_tmod]
      exact jgcd_half (by omega) (by omega)
    exact ih d _ _ (by omega) (by omega) (by rw [Nat.pow_succ] at h; omega)

theorem jT_div98_loop {xs : List Int} {d : Nat} : ∀ (q i a b : Nat), a < 9223372036854775808 → b < 9223372036854775808 → b < 2 ^ q → i + 2 * q ≤ 200 → jT xs d 98 0 31 [(8, (0, ((i : Nat) : Int))), (6, (1, ((b : Nat) : Int))), (4, (1, ((a : Nat) : Int)))] [] [] 0 0 (fun k v hsN => k = 0 ∧ v = (1, ((Nat.gcd a b : Nat) : Int)) ∧ hsN = []) := by
  have one : ∀ (i a b : Nat), a < 9223372036854775808 → b < 9223372036854775808 → (b ≠ 0 → i < 200) → i ≤ 200 → (b ≠ 0 → jT xs d 98 0 31 [(8, (0, ((i + 1 : Nat) : Int))), (6, (1, ((a % b : Nat) : Int))), (4, (1, ((b : Nat) : Int)))] [] [] 0 0 (fun k v hsN => k = 0 ∧ v = (1, ((Nat.gcd b (a % b) : Nat) : Int)) ∧ hsN = [])) → jT xs d 98 0 31 [(8, (0, ((i : Nat) : Int))), (6, (1, ((b : Nat) : Int))), (4, (1, ((a : Nat) : Int)))] [] [] 0 0 (fun k v hsN => k = 0 ∧ v = (1, ((Nat.gcd a b : Nat) : Int)) ∧ hsN = []) := by
    intro i a b ha hb hi hi2 hr
    by_cases h200 : i < 200
    · refine jT_adv 2 (pcN := 36) (LN := [(8, (0, ((i : Nat) : Int))), (6, (1, ((b : Nat) : Int))), (4, (1, ((a : Nat) : Int)))]) (stN := [(0, 200), (0, ((i : Nat) : Int))]) (hsN := []) (c1 := 0) (s1 := 0) (c2 := 0) (s2 := 0) (by exact rfl) ?_ (by omega) (by omega)
      refine jT_icF (t := 67) (b := 200) (by rfl) (by rfl) (by rfl) (jw_k (by omega)) (rfl) (by simp only [jcP] <;> omega) ?_
      refine jT_adv 2 (pcN := 42) (LN := [(8, (0, ((i : Nat) : Int))), (6, (1, ((b : Nat) : Int))), (4, (1, ((a : Nat) : Int)))]) (stN := [(1, 0), (1, ((b : Nat) : Int))]) (hsN := []) (c1 := 0) (s1 := 0) (c2 := 0) (s2 := 0) (by exact rfl) ?_ (by omega) (by omega)
      by_cases h0 : b = 0
      · refine jT_lcmp (a := ((b : Nat) : Int)) (b := 0) (z := 0) (by rfl) (by rfl) (jwl_k hb) (rfl) (by rw [h0]; rfl) ?_
        refine jT_adv 2 (pcN := 69) (LN := [(8, (0, ((i : Nat) : Int))), (6, (1, ((b : Nat) : Int))), (4, (1, ((a : Nat) : Int)))]) (stN := [(1, ((a : Nat) : Int))]) (hsN := []) (c1 := 0) (s1 := 0) (c2 := 0) (s2 := 0) (by exact rfl) ?_ (by omega) (by omega)
        exact jT_ret rfl (by decide) (by show 0 ≤ 0; decide) (by omega) (by omega) ⟨rfl, by rw [h0, Nat.gcd_zero_right], rfl⟩
      · refine jT_lcmp (a := ((b : Nat) : Int)) (b := 0) (z := 1) (by rfl) (by rfl) (jwl_k hb) (rfl) (by rw [decide_eq_true (show (0 : Int) < ((b : Nat) : Int) by omega)]; rfl) ?_
        refine jT_adv 3 (pcN := 50) (LN := [(8, (0, ((i : Nat) : Int))), (6, (1, ((b : Nat) : Int))), (4, (1, ((a : Nat) : Int)))]) (stN := [(1, ((b : Nat) : Int)), (1, ((a : Nat) : Int))]) (hsN := []) (c1 := 0) (s1 := 0) (c2 := 0) (s2 := 0) (by exact rfl) ?_ (by omega) (by omega)
        refine jT_lrem (a := ((a : Nat) : Int)) (b := ((b : Nat) : Int)) (by rfl) (by rfl) (jwl_k ha) (jwl_k hb) (by omega) ?_
        refine jT_eq (LN := [(8, (0, ((i : Nat) : Int))), (6, (1, ((b : Nat) : Int))), (4, (1, ((a : Nat) : Int)))]) (stN := [(1, ((a % b : Nat) : Int))]) (hsN := []) (rfl) (rfl) (rfl) ?_
        refine jT_adv 7 (pcN := 31) (LN := [(8, (0, ((i : Nat) : Int) + 1)), (6, (1, ((a % b : Nat) : Int))), (4, (1, ((b : Nat) : Int))), (9, (1, ((a % b : Nat) : Int)))]) (stN := []) (hsN := []) (c1 := 0) (s1 := 0) (c2 := 0) (s2 := 0) (by exact rfl) ?_ (by omega) (by omega)
        refine jT_loc (LN := [(8, (0, ((i : Nat) : Int) + 1)), (6, (1, ((a % b : Nat) : Int))), (4, (1, ((b : Nat) : Int)))]) (by show List.Nodup [8, 6, 4]; decide) (by intro q hq; simp only [List.mem_cons, List.not_mem_nil, or_false] at hq; rcases hq with rfl | rfl | rfl <;> rfl) ?_
        refine jT.mono (hr h0) (Nat.le_refl _) (Nat.le_refl _) (Nat.le_refl _) (fun k v hs h => ⟨h.1, ?_, h.2.2⟩)
        rw [h.2.1, Nat.gcd_comm b, ← Nat.gcd_rec, Nat.gcd_comm]
    · have h0 : b = 0 := by omega
      refine jT_adv 2 (pcN := 36) (LN := [(8, (0, ((i : Nat) : Int))), (6, (1, ((b : Nat) : Int))), (4, (1, ((a : Nat) : Int)))]) (stN := [(0, 200), (0, ((i : Nat) : Int))]) (hsN := []) (c1 := 0) (s1 := 0) (c2 := 0) (s2 := 0) (by exact rfl) ?_ (by omega) (by omega)
      refine jT_icT (t := 67) (b := 200) (by rfl) (by rfl) (by rfl) (jw_k (by omega)) (rfl) (by simp only [jcP] <;> omega) ?_
      refine jT_adv 1 (pcN := 69) (LN := [(8, (0, ((i : Nat) : Int))), (6, (1, ((b : Nat) : Int))), (4, (1, ((a : Nat) : Int)))]) (stN := [(1, ((a : Nat) : Int))]) (hsN := []) (c1 := 0) (s1 := 0) (c2 := 0) (s2 := 0) (by exact rfl) ?_ (by omega) (by omega)
      exact jT_ret rfl (by decide) (by show 0 ≤ 0; decide) (by omega) (by omega) ⟨rfl, by rw [h0, Nat.gcd_zero_right], rfl⟩
  intro q
  induction q with
  | zero =>
    intro i a b ha hb h hi
    exact one i a b ha hb (fun h0 => absurd (show b = 0 by omega) h0) (by omega) (fun h0 => absurd (show b = 0 by omega) h0)
  | succ q ih =>
    intro i a b ha hb h hi
    refine one i a b ha hb (fun _ => by omega) (by omega) (fun h0 => ?_)
    have hz : a % b < b := Nat.mod_lt _ (by omega)
    refine one (i + 1) b (a % b) hb (by omega) (fun _ => by omega) (by omega) (fun hz0 => ?_)
    have hw := jgcd_half (b := b) (c := a % b) (by omega) (by omega)
    exact ih (i + 1 + 1) _ _ (by omega) (by omega) (by rw [Nat.pow_succ] at h; omega) (by omega)

theorem jT_div98 {xs : List Int} {d : Nat} {x y : Int} (hx : -9223372036854775808 < x ∧ x < 9223372036854775808) (hy : -9223372036854775808 < y ∧ y < 9223372036854775808) : jT xs d 98 0 0 [(0, (1, x)), (2, (1, y))] [] [] 0 0 (fun k v hsN => k = 0 ∧ v = (1, ((Nat.gcd x.natAbs y.natAbs : Nat) : Int)) ∧ hsN = []) := by
  rcases Int.lt_trichotomy x 0 with h1 | h1 | h1 <;> rcases Int.lt_trichotomy y 0 with h2 | h2 | h2
  · refine jT_adv 2 (pcN := 2) (LN := [(0, (1, x)), (2, (1, y))]) (stN := [(1, 0), (1, x)]) (hsN := []) (c1 := 0) (s1 := 0) (c2 := 0) (s2 := 0) (by exact rfl) ?_ (by omega) (by omega)
    refine jT_lcmp (a := x) (b := 0) (z := (-1)) (by rfl) (by rfl) (jwl_idd (by omega) (by omega)) (rfl) (by rw [decide_eq_false (show ¬ (0 : Int) < x by omega), decide_eq_false (show ¬ x = 0 by omega)]; rfl) ?_
    refine jT_adv 4 (pcN := 12) (LN := [(0, (1, x)), (2, (1, y))]) (stN := [(1, -x)]) (hsN := []) (c1 := 0) (s1 := 0) (c2 := 0) (s2 := 0) (by exact rfl) ?_ (by omega) (by omega)
    refine jT_eq (LN := [(0, (1, x)), (2, (1, y))]) (stN := [(1, ((x.natAbs : Nat) : Int))]) (hsN := []) (rfl) (by rw [show ((x.natAbs : Nat) : Int) = -x by omega]) (rfl) ?_
    refine jT_adv 3 (pcN := 16) (LN := [(4, (1, ((x.natAbs : Nat) : Int))), (0, (1, x)), (2, (1, y))]) (stN := [(1, 0), (1, y)]) (hsN := []) (c1 := 0) (s1 := 0) (c2 := 0) (s2 := 0) (by exact rfl) ?_ (by omega) (by omega)
    refine jT_lcmp (a := y) (b := 0) (z := (-1)) (by rfl) (by rfl) (jwl_idd (by omega) (by omega)) (rfl) (by rw [decide_eq_false (show ¬ (0 : Int) < y by omega), decide_eq_false (show ¬ y = 0 by omega)]; rfl) ?_
    refine jT_adv 4 (pcN := 26) (LN := [(4, (1, ((x.natAbs : Nat) : Int))), (0, (1, x)), (2, (1, y))]) (stN := [(1, -y)]) (hsN := []) (c1 := 0) (s1 := 0) (c2 := 0) (s2 := 0) (by exact rfl) ?_ (by omega) (by omega)
    refine jT_eq (LN := [(4, (1, ((x.natAbs : Nat) : Int))), (0, (1, x)), (2, (1, y))]) (stN := [(1, ((y.natAbs : Nat) : Int))]) (hsN := []) (rfl) (by rw [show ((y.natAbs : Nat) : Int) = -y by omega]) (rfl) ?_
    refine jT_adv 3 (pcN := 31) (LN := [(8, (0, 0)), (6, (1, ((y.natAbs : Nat) : Int))), (4, (1, ((x.natAbs : Nat) : Int))), (0, (1, x)), (2, (1, y))]) (stN := []) (hsN := []) (c1 := 0) (s1 := 0) (c2 := 0) (s2 := 0) (by exact rfl) ?_ (by omega) (by omega)
    refine jT_loc (LN := [(8, (0, 0)), (6, (1, ((y.natAbs : Nat) : Int))), (4, (1, ((x.natAbs : Nat) : Int)))]) (by show List.Nodup [8, 6, 4]; decide) (by intro q hq; simp only [List.mem_cons, List.not_mem_nil, or_false] at hq; rcases hq with rfl | rfl | rfl <;> rfl) ?_
    exact jT_div98_loop 64 0 _ _ (by omega) (by omega) (by omega) (by decide)
  · refine jT_adv 2 (pcN := 2) (LN := [(0, (1, x)), (2, (1, y))]) (stN := [(1, 0), (1, x)]) (hsN := []) (c1 := 0) (s1 := 0) (c2 := 0) (s2 := 0) (by exact rfl) ?_ (by omega) (by omega)
    refine jT_lcmp (a := x) (b := 0) (z := (-1)) (by rfl) (by rfl) (jwl_idd (by omega) (by omega)) (rfl) (by rw [decide_eq_false (show ¬ (0 : Int) < x by omega), decide_eq_false (show ¬ x = 0 by omega)]; rfl) ?_
    refine jT_adv 4 (pcN := 12) (LN := [(0, (1, x)), (2, (1, y))]) (stN := [(1, -x)]) (hsN := []) (c1 := 0) (s1 := 0) (c2 := 0) (s2 := 0) (by exact rfl) ?_ (by omega) (by omega)
    refine jT_eq (LN := [(0, (1, x)), (2, (1, y))]) (stN := [(1, ((x.natAbs : Nat) : Int))]) (hsN := []) (rfl) (by rw [show ((x.natAbs : Nat) : Int) = -x by omega]) (rfl) ?_
    refine jT_adv 3 (pcN := 16) (LN := [(4, (1, ((x.natAbs : Nat) : Int))), (0, (1, x)), (2, (1, y))]) (stN := [(1, 0), (1, y)]) (hsN := []) (c1 := 0) (s1 := 0) (c2 := 0) (s2 := 0) (by exact rfl) ?_ (by omega) (by omega)
    refine jT_lcmp (a := y) (b := 0) (z := 0) (by rfl) (by rfl) (jwl_idd (by omega) (by omega)) (rfl) (by rw [show y = 0 by omega]; rfl) ?_
    refine jT_adv 2 (pcN := 26) (LN := [(4, (1, ((x.natAbs : Nat) : Int))), (0, (1, x)), (2, (1, y))]) (stN := [(1, y)]) (hsN := []) (c1 := 0) (s1 := 0) (c2 := 0) (s2 := 0) (by exact rfl) ?_ (by omega) (by omega)
    refine jT_eq (LN := [(4, (1, ((x.natAbs : Nat) : Int))), (0, (1, x)), (2, (1, y))]) (stN := [(1, ((y.natAbs : Nat) : Int))]) (hsN := []) (rfl) (by rw [show ((y.natAbs : Nat) : Int) = y by omega]) (rfl) ?_
    refine jT_adv 3 (pcN := 31) (LN := [(8, (0, 0)), (6, (1, ((y.natAbs : Nat) : Int))), (4, (1, ((x.natAbs : Nat) : Int))), (0, (1, x)), (2, (1, y))]) (stN := []) (hsN := []) (c1 := 0) (s1 := 0) (c2 := 0) (s2 := 0) (by exact rfl) ?_ (by omega) (by omega)
    refine jT_loc (LN := [(8, (0, 0)), (6, (1, ((y.natAbs : Nat) : Int))), (4, (1, ((x.natAbs : Nat) : Int)))]) (by show List.Nodup [8, 6, 4]; decide) (by intro q hq; simp only [List.mem_cons, List.not_mem_nil, or_false] at hq; rcases hq with rfl | rfl | rfl <;> rfl) ?_
    exact jT_div98_loop 64 0 _ _ (by omega) (by omega) (by omega) (by decide)
  · refine jT_adv 2 (pcN := 2) (LN := [(0, (1, x)), (2, (1, y))]) (stN := [(1, 0), (1, x)]) (hsN := []) (c1 := 0) (s1 := 0) (c2 := 0) (s2 := 0) (by exact rfl) ?_ (by omega) (by omega)
    refine jT_lcmp (a := x) (b := 0) (z := (-1)) (by rfl) (by rfl) (jwl_idd (by omega) (by omega)) (rfl) (by rw [decide_eq_false (show ¬ (0 : Int) < x by omega), decide_eq_false (show ¬ x = 0 by omega)]; rfl) ?_
    refine jT_adv 4 (pcN := 12) (LN := [(0, (1, x)), (2, (1, y))]) (stN := [(1, -x)]) (hsN := []) (c1 := 0) (s1 := 0) (c2 := 0) (s2 := 0) (by exact rfl) ?_ (by omega) (by omega)
    refine jT_eq (LN := [(0, (1, x)), (2, (1, y))]) (stN := [(1, ((x.natAbs : Nat) : Int))]) (hsN := []) (rfl) (by rw [show ((x.natAbs : Nat) : Int) = -x by omega]) (rfl) ?_
    refine jT_adv 3 (pcN := 16) (LN := [(4, (1, ((x.natAbs : Nat) : Int))), (0, (1, x)), (2, (1, y))]) (stN := [(1, 0), (1, y)]) (hsN := []) (c1 := 0) (s1 := 0) (c2 := 0) (s2 := 0) (by exact rfl) ?_ (by omega) (by omega)
    refine jT_lcmp (a := y) (b := 0) (z := 1) (by rfl) (by rfl) (jwl_idd (by omega) (by omega)) (rfl) (by rw [decide_eq_true (show (0 : Int) < y by omega)]; rfl) ?_
    refine jT_adv 2 (pcN := 26) (LN := [(4, (1, ((x.natAbs : Nat) : Int))), (0, (1, x)), (2, (1, y))]) (stN := [(1, y)]) (hsN := []) (c1 := 0) (s1 := 0) (c2 := 0) (s2 := 0) (by exact rfl) ?_ (by omega) (by omega)
    refine jT_eq (LN := [(4, (1, ((x.natAbs : Nat) : Int))), (0, (1, x)), (2, (1, y))]) (stN := [(1, ((y.natAbs : Nat) : Int))]) (hsN := []) (rfl) (by rw [show ((y.natAbs : Nat) : Int) = y by omega]) (rfl) ?_
    refine jT_adv 3 (pcN := 31) (LN := [(8, (0, 0)), (6, (1, ((y.natAbs : Nat) : Int))), (4, (1, ((x.natAbs : Nat) : Int))), (0, (1, x)), (2, (1, y))]) (stN := []) (hsN := []) (c1 := 0) (s1 := 0) (c2 := 0) (s2 := 0) (by exact rfl) ?_ (by omega) (by omega)
    refine jT_loc (LN := [(8, (0, 0)), (6, (1, ((y.natAbs : Nat) : Int))), (4, (1, ((x.natAbs : Nat) : Int)))]) (by show List.Nodup [8, 6, 4]; decide) (by intro q hq; simp only [List.mem_cons, List.not_mem_nil, or_false] at hq; rcases hq with rfl | rfl | rfl <;> rfl) ?_
    exact jT_div98_loop 64 0 _ _ (by omega) (by omega) (by omega) (by decide)
  · refine jT_adv 2 (pcN := 2) (LN := [(0, (1, x)), (2, (1, y))]) (stN := [(1, 0), (1, x)]) (hsN := []) (c1 := 0) (s1 := 0) (c2 := 0) (s2 := 0) (by exact rfl) ?_ (by omega) (by omega)
    refine jT_lcmp (a := x) (b := 0) (z := 0) (by rfl) (by rfl) (jwl_idd (by omega) (by omega)) (rfl) (by rw [show x = 0 by omega]; rfl) ?_
    refine jT_adv 2 (pcN := 12) (LN := [(0, (1, x)), (2, (1, y))]) (stN := [(1, x)]) (hsN := []) (c1 := 0) (s1 := 0) (c2 := 0) (s2 := 0) (by exact rfl) ?_ (by omega) (by omega)
    refine jT_eq (LN := [(0, (1, x)), (2, (1, y))]) (stN := [(1, ((x.natAbs : Nat) : Int))]) (hsN := []) (rfl) (by rw [show ((x.natAbs : Nat) : Int) = x by omega]) (rfl) ?_
    refine jT_adv 3 (pcN := 16) (LN := [(4, (1, ((x.natAbs : Nat) : Int))), (0, (1, x)), (2, (1, y))]) (stN := [(1, 0), (1, y)]) (hsN := []) (c1 := 0) (s1 := 0) (c2 := 0) (s2 := 0) (by exact rfl) ?_ (by omega) (by omega)
    refine jT_lcmp (a := y) (b := 0) (z := (-1)) (by rfl) (by rfl) (jwl_idd (by omega) (by omega)) (rfl) (by rw [decide_eq_false (show ¬ (0 : Int) < y by omega), decide_eq_false (show ¬ y = 0 by omega)]; rfl) ?_
    refine jT_adv 4 (pcN := 26) (LN := [(4, (1, ((x.natAbs : Nat) : Int))), (0, (1, x)), (2, (1, y))]) (stN := [(1, -y)]) (hsN := []) (c1 := 0) (s1 := 0) (c2 := 0) (s2 := 0) (by exact rfl) ?_ (by omega) (by omega)
    refine jT_eq (LN := [(4, (1, ((x.natAbs : Nat) : Int))), (0, (1, x)), (2, (1, y))]) (stN := [(1, ((y.natAbs : Nat) : Int))]) (hsN := []) (rfl) (by rw [show ((y.natAbs : Nat) : Int) = -y by omega]) (rfl) ?_
    refine jT_adv 3 (pcN := 31) (LN := [(8, (0, 0)), (6, (1, ((y.natAbs : Nat) : Int))), (4, (1, ((x.natAbs : Nat) : Int))), (0, (1, x)), (2, (1, y))]) (stN := []) (hsN := []) (c1 := 0) (s1 := 0) (c2 := 0) (s2 := 0) (by exact rfl) ?_ (by omega) (by omega)
    refine jT_loc (LN := [(8, (0, 0)), (6, (1, ((y.natAbs : Nat) : Int))), (4, (1, ((x.natAbs : Nat) : Int)))]) (by show List.Nodup [8, 6, 4]; decide) (by intro q hq; simp only [List.mem_cons, List.not_mem_nil, or_false] at hq; rcases hq with rfl | rfl | rfl <;> rfl) ?_
    exact jT_div98_loop 64 0 _ _ (by omega) (by omega) (by omega) (by decide)
  · refine jT_adv 2 (pcN := 2) (LN := [(0, (1, x)), (2, (1, y))]) (stN := [(1, 0), (1, x)]) (hsN := []) (c1 := 0) (s1 := 0) (c2 := 0) (s2 := 0) (by exact rfl) ?_ (by omega) (by omega)
    refine jT_lcmp (a := x) (b := 0) (z := 0) (by rfl) (by rfl) (jwl_idd (by omega) (by omega)) (rfl) (by rw [show x = 0 by omega]; rfl) ?_
    refine jT_adv 2 (pcN := 12) (LN := [(0, (1, x)), (2, (1, y))]) (stN := [(1, x)]) (hsN := []) (c1 := 0) (s1 := 0) (c2 := 0) (s2 := 0) (by exact rfl) ?_ (by omega) (by omega)
    refine jT_eq (LN := [(0, (1, x)), (2, (1, y))]) (stN := [(1, ((x.natAbs : Nat) : Int))]) (hsN := []) (rfl) (by rw [show ((x.natAbs : Nat) : Int) = x by omega]) (rfl) ?_
    refine jT_adv 3 (pcN := 16) (LN := [(4, (1, ((x.natAbs : Nat) : Int))), (0, (1, x)), (2, (1, y))]) (stN := [(1, 0), (1, y)]) (hsN := []) (c1 := 0) (s1 := 0) (c2 := 0) (s2 := 0) (by exact rfl) ?_ (by omega) (by omega)
    refine jT_lcmp (a := y) (b := 0) (z := 0) (by rfl) (by rfl) (jwl_idd (by omega) (by omega)) (rfl) (by rw [show y = 0 by omega]; rfl) ?_
    refine jT_adv 2 (pcN := 26) (LN := [(4, (1, ((x.natAbs : Nat) : Int))), (0, (1, x)), (2, (1, y))]) (stN := [(1, y)]) (hsN := []) (c1 := 0) (s1 := 0) (c2 := 0) (s2 := 0) (by exact rfl) ?_ (by omega) (by omega)
    refine jT_eq (LN := [(4, (1, ((x.natAbs : Nat) : Int))), (0, (1, x)), (2, (1, y))]) (stN := [(1, ((y.natAbs : Nat) : Int))]) (hsN := []) (rfl) (by rw [show ((y.natAbs : Nat) : Int) = y by omega]) (rfl) ?_
    refine jT_adv 3 (pcN := 31) (LN := [(8, (0, 0)), (6, (1, ((y.natAbs : Nat) : Int))), (4, (1, ((x.natAbs : Nat) : Int))), (0, (1, x)), (2, (1, y))]) (stN := []) (hsN := []) (c1 := 0) (s1 := 0) (c2 := 0) (s2 := 0) (by exact rfl) ?_ (by omega) (by omega)
    refine jT_loc (LN := [(8, (0, 0)), (6, (1, ((y.natAbs : Nat) : Int))), (4, (1, ((x.natAbs : Nat) : Int)))]) (by show List.Nodup [8, 6, 4]; decide) (by intro q hq; simp only [List.mem_cons, List.not_mem_nil, or_false] at hq; rcases hq with rfl | rfl | rfl <;> rfl) ?_
    exact jT_div98_loop 64 0 _ _ (by omega) (by omega) (by omega) (by decide)
  · refine jT_adv 2 (pcN := 2) (LN := [(0, (1, x)), (2, (1, y))]) (stN := [(1, 0), (1, x)]) (hsN := []) (c1 := 0) (s1 := 0) (c2 := 0) (s2 := 0) (by exact rfl) ?_ (by omega) (by omega)
    refine jT_lcmp (a := x) (b := 0) (z := 0) (by rfl) (by rfl) (jwl_idd (by omega) (by omega)) (rfl) (by rw [show x = 0 by omega]; rfl) ?_
    refine jT_adv 2 (pcN := 12) (LN := [(0, (1, x)), (2, (1, y))]) (stN := [(1, x)]) (hsN := []) (c1 := 0) (s1 := 0) (c2 := 0) (s2 := 0) (by exact rfl) ?_ (by omega) (by omega)
    refine jT_eq (LN := [(0, (1, x)), (2, (1, y))]) (stN := [(1, ((x.natAbs : Nat) : Int))]) (hsN := []) (rfl) (by rw [show ((x.natAbs : Nat) : Int) = x by omega]) (rfl) ?_
    refine jT_adv 3 (pcN := 16) (LN := [(4, (1, ((x.natAbs : Nat) : Int))), (0, (1, x)), (2, (1, y))]) (stN := [(1, 0), (1, y)]) (hsN := []) (c1 := 0) (s1 := 0) (c2 := 0) (s2 := 0) (by exact rfl) ?_ (by omega) (by omega)
    refine jT_lcmp (a := y) (b := 0) (z := 1) (by rfl) (by rfl) (jwl_idd (by omega) (by omega)) (rfl) (by rw [decide_eq_true (show (0 : Int) < y by omega)]; rfl) ?_
    refine jT_adv 2 (pcN := 26) (LN := [(4, (1, ((x.natAbs : Nat) : Int))), (0, (1, x)), (2, (1, y))]) (stN := [(1, y)]) (hsN := []) (c1 := 0) (s1 := 0) (c2 := 0) (s2 := 0) (by exact rfl) ?_ (by omega) (by omega)
    refine jT_eq (LN := [(4, (1, ((x.natAbs : Nat) : Int))), (0, (1, x)), (2, (1, y))]) (stN := [(1, ((y.natAbs : Nat) : Int))]) (hsN := []) (rfl) (by rw [show ((y.natAbs : Nat) : Int) = y by omega]) (rfl) ?_
    refine jT_adv 3 (pcN := 31) (LN := [(8, (0, 0)), (6, (1, ((y.natAbs : Nat) : Int))), (4, (1, ((x.natAbs : Nat) : Int))), (0, (1, x)), (2, (1, y))]) (stN := []) (hsN := []) (c1 := 0) (s1 := 0) (c2 := 0) (s2 := 0) (by exact rfl) ?_ (by omega) (by omega)
    refine jT_loc (LN := [(8, (0, 0)), (6, (1, ((y.natAbs : Nat) : Int))), (4, (1, ((x.natAbs : Nat) : Int)))]) (by show List.Nodup [8, 6, 4]; decide) (by intro q hq; simp only [List.mem_cons, List.not_mem_nil, or_false] at hq; rcases hq with rfl | rfl | rfl <;> rfl) ?_
    exact jT_div98_loop 64 0 _ _ (by omega) (by omega) (by omega) (by decide)
  · refine jT_adv 2 (pcN := 2) (LN := [(0, (1, x)), (2, (1, y))]) (stN := [(1, 0), (1, x)]) (hsN := []) (c1 := 0) (s1 := 0) (c2 := 0) (s2 := 0) (by exact rfl) ?_ (by omega) (by omega)
    refine jT_lcmp (a := x) (b := 0) (z := 1) (by rfl) (by rfl) (jwl_idd (by omega) (by omega)) (rfl) (by rw [decide_eq_true (show (0 : Int) < x by omega)]; rfl) ?_
    refine jT_adv 2 (pcN := 12) (LN := [(0, (1, x)), (2, (1, y))]) (stN := [(1, x)]) (hsN := []) (c1 := 0) (s1 := 0) (c2 := 0) (s2 := 0) (by exact rfl) ?_ (by omega) (by omega)
    refine jT_eq (LN := [(0, (1, x)), (2, (1, y))]) (stN := [(1, ((x.natAbs : Nat) : Int))]) (hsN := []) (rfl) (by rw [show ((x.natAbs : Nat) : Int) = x by omega]) (rfl) ?_
    refine jT_adv 3 (pcN := 16) (LN := [(4, (1, ((x.natAbs : Nat) : Int))), (0, (1, x)), (2, (1, y))]) (stN := [(1, 0), (1, y)]) (hsN := []) (c1 := 0) (s1 := 0) (c2 := 0) (s2 := 0) (by exact rfl) ?_ (by omega) (by omega)
    refine jT_lcmp (a := y) (b := 0) (z := (-1)) (by rfl) (by rfl) (jwl_idd (by omega) (by omega)) (rfl) (by rw [decide_eq_false (show ¬ (0 : Int) < y by omega), decide_eq_false (show ¬ y = 0 by omega)]; rfl) ?_
    refine jT_adv 4 (pcN := 26) (LN := [(4, (1, ((x.natAbs : Nat) : Int))), (0, (1, x)), (2, (1, y))]) (stN := [(1, -y)]) (hsN := []) (c1 := 0) (s1 := 0) (c2 := 0) (s2 := 0) (by exact rfl) ?_ (by omega) (by omega)
    refine jT_eq (LN := [(4, (1, ((x.natAbs : Nat) : Int))), (0, (1, x)), (2, (1, y))]) (stN := [(1, ((y.natAbs : Nat) : Int))]) (hsN := []) (rfl) (by rw [show ((y.natAbs : Nat) : Int) = -y by omega]) (rfl) ?_
    refine jT_adv 3 (pcN := 31) (LN := [(8, (0, 0)), (6, (1, ((y.natAbs : Nat) : Int))), (4, (1, ((x.natAbs : Nat) : Int))), (0, (1, x)), (2, (1, y))]) (stN := []) (hsN := []) (c1 := 0) (s1 := 0) (c2 := 0) (s2 := 0) (by exact rfl) ?_ (by omega) (by omega)
    refine jT_loc (LN := [(8, (0, 0)), (6, (1, ((y.natAbs : Nat) : Int))), (4, (1, ((x.natAbs : Nat) : Int)))]) (by show List.Nodup [8, 6, 4]; decide) (by intro q hq; simp only [List.mem_cons, List.not_mem_nil, or_false] at hq; rcases hq with rfl | rfl | rfl <;> rfl) ?_
    exact jT_div98_loop 64 0 _ _ (by omega) (by omega) (by omega) (by decide)
  · refine jT_adv 2 (pcN := 2) (LN := [(0, (1, x)), (2, (1, y))]) (stN := [(1, 0), (1, x)]) (hsN := []) (c1 := 0) (s1 := 0) (c2 := 0) (s2 := 0) (by exact rfl) ?_ (by omega) (by omega)
    refine jT_lcmp (a := x) (b := 0) (z := 1) (by rfl) (by rfl) (jwl_idd (by omega) (by omega)) (rfl) (by rw [decide_eq_true (show (0 : Int) < x by omega)]; rfl) ?_
    refine jT_adv 2 (pcN := 12) (LN := [(0, (1, x)), (2, (1, y))]) (stN := [(1, x)]) (hsN := []) (c1 := 0) (s1 := 0) (c2 := 0) (s2 := 0) (by exact rfl) ?_ (by omega) (by omega)
    refine jT_eq (LN := [(0, (1, x)), (2, (1, y))]) (stN := [(1, ((x.natAbs : Nat) : Int))]) (hsN := []) (rfl) (by rw [show ((x.natAbs : Nat) : Int) = x by omega]) (rfl) ?_
    refine jT_adv 3 (pcN := 16) (LN := [(4, (1, ((x.natAbs : Nat) : Int))), (0, (1, x)), (2, (1, y))]) (stN := [(1, 0), (1, y)]) (hsN := []) (c1 := 0) (s1 := 0) (c2 := 0) (s2 := 0) (by exact rfl) ?_ (by omega) (by omega)
    refine jT_lcmp (a := y) (b := 0) (z := 0) (by rfl) (by rfl) (jwl_idd (by omega) (by omega)) (rfl) (by rw [show y = 0 by omega]; rfl) ?_
    refine jT_adv 2 (pcN := 26) (LN := [(4, (1, ((x.natAbs : Nat) : Int))), (0, (1, x)), (2, (1, y))]) (stN := [(1, y)]) (hsN := []) (c1 := 0) (s1 := 0) (c2 := 0) (s2 := 0) (by exact rfl) ?_ (by omega) (by omega)
    refine jT_eq (LN := [(4, (1, ((x.natAbs : Nat) : Int))), (0, (1, x)), (2, (1, y))]) (stN := [(1, ((y.natAbs : Nat) : Int))]) (hsN := []) (rfl) (by rw [show ((y.natAbs : Nat) : Int) = y by omega]) (rfl) ?_
    refine jT_adv 3 (pcN := 31) (LN := [(8, (0, 0)), (6, (1, ((y.natAbs : Nat) : Int))), (4, (1, ((x.natAbs : Nat) : Int))), (0, (1, x)), (2, (1, y))]) (stN := []) (hsN := []) (c1 := 0) (s1 := 0) (c2 := 0) (s2 := 0) (by exact rfl) ?_ (by omega) (by omega)
    refine jT_loc (LN := [(8, (0, 0)), (6, (1, ((y.natAbs : Nat) : Int))), (4, (1, ((x.natAbs : Nat) : Int)))]) (by show List.Nodup [8, 6, 4]; decide) (by intro q hq; simp only [List.mem_cons, List.not_mem_nil, or_false] at hq; rcases hq with rfl | rfl | rfl <;> rfl) ?_
    exact jT_div98_loop 64 0 _ _ (by omega) (by omega) (by omega) (by decide)
  · refine jT_adv 2 (pcN := 2) (LN := [(0, (1, x)), (2, (1, y))]) (stN := [(1, 0), (1, x)]) (hsN := []) (c1 := 0) (s1 := 0) (c2 := 0) (s2 := 0) (by exact rfl) ?_ (by omega) (by omega)
    refine jT_lcmp (a := x) (b := 0) (z := 1) (by rfl) (by rfl) (jwl_idd (by omega) (by omega)) (rfl) (by rw [decide_eq_true (show (0 : Int) < x by omega)]; rfl) ?_
    refine jT_adv 2 (pcN := 12) (LN := [(0, (1, x)), (2, (1, y))]) (stN := [(1, x)]) (hsN := []) (c1 := 0) (s1 := 0) (c2 := 0) (s2 := 0) (by exact rfl) ?_ (by omega) (by omega)
    refine jT_eq (LN := [(0, (1, x)), (2, (1, y))]) (stN := [(1, ((x.natAbs : Nat) : Int))]) (hsN := []) (rfl) (by rw [show ((x.natAbs : Nat) : Int) = x by omega]) (rfl) ?_
    refine jT_adv 3 (pcN := 16) (LN := [(4, (1, ((x.natAbs : Nat) : Int))), (0, (1, x)), (2, (1, y))]) (stN := [(1, 0), (1, y)]) (hsN := []) (c1 := 0) (s1 := 0) (c2 := 0) (s2 := 0) (by exact rfl) ?_ (by omega) (by omega)
    refine jT_lcmp (a := y) (b := 0) (z := 1) (by rfl) (by rfl) (jwl_idd (by omega) (by omega)) (rfl) (by rw [decide_eq_true (show (0 : Int) < y by omega)]; rfl) ?_
    refine jT_adv 2 (pcN := 26) (LN := [(4, (1, ((x.natAbs : Nat) : Int))), (0, (1, x)), (2, (1, y))]) (stN := [(1, y)]) (hsN := []) (c1 := 0) (s1 := 0) (c2 := 0) (s2 := 0) (by exact rfl) ?_ (by omega) (by omega)
    refine jT_eq (LN := [(4, (1, ((x.natAbs : Nat) : Int))), (0, (1, x)), (2, (1, y))]) (stN := [(1, ((y.natAbs : Nat) : Int))]) (hsN := []) (rfl) (by rw [show ((y.natAbs : Nat) : Int) = y by omega]) (rfl) ?_
    refine jT_adv 3 (pcN := 31) (LN := [(8, (0, 0)), (6, (1, ((y.natAbs : Nat) : Int))), (4, (1, ((x.natAbs : Nat) : Int))), (0, (1, x)), (2, (1, y))]) (stN := []) (hsN := []) (c1 := 0) (s1 := 0) (c2 := 0) (s2 := 0) (by exact rfl) ?_ (by omega) (by omega)
    refine jT_loc (LN := [(8, (0, 0)), (6, (1, ((y.natAbs : Nat) : Int))), (4, (1, ((x.natAbs : Nat) : Int)))]) (by show List.Nodup [8, 6, 4]; decide) (by intro q hq; simp only [List.mem_cons, List.not_mem_nil, or_false] at hq; rcases hq with rfl | rfl | rfl <;> rfl) ?_
    exact jT_div98_loop 64 0 _ _ (by omega) (by omega) (by omega) (by decide)
