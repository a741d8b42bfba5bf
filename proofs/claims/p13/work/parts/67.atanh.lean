/-! the row of a logarithm -/
def jatF (a b : Nat) : Nat → Nat → Nat → Nat → Nat
  | 0, _, _, s => s
  | q + 1, k, t, s => if t = 0 then s else jatF a b q (k + 2) (t * a / b * a / b) (s + t * a / b * a / b / k)
theorem jat_le {t a b : Nat} (hb : 0 < b) (h : 3 * a ≤ b) : t * a / b ≤ t / 3 := by
  rw [Nat.le_div_iff_mul_le (by decide)]
  have h1 : t * a / b * b ≤ t * a := Nat.div_mul_le_self _ _
  have h2 : t * a / b * 3 * b ≤ t * b := by
    have h3 : t * (3 * a) ≤ t * b := Nat.mul_le_mul_left _ h
    have e1 : t * a / b * 3 * b = 3 * (t * a / b * b) := by rw [Nat.mul_right_comm, Nat.mul_comm]
    have e2 : t * (3 * a) = 3 * (t * a) := by rw [Nat.mul_left_comm]
    omega
  exact Nat.le_of_mul_le_mul_right h2 hb
theorem jat_9 {t a b q : Nat} (hb : 0 < b) (h : 3 * a ≤ b) (ht : t < 9 ^ (q + 1)) : t * a / b * a / b < 9 ^ q := by
  have h1 := jat_le (t := t) hb h
  have h2 := jat_le (t := t * a / b) hb h
  rw [Nat.pow_succ] at ht
  omega
theorem jnA {n : Nat} (h : n < 1000000000 ^ 54) : ((n : Nat) : Int).natAbs < 1000000000 ^ 54 := h

theorem jT_atanh1_loop {xs : List Int} {d a b : Nat} (ha : a = 1) (hab : 3 * a ≤ b) (hb2 : b < 2147483648) : ∀ q k t s, t < 9 ^ q → 0 < s → s + t < 1000000000 ^ 40 → 3 ≤ k → k + 2 * q < 2147483648 → jT xs (d + 2) 176 0 44 [(5, (0, ((k : Nat) : Int))), (4, (4, 1)), (3, (4, 0)), (0, (0, ((a : Nat) : Int))), (1, (0, ((b : Nat) : Int)))] [] [(100, [], jenc ((t : Nat) : Int)), (100, [], jenc ((s : Nat) : Int))] (8 * q) (448 * q) (fun k0 v hsN => k0 = 0 ∧ v = (4, 0) ∧ hsN = [(100, [], jenc ((jatF a b q k t s : Nat) : Int))]) := by
  have hb0 : 0 < b := by omega
  intro q
  induction q with
  | zero =>
    intro k t s ht hs hst hk hkq
    obtain rfl : t = 0 := by omega
    refine jT_adv 2 (pcN := 46) (LN := [(5, (0, ((k : Nat) : Int))), (4, (4, 1)), (3, (4, 0)), (0, (0, ((a : Nat) : Int))), (1, (0, ((b : Nat) : Int)))]) (stN := [(0, 0), (4, 0)]) (hsN := [(100, [], jenc ((0 : Nat) : Int)), (100, [], jenc ((s : Nat) : Int))]) (c1 := 0) (s1 := 0) (c2 := 8 * 0) (s2 := 448 * 0) (by exact rfl) ?_ (by omega) (by omega)
    refine jT_iald (x := 0) (a := 0) (j := 0) (fs := []) (X := jenc ((0 : Nat) : Int)) (by rfl) (by rfl) (by rfl) (rfl) (rfl) ?_
    refine jT_ifT (t := 115) (by rfl) (by rfl) (by rfl) (jw_z) (by simp only [jcP] <;> omega) ?_
    refine jT_loc (LN := [(4, (4, 1))]) (by show List.Nodup [4]; decide) (by intro q hq; simp only [List.mem_cons, List.not_mem_nil, or_false] at hq; rcases hq with rfl <;> rfl) ?_
    refine jT_gc [1] (hs0 := [(100, [], jenc ((s : Nat) : Int))]) (L0 := [(4, (4, 0))]) (st0 := []) (by rfl) (by rfl) (⟨rfl, trivial⟩) (by rfl) (by rfl) (by rfl) ?_
    refine jT_adv 1 (pcN := 117) (LN := [(4, (4, 0))]) (stN := [(4, 0)]) (hsN := [(100, [], jenc ((s : Nat) : Int))]) (c1 := 0) (s1 := 0) (c2 := 8 * 0) (s2 := 448 * 0) (by exact rfl) ?_ (by omega) (by omega)
    exact jT_ret rfl (by decide) (by show 0 ≤ 1; decide) (by omega) (by omega) ⟨rfl, rfl, rfl⟩
  | succ q ih =>
    intro k t s ht hs hst hk hkq
    by_cases ht0 : t = 0
    · subst ht0
      refine jT_adv 2 (pcN := 46) (LN := [(5, (0, ((k : Nat) : Int))), (4, (4, 1)), (3, (4, 0)), (0, (0, ((a : Nat) : Int))), (1, (0, ((b : Nat) : Int)))]) (stN := [(0, 0), (4, 0)]) (hsN := [(100, [], jenc ((0 : Nat) : Int)), (100, [], jenc ((s : Nat) : Int))]) (c1 := 0) (s1 := 0) (c2 := 8 * (q + 1)) (s2 := 448 * (q + 1)) (by exact rfl) ?_ (by omega) (by omega)
      refine jT_iald (x := 0) (a := 0) (j := 0) (fs := []) (X := jenc ((0 : Nat) : Int)) (by rfl) (by rfl) (by rfl) (rfl) (rfl) ?_
      refine jT_ifT (t := 115) (by rfl) (by rfl) (by rfl) (jw_z) (by simp only [jcP] <;> omega) ?_
      refine jT_loc (LN := [(4, (4, 1))]) (by show List.Nodup [4]; decide) (by intro q hq; simp only [List.mem_cons, List.not_mem_nil, or_false] at hq; rcases hq with rfl <;> rfl) ?_
      refine jT_gc [1] (hs0 := [(100, [], jenc ((s : Nat) : Int))]) (L0 := [(4, (4, 0))]) (st0 := []) (by rfl) (by rfl) (⟨rfl, trivial⟩) (by rfl) (by rfl) (by rfl) ?_
      refine jT_adv 1 (pcN := 117) (LN := [(4, (4, 0))]) (stN := [(4, 0)]) (hsN := [(100, [], jenc ((s : Nat) : Int))]) (c1 := 0) (s1 := 0) (c2 := 8 * (q + 1)) (s2 := 448 * (q + 1)) (by exact rfl) ?_ (by omega) (by omega)
      exact jT_ret rfl (by decide) (by show 0 ≤ 1; decide) (by omega) (by omega) ⟨rfl, rfl, by rw [show jatF a b (q + 1) k 0 s = s from if_pos rfl]⟩
    · have h9 := jat_9 hb0 hab ht
      have hl1 := jat_le (t := t) hb0 hab
      have hl2 := jat_le (t := t * a / b) hb0 hab
      have hdv := Nat.div_le_self (t * a / b * a / b) k
      have hp1 : t * a < 1000000000 ^ 54 := Nat.lt_of_le_of_lt (Nat.mul_le_mul (show t ≤ 1000000000 ^ 40 by omega) (show a ≤ 2147483648 by omega)) (by decide)
      have hp2 : t * a / b * a < 1000000000 ^ 54 := Nat.lt_of_le_of_lt (Nat.mul_le_mul_right a (show t * a / b ≤ t by omega)) hp1
      rw [show jatF a b (q + 1) k t s = jatF a b q (k + 2) (t * a / b * a / b) (s + t * a / b * a / b / k) from if_neg ht0]
      have sg : (((t : Nat) : Int)).sign = 1 := Int.sign_eq_one_of_pos (by omega)
      have e1 : t * a = t := by rw [ha, Nat.mul_one]
      have e2 : t * a / b * a = t * a / b := by rw [ha, Nat.mul_one]
      rw [e2]
      rw [e2] at h9 hl2 hdv hp2
      rw [e1]
      rw [e1] at h9 hl1 hl2 hdv hp1 hp2
      refine jT.mono (b1 := 8 * q + 8) (b2 := 448 * q + 448) ?_ (Nat.le_refl _) (by omega) (by omega) (fun _ _ _ h => h)
      refine jT_adv 2 (pcN := 46) (LN := [(5, (0, ((k : Nat) : Int))), (4, (4, 1)), (3, (4, 0)), (0, (0, ((a : Nat) : Int))), (1, (0, ((b : Nat) : Int)))]) (stN := [(0, 0), (4, 0)]) (hsN := [(100, [], jenc ((t : Nat) : Int)), (100, [], jenc ((s : Nat) : Int))]) (c1 := 0) (s1 := 0) (c2 := 8 * q + 8) (s2 := 448 * q + 448) (by exact rfl) ?_ (by omega) (by omega)
      refine jT_iald (x := (((t : Nat) : Int)).sign) (a := 0) (j := 0) (fs := []) (X := jenc ((t : Nat) : Int)) (by rfl) (by rfl) (by rfl) (rfl) (rfl) ?_
      refine jT_ifF (t := 115) (by rfl) (by rfl) (by rfl) (jw_idd (by omega) (by omega)) (by simp only [jcP] <;> omega) ?_
      refine jT_adv 2 (pcN := 52) (LN := [(5, (0, ((k : Nat) : Int))), (4, (4, 1)), (3, (4, 0)), (0, (0, ((a : Nat) : Int))), (1, (0, ((b : Nat) : Int)))]) (stN := [(0, 1), (0, ((a : Nat) : Int))]) (hsN := [(100, [], jenc ((t : Nat) : Int)), (100, [], jenc ((s : Nat) : Int))]) (c1 := 0) (s1 := 0) (c2 := 8 * q + 8) (s2 := 448 * q + 448) (by exact rfl) ?_ (by omega) (by omega)
      refine jT_icF (t := 59) (b := 1) (by rfl) (by rfl) (by rfl) (jw_k (by omega)) (rfl) (by simp only [jcP] <;> omega) ?_
      refine jT_adv 3 (pcN := 69) (LN := [(5, (0, ((k : Nat) : Int))), (4, (4, 1)), (3, (4, 0)), (0, (0, ((a : Nat) : Int))), (1, (0, ((b : Nat) : Int)))]) (stN := [(0, ((b : Nat) : Int)), (4, 0)]) (hsN := [(100, [], jenc ((t : Nat) : Int)), (100, [], jenc ((s : Nat) : Int))]) (c1 := 0) (s1 := 0) (c2 := 8 * q + 8) (s2 := 448 * q + 448) (by exact rfl) ?_ (by omega) (by omega)
      refine jT_call [0] (y := 180) (pcN := 72) (dC := 1) (bc1 := 1) (bc2 := 56) (c1 := 8 * q + 7) (c2 := 448 * q + 392) (as := [(4, 0), (0, ((b : Nat) : Int))]) (asC := [(4, 0), (0, ((b : Nat) : Int))]) (LN := [(5, (0, ((k : Nat) : Int))), (4, (4, 1)), (3, (4, 0)), (0, (0, ((a : Nat) : Int))), (1, (0, ((b : Nat) : Int)))]) (stN := []) (hsC := [(100, [], jenc ((t : Nat) : Int))]) (jT_div (d := 0) (a := ((t : Nat) : Int)) (jnA (by omega)) hb0 hb2) (by rfl) (by rfl) (by rfl) (by rfl) (⟨rfl, trivial⟩) (by rfl) (by rfl) (by omega) (by show 0 ≤ 2; omega) (by omega) (by omega) ?_ (fun _ _ hq => absurd hq.1 (by decide))
      rintro v hsN ⟨-, rfl, rfl⟩
      refine jT_eq (LN := [(5, (0, ((k : Nat) : Int))), (4, (4, 1)), (3, (4, 0)), (0, (0, ((a : Nat) : Int))), (1, (0, ((b : Nat) : Int)))]) (stN := [(4, 2)]) (hsN := [(100, [], jenc ((t : Nat) : Int)), (100, [], jenc ((s : Nat) : Int)), (100, [], jenc ((t / b : Nat) : Int))]) rfl (rfl) (rfl) ?_
      refine jT_adv 3 (pcN := 75) (LN := [(3, (4, 2)), (5, (0, ((k : Nat) : Int))), (4, (4, 1)), (0, (0, ((a : Nat) : Int))), (1, (0, ((b : Nat) : Int)))]) (stN := [(0, 1), (0, ((a : Nat) : Int))]) (hsN := [(100, [], jenc ((t : Nat) : Int)), (100, [], jenc ((s : Nat) : Int)), (100, [], jenc ((t / b : Nat) : Int))]) (c1 := 0) (s1 := 0) (c2 := 8 * q + 7) (s2 := 448 * q + 392) (by exact rfl) ?_ (by omega) (by omega)
      refine jT_loc (LN := [(3, (4, 2)), (4, (4, 1)), (5, (0, ((k : Nat) : Int))), (0, (0, ((a : Nat) : Int))), (1, (0, ((b : Nat) : Int)))]) (by show List.Nodup [3, 4, 5, 0, 1]; decide) (by intro q hq; simp only [List.mem_cons, List.not_mem_nil, or_false] at hq; rcases hq with rfl | rfl | rfl | rfl | rfl <;> rfl) ?_
      refine jT_gc [2, 1] (hs0 := [(100, [], jenc ((t / b : Nat) : Int)), (100, [], jenc ((s : Nat) : Int))]) (L0 := [(3, (4, 0)), (4, (4, 1)), (5, (0, ((k : Nat) : Int))), (0, (0, ((a : Nat) : Int))), (1, (0, ((b : Nat) : Int)))]) (st0 := [(0, 1), (0, ((a : Nat) : Int))]) (by rfl) (by rfl) (⟨rfl, rfl, trivial⟩) (by rfl) (by rfl) (by rfl) ?_
      refine jT_icF (t := 82) (b := 1) (by rfl) (by rfl) (by rfl) (jw_k (by omega)) (rfl) (by simp only [jcP] <;> omega) ?_
      refine jT_adv 3 (pcN := 92) (LN := [(3, (4, 0)), (4, (4, 1)), (5, (0, ((k : Nat) : Int))), (0, (0, ((a : Nat) : Int))), (1, (0, ((b : Nat) : Int)))]) (stN := [(0, ((b : Nat) : Int)), (4, 0)]) (hsN := [(100, [], jenc ((t / b : Nat) : Int)), (100, [], jenc ((s : Nat) : Int))]) (c1 := 0) (s1 := 0) (c2 := 8 * q + 7) (s2 := 448 * q + 392) (by exact rfl) ?_ (by omega) (by omega)
      refine jT_call [0] (y := 180) (pcN := 95) (dC := 1) (bc1 := 1) (bc2 := 56) (c1 := 8 * q + 6) (c2 := 448 * q + 336) (as := [(4, 0), (0, ((b : Nat) : Int))]) (asC := [(4, 0), (0, ((b : Nat) : Int))]) (LN := [(3, (4, 0)), (4, (4, 1)), (5, (0, ((k : Nat) : Int))), (0, (0, ((a : Nat) : Int))), (1, (0, ((b : Nat) : Int)))]) (stN := []) (hsC := [(100, [], jenc ((t / b : Nat) : Int))]) (jT_div (d := 0) (a := ((t / b : Nat) : Int)) (jnA (by omega)) hb0 hb2) (by rfl) (by rfl) (by rfl) (by rfl) (⟨rfl, trivial⟩) (by rfl) (by rfl) (by omega) (by show 0 ≤ 2; omega) (by omega) (by omega) ?_ (fun _ _ hq => absurd hq.1 (by decide))
      rintro v hsN ⟨-, rfl, rfl⟩
      refine jT_eq (LN := [(3, (4, 0)), (4, (4, 1)), (5, (0, ((k : Nat) : Int))), (0, (0, ((a : Nat) : Int))), (1, (0, ((b : Nat) : Int)))]) (stN := [(4, 2)]) (hsN := [(100, [], jenc ((t / b : Nat) : Int)), (100, [], jenc ((s : Nat) : Int)), (100, [], jenc ((t / b / b : Nat) : Int))]) rfl (rfl) (rfl) ?_
      refine jT_adv 4 (pcN := 101) (LN := [(3, (4, 2)), (4, (4, 1)), (5, (0, ((k : Nat) : Int))), (0, (0, ((a : Nat) : Int))), (1, (0, ((b : Nat) : Int)))]) (stN := [(0, ((k : Nat) : Int)), (4, 2), (4, 1)]) (hsN := [(100, [], jenc ((t / b : Nat) : Int)), (100, [], jenc ((s : Nat) : Int)), (100, [], jenc ((t / b / b : Nat) : Int))]) (c1 := 0) (s1 := 0) (c2 := 8 * q + 6) (s2 := 448 * q + 336) (by exact rfl) ?_ (by omega) (by omega)
      refine jT_loc (LN := [(3, (4, 2)), (4, (4, 1)), (5, (0, ((k : Nat) : Int))), (0, (0, ((a : Nat) : Int))), (1, (0, ((b : Nat) : Int)))]) (by show List.Nodup [3, 4, 5, 0, 1]; decide) (by intro q hq; simp only [List.mem_cons, List.not_mem_nil, or_false] at hq; rcases hq with rfl | rfl | rfl | rfl | rfl <;> rfl) ?_
      refine jT_gc [2, 1] (hs0 := [(100, [], jenc ((t / b / b : Nat) : Int)), (100, [], jenc ((s : Nat) : Int))]) (L0 := [(3, (4, 0)), (4, (4, 1)), (5, (0, ((k : Nat) : Int))), (0, (0, ((a : Nat) : Int))), (1, (0, ((b : Nat) : Int)))]) (st0 := [(0, ((k : Nat) : Int)), (4, 0), (4, 1)]) (by rfl) (by rfl) (⟨rfl, rfl, trivial⟩) (by rfl) (by rfl) (by rfl) ?_
      refine jT_call [0] (y := 180) (pcN := 104) (dC := 1) (bc1 := 1) (bc2 := 56) (c1 := 8 * q + 5) (c2 := 448 * q + 280) (as := [(4, 0), (0, ((k : Nat) : Int))]) (asC := [(4, 0), (0, ((k : Nat) : Int))]) (LN := [(3, (4, 0)), (4, (4, 1)), (5, (0, ((k : Nat) : Int))), (0, (0, ((a : Nat) : Int))), (1, (0, ((b : Nat) : Int)))]) (stN := [(4, 1)]) (hsC := [(100, [], jenc ((t / b / b : Nat) : Int))]) (jT_div (d := 0) (a := ((t / b / b : Nat) : Int)) (jnA (by omega)) (show 0 < k by omega) (by omega)) (by rfl) (by rfl) (by rfl) (by rfl) (⟨rfl, trivial⟩) (by rfl) (by rfl) (by omega) (by show 0 ≤ 2; omega) (by omega) (by omega) ?_ (fun _ _ hq => absurd hq.1 (by decide))
      rintro v hsN ⟨-, rfl, rfl⟩
      refine jT_eq (LN := [(3, (4, 0)), (4, (4, 1)), (5, (0, ((k : Nat) : Int))), (0, (0, ((a : Nat) : Int))), (1, (0, ((b : Nat) : Int)))]) (stN := [(4, 2), (4, 1)]) (hsN := [(100, [], jenc ((t / b / b : Nat) : Int)), (100, [], jenc ((s : Nat) : Int)), (100, [], jenc ((t / b / b / k : Nat) : Int))]) rfl (rfl) (rfl) ?_
      by_cases hz : t / b / b / k = 0
      · rw [hz, Nat.add_zero]
        refine jT_call [1, 2] (y := 181) (pcN := 107) (dC := 0) (bc1 := 0) (bc2 := 0) (c1 := 8 * q + 5) (c2 := 448 * q + 280) (as := [(4, 1), (4, 2)]) (asC := [(4, 0), (4, 1)]) (LN := [(3, (4, 0)), (4, (4, 1)), (5, (0, ((k : Nat) : Int))), (0, (0, ((a : Nat) : Int))), (1, (0, ((b : Nat) : Int)))]) (stN := []) (hsC := [(100, [], jenc ((s : Nat) : Int)), (100, [], jenc 0)]) (jT_added_0r (d := 0) (a := ((s : Nat) : Int)) (by omega)) (by rfl) (by rfl) (by rfl) (by rfl) (⟨rfl, rfl, trivial⟩) (by rfl) (by rfl) (by omega) (by show 0 ≤ 3; omega) (by omega) (by omega) ?_ (fun _ _ hq => absurd hq.1 (by decide))
        rintro v hsN ⟨-, rfl, rfl⟩
        refine jT_eq (LN := [(3, (4, 0)), (4, (4, 1)), (5, (0, ((k : Nat) : Int))), (0, (0, ((a : Nat) : Int))), (1, (0, ((b : Nat) : Int)))]) (stN := [(4, 1)]) (hsN := [(100, [], jenc ((t / b / b : Nat) : Int)), (100, [], jenc ((s : Nat) : Int)), (100, [], jenc ((0 : Nat) : Int))]) rfl (rfl) (rfl) ?_
        refine jT_adv 3 (pcN := 44) (LN := [(5, (0, ((k : Nat) : Int) + 2)), (4, (4, 1)), (3, (4, 0)), (0, (0, ((a : Nat) : Int))), (1, (0, ((b : Nat) : Int)))]) (stN := []) (hsN := [(100, [], jenc ((t / b / b : Nat) : Int)), (100, [], jenc ((s : Nat) : Int)), (100, [], jenc ((0 : Nat) : Int))]) (c1 := 0) (s1 := 0) (c2 := 8 * q + 5) (s2 := 448 * q + 280) (by exact rfl) ?_ (by omega) (by omega)
        refine jT_loc (LN := [(5, (0, ((k : Nat) : Int) + 2)), (4, (4, 1)), (3, (4, 0)), (0, (0, ((a : Nat) : Int))), (1, (0, ((b : Nat) : Int)))]) (by show List.Nodup [5, 4, 3, 0, 1]; decide) (by intro q hq; simp only [List.mem_cons, List.not_mem_nil, or_false] at hq; rcases hq with rfl | rfl | rfl | rfl | rfl <;> rfl) ?_
        refine jT_gc [0, 1] (hs0 := [(100, [], jenc ((t / b / b : Nat) : Int)), (100, [], jenc ((s : Nat) : Int))]) (L0 := [(5, (0, ((k : Nat) : Int) + 2)), (4, (4, 1)), (3, (4, 0)), (0, (0, ((a : Nat) : Int))), (1, (0, ((b : Nat) : Int)))]) (st0 := []) (by rfl) (by rfl) (⟨rfl, rfl, trivial⟩) (by rfl) (by rfl) (by rfl) ?_
        exact jT.mono (ih (k + 2) _ s h9 hs (by omega) (by omega) (by omega)) (Nat.le_refl _) (by omega) (by omega) (fun _ _ _ h => h)
      · refine jT_call [1, 2] (y := 181) (pcN := 107) (dC := 1) (bc1 := 1) (bc2 := 56) (c1 := 8 * q + 4) (c2 := 448 * q + 224) (as := [(4, 1), (4, 2)]) (asC := [(4, 0), (4, 1)]) (LN := [(3, (4, 0)), (4, (4, 1)), (5, (0, ((k : Nat) : Int))), (0, (0, ((a : Nat) : Int))), (1, (0, ((b : Nat) : Int)))]) (stN := []) (hsC := [(100, [], jenc ((s : Nat) : Int)), (100, [], jenc ((t / b / b / k : Nat) : Int))]) (jT_added (d := 0) (a := ((s : Nat) : Int)) (b := ((t / b / b / k : Nat) : Int)) (by omega) (by omega) (jnA (by omega)) (jnA (by omega)) (by show ((s + t / b / b / k : Nat) : Int).natAbs < _; exact jnA (by omega))) (by rfl) (by rfl) (by rfl) (by rfl) (⟨rfl, rfl, trivial⟩) (by rfl) (by rfl) (by omega) (by show 0 ≤ 3; omega) (by omega) (by omega) ?_ (fun _ _ hq => absurd hq.1 (by decide))
        rintro v hsN ⟨-, rfl, rfl⟩
        refine jT_eq (LN := [(3, (4, 0)), (4, (4, 1)), (5, (0, ((k : Nat) : Int))), (0, (0, ((a : Nat) : Int))), (1, (0, ((b : Nat) : Int)))]) (stN := [(4, 3)]) (hsN := [(100, [], jenc ((t / b / b : Nat) : Int)), (100, [], jenc ((s : Nat) : Int)), (100, [], jenc ((t / b / b / k : Nat) : Int)), (100, [], jenc ((s + t / b / b / k : Nat) : Int))]) rfl (rfl) (rfl) ?_
        refine jT_adv 3 (pcN := 44) (LN := [(5, (0, ((k : Nat) : Int) + 2)), (4, (4, 3)), (3, (4, 0)), (0, (0, ((a : Nat) : Int))), (1, (0, ((b : Nat) : Int)))]) (stN := []) (hsN := [(100, [], jenc ((t / b / b : Nat) : Int)), (100, [], jenc ((s : Nat) : Int)), (100, [], jenc ((t / b / b / k : Nat) : Int)), (100, [], jenc ((s + t / b / b / k : Nat) : Int))]) (c1 := 0) (s1 := 0) (c2 := 8 * q + 4) (s2 := 448 * q + 224) (by exact rfl) ?_ (by omega) (by omega)
        refine jT_loc (LN := [(5, (0, ((k : Nat) : Int) + 2)), (4, (4, 3)), (3, (4, 0)), (0, (0, ((a : Nat) : Int))), (1, (0, ((b : Nat) : Int)))]) (by show List.Nodup [5, 4, 3, 0, 1]; decide) (by intro q hq; simp only [List.mem_cons, List.not_mem_nil, or_false] at hq; rcases hq with rfl | rfl | rfl | rfl | rfl <;> rfl) ?_
        refine jT_gc [0, 3] (hs0 := [(100, [], jenc ((t / b / b : Nat) : Int)), (100, [], jenc ((s + t / b / b / k : Nat) : Int))]) (L0 := [(5, (0, ((k : Nat) : Int) + 2)), (4, (4, 1)), (3, (4, 0)), (0, (0, ((a : Nat) : Int))), (1, (0, ((b : Nat) : Int)))]) (st0 := []) (by rfl) (by rfl) (⟨rfl, rfl, trivial⟩) (by rfl) (by rfl) (by rfl) ?_
        exact jT.mono (ih (k + 2) _ _ h9 (Nat.add_pos_left hs _) (by omega) (by omega) (by omega)) (Nat.le_refl _) (by omega) (by omega) (fun _ _ _ h => h)
/-- the row of the half of a logarithm: times 10 to the power of 189 -/
def jat (a b : Nat) : Nat := let t := 1000000000 ^ 21 * a / b; jatF a b 200 3 t t
theorem jat_t0 {a b : Nat} (hb : 0 < b) (hab : 3 * a ≤ b) : 1000000000 ^ 21 * a / b ≤ 1000000000 ^ 21 / 3 := jat_le hb hab
theorem jenc_one : ja2 (if jcn (1000000000 ^ 21) 54 = 0 then 0 else 1) ((jcn (1000000000 ^ 21) 54 : Nat) : Int) (fun k => ((jlm (1000000000 ^ 21) k : Nat) : Int)) = jenc ((1000000000 ^ 21 : Nat) : Int) := by decide +kernel
theorem jone_ar : (List.replicate 56 (0 : Int)).set 23 1 = ja2 0 0 (fun k => ((jlm (1000000000 ^ 21) k : Nat) : Int)) := by decide +kernel
theorem jT_atanh1 {xs : List Int} {d a b : Nat} (ha : a = 1) (hab : 3 * a ≤ b) (hb2 : b < 2147483648) (ht0 : 0 < 1000000000 ^ 21 * a / b) : jT xs (d + 2) 176 0 0 [(0, (0, ((a : Nat) : Int))), (1, (0, ((b : Nat) : Int)))] [] [] 1700 95200 (fun k0 v hsN => k0 = 0 ∧ v = (4, 0) ∧ hsN = [(100, [], jenc ((jat a b : Nat) : Int))]) := by
  have hb0 : 0 < b := by omega
  have ht := jat_t0 hb0 hab
  have hp1 : 1000000000 ^ 21 * a < 1000000000 ^ 54 := Nat.lt_of_le_of_lt (Nat.mul_le_mul_left _ (show a ≤ 2147483648 by omega)) (by decide)
  show jT xs (d + 2) 176 0 0 _ [] [] 1700 95200 (fun k0 v hsN => k0 = 0 ∧ v = (4, 0) ∧ hsN = [(100, [], jenc ((jatF a b 200 3 (1000000000 ^ 21 * a / b) (1000000000 ^ 21 * a / b) : Nat) : Int))])
  have e1 : 1000000000 ^ 21 * a = 1000000000 ^ 21 := by rw [ha, Nat.mul_one]
  rw [e1] at ht ht0 ⊢
  refine jT_adv 6 (pcN := 9) (LN := [(2, (4, 0)), (0, (0, ((a : Nat) : Int))), (1, (0, ((b : Nat) : Int)))]) (stN := [(0, 1), (0, 23), (4, 0)]) (hsN := [(100, [], List.replicate 56 0)]) (c1 := 1) (s1 := 56) (c2 := 1699) (s2 := 95144) (by exact rfl) ?_ (by omega) (by omega)
  refine jT_iast (x := 1) (a := 0) (j := 23) (fs := []) (X := List.replicate 56 0) (by rfl) (by rfl) (by rfl) (rfl) (by decide) ?_
  refine jT_eq (LN := [(2, (4, 0)), (0, (0, ((a : Nat) : Int))), (1, (0, ((b : Nat) : Int)))]) (stN := []) (hsN := [(100, [], ja2 0 0 (fun k => ((jlm (1000000000 ^ 21) k : Nat) : Int)))]) rfl rfl (by show [((100, [], _) : JC)] = _; rw [jone_ar]) ?_
  refine jT_adv 2 (pcN := 12) (LN := [(2, (4, 0)), (0, (0, ((a : Nat) : Int))), (1, (0, ((b : Nat) : Int)))]) (stN := [(0, 1), (4, 0)]) (hsN := [(100, [], ja2 0 0 (fun k => ((jlm (1000000000 ^ 21) k : Nat) : Int)))]) (c1 := 0) (s1 := 0) (c2 := 1699) (s2 := 95144) (by exact rfl) ?_ (by omega) (by omega)
  refine jT_call [0] (y := 177) (pcN := 15) (dC := 0) (bc1 := 0) (bc2 := 0) (c1 := 1699) (c2 := 95144) (as := [(4, 0), (0, 1)]) (asC := [(4, 0), (0, 1)]) (LN := [(2, (4, 0)), (0, (0, ((a : Nat) : Int))), (1, (0, ((b : Nat) : Int)))]) (stN := []) (hsC := [(100, [], ja2 0 0 (fun k => ((jlm (1000000000 ^ 21) k : Nat) : Int)))]) (jT_trims (n := 1000000000 ^ 21) (d := 0)) (by rfl) (by rfl) (by rfl) (by rfl) (⟨rfl, trivial⟩) (by rfl) (by rfl) (by omega) (by show 0 ≤ 1; omega) (by omega) (by omega) ?_ (fun _ _ hq => absurd hq.1 (by decide))
  rintro v hsN ⟨-, rfl, rfl⟩
  refine jT_eq (LN := [(2, (4, 0)), (0, (0, ((a : Nat) : Int))), (1, (0, ((b : Nat) : Int)))]) (stN := []) (hsN := [(100, [], jenc ((1000000000 ^ 21 : Nat) : Int))]) rfl (rfl) (by rw [jenc_one]; rfl) ?_
  refine jT_adv 2 (pcN := 17) (LN := [(2, (4, 0)), (0, (0, ((a : Nat) : Int))), (1, (0, ((b : Nat) : Int)))]) (stN := [(0, 1), (0, ((a : Nat) : Int))]) (hsN := [(100, [], jenc ((1000000000 ^ 21 : Nat) : Int))]) (c1 := 0) (s1 := 0) (c2 := 1699) (s2 := 95144) (by exact rfl) ?_ (by omega) (by omega)
  refine jT_icF (t := 24) (b := 1) (by rfl) (by rfl) (by rfl) (jw_k (by omega)) (rfl) (by simp only [jcP] <;> omega) ?_
  refine jT_adv 3 (pcN := 34) (LN := [(2, (4, 0)), (0, (0, ((a : Nat) : Int))), (1, (0, ((b : Nat) : Int)))]) (stN := [(0, ((b : Nat) : Int)), (4, 0)]) (hsN := [(100, [], jenc ((1000000000 ^ 21 : Nat) : Int))]) (c1 := 0) (s1 := 0) (c2 := 1699) (s2 := 95144) (by exact rfl) ?_ (by omega) (by omega)
  refine jT_call [0] (y := 180) (pcN := 37) (dC := 1) (bc1 := 1) (bc2 := 56) (c1 := 1698) (c2 := 95088) (as := [(4, 0), (0, ((b : Nat) : Int))]) (asC := [(4, 0), (0, ((b : Nat) : Int))]) (LN := [(2, (4, 0)), (0, (0, ((a : Nat) : Int))), (1, (0, ((b : Nat) : Int)))]) (stN := []) (hsC := [(100, [], jenc ((1000000000 ^ 21 : Nat) : Int))]) (jT_div (d := 0) (a := ((1000000000 ^ 21 : Nat) : Int)) (jnA (by omega)) hb0 hb2) (by rfl) (by rfl) (by rfl) (by rfl) (⟨rfl, trivial⟩) (by rfl) (by rfl) (by omega) (by show 0 ≤ 1; omega) (by omega) (by omega) ?_ (fun _ _ hq => absurd hq.1 (by decide))
  rintro v hsN ⟨-, rfl, rfl⟩
  refine jT_eq (LN := [(2, (4, 0)), (0, (0, ((a : Nat) : Int))), (1, (0, ((b : Nat) : Int)))]) (stN := [(4, 1)]) (hsN := [(100, [], jenc ((1000000000 ^ 21 : Nat) : Int)), (100, [], jenc ((1000000000 ^ 21 / b : Nat) : Int))]) rfl (rfl) (rfl) ?_
  refine jT_adv 7 (pcN := 46) (LN := [(5, (0, 3)), (4, (4, 1)), (3, (4, 1)), (2, (4, 0)), (0, (0, ((a : Nat) : Int))), (1, (0, ((b : Nat) : Int)))]) (stN := [(0, 0), (4, 1)]) (hsN := [(100, [], jenc ((1000000000 ^ 21 : Nat) : Int)), (100, [], jenc ((1000000000 ^ 21 / b : Nat) : Int))]) (c1 := 0) (s1 := 0) (c2 := 1698) (s2 := 95088) (by exact rfl) ?_ (by omega) (by omega)
  refine jT_loc (LN := [(3, (4, 1)), (4, (4, 1)), (5, (0, 3)), (0, (0, ((a : Nat) : Int))), (1, (0, ((b : Nat) : Int)))]) (by show List.Nodup [3, 4, 5, 0, 1]; decide) (by intro q hq; simp only [List.mem_cons, List.not_mem_nil, or_false] at hq; rcases hq with rfl | rfl | rfl | rfl | rfl <;> rfl) ?_
  refine jT_gc [1] (hs0 := [(100, [], jenc ((1000000000 ^ 21 / b : Nat) : Int))]) (L0 := [(3, (4, 0)), (4, (4, 0)), (5, (0, 3)), (0, (0, ((a : Nat) : Int))), (1, (0, ((b : Nat) : Int)))]) (st0 := [(0, 0), (4, 0)]) (by rfl) (by rfl) (⟨rfl, trivial⟩) (by rfl) (by rfl) (by rfl) ?_
  have sg : (((1000000000 ^ 21 / b : Nat) : Int)).sign = 1 := Int.sign_eq_one_of_pos (by omega)
  have hl1 := jat_le (t := 1000000000 ^ 21 / b) hb0 hab
  have hl2 := jat_le (t := 1000000000 ^ 21 / b * a / b) hb0 hab
  have h200 : 1000000000 ^ 21 / b < 9 ^ 200 := Nat.lt_of_le_of_lt ht (by decide)
  have h9 := jat_9 (q := 199) hb0 hab h200
  rw [show jatF a b 200 3 (1000000000 ^ 21 / b) (1000000000 ^ 21 / b) = jatF a b 199 (3 + 2) (1000000000 ^ 21 / b * a / b * a / b) (1000000000 ^ 21 / b + 1000000000 ^ 21 / b * a / b * a / b / 3) from if_neg (by omega)]
  have hp2 : 1000000000 ^ 21 / b * a < 1000000000 ^ 54 := Nat.lt_of_le_of_lt (Nat.mul_le_mul (show 1000000000 ^ 21 / b ≤ 1000000000 ^ 21 by omega) (show a ≤ 2147483648 by omega)) (by decide)
  have hp3 : 1000000000 ^ 21 / b * a / b * a < 1000000000 ^ 54 := Nat.lt_of_le_of_lt (Nat.mul_le_mul_right a (show 1000000000 ^ 21 / b * a / b ≤ 1000000000 ^ 21 / b by omega)) hp2
  have e3 : 1000000000 ^ 21 / b * a = 1000000000 ^ 21 / b := by rw [ha, Nat.mul_one]
  have e4 : 1000000000 ^ 21 / b / b * a = 1000000000 ^ 21 / b / b := by rw [ha, Nat.mul_one]
  rw [e3, e4]
  rw [e3, e4] at h9 hp3
  rw [e3] at hl1 hl2 hp2
  rw [e4] at hl2
  refine jT_iald (x := (((1000000000 ^ 21 / b : Nat) : Int)).sign) (a := 0) (j := 0) (fs := []) (X := jenc ((1000000000 ^ 21 / b : Nat) : Int)) (by rfl) (by rfl) (by rfl) (rfl) (rfl) ?_
  refine jT_ifF (t := 115) (by rfl) (by rfl) (by rfl) (jw_idd (by omega) (by omega)) (by simp only [jcP] <;> omega) ?_
  refine jT_adv 2 (pcN := 52) (LN := [(3, (4, 0)), (4, (4, 0)), (5, (0, 3)), (0, (0, ((a : Nat) : Int))), (1, (0, ((b : Nat) : Int)))]) (stN := [(0, 1), (0, ((a : Nat) : Int))]) (hsN := [(100, [], jenc ((1000000000 ^ 21 / b : Nat) : Int))]) (c1 := 0) (s1 := 0) (c2 := 1698) (s2 := 95088) (by exact rfl) ?_ (by omega) (by omega)
  refine jT_icF (t := 59) (b := 1) (by rfl) (by rfl) (by rfl) (jw_k (by omega)) (rfl) (by simp only [jcP] <;> omega) ?_
  refine jT_adv 3 (pcN := 69) (LN := [(3, (4, 0)), (4, (4, 0)), (5, (0, 3)), (0, (0, ((a : Nat) : Int))), (1, (0, ((b : Nat) : Int)))]) (stN := [(0, ((b : Nat) : Int)), (4, 0)]) (hsN := [(100, [], jenc ((1000000000 ^ 21 / b : Nat) : Int))]) (c1 := 0) (s1 := 0) (c2 := 1698) (s2 := 95088) (by exact rfl) ?_ (by omega) (by omega)
  refine jT_call [0] (y := 180) (pcN := 72) (dC := 1) (bc1 := 1) (bc2 := 56) (c1 := 1697) (c2 := 95032) (as := [(4, 0), (0, ((b : Nat) : Int))]) (asC := [(4, 0), (0, ((b : Nat) : Int))]) (LN := [(3, (4, 0)), (4, (4, 0)), (5, (0, 3)), (0, (0, ((a : Nat) : Int))), (1, (0, ((b : Nat) : Int)))]) (stN := []) (hsC := [(100, [], jenc ((1000000000 ^ 21 / b : Nat) : Int))]) (jT_div (d := 0) (a := ((1000000000 ^ 21 / b : Nat) : Int)) (jnA (by omega)) hb0 hb2) (by rfl) (by rfl) (by rfl) (by rfl) (⟨rfl, trivial⟩) (by rfl) (by rfl) (by omega) (by show 0 ≤ 1; omega) (by omega) (by omega) ?_ (fun _ _ hq => absurd hq.1 (by decide))
  rintro v hsN ⟨-, rfl, rfl⟩
  refine jT_eq (LN := [(3, (4, 0)), (4, (4, 0)), (5, (0, 3)), (0, (0, ((a : Nat) : Int))), (1, (0, ((b : Nat) : Int)))]) (stN := [(4, 1)]) (hsN := [(100, [], jenc ((1000000000 ^ 21 / b : Nat) : Int)), (100, [], jenc ((1000000000 ^ 21 / b / b : Nat) : Int))]) rfl (rfl) (rfl) ?_
  refine jT_adv 3 (pcN := 75) (LN := [(3, (4, 1)), (4, (4, 0)), (5, (0, 3)), (0, (0, ((a : Nat) : Int))), (1, (0, ((b : Nat) : Int)))]) (stN := [(0, 1), (0, ((a : Nat) : Int))]) (hsN := [(100, [], jenc ((1000000000 ^ 21 / b : Nat) : Int)), (100, [], jenc ((1000000000 ^ 21 / b / b : Nat) : Int))]) (c1 := 0) (s1 := 0) (c2 := 1697) (s2 := 95032) (by exact rfl) ?_ (by omega) (by omega)
  refine jT_loc (LN := [(3, (4, 1)), (4, (4, 0)), (5, (0, 3)), (0, (0, ((a : Nat) : Int))), (1, (0, ((b : Nat) : Int)))]) (by show List.Nodup [3, 4, 5, 0, 1]; decide) (by intro q hq; simp only [List.mem_cons, List.not_mem_nil, or_false] at hq; rcases hq with rfl | rfl | rfl | rfl | rfl <;> rfl) ?_
  refine jT_gc [1, 0] (hs0 := [(100, [], jenc ((1000000000 ^ 21 / b / b : Nat) : Int)), (100, [], jenc ((1000000000 ^ 21 / b : Nat) : Int))]) (L0 := [(3, (4, 0)), (4, (4, 1)), (5, (0, 3)), (0, (0, ((a : Nat) : Int))), (1, (0, ((b : Nat) : Int)))]) (st0 := [(0, 1), (0, ((a : Nat) : Int))]) (by rfl) (by rfl) (⟨rfl, rfl, trivial⟩) (by rfl) (by rfl) (by rfl) ?_
  refine jT_icF (t := 82) (b := 1) (by rfl) (by rfl) (by rfl) (jw_k (by omega)) (rfl) (by simp only [jcP] <;> omega) ?_
  refine jT_adv 3 (pcN := 92) (LN := [(3, (4, 0)), (4, (4, 1)), (5, (0, 3)), (0, (0, ((a : Nat) : Int))), (1, (0, ((b : Nat) : Int)))]) (stN := [(0, ((b : Nat) : Int)), (4, 0)]) (hsN := [(100, [], jenc ((1000000000 ^ 21 / b / b : Nat) : Int)), (100, [], jenc ((1000000000 ^ 21 / b : Nat) : Int))]) (c1 := 0) (s1 := 0) (c2 := 1697) (s2 := 95032) (by exact rfl) ?_ (by omega) (by omega)
  refine jT_call [0] (y := 180) (pcN := 95) (dC := 1) (bc1 := 1) (bc2 := 56) (c1 := 1696) (c2 := 94976) (as := [(4, 0), (0, ((b : Nat) : Int))]) (asC := [(4, 0), (0, ((b : Nat) : Int))]) (LN := [(3, (4, 0)), (4, (4, 1)), (5, (0, 3)), (0, (0, ((a : Nat) : Int))), (1, (0, ((b : Nat) : Int)))]) (stN := []) (hsC := [(100, [], jenc ((1000000000 ^ 21 / b / b : Nat) : Int))]) (jT_div (d := 0) (a := ((1000000000 ^ 21 / b / b : Nat) : Int)) (jnA (by omega)) hb0 hb2) (by rfl) (by rfl) (by rfl) (by rfl) (⟨rfl, trivial⟩) (by rfl) (by rfl) (by omega) (by show 0 ≤ 2; omega) (by omega) (by omega) ?_ (fun _ _ hq => absurd hq.1 (by decide))
  rintro v hsN ⟨-, rfl, rfl⟩
  refine jT_eq (LN := [(3, (4, 0)), (4, (4, 1)), (5, (0, 3)), (0, (0, ((a : Nat) : Int))), (1, (0, ((b : Nat) : Int)))]) (stN := [(4, 2)]) (hsN := [(100, [], jenc ((1000000000 ^ 21 / b / b : Nat) : Int)), (100, [], jenc ((1000000000 ^ 21 / b : Nat) : Int)), (100, [], jenc ((1000000000 ^ 21 / b / b / b : Nat) : Int))]) rfl (rfl) (rfl) ?_
  refine jT_adv 4 (pcN := 101) (LN := [(3, (4, 2)), (4, (4, 1)), (5, (0, 3)), (0, (0, ((a : Nat) : Int))), (1, (0, ((b : Nat) : Int)))]) (stN := [(0, 3), (4, 2), (4, 1)]) (hsN := [(100, [], jenc ((1000000000 ^ 21 / b / b : Nat) : Int)), (100, [], jenc ((1000000000 ^ 21 / b : Nat) : Int)), (100, [], jenc ((1000000000 ^ 21 / b / b / b : Nat) : Int))]) (c1 := 0) (s1 := 0) (c2 := 1696) (s2 := 94976) (by exact rfl) ?_ (by omega) (by omega)
  refine jT_loc (LN := [(3, (4, 2)), (4, (4, 1)), (5, (0, 3)), (0, (0, ((a : Nat) : Int))), (1, (0, ((b : Nat) : Int)))]) (by show List.Nodup [3, 4, 5, 0, 1]; decide) (by intro q hq; simp only [List.mem_cons, List.not_mem_nil, or_false] at hq; rcases hq with rfl | rfl | rfl | rfl | rfl <;> rfl) ?_
  refine jT_gc [2, 1] (hs0 := [(100, [], jenc ((1000000000 ^ 21 / b / b / b : Nat) : Int)), (100, [], jenc ((1000000000 ^ 21 / b : Nat) : Int))]) (L0 := [(3, (4, 0)), (4, (4, 1)), (5, (0, 3)), (0, (0, ((a : Nat) : Int))), (1, (0, ((b : Nat) : Int)))]) (st0 := [(0, 3), (4, 0), (4, 1)]) (by rfl) (by rfl) (⟨rfl, rfl, trivial⟩) (by rfl) (by rfl) (by rfl) ?_
  refine jT_call [0] (y := 180) (pcN := 104) (dC := 1) (bc1 := 1) (bc2 := 56) (c1 := 1695) (c2 := 94920) (as := [(4, 0), (0, 3)]) (asC := [(4, 0), (0, 3)]) (LN := [(3, (4, 0)), (4, (4, 1)), (5, (0, 3)), (0, (0, ((a : Nat) : Int))), (1, (0, ((b : Nat) : Int)))]) (stN := [(4, 1)]) (hsC := [(100, [], jenc ((1000000000 ^ 21 / b / b / b : Nat) : Int))]) (jT_div (d := 0) (a := ((1000000000 ^ 21 / b / b / b : Nat) : Int)) (b := 3) (jnA (by omega)) (by decide) (by decide)) (by rfl) (by rfl) (by rfl) (by rfl) (⟨rfl, trivial⟩) (by rfl) (by rfl) (by omega) (by show 0 ≤ 2; omega) (by omega) (by omega) ?_ (fun _ _ hq => absurd hq.1 (by decide))
  rintro v hsN ⟨-, rfl, rfl⟩
  refine jT_eq (LN := [(3, (4, 0)), (4, (4, 1)), (5, (0, 3)), (0, (0, ((a : Nat) : Int))), (1, (0, ((b : Nat) : Int)))]) (stN := [(4, 2), (4, 1)]) (hsN := [(100, [], jenc ((1000000000 ^ 21 / b / b / b : Nat) : Int)), (100, [], jenc ((1000000000 ^ 21 / b : Nat) : Int)), (100, [], jenc ((1000000000 ^ 21 / b / b / b / 3 : Nat) : Int))]) rfl (rfl) (rfl) ?_
  by_cases hz : 1000000000 ^ 21 / b / b / b / 3 = 0
  · rw [hz, Nat.add_zero]
    refine jT_call [1, 2] (y := 181) (pcN := 107) (dC := 0) (bc1 := 0) (bc2 := 0) (c1 := 1695) (c2 := 94920) (as := [(4, 1), (4, 2)]) (asC := [(4, 0), (4, 1)]) (LN := [(3, (4, 0)), (4, (4, 1)), (5, (0, 3)), (0, (0, ((a : Nat) : Int))), (1, (0, ((b : Nat) : Int)))]) (stN := []) (hsC := [(100, [], jenc ((1000000000 ^ 21 / b : Nat) : Int)), (100, [], jenc 0)]) (jT_added_0r (d := 0) (a := ((1000000000 ^ 21 / b : Nat) : Int)) (by omega)) (by rfl) (by rfl) (by rfl) (by rfl) (⟨rfl, rfl, trivial⟩) (by rfl) (by rfl) (by omega) (by show 0 ≤ 3; omega) (by omega) (by omega) ?_ (fun _ _ hq => absurd hq.1 (by decide))
    rintro v hsN ⟨-, rfl, rfl⟩
    refine jT_eq (LN := [(3, (4, 0)), (4, (4, 1)), (5, (0, 3)), (0, (0, ((a : Nat) : Int))), (1, (0, ((b : Nat) : Int)))]) (stN := [(4, 1)]) (hsN := [(100, [], jenc ((1000000000 ^ 21 / b / b / b : Nat) : Int)), (100, [], jenc ((1000000000 ^ 21 / b : Nat) : Int)), (100, [], jenc ((0 : Nat) : Int))]) rfl (rfl) (rfl) ?_
    refine jT_adv 3 (pcN := 44) (LN := [(5, (0, 5)), (4, (4, 1)), (3, (4, 0)), (0, (0, ((a : Nat) : Int))), (1, (0, ((b : Nat) : Int)))]) (stN := []) (hsN := [(100, [], jenc ((1000000000 ^ 21 / b / b / b : Nat) : Int)), (100, [], jenc ((1000000000 ^ 21 / b : Nat) : Int)), (100, [], jenc ((0 : Nat) : Int))]) (c1 := 0) (s1 := 0) (c2 := 1695) (s2 := 94920) (by exact rfl) ?_ (by omega) (by omega)
    refine jT_loc (LN := [(5, (0, 5)), (4, (4, 1)), (3, (4, 0)), (0, (0, ((a : Nat) : Int))), (1, (0, ((b : Nat) : Int)))]) (by show List.Nodup [5, 4, 3, 0, 1]; decide) (by intro q hq; simp only [List.mem_cons, List.not_mem_nil, or_false] at hq; rcases hq with rfl | rfl | rfl | rfl | rfl <;> rfl) ?_
    refine jT_gc [0, 1] (hs0 := [(100, [], jenc ((1000000000 ^ 21 / b / b / b : Nat) : Int)), (100, [], jenc ((1000000000 ^ 21 / b : Nat) : Int))]) (L0 := [(5, (0, 5)), (4, (4, 1)), (3, (4, 0)), (0, (0, ((a : Nat) : Int))), (1, (0, ((b : Nat) : Int)))]) (st0 := []) (by rfl) (by rfl) (⟨rfl, rfl, trivial⟩) (by rfl) (by rfl) (by rfl) ?_
    exact jT.mono (jT_atanh1_loop ha hab hb2 199 5 _ _ h9 (by omega) (by omega) (by decide) (by decide)) (Nat.le_refl _) (by omega) (by omega) (fun _ _ _ h => h)
  · refine jT_call [1, 2] (y := 181) (pcN := 107) (dC := 1) (bc1 := 1) (bc2 := 56) (c1 := 1694) (c2 := 94864) (as := [(4, 1), (4, 2)]) (asC := [(4, 0), (4, 1)]) (LN := [(3, (4, 0)), (4, (4, 1)), (5, (0, 3)), (0, (0, ((a : Nat) : Int))), (1, (0, ((b : Nat) : Int)))]) (stN := []) (hsC := [(100, [], jenc ((1000000000 ^ 21 / b : Nat) : Int)), (100, [], jenc ((1000000000 ^ 21 / b / b / b / 3 : Nat) : Int))]) (jT_added (d := 0) (a := ((1000000000 ^ 21 / b : Nat) : Int)) (b := ((1000000000 ^ 21 / b / b / b / 3 : Nat) : Int)) (by omega) (by omega) (jnA (by omega)) (jnA (by omega)) (by show ((1000000000 ^ 21 / b + 1000000000 ^ 21 / b / b / b / 3 : Nat) : Int).natAbs < _; exact jnA (by omega))) (by rfl) (by rfl) (by rfl) (by rfl) (⟨rfl, rfl, trivial⟩) (by rfl) (by rfl) (by omega) (by show 0 ≤ 3; omega) (by omega) (by omega) ?_ (fun _ _ hq => absurd hq.1 (by decide))
    rintro v hsN ⟨-, rfl, rfl⟩
    refine jT_eq (LN := [(3, (4, 0)), (4, (4, 1)), (5, (0, 3)), (0, (0, ((a : Nat) : Int))), (1, (0, ((b : Nat) : Int)))]) (stN := [(4, 3)]) (hsN := [(100, [], jenc ((1000000000 ^ 21 / b / b / b : Nat) : Int)), (100, [], jenc ((1000000000 ^ 21 / b : Nat) : Int)), (100, [], jenc ((1000000000 ^ 21 / b / b / b / 3 : Nat) : Int)), (100, [], jenc ((1000000000 ^ 21 / b + 1000000000 ^ 21 / b / b / b / 3 : Nat) : Int))]) rfl (rfl) (rfl) ?_
    refine jT_adv 3 (pcN := 44) (LN := [(5, (0, 5)), (4, (4, 3)), (3, (4, 0)), (0, (0, ((a : Nat) : Int))), (1, (0, ((b : Nat) : Int)))]) (stN := []) (hsN := [(100, [], jenc ((1000000000 ^ 21 / b / b / b : Nat) : Int)), (100, [], jenc ((1000000000 ^ 21 / b : Nat) : Int)), (100, [], jenc ((1000000000 ^ 21 / b / b / b / 3 : Nat) : Int)), (100, [], jenc ((1000000000 ^ 21 / b + 1000000000 ^ 21 / b / b / b / 3 : Nat) : Int))]) (c1 := 0) (s1 := 0) (c2 := 1694) (s2 := 94864) (by exact rfl) ?_ (by omega) (by omega)
    refine jT_loc (LN := [(5, (0, 5)), (4, (4, 3)), (3, (4, 0)), (0, (0, ((a : Nat) : Int))), (1, (0, ((b : Nat) : Int)))]) (by show List.Nodup [5, 4, 3, 0, 1]; decide) (by intro q hq; simp only [List.mem_cons, List.not_mem_nil, or_false] at hq; rcases hq with rfl | rfl | rfl | rfl | rfl <;> rfl) ?_
    refine jT_gc [0, 3] (hs0 := [(100, [], jenc ((1000000000 ^ 21 / b / b / b : Nat) : Int)), (100, [], jenc ((1000000000 ^ 21 / b + 1000000000 ^ 21 / b / b / b / 3 : Nat) : Int))]) (L0 := [(5, (0, 5)), (4, (4, 1)), (3, (4, 0)), (0, (0, ((a : Nat) : Int))), (1, (0, ((b : Nat) : Int)))]) (st0 := []) (by rfl) (by rfl) (⟨rfl, rfl, trivial⟩) (by rfl) (by rfl) (by rfl) ?_
    exact jT.mono (jT_atanh1_loop ha hab hb2 199 5 _ _ h9 (Nat.add_pos_left ht0 _) (by omega) (by decide) (by decide)) (Nat.le_refl _) (by omega) (by omega) (fun _ _ _ h => h)
