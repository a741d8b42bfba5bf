/-! small ones: ranges, in how many ways some things are chosen -/
def jchs (t s : Nat) : Nat → Nat
  | 0 => 1
  | i + 1 => jchs t s i * (t - s + (i + 1)) / (i + 1)
theorem jchs_b : ∀ t, t < 31 → ∀ s, s < 31 → s ≤ t → ∀ i, i < 31 → jchs t s i * 64 < 9223372036854775808 ∨ s < i := by decide +kernel
theorem jchs_lt {t s i : Nat} (ht : t ≤ 30) (hs : s ≤ t) (hi : i ≤ s) : jchs t s i * 64 < 9223372036854775808 := by
  rcases jchs_b t (by omega) s (by omega) hs i (by omega) with h | h
  · exact h
  · omega

theorem jT_ch172_loop {xs : List Int} {d t s : Nat} (ht : t ≤ 30) (hs : s ≤ t) : ∀ q i, i + q = s → jT xs d 172 0 5 [(4, (0, ((i + 1 : Nat) : Int))), (2, (1, ((jchs t s i : Nat) : Int))), (0, (0, ((t : Nat) : Int))), (1, (0, ((s : Nat) : Int)))] [] [] 0 0 (fun k v hsN => k = 0 ∧ v = (1, ((jchs t s s : Nat) : Int)) ∧ hsN = []) := by
  intro q
  induction q with
  | zero =>
    intro i hi
    obtain rfl : i = s := by omega
    have hb := jchs_lt ht hs (Nat.le_refl i)
    refine jT_adv 2 (pcN := 8) (LN := [(4, (0, ((i + 1 : Nat) : Int))), (2, (1, ((jchs t i i : Nat) : Int))), (0, (0, ((t : Nat) : Int))), (1, (0, ((i : Nat) : Int)))]) (stN := [(0, ((i : Nat) : Int)), (0, ((i + 1 : Nat) : Int))]) (hsN := []) (c1 := 0) (s1 := 0) (c2 := 0) (s2 := 0) (by exact rfl) ?_ (by omega) (by omega)
    refine jT_icT (t := 31) (by rfl) (by rfl) (by rfl) (jw_k (by omega)) (jw_k (by omega)) (by simp only [jcP] <;> omega) ?_
    refine jT_adv 1 (pcN := 32) (LN := [(4, (0, ((i + 1 : Nat) : Int))), (2, (1, ((jchs t i i : Nat) : Int))), (0, (0, ((t : Nat) : Int))), (1, (0, ((i : Nat) : Int)))]) (stN := [(1, ((jchs t i i : Nat) : Int))]) (hsN := []) (c1 := 0) (s1 := 0) (c2 := 0) (s2 := 0) (by exact rfl) ?_ (by omega) (by omega)
    exact jT_ret rfl (by decide) (by show 0 ≤ 0; decide) (by omega) (by omega) ⟨rfl, rfl, rfl⟩
  | succ q ih =>
    intro i hi
    have hb := jchs_lt ht hs (show i ≤ s by omega)
    have hb2 : jchs t s i * (t - s + (i + 1)) < 9223372036854775808 := by
      have : jchs t s i * (t - s + (i + 1)) ≤ jchs t s i * 64 := Nat.mul_le_mul_left _ (by omega)
      omega
    refine jT_adv 2 (pcN := 8) (LN := [(4, (0, ((i + 1 : Nat) : Int))), (2, (1, ((jchs t s i : Nat) : Int))), (0, (0, ((t : Nat) : Int))), (1, (0, ((s : Nat) : Int)))]) (stN := [(0, ((s : Nat) : Int)), (0, ((i + 1 : Nat) : Int))]) (hsN := []) (c1 := 0) (s1 := 0) (c2 := 0) (s2 := 0) (by exact rfl) ?_ (by omega) (by omega)
    refine jT_icF (t := 31) (by rfl) (by rfl) (by rfl) (jw_k (by omega)) (jw_k (by omega)) (by simp only [jcP] <;> omega) ?_
    refine jT_adv 7 (pcN := 19) (LN := [(4, (0, ((i + 1 : Nat) : Int))), (2, (1, ((jchs t s i : Nat) : Int))), (0, (0, ((t : Nat) : Int))), (1, (0, ((s : Nat) : Int)))]) (stN := [(1, jw ((((t : Nat) : Int) - ((s : Nat) : Int)) + ((i + 1 : Nat) : Int))), (1, ((jchs t s i : Nat) : Int))]) (hsN := []) (c1 := 0) (s1 := 0) (c2 := 0) (s2 := 0) (by exact rfl) ?_ (by omega) (by omega)
    refine jT_eq (LN := [(4, (0, ((i + 1 : Nat) : Int))), (2, (1, ((jchs t s i : Nat) : Int))), (0, (0, ((t : Nat) : Int))), (1, (0, ((s : Nat) : Int)))]) (stN := [(1, ((t - s + (i + 1) : Nat) : Int)), (1, ((jchs t s i : Nat) : Int))]) (hsN := []) (rfl) (by rw [show (((t : Nat) : Int) - ((s : Nat) : Int)) + ((i + 1 : Nat) : Int) = ((t - s + (i + 1) : Nat) : Int) from by omega, jw_k (by omega)]) (rfl) ?_
    refine jT_adv 1 (pcN := 20) (LN := [(4, (0, ((i + 1 : Nat) : Int))), (2, (1, ((jchs t s i : Nat) : Int))), (0, (0, ((t : Nat) : Int))), (1, (0, ((s : Nat) : Int)))]) (stN := [(1, ((jchs t s i : Nat) : Int) * ((t - s + (i + 1) : Nat) : Int))]) (hsN := []) (c1 := 0) (s1 := 0) (c2 := 0) (s2 := 0) (by exact rfl) ?_ (by omega) (by omega)
    refine jT_eq (LN := [(4, (0, ((i + 1 : Nat) : Int))), (2, (1, ((jchs t s i : Nat) : Int))), (0, (0, ((t : Nat) : Int))), (1, (0, ((s : Nat) : Int)))]) (stN := [(1, ((jchs t s i * (t - s + (i + 1)) : Nat) : Int))]) (hsN := []) (rfl) (by rw [← Int.natCast_mul]) (rfl) ?_
    refine jT_adv 2 (pcN := 23) (LN := [(4, (0, ((i + 1 : Nat) : Int))), (2, (1, ((jchs t s i : Nat) : Int))), (0, (0, ((t : Nat) : Int))), (1, (0, ((s : Nat) : Int)))]) (stN := [(1, jw ((i + 1 : Nat) : Int)), (1, ((jchs t s i * (t - s + (i + 1)) : Nat) : Int))]) (hsN := []) (c1 := 0) (s1 := 0) (c2 := 0) (s2 := 0) (by exact rfl) ?_ (by omega) (by omega)
    refine jT_ldiv (a := ((jchs t s i * (t - s + (i + 1)) : Nat) : Int)) (b := ((i + 1 : Nat) : Int)) (by rfl) (by rfl) (jwl_k hb2) (by rw [jw_k (by omega)]; exact jwl_k (by omega)) (by omega) ?_
    refine jT_eq (LN := [(4, (0, ((i + 1 : Nat) : Int))), (2, (1, ((jchs t s i : Nat) : Int))), (0, (0, ((t : Nat) : Int))), (1, (0, ((s : Nat) : Int)))]) (stN := [(1, ((jchs t s (i + 1) : Nat) : Int))]) (hsN := []) (rfl) (rfl) (rfl) ?_
    refine jT_adv 3 (pcN := 5) (LN := [(4, (0, ((i + 1 : Nat) : Int) + 1)), (2, (1, ((jchs t s (i + 1) : Nat) : Int))), (0, (0, ((t : Nat) : Int))), (1, (0, ((s : Nat) : Int)))]) (stN := []) (hsN := []) (c1 := 0) (s1 := 0) (c2 := 0) (s2 := 0) (by exact rfl) ?_ (by omega) (by omega)
    refine jT_loc (LN := [(4, (0, ((i + 1 : Nat) : Int) + 1)), (2, (1, ((jchs t s (i + 1) : Nat) : Int))), (0, (0, ((t : Nat) : Int))), (1, (0, ((s : Nat) : Int)))]) (by show List.Nodup [4, 2, 0, 1]; decide) (by intro q hq; simp only [List.mem_cons, List.not_mem_nil, or_false] at hq; rcases hq with rfl | rfl | rfl | rfl <;> rfl) ?_
    exact ih (i + 1) (by omega)
theorem jT_ch172 {xs : List Int} {d t s : Nat} (ht : t ≤ 30) (hs : s ≤ t) : jT xs d 172 0 0 [(0, (0, ((t : Nat) : Int))), (1, (0, ((s : Nat) : Int)))] [] [] 0 0 (fun k v hsN => k = 0 ∧ v = (1, ((jchs t s s : Nat) : Int)) ∧ hsN = []) := by
  refine jT_adv 4 (pcN := 5) (LN := [(4, (0, 1)), (2, (1, 1)), (0, (0, ((t : Nat) : Int))), (1, (0, ((s : Nat) : Int)))]) (stN := []) (hsN := []) (c1 := 0) (s1 := 0) (c2 := 0) (s2 := 0) (by exact rfl) ?_ (by omega) (by omega)
  exact jT_ch172_loop ht hs s 0 (Nat.zero_add _)
theorem jT_ch315_loop {xs : List Int} {d t s : Nat} (ht : t ≤ 30) (hs : s ≤ t) : ∀ q i, i + q = s → jT xs d 315 0 5 [(4, (0, ((i + 1 : Nat) : Int))), (2, (1, ((jchs t s i : Nat) : Int))), (0, (0, ((t : Nat) : Int))), (1, (0, ((s : Nat) : Int)))] [] [] 0 0 (fun k v hsN => k = 0 ∧ v = (1, ((jchs t s s : Nat) : Int)) ∧ hsN = []) := by
  intro q
  induction q with
  | zero =>
    intro i hi
    obtain rfl : i = s := by omega
    have hb := jchs_lt ht hs (Nat.le_refl i)
    refine jT_adv 2 (pcN := 8) (LN := [(4, (0, ((i + 1 : Nat) : Int))), (2, (1, ((jchs t i i : Nat) : Int))), (0, (0, ((t : Nat) : Int))), (1, (0, ((i : Nat) : Int)))]) (stN := [(0, ((i : Nat) : Int)), (0, ((i + 1 : Nat) : Int))]) (hsN := []) (c1 := 0) (s1 := 0) (c2 := 0) (s2 := 0) (by exact rfl) ?_ (by omega) (by omega)
    refine jT_icT (t := 31) (by rfl) (by rfl) (by rfl) (jw_k (by omega)) (jw_k (by omega)) (by simp only [jcP] <;> omega) ?_
    refine jT_adv 1 (pcN := 32) (LN := [(4, (0, ((i + 1 : Nat) : Int))), (2, (1, ((jchs t i i : Nat) : Int))), (0, (0, ((t : Nat) : Int))), (1, (0, ((i : Nat) : Int)))]) (stN := [(1, ((jchs t i i : Nat) : Int))]) (hsN := []) (c1 := 0) (s1 := 0) (c2 := 0) (s2 := 0) (by exact rfl) ?_ (by omega) (by omega)
    exact jT_ret rfl (by decide) (by show 0 ≤ 0; decide) (by omega) (by omega) ⟨rfl, rfl, rfl⟩
  | succ q ih =>
    intro i hi
    have hb := jchs_lt ht hs (show i ≤ s by omega)
    have hb2 : jchs t s i * (t - s + (i + 1)) < 9223372036854775808 := by
      have : jchs t s i * (t - s + (i + 1)) ≤ jchs t s i * 64 := Nat.mul_le_mul_left _ (by omega)
      omega
    refine jT_adv 2 (pcN := 8) (LN := [(4, (0, ((i + 1 : Nat) : Int))), (2, (1, ((jchs t s i : Nat) : Int))), (0, (0, ((t : Nat) : Int))), (1, (0, ((s : Nat) : Int)))]) (stN := [(0, ((s : Nat) : Int)), (0, ((i + 1 : Nat) : Int))]) (hsN := []) (c1 := 0) (s1 := 0) (c2 := 0) (s2 := 0) (by exact rfl) ?_ (by omega) (by omega)
    refine jT_icF (t := 31) (by rfl) (by rfl) (by rfl) (jw_k (by omega)) (jw_k (by omega)) (by simp only [jcP] <;> omega) ?_
    refine jT_adv 7 (pcN := 19) (LN := [(4, (0, ((i + 1 : Nat) : Int))), (2, (1, ((jchs t s i : Nat) : Int))), (0, (0, ((t : Nat) : Int))), (1, (0, ((s : Nat) : Int)))]) (stN := [(1, jw ((((t : Nat) : Int) - ((s : Nat) : Int)) + ((i + 1 : Nat) : Int))), (1, ((jchs t s i : Nat) : Int))]) (hsN := []) (c1 := 0) (s1 := 0) (c2 := 0) (s2 := 0) (by exact rfl) ?_ (by omega) (by omega)
    refine jT_eq (LN := [(4, (0, ((i + 1 : Nat) : Int))), (2, (1, ((jchs t s i : Nat) : Int))), (0, (0, ((t : Nat) : Int))), (1, (0, ((s : Nat) : Int)))]) (stN := [(1, ((t - s + (i + 1) : Nat) : Int)), (1, ((jchs t s i : Nat) : Int))]) (hsN := []) (rfl) (by rw [show (((t : Nat) : Int) - ((s : Nat) : Int)) + ((i + 1 : Nat) : Int) = ((t - s + (i + 1) : Nat) : Int) from by omega, jw_k (by omega)]) (rfl) ?_
    refine jT_adv 1 (pcN := 20) (LN := [(4, (0, ((i + 1 : Nat) : Int))), (2, (1, ((jchs t s i : Nat) : Int))), (0, (0, ((t : Nat) : Int))), (1, (0, ((s : Nat) : Int)))]) (stN := [(1, ((jchs t s i : Nat) : Int) * ((t - s + (i + 1) : Nat) : Int))]) (hsN := []) (c1 := 0) (s1 := 0) (c2 := 0) (s2 := 0) (by exact rfl) ?_ (by omega) (by omega)
    refine jT_eq (LN := [(4, (0, ((i + 1 : Nat) : Int))), (2, (1, ((jchs t s i : Nat) : Int))), (0, (0, ((t : Nat) : Int))), (1, (0, ((s : Nat) : Int)))]) (stN := [(1, ((jchs t s i * (t - s + (i + 1)) : Nat) : Int))]) (hsN := []) (rfl) (by rw [← Int.natCast_mul]) (rfl) ?_
    refine jT_adv 2 (pcN := 23) (LN := [(4, (0, ((i + 1 : Nat) : Int))), (2, (1, ((jchs t s i : Nat) : Int))), (0, (0, ((t : Nat) : Int))), (1, (0, ((s : Nat) : Int)))]) (stN := [(1, jw ((i + 1 : Nat) : Int)), (1, ((jchs t s i * (t - s + (i + 1)) : Nat) : Int))]) (hsN := []) (c1 := 0) (s1 := 0) (c2 := 0) (s2 := 0) (by exact rfl) ?_ (by omega) (by omega)
    refine jT_ldiv (a := ((jchs t s i * (t - s + (i + 1)) : Nat) : Int)) (b := ((i + 1 : Nat) : Int)) (by rfl) (by rfl) (jwl_k hb2) (by rw [jw_k (by omega)]; exact jwl_k (by omega)) (by omega) ?_
    refine jT_eq (LN := [(4, (0, ((i + 1 : Nat) : Int))), (2, (1, ((jchs t s i : Nat) : Int))), (0, (0, ((t : Nat) : Int))), (1, (0, ((s : Nat) : Int)))]) (stN := [(1, ((jchs t s (i + 1) : Nat) : Int))]) (hsN := []) (rfl) (rfl) (rfl) ?_
    refine jT_adv 3 (pcN := 5) (LN := [(4, (0, ((i + 1 : Nat) : Int) + 1)), (2, (1, ((jchs t s (i + 1) : Nat) : Int))), (0, (0, ((t : Nat) : Int))), (1, (0, ((s : Nat) : Int)))]) (stN := []) (hsN := []) (c1 := 0) (s1 := 0) (c2 := 0) (s2 := 0) (by exact rfl) ?_ (by omega) (by omega)
    refine jT_loc (LN := [(4, (0, ((i + 1 : Nat) : Int) + 1)), (2, (1, ((jchs t s (i + 1) : Nat) : Int))), (0, (0, ((t : Nat) : Int))), (1, (0, ((s : Nat) : Int)))]) (by show List.Nodup [4, 2, 0, 1]; decide) (by intro q hq; simp only [List.mem_cons, List.not_mem_nil, or_false] at hq; rcases hq with rfl | rfl | rfl | rfl <;> rfl) ?_
    exact ih (i + 1) (by omega)
theorem jT_ch315 {xs : List Int} {d t s : Nat} (ht : t ≤ 30) (hs : s ≤ t) : jT xs d 315 0 0 [(0, (0, ((t : Nat) : Int))), (1, (0, ((s : Nat) : Int)))] [] [] 0 0 (fun k v hsN => k = 0 ∧ v = (1, ((jchs t s s : Nat) : Int)) ∧ hsN = []) := by
  refine jT_adv 4 (pcN := 5) (LN := [(4, (0, 1)), (2, (1, 1)), (0, (0, ((t : Nat) : Int))), (1, (0, ((s : Nat) : Int)))]) (stN := []) (hsN := []) (c1 := 0) (s1 := 0) (c2 := 0) (s2 := 0) (by exact rfl) ?_ (by omega) (by omega)
  exact jT_ch315_loop ht hs s 0 (Nat.zero_add _)
theorem jT_in_lo {xs : List Int} {d : Nat} {v lo hi : Int} (hv : -9223372036854775808 ≤ v ∧ v < 9223372036854775808) (hl : -9223372036854775808 ≤ lo ∧ lo < 9223372036854775808) (hh : -9223372036854775808 ≤ hi ∧ hi < 9223372036854775808) (h : v < lo) : jT xs d 189 0 0 [(0, (1, v)), (2, (1, lo)), (4, (1, hi))] [] [] 0 0 (fun k v hsN => k = 0 ∧ v = (0, 0) ∧ hsN = []) := by
  refine jT_adv 2 (pcN := 2) (LN := [(0, (1, v)), (2, (1, lo)), (4, (1, hi))]) (stN := [(1, lo), (1, v)]) (hsN := []) (c1 := 0) (s1 := 0) (c2 := 0) (s2 := 0) (by exact rfl) ?_ (by omega) (by omega)
  refine jT_lcmp (a := v) (b := lo) (z := (-1)) (by rfl) (by rfl) (jwl_idd (by omega) (by omega)) (jwl_idd (by omega) (by omega)) (by rw [decide_eq_false (show ¬ lo < v by omega), decide_eq_false (show ¬ v = lo by omega)]; rfl) ?_
  refine jT_adv 2 (pcN := 18) (LN := [(0, (1, v)), (2, (1, lo)), (4, (1, hi))]) (stN := [(0, 0)]) (hsN := []) (c1 := 0) (s1 := 0) (c2 := 0) (s2 := 0) (by exact rfl) ?_ (by omega) (by omega)
  exact jT_ret rfl (by decide) (by show 0 ≤ 0; decide) (by omega) (by omega) ⟨rfl, rfl, rfl⟩
theorem jT_in_hi {xs : List Int} {d : Nat} {v lo hi : Int} (hv : -9223372036854775808 ≤ v ∧ v < 9223372036854775808) (hl : -9223372036854775808 ≤ lo ∧ lo < 9223372036854775808) (hh : -9223372036854775808 ≤ hi ∧ hi < 9223372036854775808) (h1 : lo ≤ v) (h : hi < v) : jT xs d 189 0 0 [(0, (1, v)), (2, (1, lo)), (4, (1, hi))] [] [] 0 0 (fun k v hsN => k = 0 ∧ v = (0, 0) ∧ hsN = []) := by
  rcases Int.lt_or_eq_of_le h1 with h1 | h1
  · refine jT_adv 2 (pcN := 2) (LN := [(0, (1, v)), (2, (1, lo)), (4, (1, hi))]) (stN := [(1, lo), (1, v)]) (hsN := []) (c1 := 0) (s1 := 0) (c2 := 0) (s2 := 0) (by exact rfl) ?_ (by omega) (by omega)
    refine jT_lcmp (a := v) (b := lo) (z := 1) (by rfl) (by rfl) (jwl_idd (by omega) (by omega)) (jwl_idd (by omega) (by omega)) (by rw [decide_eq_true (show lo < v by omega)]; rfl) ?_
    refine jT_adv 3 (pcN := 9) (LN := [(0, (1, v)), (2, (1, lo)), (4, (1, hi))]) (stN := [(1, hi), (1, v)]) (hsN := []) (c1 := 0) (s1 := 0) (c2 := 0) (s2 := 0) (by exact rfl) ?_ (by omega) (by omega)
    refine jT_lcmp (a := v) (b := hi) (z := 1) (by rfl) (by rfl) (jwl_idd (by omega) (by omega)) (jwl_idd (by omega) (by omega)) (by rw [decide_eq_true (show hi < v by omega)]; rfl) ?_
    refine jT_adv 2 (pcN := 18) (LN := [(0, (1, v)), (2, (1, lo)), (4, (1, hi))]) (stN := [(0, 0)]) (hsN := []) (c1 := 0) (s1 := 0) (c2 := 0) (s2 := 0) (by exact rfl) ?_ (by omega) (by omega)
    exact jT_ret rfl (by decide) (by show 0 ≤ 0; decide) (by omega) (by omega) ⟨rfl, rfl, rfl⟩
  · refine jT_adv 2 (pcN := 2) (LN := [(0, (1, v)), (2, (1, lo)), (4, (1, hi))]) (stN := [(1, lo), (1, v)]) (hsN := []) (c1 := 0) (s1 := 0) (c2 := 0) (s2 := 0) (by exact rfl) ?_ (by omega) (by omega)
    refine jT_lcmp (a := v) (b := lo) (z := 0) (by rfl) (by rfl) (jwl_idd (by omega) (by omega)) (jwl_idd (by omega) (by omega)) (by rw [decide_eq_false (show ¬ lo < v by omega), decide_eq_true (show v = lo by omega)]; rfl) ?_
    refine jT_adv 3 (pcN := 9) (LN := [(0, (1, v)), (2, (1, lo)), (4, (1, hi))]) (stN := [(1, hi), (1, v)]) (hsN := []) (c1 := 0) (s1 := 0) (c2 := 0) (s2 := 0) (by exact rfl) ?_ (by omega) (by omega)
    refine jT_lcmp (a := v) (b := hi) (z := 1) (by rfl) (by rfl) (jwl_idd (by omega) (by omega)) (jwl_idd (by omega) (by omega)) (by rw [decide_eq_true (show hi < v by omega)]; rfl) ?_
    refine jT_adv 2 (pcN := 18) (LN := [(0, (1, v)), (2, (1, lo)), (4, (1, hi))]) (stN := [(0, 0)]) (hsN := []) (c1 := 0) (s1 := 0) (c2 := 0) (s2 := 0) (by exact rfl) ?_ (by omega) (by omega)
    exact jT_ret rfl (by decide) (by show 0 ≤ 0; decide) (by omega) (by omega) ⟨rfl, rfl, rfl⟩
theorem jT_in_ok {xs : List Int} {d : Nat} {v lo hi : Int} (hv : -9223372036854775808 ≤ v ∧ v < 9223372036854775808) (hl : -9223372036854775808 ≤ lo ∧ lo < 9223372036854775808) (hh : -9223372036854775808 ≤ hi ∧ hi < 9223372036854775808) (h1 : lo ≤ v) (h2 : v ≤ hi) : jT xs d 189 0 0 [(0, (1, v)), (2, (1, lo)), (4, (1, hi))] [] [] 0 0 (fun k v hsN => k = 0 ∧ v = (0, 1) ∧ hsN = []) := by
  rcases Int.lt_or_eq_of_le h1 with h1 | h1 <;> rcases Int.lt_or_eq_of_le h2 with h2 | h2
  · refine jT_adv 2 (pcN := 2) (LN := [(0, (1, v)), (2, (1, lo)), (4, (1, hi))]) (stN := [(1, lo), (1, v)]) (hsN := []) (c1 := 0) (s1 := 0) (c2 := 0) (s2 := 0) (by exact rfl) ?_ (by omega) (by omega)
    refine jT_lcmp (a := v) (b := lo) (z := 1) (by rfl) (by rfl) (jwl_idd (by omega) (by omega)) (jwl_idd (by omega) (by omega)) (by rw [decide_eq_true (show lo < v by omega)]; rfl) ?_
    refine jT_adv 3 (pcN := 9) (LN := [(0, (1, v)), (2, (1, lo)), (4, (1, hi))]) (stN := [(1, hi), (1, v)]) (hsN := []) (c1 := 0) (s1 := 0) (c2 := 0) (s2 := 0) (by exact rfl) ?_ (by omega) (by omega)
    refine jT_lcmp (a := v) (b := hi) (z := (-1)) (by rfl) (by rfl) (jwl_idd (by omega) (by omega)) (jwl_idd (by omega) (by omega)) (by rw [decide_eq_false (show ¬ hi < v by omega), decide_eq_false (show ¬ v = hi by omega)]; rfl) ?_
    refine jT_adv 3 (pcN := 18) (LN := [(0, (1, v)), (2, (1, lo)), (4, (1, hi))]) (stN := [(0, 1)]) (hsN := []) (c1 := 0) (s1 := 0) (c2 := 0) (s2 := 0) (by exact rfl) ?_ (by omega) (by omega)
    exact jT_ret rfl (by decide) (by show 0 ≤ 0; decide) (by omega) (by omega) ⟨rfl, rfl, rfl⟩
  · refine jT_adv 2 (pcN := 2) (LN := [(0, (1, v)), (2, (1, lo)), (4, (1, hi))]) (stN := [(1, lo), (1, v)]) (hsN := []) (c1 := 0) (s1 := 0) (c2 := 0) (s2 := 0) (by exact rfl) ?_ (by omega) (by omega)
    refine jT_lcmp (a := v) (b := lo) (z := 1) (by rfl) (by rfl) (jwl_idd (by omega) (by omega)) (jwl_idd (by omega) (by omega)) (by rw [decide_eq_true (show lo < v by omega)]; rfl) ?_
    refine jT_adv 3 (pcN := 9) (LN := [(0, (1, v)), (2, (1, lo)), (4, (1, hi))]) (stN := [(1, hi), (1, v)]) (hsN := []) (c1 := 0) (s1 := 0) (c2 := 0) (s2 := 0) (by exact rfl) ?_ (by omega) (by omega)
    refine jT_lcmp (a := v) (b := hi) (z := 0) (by rfl) (by rfl) (jwl_idd (by omega) (by omega)) (jwl_idd (by omega) (by omega)) (by rw [decide_eq_false (show ¬ hi < v by omega), decide_eq_true (show v = hi by omega)]; rfl) ?_
    refine jT_adv 3 (pcN := 18) (LN := [(0, (1, v)), (2, (1, lo)), (4, (1, hi))]) (stN := [(0, 1)]) (hsN := []) (c1 := 0) (s1 := 0) (c2 := 0) (s2 := 0) (by exact rfl) ?_ (by omega) (by omega)
    exact jT_ret rfl (by decide) (by show 0 ≤ 0; decide) (by omega) (by omega) ⟨rfl, rfl, rfl⟩
  · refine jT_adv 2 (pcN := 2) (LN := [(0, (1, v)), (2, (1, lo)), (4, (1, hi))]) (stN := [(1, lo), (1, v)]) (hsN := []) (c1 := 0) (s1 := 0) (c2 := 0) (s2 := 0) (by exact rfl) ?_ (by omega) (by omega)
    refine jT_lcmp (a := v) (b := lo) (z := 0) (by rfl) (by rfl) (jwl_idd (by omega) (by omega)) (jwl_idd (by omega) (by omega)) (by rw [decide_eq_false (show ¬ lo < v by omega), decide_eq_true (show v = lo by omega)]; rfl) ?_
    refine jT_adv 3 (pcN := 9) (LN := [(0, (1, v)), (2, (1, lo)), (4, (1, hi))]) (stN := [(1, hi), (1, v)]) (hsN := []) (c1 := 0) (s1 := 0) (c2 := 0) (s2 := 0) (by exact rfl) ?_ (by omega) (by omega)
    refine jT_lcmp (a := v) (b := hi) (z := (-1)) (by rfl) (by rfl) (jwl_idd (by omega) (by omega)) (jwl_idd (by omega) (by omega)) (by rw [decide_eq_false (show ¬ hi < v by omega), decide_eq_false (show ¬ v = hi by omega)]; rfl) ?_
    refine jT_adv 3 (pcN := 18) (LN := [(0, (1, v)), (2, (1, lo)), (4, (1, hi))]) (stN := [(0, 1)]) (hsN := []) (c1 := 0) (s1 := 0) (c2 := 0) (s2 := 0) (by exact rfl) ?_ (by omega) (by omega)
    exact jT_ret rfl (by decide) (by show 0 ≤ 0; decide) (by omega) (by omega) ⟨rfl, rfl, rfl⟩
  · refine jT_adv 2 (pcN := 2) (LN := [(0, (1, v)), (2, (1, lo)), (4, (1, hi))]) (stN := [(1, lo), (1, v)]) (hsN := []) (c1 := 0) (s1 := 0) (c2 := 0) (s2 := 0) (by exact rfl) ?_ (by omega) (by omega)
    refine jT_lcmp (a := v) (b := lo) (z := 0) (by rfl) (by rfl) (jwl_idd (by omega) (by omega)) (jwl_idd (by omega) (by omega)) (by rw [decide_eq_false (show ¬ lo < v by omega), decide_eq_true (show v = lo by omega)]; rfl) ?_
    refine jT_adv 3 (pcN := 9) (LN := [(0, (1, v)), (2, (1, lo)), (4, (1, hi))]) (stN := [(1, hi), (1, v)]) (hsN := []) (c1 := 0) (s1 := 0) (c2 := 0) (s2 := 0) (by exact rfl) ?_ (by omega) (by omega)
    refine jT_lcmp (a := v) (b := hi) (z := 0) (by rfl) (by rfl) (jwl_idd (by omega) (by omega)) (jwl_idd (by omega) (by omega)) (by rw [decide_eq_false (show ¬ hi < v by omega), decide_eq_true (show v = hi by omega)]; rfl) ?_
    refine jT_adv 3 (pcN := 18) (LN := [(0, (1, v)), (2, (1, lo)), (4, (1, hi))]) (stN := [(0, 1)]) (hsN := []) (c1 := 0) (s1 := 0) (c2 := 0) (s2 := 0) (by exact rfl) ?_ (by omega) (by omega)
    exact jT_ret rfl (by decide) (by show 0 ≤ 0; decide) (by omega) (by omega) ⟨rfl, rfl, rfl⟩
