/-! the model's long numbers: which amount is greater; the negative; the sum -/
theorem jcn_hi {n : Nat} : ∀ c, n < 1000000000 ^ c → n < 1000000000 ^ jcn n c
  | 0, h => h
  | c + 1, h => by
    by_cases hl : jlm n c = 0
    · rw [show jcn n (c + 1) = jcn n c from if_pos hl]
      refine jcn_hi c ?_
      have h1 : n / 1000000000 ^ c < 1000000000 := by
        rw [Nat.div_lt_iff_lt_mul (Nat.pow_pos (by decide)), ← Nat.pow_succ']
        exact h
      have h2 : n / 1000000000 ^ c = 0 := by
        have h3 : n / 1000000000 ^ c % 1000000000 = 0 := hl
        rw [Nat.mod_eq_of_lt h1] at h3
        exact h3
      exact (Nat.div_eq_zero_iff_lt (Nat.pow_pos (by decide))).mp h2
    · rw [show jcn n (c + 1) = c + 1 from if_neg hl]
      exact h
theorem jcn_lo {n : Nat} : ∀ c, 0 < jcn n c → 1000000000 ^ (jcn n c - 1) ≤ n
  | 0, h => absurd h (Nat.lt_irrefl _)
  | c + 1, h => by
    by_cases hl : jlm n c = 0
    · rw [show jcn n (c + 1) = jcn n c from if_pos hl] at h ⊢
      exact jcn_lo c h
    · rw [show jcn n (c + 1) = c + 1 from if_neg hl, Nat.add_sub_cancel]
      refine Nat.le_of_not_lt fun hlt => hl ?_
      show n / _ % _ = 0
      rw [Nat.div_eq_of_lt hlt, Nat.zero_mod]
theorem jcn_lt {n p : Nat} (h : jcn n 54 < jcn p 54) (hn : n < 1000000000 ^ 54) : n < p := by
  have h1 := jcn_hi 54 hn
  have h2 := jcn_lo (n := p) 54 (by omega)
  have h3 : 1000000000 ^ jcn n 54 ≤ 1000000000 ^ (jcn p 54 - 1) := Nat.pow_le_pow_right (by decide) (by omega)
  omega
theorem jlm_top {n c : Nat} : n / 1000000000 ^ c = n / 1000000000 ^ (c + 1) * 1000000000 + jlm n c := by
  rw [Nat.pow_succ, ← Nat.div_div_eq_div_mul, Nat.mul_comm]
  exact (Nat.div_add_mod _ _).symm
theorem jlm_lt_of {n p c : Nat} (h : n / 1000000000 ^ (c + 1) = p / 1000000000 ^ (c + 1)) (hl : jlm n c < jlm p c) : n < p := by
  refine Nat.lt_of_div_lt_div (c := 1000000000 ^ c) ?_
  rw [jlm_top, jlm_top (n := p), h]
  omega
/-- which of two amounts is greater -/
def jord (n p : Nat) (r : Int) : Prop := -1000000000 < r ∧ r < 1000000000 ∧ (r < 0 ↔ n < p) ∧ (r = 0 ↔ n = p)
theorem jord_lt {n p : Nat} {r : Int} (h1 : -1000000000 < r) (h2 : r < 0) (h : n < p) : jord n p r := ⟨h1, by omega, ⟨fun _ => h, fun _ => h2⟩, ⟨fun _ => by omega, fun _ => by omega⟩⟩
theorem jord_gt {n p : Nat} {r : Int} (h1 : r < 1000000000) (h2 : 0 < r) (h : p < n) : jord n p r := ⟨by omega, h1, ⟨fun _ => by omega, fun _ => by omega⟩, ⟨fun _ => by omega, fun _ => by omega⟩⟩
theorem jord_eq {n p : Nat} (h : n = p) : jord n p 0 := ⟨by decide, by decide, ⟨fun _ => by omega, fun _ => by omega⟩, ⟨fun _ => h, fun _ => rfl⟩⟩

theorem jT_cmp_loop {xs : List Int} {d n p : Nat} {s0 t0 : Int} : ∀ c, c ≤ 54 → n / 1000000000 ^ c = p / 1000000000 ^ c → jT xs d 182 2 23 [(2, (0, ((c + 1 : Nat) : Int))), (0, (4, 0)), (1, (4, 1))] [] [(100, [], ja2 s0 ((jcn n 54 : Nat) : Int) (fun k => ((jlm n k : Nat) : Int))), (100, [], ja2 t0 ((jcn p 54 : Nat) : Int) (fun k => ((jlm p k : Nat) : Int)))] 0 0 (fun k v hsN => k = 0 ∧ hsN = [(100, [], ja2 s0 ((jcn n 54 : Nat) : Int) (fun k => ((jlm n k : Nat) : Int))), (100, [], ja2 t0 ((jcn p 54 : Nat) : Int) (fun k => ((jlm p k : Nat) : Int)))] ∧ ∃ r, v = (0, r) ∧ jord n p r) := by
  intro c
  induction c with
  | zero =>
    intro hc he
    refine jT_adv 2 (pcN := 25) (LN := [(2, (0, ((0 + 1 : Nat) : Int))), (0, (4, 0)), (1, (4, 1))]) (stN := [(0, 1), (0, ((0 + 1 : Nat) : Int))]) (hsN := [(100, [], ja2 s0 ((jcn n 54 : Nat) : Int) (fun k => ((jlm n k : Nat) : Int))), (100, [], ja2 t0 ((jcn p 54 : Nat) : Int) (fun k => ((jlm p k : Nat) : Int)))]) (c1 := 0) (s1 := 0) (c2 := 0) (s2 := 0) (by exact rfl) ?_ (by omega) (by omega)
    refine jT_icT (t := 51) (b := 1) (by rfl) (by rfl) (by rfl) (jw_k (by omega)) (rfl) (by simp only [jcP] <;> omega) ?_
    refine jT_adv 1 (pcN := 52) (LN := [(2, (0, ((0 + 1 : Nat) : Int))), (0, (4, 0)), (1, (4, 1))]) (stN := [(0, 0)]) (hsN := [(100, [], ja2 s0 ((jcn n 54 : Nat) : Int) (fun k => ((jlm n k : Nat) : Int))), (100, [], ja2 t0 ((jcn p 54 : Nat) : Int) (fun k => ((jlm p k : Nat) : Int)))]) (c1 := 0) (s1 := 0) (c2 := 0) (s2 := 0) (by exact rfl) ?_ (by omega) (by omega)
    exact jT_ret rfl (by decide) (by show 2 ≤ 2; decide) (by omega) (by omega) ⟨rfl, rfl, 0, rfl, jord_eq (by rw [Nat.pow_zero, Nat.div_one, Nat.div_one] at he; exact he)⟩
  | succ c ih =>
    intro hc he
    have h1 := jlm_lt (n := n) (k := c)
    have h2 := jlm_lt (n := p) (k := c)
    refine jT_adv 2 (pcN := 25) (LN := [(2, (0, ((c + 1 + 1 : Nat) : Int))), (0, (4, 0)), (1, (4, 1))]) (stN := [(0, 1), (0, ((c + 1 + 1 : Nat) : Int))]) (hsN := [(100, [], ja2 s0 ((jcn n 54 : Nat) : Int) (fun k => ((jlm n k : Nat) : Int))), (100, [], ja2 t0 ((jcn p 54 : Nat) : Int) (fun k => ((jlm p k : Nat) : Int)))]) (c1 := 0) (s1 := 0) (c2 := 0) (s2 := 0) (by exact rfl) ?_ (by omega) (by omega)
    refine jT_icF (t := 51) (b := 1) (by rfl) (by rfl) (by rfl) (jw_k (by omega)) (rfl) (by simp only [jcP] <;> omega) ?_
    refine jT_adv 2 (pcN := 30) (LN := [(2, (0, ((c + 1 + 1 : Nat) : Int))), (0, (4, 0)), (1, (4, 1))]) (stN := [(0, ((c + 1 + 1 : Nat) : Int)), (4, 0)]) (hsN := [(100, [], ja2 s0 ((jcn n 54 : Nat) : Int) (fun k => ((jlm n k : Nat) : Int))), (100, [], ja2 t0 ((jcn p 54 : Nat) : Int) (fun k => ((jlm p k : Nat) : Int)))]) (c1 := 0) (s1 := 0) (c2 := 0) (s2 := 0) (by exact rfl) ?_ (by omega) (by omega)
    refine jT_iald (x := ((jlm n c : Nat) : Int)) (a := 0) (j := c + 2) (fs := []) (X := ja2 s0 ((jcn n 54 : Nat) : Int) (fun k => ((jlm n k : Nat) : Int))) (by rfl) (by rfl) (by rfl) (jw_n (k := c + 2) (by omega)) (ja2_get (by omega)) ?_
    refine jT_adv 2 (pcN := 33) (LN := [(2, (0, ((c + 1 + 1 : Nat) : Int))), (0, (4, 0)), (1, (4, 1))]) (stN := [(0, ((c + 1 + 1 : Nat) : Int)), (4, 1), (0, ((jlm n c : Nat) : Int))]) (hsN := [(100, [], ja2 s0 ((jcn n 54 : Nat) : Int) (fun k => ((jlm n k : Nat) : Int))), (100, [], ja2 t0 ((jcn p 54 : Nat) : Int) (fun k => ((jlm p k : Nat) : Int)))]) (c1 := 0) (s1 := 0) (c2 := 0) (s2 := 0) (by exact rfl) ?_ (by omega) (by omega)
    refine jT_iald (x := ((jlm p c : Nat) : Int)) (a := 1) (j := c + 2) (fs := []) (X := ja2 t0 ((jcn p 54 : Nat) : Int) (fun k => ((jlm p k : Nat) : Int))) (by rfl) (by rfl) (by rfl) (jw_n (k := c + 2) (by omega)) (ja2_get (by omega)) ?_
    by_cases hl : jlm n c = jlm p c
    · refine jT_icT (t := 45) (by rfl) (by rfl) (by rfl) (jw_k (by omega)) (jw_k (by omega)) (by simp only [jcP] <;> omega) ?_
      refine jT_adv 2 (pcN := 23) (LN := [(2, (0, ((c + 1 + 1 : Nat) : Int) + (-1))), (0, (4, 0)), (1, (4, 1))]) (stN := []) (hsN := [(100, [], ja2 s0 ((jcn n 54 : Nat) : Int) (fun k => ((jlm n k : Nat) : Int))), (100, [], ja2 t0 ((jcn p 54 : Nat) : Int) (fun k => ((jlm p k : Nat) : Int)))]) (c1 := 0) (s1 := 0) (c2 := 0) (s2 := 0) (by exact rfl) ?_ (by omega) (by omega)
      refine jT_eq (LN := [(2, (0, ((c + 1 : Nat) : Int))), (0, (4, 0)), (1, (4, 1))]) (stN := []) (hsN := _) (by rw [show ((c + 1 + 1 : Nat) : Int) + (-1) = ((c + 1 : Nat) : Int) from by omega]) rfl rfl ?_
      exact ih (by omega) (by rw [jlm_top, jlm_top (n := p), he, hl])
    · refine jT_icF (t := 45) (by rfl) (by rfl) (by rfl) (jw_k (by omega)) (jw_k (by omega)) (by simp only [jcP] <;> omega) ?_
      refine jT_adv 2 (pcN := 39) (LN := [(2, (0, ((c + 1 + 1 : Nat) : Int))), (0, (4, 0)), (1, (4, 1))]) (stN := [(0, ((c + 1 + 1 : Nat) : Int)), (4, 0)]) (hsN := [(100, [], ja2 s0 ((jcn n 54 : Nat) : Int) (fun k => ((jlm n k : Nat) : Int))), (100, [], ja2 t0 ((jcn p 54 : Nat) : Int) (fun k => ((jlm p k : Nat) : Int)))]) (c1 := 0) (s1 := 0) (c2 := 0) (s2 := 0) (by exact rfl) ?_ (by omega) (by omega)
      refine jT_iald (x := ((jlm n c : Nat) : Int)) (a := 0) (j := c + 2) (fs := []) (X := ja2 s0 ((jcn n 54 : Nat) : Int) (fun k => ((jlm n k : Nat) : Int))) (by rfl) (by rfl) (by rfl) (jw_n (k := c + 2) (by omega)) (ja2_get (by omega)) ?_
      refine jT_adv 2 (pcN := 42) (LN := [(2, (0, ((c + 1 + 1 : Nat) : Int))), (0, (4, 0)), (1, (4, 1))]) (stN := [(0, ((c + 1 + 1 : Nat) : Int)), (4, 1), (0, ((jlm n c : Nat) : Int))]) (hsN := [(100, [], ja2 s0 ((jcn n 54 : Nat) : Int) (fun k => ((jlm n k : Nat) : Int))), (100, [], ja2 t0 ((jcn p 54 : Nat) : Int) (fun k => ((jlm p k : Nat) : Int)))]) (c1 := 0) (s1 := 0) (c2 := 0) (s2 := 0) (by exact rfl) ?_ (by omega) (by omega)
      refine jT_iald (x := ((jlm p c : Nat) : Int)) (a := 1) (j := c + 2) (fs := []) (X := ja2 t0 ((jcn p 54 : Nat) : Int) (fun k => ((jlm p k : Nat) : Int))) (by rfl) (by rfl) (by rfl) (jw_n (k := c + 2) (by omega)) (ja2_get (by omega)) ?_
      refine jT_adv 1 (pcN := 44) (LN := [(2, (0, ((c + 1 + 1 : Nat) : Int))), (0, (4, 0)), (1, (4, 1))]) (stN := [(0, ((jlm n c : Nat) : Int) - ((jlm p c : Nat) : Int))]) (hsN := [(100, [], ja2 s0 ((jcn n 54 : Nat) : Int) (fun k => ((jlm n k : Nat) : Int))), (100, [], ja2 t0 ((jcn p 54 : Nat) : Int) (fun k => ((jlm p k : Nat) : Int)))]) (c1 := 0) (s1 := 0) (c2 := 0) (s2 := 0) (by exact rfl) ?_ (by omega) (by omega)
      refine jT_ret rfl (by decide) (by show 2 ≤ 2; decide) (by omega) (by omega) ⟨rfl, rfl, _, rfl, ?_⟩
      rcases Nat.lt_or_gt_of_ne hl with h3 | h3
      · exact jord_lt (by omega) (by omega) (jlm_lt_of he h3)
      · exact jord_gt (by omega) (by omega) (jlm_lt_of he.symm h3)
theorem jT_cmp {xs : List Int} {d n p : Nat} {s0 t0 : Int} (hn : n < 1000000000 ^ 54) (hp : p < 1000000000 ^ 54) : jT xs d 182 2 0 [(0, (4, 0)), (1, (4, 1))] [] [(100, [], ja2 s0 ((jcn n 54 : Nat) : Int) (fun k => ((jlm n k : Nat) : Int))), (100, [], ja2 t0 ((jcn p 54 : Nat) : Int) (fun k => ((jlm p k : Nat) : Int)))] 0 0 (fun k v hsN => k = 0 ∧ hsN = [(100, [], ja2 s0 ((jcn n 54 : Nat) : Int) (fun k => ((jlm n k : Nat) : Int))), (100, [], ja2 t0 ((jcn p 54 : Nat) : Int) (fun k => ((jlm p k : Nat) : Int)))] ∧ ∃ r, v = (0, r) ∧ jord n p r) := by
  have h1 := jcn_le (n := n) 54
  have h2 := jcn_le (n := p) 54
  refine jT_adv 2 (pcN := 2) (LN := [(0, (4, 0)), (1, (4, 1))]) (stN := [(0, 1), (4, 0)]) (hsN := [(100, [], ja2 s0 ((jcn n 54 : Nat) : Int) (fun k => ((jlm n k : Nat) : Int))), (100, [], ja2 t0 ((jcn p 54 : Nat) : Int) (fun k => ((jlm p k : Nat) : Int)))]) (c1 := 0) (s1 := 0) (c2 := 0) (s2 := 0) (by exact rfl) ?_ (by omega) (by omega)
  refine jT_iald (x := ((jcn n 54 : Nat) : Int)) (a := 0) (j := 1) (fs := []) (X := ja2 s0 ((jcn n 54 : Nat) : Int) (fun k => ((jlm n k : Nat) : Int))) (by rfl) (by rfl) (by rfl) (rfl) (rfl) ?_
  refine jT_adv 2 (pcN := 5) (LN := [(0, (4, 0)), (1, (4, 1))]) (stN := [(0, 1), (4, 1), (0, ((jcn n 54 : Nat) : Int))]) (hsN := [(100, [], ja2 s0 ((jcn n 54 : Nat) : Int) (fun k => ((jlm n k : Nat) : Int))), (100, [], ja2 t0 ((jcn p 54 : Nat) : Int) (fun k => ((jlm p k : Nat) : Int)))]) (c1 := 0) (s1 := 0) (c2 := 0) (s2 := 0) (by exact rfl) ?_ (by omega) (by omega)
  refine jT_iald (x := ((jcn p 54 : Nat) : Int)) (a := 1) (j := 1) (fs := []) (X := ja2 t0 ((jcn p 54 : Nat) : Int) (fun k => ((jlm p k : Nat) : Int))) (by rfl) (by rfl) (by rfl) (rfl) (rfl) ?_
  by_cases hl : jcn n 54 = jcn p 54
  · refine jT_icT (t := 17) (by rfl) (by rfl) (by rfl) (jw_k (by omega)) (jw_k (by omega)) (by simp only [jcP] <;> omega) ?_
    refine jT_adv 2 (pcN := 19) (LN := [(0, (4, 0)), (1, (4, 1))]) (stN := [(0, 1), (4, 0)]) (hsN := [(100, [], ja2 s0 ((jcn n 54 : Nat) : Int) (fun k => ((jlm n k : Nat) : Int))), (100, [], ja2 t0 ((jcn p 54 : Nat) : Int) (fun k => ((jlm p k : Nat) : Int)))]) (c1 := 0) (s1 := 0) (c2 := 0) (s2 := 0) (by exact rfl) ?_ (by omega) (by omega)
    refine jT_iald (x := ((jcn n 54 : Nat) : Int)) (a := 0) (j := 1) (fs := []) (X := ja2 s0 ((jcn n 54 : Nat) : Int) (fun k => ((jlm n k : Nat) : Int))) (by rfl) (by rfl) (by rfl) (rfl) (rfl) ?_
    refine jT_adv 3 (pcN := 23) (LN := [(2, (0, ((jcn n 54 : Nat) : Int) + 1)), (0, (4, 0)), (1, (4, 1))]) (stN := []) (hsN := [(100, [], ja2 s0 ((jcn n 54 : Nat) : Int) (fun k => ((jlm n k : Nat) : Int))), (100, [], ja2 t0 ((jcn p 54 : Nat) : Int) (fun k => ((jlm p k : Nat) : Int)))]) (c1 := 0) (s1 := 0) (c2 := 0) (s2 := 0) (by exact rfl) ?_ (by omega) (by omega)
    exact jT_cmp_loop (jcn n 54) h1 (by rw [Nat.div_eq_of_lt (jcn_hi 54 hn), hl, Nat.div_eq_of_lt (jcn_hi 54 hp)])
  · refine jT_icF (t := 17) (by rfl) (by rfl) (by rfl) (jw_k (by omega)) (jw_k (by omega)) (by simp only [jcP] <;> omega) ?_
    refine jT_adv 2 (pcN := 11) (LN := [(0, (4, 0)), (1, (4, 1))]) (stN := [(0, 1), (4, 0)]) (hsN := [(100, [], ja2 s0 ((jcn n 54 : Nat) : Int) (fun k => ((jlm n k : Nat) : Int))), (100, [], ja2 t0 ((jcn p 54 : Nat) : Int) (fun k => ((jlm p k : Nat) : Int)))]) (c1 := 0) (s1 := 0) (c2 := 0) (s2 := 0) (by exact rfl) ?_ (by omega) (by omega)
    refine jT_iald (x := ((jcn n 54 : Nat) : Int)) (a := 0) (j := 1) (fs := []) (X := ja2 s0 ((jcn n 54 : Nat) : Int) (fun k => ((jlm n k : Nat) : Int))) (by rfl) (by rfl) (by rfl) (rfl) (rfl) ?_
    refine jT_adv 2 (pcN := 14) (LN := [(0, (4, 0)), (1, (4, 1))]) (stN := [(0, 1), (4, 1), (0, ((jcn n 54 : Nat) : Int))]) (hsN := [(100, [], ja2 s0 ((jcn n 54 : Nat) : Int) (fun k => ((jlm n k : Nat) : Int))), (100, [], ja2 t0 ((jcn p 54 : Nat) : Int) (fun k => ((jlm p k : Nat) : Int)))]) (c1 := 0) (s1 := 0) (c2 := 0) (s2 := 0) (by exact rfl) ?_ (by omega) (by omega)
    refine jT_iald (x := ((jcn p 54 : Nat) : Int)) (a := 1) (j := 1) (fs := []) (X := ja2 t0 ((jcn p 54 : Nat) : Int) (fun k => ((jlm p k : Nat) : Int))) (by rfl) (by rfl) (by rfl) (rfl) (rfl) ?_
    refine jT_adv 1 (pcN := 16) (LN := [(0, (4, 0)), (1, (4, 1))]) (stN := [(0, ((jcn n 54 : Nat) : Int) - ((jcn p 54 : Nat) : Int))]) (hsN := [(100, [], ja2 s0 ((jcn n 54 : Nat) : Int) (fun k => ((jlm n k : Nat) : Int))), (100, [], ja2 t0 ((jcn p 54 : Nat) : Int) (fun k => ((jlm p k : Nat) : Int)))]) (c1 := 0) (s1 := 0) (c2 := 0) (s2 := 0) (by exact rfl) ?_ (by omega) (by omega)
    refine jT_ret rfl (by decide) (by show 2 ≤ 2; decide) (by omega) (by omega) ⟨rfl, rfl, _, rfl, ?_⟩
    rcases Nat.lt_or_gt_of_ne hl with h3 | h3
    · exact jord_lt (by omega) (by omega) (jcn_lt h3 hn)
    · exact jord_gt (by omega) (by omega) (jcn_lt h3 hp)
theorem jT_cmp1_loop {xs : List Int} {d n : Nat} {s0 : Int} : ∀ c, c ≤ 54 → jT xs d 182 1 23 [(2, (0, ((c + 1 : Nat) : Int))), (0, (4, 0)), (1, (4, 0))] [] [(100, [], ja2 s0 ((jcn n 54 : Nat) : Int) (fun k => ((jlm n k : Nat) : Int)))] 0 0 (fun k v hsN => k = 0 ∧ hsN = [(100, [], ja2 s0 ((jcn n 54 : Nat) : Int) (fun k => ((jlm n k : Nat) : Int)))] ∧ ∃ r, v = (0, r) ∧ jord n n r) := by
  intro c
  induction c with
  | zero =>
    intro hc
    refine jT_adv 2 (pcN := 25) (LN := [(2, (0, ((0 + 1 : Nat) : Int))), (0, (4, 0)), (1, (4, 0))]) (stN := [(0, 1), (0, ((0 + 1 : Nat) : Int))]) (hsN := [(100, [], ja2 s0 ((jcn n 54 : Nat) : Int) (fun k => ((jlm n k : Nat) : Int)))]) (c1 := 0) (s1 := 0) (c2 := 0) (s2 := 0) (by exact rfl) ?_ (by omega) (by omega)
    refine jT_icT (t := 51) (b := 1) (by rfl) (by rfl) (by rfl) (jw_k (by omega)) (rfl) (by simp only [jcP] <;> omega) ?_
    refine jT_adv 1 (pcN := 52) (LN := [(2, (0, ((0 + 1 : Nat) : Int))), (0, (4, 0)), (1, (4, 0))]) (stN := [(0, 0)]) (hsN := [(100, [], ja2 s0 ((jcn n 54 : Nat) : Int) (fun k => ((jlm n k : Nat) : Int)))]) (c1 := 0) (s1 := 0) (c2 := 0) (s2 := 0) (by exact rfl) ?_ (by omega) (by omega)
    exact jT_ret rfl (by decide) (by show 1 ≤ 1; decide) (by omega) (by omega) ⟨rfl, rfl, 0, rfl, jord_eq rfl⟩
  | succ c ih =>
    intro hc
    have h1 := jlm_lt (n := n) (k := c)
    refine jT_adv 2 (pcN := 25) (LN := [(2, (0, ((c + 1 + 1 : Nat) : Int))), (0, (4, 0)), (1, (4, 0))]) (stN := [(0, 1), (0, ((c + 1 + 1 : Nat) : Int))]) (hsN := [(100, [], ja2 s0 ((jcn n 54 : Nat) : Int) (fun k => ((jlm n k : Nat) : Int)))]) (c1 := 0) (s1 := 0) (c2 := 0) (s2 := 0) (by exact rfl) ?_ (by omega) (by omega)
    refine jT_icF (t := 51) (b := 1) (by rfl) (by rfl) (by rfl) (jw_k (by omega)) (rfl) (by simp only [jcP] <;> omega) ?_
    refine jT_adv 2 (pcN := 30) (LN := [(2, (0, ((c + 1 + 1 : Nat) : Int))), (0, (4, 0)), (1, (4, 0))]) (stN := [(0, ((c + 1 + 1 : Nat) : Int)), (4, 0)]) (hsN := [(100, [], ja2 s0 ((jcn n 54 : Nat) : Int) (fun k => ((jlm n k : Nat) : Int)))]) (c1 := 0) (s1 := 0) (c2 := 0) (s2 := 0) (by exact rfl) ?_ (by omega) (by omega)
    refine jT_iald (x := ((jlm n c : Nat) : Int)) (a := 0) (j := c + 2) (fs := []) (X := ja2 s0 ((jcn n 54 : Nat) : Int) (fun k => ((jlm n k : Nat) : Int))) (by rfl) (by rfl) (by rfl) (jw_n (k := c + 2) (by omega)) (ja2_get (by omega)) ?_
    refine jT_adv 2 (pcN := 33) (LN := [(2, (0, ((c + 1 + 1 : Nat) : Int))), (0, (4, 0)), (1, (4, 0))]) (stN := [(0, ((c + 1 + 1 : Nat) : Int)), (4, 0), (0, ((jlm n c : Nat) : Int))]) (hsN := [(100, [], ja2 s0 ((jcn n 54 : Nat) : Int) (fun k => ((jlm n k : Nat) : Int)))]) (c1 := 0) (s1 := 0) (c2 := 0) (s2 := 0) (by exact rfl) ?_ (by omega) (by omega)
    refine jT_iald (x := ((jlm n c : Nat) : Int)) (a := 0) (j := c + 2) (fs := []) (X := ja2 s0 ((jcn n 54 : Nat) : Int) (fun k => ((jlm n k : Nat) : Int))) (by rfl) (by rfl) (by rfl) (jw_n (k := c + 2) (by omega)) (ja2_get (by omega)) ?_
    refine jT_icT (t := 45) (by rfl) (by rfl) (by rfl) (jw_k (by omega)) (jw_k (by omega)) (by simp only [jcP] <;> omega) ?_
    refine jT_adv 2 (pcN := 23) (LN := [(2, (0, ((c + 1 + 1 : Nat) : Int) + (-1))), (0, (4, 0)), (1, (4, 0))]) (stN := []) (hsN := [(100, [], ja2 s0 ((jcn n 54 : Nat) : Int) (fun k => ((jlm n k : Nat) : Int)))]) (c1 := 0) (s1 := 0) (c2 := 0) (s2 := 0) (by exact rfl) ?_ (by omega) (by omega)
    refine jT_eq (LN := [(2, (0, ((c + 1 : Nat) : Int))), (0, (4, 0)), (1, (4, 0))]) (stN := []) (hsN := _) (by rw [show ((c + 1 + 1 : Nat) : Int) + (-1) = ((c + 1 : Nat) : Int) from by omega]) rfl rfl ?_
    exact ih (by omega)
theorem jT_cmp1 {xs : List Int} {d n : Nat} {s0 : Int} : jT xs d 182 1 0 [(0, (4, 0)), (1, (4, 0))] [] [(100, [], ja2 s0 ((jcn n 54 : Nat) : Int) (fun k => ((jlm n k : Nat) : Int)))] 0 0 (fun k v hsN => k = 0 ∧ hsN = [(100, [], ja2 s0 ((jcn n 54 : Nat) : Int) (fun k => ((jlm n k : Nat) : Int)))] ∧ ∃ r, v = (0, r) ∧ jord n n r) := by
  have h1 := jcn_le (n := n) 54
  refine jT_adv 2 (pcN := 2) (LN := [(0, (4, 0)), (1, (4, 0))]) (stN := [(0, 1), (4, 0)]) (hsN := [(100, [], ja2 s0 ((jcn n 54 : Nat) : Int) (fun k => ((jlm n k : Nat) : Int)))]) (c1 := 0) (s1 := 0) (c2 := 0) (s2 := 0) (by exact rfl) ?_ (by omega) (by omega)
  refine jT_iald (x := ((jcn n 54 : Nat) : Int)) (a := 0) (j := 1) (fs := []) (X := ja2 s0 ((jcn n 54 : Nat) : Int) (fun k => ((jlm n k : Nat) : Int))) (by rfl) (by rfl) (by rfl) (rfl) (rfl) ?_
  refine jT_adv 2 (pcN := 5) (LN := [(0, (4, 0)), (1, (4, 0))]) (stN := [(0, 1), (4, 0), (0, ((jcn n 54 : Nat) : Int))]) (hsN := [(100, [], ja2 s0 ((jcn n 54 : Nat) : Int) (fun k => ((jlm n k : Nat) : Int)))]) (c1 := 0) (s1 := 0) (c2 := 0) (s2 := 0) (by exact rfl) ?_ (by omega) (by omega)
  refine jT_iald (x := ((jcn n 54 : Nat) : Int)) (a := 0) (j := 1) (fs := []) (X := ja2 s0 ((jcn n 54 : Nat) : Int) (fun k => ((jlm n k : Nat) : Int))) (by rfl) (by rfl) (by rfl) (rfl) (rfl) ?_
  refine jT_icT (t := 17) (by rfl) (by rfl) (by rfl) (jw_k (by omega)) (jw_k (by omega)) (by simp only [jcP] <;> omega) ?_
  refine jT_adv 2 (pcN := 19) (LN := [(0, (4, 0)), (1, (4, 0))]) (stN := [(0, 1), (4, 0)]) (hsN := [(100, [], ja2 s0 ((jcn n 54 : Nat) : Int) (fun k => ((jlm n k : Nat) : Int)))]) (c1 := 0) (s1 := 0) (c2 := 0) (s2 := 0) (by exact rfl) ?_ (by omega) (by omega)
  refine jT_iald (x := ((jcn n 54 : Nat) : Int)) (a := 0) (j := 1) (fs := []) (X := ja2 s0 ((jcn n 54 : Nat) : Int) (fun k => ((jlm n k : Nat) : Int))) (by rfl) (by rfl) (by rfl) (rfl) (rfl) ?_
  refine jT_adv 3 (pcN := 23) (LN := [(2, (0, ((jcn n 54 : Nat) : Int) + 1)), (0, (4, 0)), (1, (4, 0))]) (stN := []) (hsN := [(100, [], ja2 s0 ((jcn n 54 : Nat) : Int) (fun k => ((jlm n k : Nat) : Int)))]) (c1 := 0) (s1 := 0) (c2 := 0) (s2 := 0) (by exact rfl) ?_ (by omega) (by omega)
  exact jT_cmp1_loop (jcn n 54) h1
