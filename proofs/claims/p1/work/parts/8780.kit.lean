/-! signs of products of powers: what they reckon -/
def jlz (e0 e1 e2 e3 e4 e5 : Int) : Int := e0 * jlg 0 + (e1 * jlg 1 + (e2 * jlg 2 + (e3 * jlg 3 + (e4 * jlg 4 + e5 * jlg 5))))
theorem jlg_b2 : ∀ k, k < 6 → 0 < jlg k ∧ (jlg k).natAbs ≤ 1000000000 ^ 22 := by decide +kernel
theorem jlz_m {k : Nat} {e : Int} (hk : k < 6) (h0 : e ≠ 0) (h : e.natAbs < 4611686018427387904) : (e * jlg k).natAbs < 1000000000 ^ 54 ∧ e * jlg k ≠ 0 ∧ (e * jlg k).natAbs ≤ 10 ^ 220 := by
  obtain ⟨h1, h2⟩ := jlg_b2 k hk
  have h3 : (e * jlg k).natAbs ≤ 10 ^ 220 := by
    rw [Int.natAbs_mul]
    exact Nat.le_trans (Nat.mul_le_mul (Nat.le_of_lt h) h2) (by decide +kernel)
  refine ⟨Nat.lt_of_le_of_lt h3 (by decide +kernel), fun q => ?_, h3⟩
  rcases Int.mul_eq_zero.mp q with q | q
  · exact h0 q
  · omega
theorem jb54k {a : Int} {k : Nat} (h : a.natAbs ≤ k * 10 ^ 220) (hk : k < 10) : a.natAbs < 1000000000 ^ 54 :=
  Nat.lt_of_le_of_lt (Nat.le_trans h (Nat.mul_le_mul_right _ (Nat.le_of_lt hk))) (by decide +kernel)
theorem jb1c {a b : Int} {k n : Nat} (h : a.natAbs ≤ k * 10 ^ 220) (h2 : b.natAbs ≤ 10 ^ 220) (hn : k + 1 = n) : (a + b).natAbs ≤ n * 10 ^ 220 := by
  subst hn
  rw [Nat.succ_mul]
  exact Nat.le_trans (Int.natAbs_add_le a b) (Nat.add_le_add h h2)
theorem jb54a {a b : Int} {k : Nat} (h : a.natAbs ≤ k * 10 ^ 220) (h2 : b.natAbs ≤ 10 ^ 220) (hk : k + 1 < 10) : (a + b).natAbs < 1000000000 ^ 54 :=
  jb54k (jb1c h h2 rfl) hk
theorem jb1z {b : Int} (h2 : b.natAbs ≤ 10 ^ 220) : b.natAbs ≤ 1 * 10 ^ 220 := by rw [Nat.one_mul]; exact h2
theorem jlz_z {e0 e1 e2 e3 e4 e5 : Int} (h0 : e0 = 0) (h1 : e1 = 0) (h2 : e2 = 0) (h3 : e3 = 0) (h4 : e4 = 0) (h5 : e5 = 0) : jlz e0 e1 e2 e3 e4 e5 = 0 := by
  subst h0; subst h1; subst h2; subst h3; subst h4; subst h5
  unfold jlz
  omega
theorem jlz_mono {x y e1 e2 e3 e4 e5 : Int} (h : x ≤ y) : jlz x e1 e2 e3 e4 e5 ≤ jlz y e1 e2 e3 e4 e5 := by
  have h1 := Int.mul_le_mul_of_nonneg_right h (Int.le_of_lt (jlg_b2 0 (by decide)).1)
  unfold jlz
  omega
theorem jsgn_b (x : Int) : -1 ≤ x.sign ∧ x.sign ≤ 1 := by
  rcases Int.lt_trichotomy x 0 with h | h | h
  · rw [Int.sign_eq_neg_one_of_neg h]; decide
  · rw [h]; decide
  · rw [Int.sign_eq_one_of_pos h]; decide
theorem jsgn_n {x : Int} (h : x < 0) : x.sign < 0 := by rw [Int.sign_eq_neg_one_of_neg h]; decide
theorem jsgn_p {x : Int} (h : 0 ≤ x) : 0 ≤ x.sign := by
  rcases Int.lt_or_eq_of_le h with h | h
  · rw [Int.sign_eq_one_of_pos h]; decide
  · rw [← h]; decide
