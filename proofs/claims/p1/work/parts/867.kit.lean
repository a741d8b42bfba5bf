/-! fractions: what their loops reckon -/
def jp2 : Nat → Int
  | 0 => 1
  | n + 1 => 2 * jp2 n
def jsu (P : Int) : Nat → Int → Int
  | 0, u => u
  | n + 1, u => if u.tmod P = 0 then jsu P n (u.tdiv P) else u
def jsc (P : Int) : Nat → Int → Int
  | 0, _ => 0
  | n + 1, u => if u.tmod P = 0 then jsc P n (u.tdiv P) + 1 else 0
theorem jsu_1 {P u : Int} {n : Nat} (h : u.tmod P = 0) : jsu P (n + 1) u = jsu P n (u.tdiv P) := if_pos h
theorem jsu_0 {P u : Int} {n : Nat} (h : ¬ u.tmod P = 0) : jsu P (n + 1) u = u := if_neg h
theorem jsc_1 {P u : Int} {n : Nat} (h : u.tmod P = 0) : jsc P (n + 1) u = jsc P n (u.tdiv P) + 1 := if_pos h
theorem jsc_0 {P u : Int} {n : Nat} (h : ¬ u.tmod P = 0) : jsc P (n + 1) u = 0 := if_neg h
theorem jst_d {P u : Int} (hP : 2 ≤ P) (h1 : 1 ≤ u) (hm : u.tmod P = 0) : 1 ≤ u.tdiv P ∧ 2 * u.tdiv P ≤ u := by
  have h2 := Int.mul_tdiv_cancel_of_tmod_eq_zero hm
  have h0 := jtd_b0 (x := u) (y := P) (by omega) (by omega)
  generalize u.tdiv P = v at h2 h0
  have h3 : 2 * v ≤ P * v := Int.mul_le_mul_of_nonneg_right hP h0.1
  refine ⟨?_, by omega⟩
  rcases Int.lt_or_le 0 v with h4 | h4
  · omega
  · have h5 : v = 0 := by omega
    rw [h5, Int.mul_zero] at h2
    omega
theorem jst_s {P u : Int} {n : Nat} (hP : 2 ≤ P) (h1 : 1 ≤ u) (hu : u < jp2 (n + 1)) (hm : u.tmod P = 0) : 1 ≤ u.tdiv P ∧ u.tdiv P < jp2 n ∧ u.tdiv P ≤ u := by
  have h2 := jst_d hP h1 hm
  have h3 : u < 2 * jp2 n := hu
  exact ⟨h2.1, by omega, by omega⟩
theorem jsu_b {P : Int} (hP : 2 ≤ P) : ∀ {n : Nat} {u : Int}, 1 ≤ u → u ≤ 1000000 → 1 ≤ jsu P n u ∧ jsu P n u ≤ 1000000
  | 0, u, h1, h2 => ⟨h1, h2⟩
  | n + 1, u, h1, h2 => by
    by_cases h : u.tmod P = 0
    · rw [jsu_1 h]
      have h3 := jst_d hP h1 h
      exact jsu_b hP (by omega) (by omega)
    · rw [jsu_0 h]
      exact ⟨h1, h2⟩
theorem jsc_b {P : Int} : ∀ {n : Nat} {u : Int}, 0 ≤ jsc P n u ∧ jsc P n u ≤ (n : Int)
  | 0, u => ⟨by show (0 : Int) ≤ 0; decide, by show (0 : Int) ≤ _; omega⟩
  | n + 1, u => by
    by_cases h : u.tmod P = 0
    · rw [jsc_1 h]
      have h3 := jsc_b (P := P) (n := n) (u := u.tdiv P)
      omega
    · rw [jsc_0 h]
      omega
theorem jfr_b {p t q : Int} (h : ((Nat.gcd p.natAbs t.natAbs : Nat) : Int) = q) (h0 : 1 ≤ p) (h1 : p ≤ 1000000) : 1 ≤ p.tdiv q ∧ p.tdiv q ≤ 1000000 := by
  obtain ⟨g, n, k, e1, e2, e3, e4, e5, e6, e7, e8⟩ := jun_g h h0
  rw [e8]
  omega
theorem jfr_b2 {p t q : Int} (h : ((Nat.gcd p.natAbs t.natAbs : Nat) : Int) = q) (h0 : 1 ≤ t) (h1 : t ≤ 1000000) : 1 ≤ t.tdiv q ∧ t.tdiv q ≤ 1000000 :=
  jfr_b (p := t) (t := p) (by rw [Nat.gcd_comm]; exact h) h0 h1
