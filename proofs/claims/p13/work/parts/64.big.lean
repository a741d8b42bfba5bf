/-! the model's long numbers: the product -/
def jpT (W x p I J : Nat) : Nat := W % 1000000000 ^ (I + J) + x * (p % 1000000000 ^ J) * 1000000000 ^ I
theorem jpT_s {W x p I J : Nat} : jpT W x p I (J + 1) = jpT W x p I J + 1000000000 ^ (I + J) * (jlm W (I + J) + x * jlm p J) := by
  unfold jpT
  rw [← Nat.add_assoc, Nat.mod_pow_succ, Nat.mod_pow_succ]
  show _ % _ + 1000000000 ^ (I + J) * jlm W (I + J) + x * (_ + 1000000000 ^ J * jlm p J) * 1000000000 ^ I = _
  rw [Nat.pow_add]
  generalize W % (1000000000 ^ I * 1000000000 ^ J) = w
  generalize p % 1000000000 ^ J = q
  generalize jlm W (I + J) = u
  generalize jlm p J = y
  generalize 1000000000 ^ I = A
  generalize 1000000000 ^ J = B
  grind
theorem jp_o {n p I : Nat} : n % 1000000000 ^ (I + 1) * p = n % 1000000000 ^ I * p + jlm n I * p * 1000000000 ^ I := by
  rw [Nat.mod_pow_succ, Nat.add_mul]
  show _ + 1000000000 ^ I * jlm n I * p = _
  rw [Nat.mul_comm (1000000000 ^ I), Nat.mul_right_comm]

theorem jz_mul {c d k : Nat} {g w : Nat → Int} : (if k = c + d then g (c + d) else if k < c + d then g k else w k) = if k < c + (d + 1) then g k else w k := by
  by_cases h1 : k = c + d
  · subst h1; rw [if_pos rfl, if_pos (by omega)]
  · rw [if_neg h1]
    by_cases h2 : k < c + d
    · rw [if_pos h2, if_pos (by omega)]
    · rw [if_neg h2, if_neg (by omega)]
theorem jz_mul0 {I k p n : Nat} : ((jlm (n % 1000000000 ^ I * p) k : Nat) : Int) = if k < I + 0 then ((jlm (n % 1000000000 ^ (I + 1) * p) k : Nat) : Int) else ((jlm (n % 1000000000 ^ I * p) k : Nat) : Int) := by
  by_cases h : k < I + 0
  · rw [if_pos h]
    congr 1
    rw [jp_o]
    obtain ⟨q, hq⟩ : ∃ q, I = k + 1 + q := ⟨I - k - 1, by omega⟩
    show _ / 1000000000 ^ k % 1000000000 = _ / 1000000000 ^ k % 1000000000
    have e : jlm n I * p * 1000000000 ^ I = 1000000000 ^ k * (1000000000 * (jlm n I * p * 1000000000 ^ q)) := by
      rw [show 1000000000 ^ I = 1000000000 ^ k * 1000000000 * 1000000000 ^ q from by rw [hq, Nat.pow_add, Nat.pow_succ]]
      grind
    rw [e, Nat.add_mul_div_left _ _ (Nat.pow_pos (by decide)), Nat.add_mul_mod_self_left]
  · rw [if_neg h]
theorem jpB_pos (c : Nat) : 0 < 1000000000 ^ c := Nat.pow_pos (by decide)
theorem jp_v {W x p I J : Nat} : jpT W x p I (J + 1) / 1000000000 ^ (I + J) = jlm W (I + J) + jpT W x p I J / 1000000000 ^ (I + J) + x * jlm p J := by
  rw [jpT_s, Nat.add_mul_div_left _ _ (jpB_pos _)]
  omega
theorem jp_c {W x p I J : Nat} : jpT W x p I (J + 1) / 1000000000 ^ (I + (J + 1)) = (jlm W (I + J) + jpT W x p I J / 1000000000 ^ (I + J) + x * jlm p J) / 1000000000 := by
  rw [← jp_v, Nat.div_div_eq_div_mul, ← Nat.pow_succ]
  rfl
theorem jp_d {W x p I J : Nat} : jlm (W + x * p * 1000000000 ^ I) (I + J) = (jlm W (I + J) + jpT W x p I J / 1000000000 ^ (I + J) + x * jlm p J) % 1000000000 := by
  rw [← jp_v]
  have e : W + x * p * 1000000000 ^ I = jpT W x p I (J + 1) + 1000000000 ^ (I + J) * (1000000000 * (W / 1000000000 ^ (I + (J + 1)) + x * (p / 1000000000 ^ (J + 1)))) := by
    have h1 : W = W % 1000000000 ^ (I + (J + 1)) + 1000000000 ^ (I + (J + 1)) * (W / 1000000000 ^ (I + (J + 1))) := (Nat.mod_add_div _ _).symm
    have h2 : p = p % 1000000000 ^ (J + 1) + 1000000000 ^ (J + 1) * (p / 1000000000 ^ (J + 1)) := (Nat.mod_add_div _ _).symm
    have h3 : 1000000000 ^ (I + (J + 1)) = 1000000000 ^ I * 1000000000 ^ J * 1000000000 := by rw [← Nat.add_assoc, Nat.pow_succ, Nat.pow_add]
    have h4 : 1000000000 ^ (J + 1) = 1000000000 ^ J * 1000000000 := Nat.pow_succ ..
    have h5 : 1000000000 ^ (I + J) = 1000000000 ^ I * 1000000000 ^ J := Nat.pow_add ..
    unfold jpT
    generalize W % 1000000000 ^ (I + (J + 1)) = w at *
    generalize W / 1000000000 ^ (I + (J + 1)) = w2 at *
    generalize p % 1000000000 ^ (J + 1) = q at *
    generalize p / 1000000000 ^ (J + 1) = q2 at *
    rw [h1, h2, h3, h4, h5]
    generalize 1000000000 ^ I = A
    generalize 1000000000 ^ J = B
    grind
  show (W + x * p * 1000000000 ^ I) / 1000000000 ^ (I + J) % 1000000000 = _
  rw [e, Nat.add_mul_div_left _ _ (jpB_pos _), Nat.add_mul_mod_self_left]
theorem jp_b {W x p I J : Nat} (hx : x < 1000000000) : jpT W x p I J / 1000000000 ^ (I + J) < 1000000000 := by
  rw [Nat.div_lt_iff_lt_mul (jpB_pos _)]
  unfold jpT
  have h1 : W % 1000000000 ^ (I + J) < 1000000000 ^ (I + J) := Nat.mod_lt _ (jpB_pos _)
  have h2 : p % 1000000000 ^ J ≤ 1000000000 ^ J := Nat.le_of_lt (Nat.mod_lt _ (jpB_pos _))
  have h3 : x * (p % 1000000000 ^ J) * 1000000000 ^ I ≤ 999999999 * 1000000000 ^ J * 1000000000 ^ I := Nat.mul_le_mul_right _ (Nat.mul_le_mul (by omega) h2)
  rw [Nat.mul_assoc 999999999, ← Nat.pow_add, Nat.add_comm J I] at h3
  omega
theorem jp_0 {W x p I : Nat} : jpT W x p I 0 / 1000000000 ^ (I + 0) = 0 := by
  unfold jpT
  rw [Nat.pow_zero, Nat.mod_one, Nat.mul_zero, Nat.zero_mul, Nat.add_zero]
  exact Nat.div_eq_of_lt (Nat.mod_lt _ (jpB_pos _))
theorem jT_prod_in {xs : List Int} {d I b1 b2 : Nat} {a b : Int} {Q : Nat → JV → List JC → Prop} (hI : I < 54) (hk : jT xs d 179 2 87 [(3, (0, ((I + 2 : Nat) : Int))), (2, (4, 2)), (0, (4, 0)), (1, (4, 1))] [] [(100, [], jenc a), (100, [], jenc b), (100, [], ja2 0 0 (fun k => ((jlm (a.natAbs % 1000000000 ^ (I + 1) * b.natAbs) k : Nat) : Int)))] b1 b2 Q) : ∀ q J, I + J + q = 54 → jT xs d 179 2 22 [(6, (0, ((J + 2 : Nat) : Int))), (4, (1, ((jpT (a.natAbs % 1000000000 ^ I * b.natAbs) (jlm a.natAbs I) b.natAbs I J / 1000000000 ^ (I + J) : Nat) : Int))), (3, (0, ((I + 2 : Nat) : Int))), (2, (4, 2)), (0, (4, 0)), (1, (4, 1))] [] [(100, [], jenc a), (100, [], jenc b), (100, [], ja2 0 0 (fun k => if k < I + J then ((jlm (a.natAbs % 1000000000 ^ (I + 1) * b.natAbs) k : Nat) : Int) else ((jlm (a.natAbs % 1000000000 ^ I * b.natAbs) k : Nat) : Int)))] b1 b2 Q := by
  intro q
  induction q with
  | zero =>
    intro J hJ
    refine jT_adv 6 (pcN := 30) (LN := [(6, (0, ((J + 2 : Nat) : Int))), (4, (1, ((jpT (a.natAbs % 1000000000 ^ I * b.natAbs) (jlm a.natAbs I) b.natAbs I J / 1000000000 ^ (I + J) : Nat) : Int))), (3, (0, ((I + 2 : Nat) : Int))), (2, (4, 2)), (0, (4, 0)), (1, (4, 1))]) (stN := [(0, 56), (0, (((I + 2 : Nat) : Int) + ((J + 2 : Nat) : Int)) - 2)]) (hsN := [(100, [], jenc a), (100, [], jenc b), (100, [], ja2 0 0 (fun k => if k < I + J then ((jlm (a.natAbs % 1000000000 ^ (I + 1) * b.natAbs) k : Nat) : Int) else ((jlm (a.natAbs % 1000000000 ^ I * b.natAbs) k : Nat) : Int)))]) (c1 := 0) (s1 := 0) (c2 := b1) (s2 := b2) (by exact rfl) ?_ (by omega) (by omega)
    refine jT_icT (t := 87) (a := ((I + J + 2 : Nat) : Int)) (b := 56) (by rfl) (by rfl) (by rfl) (by rw [show ((I + 2 : Nat) : Int) + ((J + 2 : Nat) : Int) - 2 = ((I + J + 2 : Nat) : Int) from by omega]; exact jw_k (by omega)) (rfl) (by simp only [jcP] <;> omega) ?_
    refine jT_loc (LN := [(3, (0, ((I + 2 : Nat) : Int))), (2, (4, 2)), (0, (4, 0)), (1, (4, 1))]) (by show List.Nodup [3, 2, 0, 1]; decide) (by intro q hq; simp only [List.mem_cons, List.not_mem_nil, or_false] at hq; rcases hq with rfl | rfl | rfl | rfl <;> rfl) ?_
    refine jT_eq (LN := [(3, (0, ((I + 2 : Nat) : Int))), (2, (4, 2)), (0, (4, 0)), (1, (4, 1))]) (stN := []) (hsN := [(100, [], jenc a), (100, [], jenc b), (100, [], ja2 0 0 (fun k => ((jlm (a.natAbs % 1000000000 ^ (I + 1) * b.natAbs) k : Nat) : Int)))]) rfl rfl (by rw [ja2_congr (s := 0) (c := 0) (f := (fun k => if k < I + J then ((jlm (a.natAbs % 1000000000 ^ (I + 1) * b.natAbs) k : Nat) : Int) else ((jlm (a.natAbs % 1000000000 ^ I * b.natAbs) k : Nat) : Int))) (g := (fun k => ((jlm (a.natAbs % 1000000000 ^ (I + 1) * b.natAbs) k : Nat) : Int))) (fun k hk => if_pos (by omega))]) hk
  | succ q ih =>
    intro J hJ
    have h1 := jlm_lt (n := a.natAbs) (k := I)
    have h2 := jlm_lt (n := b.natAbs) (k := J)
    have h3 := jlm_lt (n := (a.natAbs % 1000000000 ^ I * b.natAbs)) (k := I + J)
    have h4 := jp_b (W := (a.natAbs % 1000000000 ^ I * b.natAbs)) (p := b.natAbs) (I := I) (J := J) h1
    have hd := jp_d (W := (a.natAbs % 1000000000 ^ I * b.natAbs)) (x := (jlm a.natAbs I)) (p := b.natAbs) (I := I) (J := J)
    have hc := jp_c (W := (a.natAbs % 1000000000 ^ I * b.natAbs)) (x := (jlm a.natAbs I)) (p := b.natAbs) (I := I) (J := J)
    rw [← jp_o] at hd
    have h5 : (jlm a.natAbs I) * jlm b.natAbs J ≤ 999999999 * 999999999 := Nat.mul_le_mul (by omega) (by omega)
    refine jT_adv 6 (pcN := 30) (LN := [(6, (0, ((J + 2 : Nat) : Int))), (4, (1, ((jpT (a.natAbs % 1000000000 ^ I * b.natAbs) (jlm a.natAbs I) b.natAbs I J / 1000000000 ^ (I + J) : Nat) : Int))), (3, (0, ((I + 2 : Nat) : Int))), (2, (4, 2)), (0, (4, 0)), (1, (4, 1))]) (stN := [(0, 56), (0, (((I + 2 : Nat) : Int) + ((J + 2 : Nat) : Int)) - 2)]) (hsN := [(100, [], jenc a), (100, [], jenc b), (100, [], ja2 0 0 (fun k => if k < I + J then ((jlm (a.natAbs % 1000000000 ^ (I + 1) * b.natAbs) k : Nat) : Int) else ((jlm (a.natAbs % 1000000000 ^ I * b.natAbs) k : Nat) : Int)))]) (c1 := 0) (s1 := 0) (c2 := b1) (s2 := b2) (by exact rfl) ?_ (by omega) (by omega)
    refine jT_icF (t := 87) (a := ((I + J + 2 : Nat) : Int)) (b := 56) (by rfl) (by rfl) (by rfl) (by rw [show ((I + 2 : Nat) : Int) + ((J + 2 : Nat) : Int) - 2 = ((I + J + 2 : Nat) : Int) from by omega]; exact jw_k (by omega)) (rfl) (by simp only [jcP] <;> omega) ?_
    refine jT_adv 6 (pcN := 40) (LN := [(6, (0, ((J + 2 : Nat) : Int))), (4, (1, ((jpT (a.natAbs % 1000000000 ^ I * b.natAbs) (jlm a.natAbs I) b.natAbs I J / 1000000000 ^ (I + J) : Nat) : Int))), (3, (0, ((I + 2 : Nat) : Int))), (2, (4, 2)), (0, (4, 0)), (1, (4, 1))]) (stN := [(0, (((I + 2 : Nat) : Int) + ((J + 2 : Nat) : Int)) - 2), (4, 2)]) (hsN := [(100, [], jenc a), (100, [], jenc b), (100, [], ja2 0 0 (fun k => if k < I + J then ((jlm (a.natAbs % 1000000000 ^ (I + 1) * b.natAbs) k : Nat) : Int) else ((jlm (a.natAbs % 1000000000 ^ I * b.natAbs) k : Nat) : Int)))]) (c1 := 0) (s1 := 0) (c2 := b1) (s2 := b2) (by exact rfl) ?_ (by omega) (by omega)
    refine jT_iald (x := ((jlm (a.natAbs % 1000000000 ^ I * b.natAbs) (I + J) : Nat) : Int)) (a := 2) (j := I + J + 2) (fs := []) (X := ja2 0 0 (fun k => if k < I + J then ((jlm (a.natAbs % 1000000000 ^ (I + 1) * b.natAbs) k : Nat) : Int) else ((jlm (a.natAbs % 1000000000 ^ I * b.natAbs) k : Nat) : Int))) (by rfl) (by rfl) (by rfl) (by rw [show ((I + 2 : Nat) : Int) + ((J + 2 : Nat) : Int) - 2 = ((I + J + 2 : Nat) : Int) from by omega]; exact jw_n (k := I + J + 2) (by omega)) (by rw [ja2_get (by omega), if_neg (by omega)]) ?_
    refine jT_adv 5 (pcN := 47) (LN := [(6, (0, ((J + 2 : Nat) : Int))), (4, (1, ((jpT (a.natAbs % 1000000000 ^ I * b.natAbs) (jlm a.natAbs I) b.natAbs I J / 1000000000 ^ (I + J) : Nat) : Int))), (3, (0, ((I + 2 : Nat) : Int))), (2, (4, 2)), (0, (4, 0)), (1, (4, 1))]) (stN := [(0, ((I + 2 : Nat) : Int)), (4, 0), (1, (jw ((jlm (a.natAbs % 1000000000 ^ I * b.natAbs) (I + J) : Nat) : Int)) + ((jpT (a.natAbs % 1000000000 ^ I * b.natAbs) (jlm a.natAbs I) b.natAbs I J / 1000000000 ^ (I + J) : Nat) : Int))]) (hsN := [(100, [], jenc a), (100, [], jenc b), (100, [], ja2 0 0 (fun k => if k < I + J then ((jlm (a.natAbs % 1000000000 ^ (I + 1) * b.natAbs) k : Nat) : Int) else ((jlm (a.natAbs % 1000000000 ^ I * b.natAbs) k : Nat) : Int)))]) (c1 := 0) (s1 := 0) (c2 := b1) (s2 := b2) (by exact rfl) ?_ (by omega) (by omega)
    refine jT_iald (x := (((jlm a.natAbs I) : Nat) : Int)) (a := 0) (j := I + 2) (fs := []) (X := jenc a) (by rfl) (by rfl) (by rfl) (jw_n (k := I + 2) (by omega)) (ja2_get (by omega)) ?_
    refine jT_adv 3 (pcN := 52) (LN := [(6, (0, ((J + 2 : Nat) : Int))), (4, (1, ((jpT (a.natAbs % 1000000000 ^ I * b.natAbs) (jlm a.natAbs I) b.natAbs I J / 1000000000 ^ (I + J) : Nat) : Int))), (3, (0, ((I + 2 : Nat) : Int))), (2, (4, 2)), (0, (4, 0)), (1, (4, 1))]) (stN := [(0, ((J + 2 : Nat) : Int)), (4, 1), (1, jw (((jlm a.natAbs I) : Nat) : Int)), (1, (jw ((jlm (a.natAbs % 1000000000 ^ I * b.natAbs) (I + J) : Nat) : Int)) + ((jpT (a.natAbs % 1000000000 ^ I * b.natAbs) (jlm a.natAbs I) b.natAbs I J / 1000000000 ^ (I + J) : Nat) : Int))]) (hsN := [(100, [], jenc a), (100, [], jenc b), (100, [], ja2 0 0 (fun k => if k < I + J then ((jlm (a.natAbs % 1000000000 ^ (I + 1) * b.natAbs) k : Nat) : Int) else ((jlm (a.natAbs % 1000000000 ^ I * b.natAbs) k : Nat) : Int)))]) (c1 := 0) (s1 := 0) (c2 := b1) (s2 := b2) (by exact rfl) ?_ (by omega) (by omega)
    refine jT_iald (x := ((jlm b.natAbs J : Nat) : Int)) (a := 1) (j := J + 2) (fs := []) (X := jenc b) (by rfl) (by rfl) (by rfl) (jw_n (k := J + 2) (by omega)) (ja2_get (by omega)) ?_
    refine jT_adv 3 (pcN := 56) (LN := [(6, (0, ((J + 2 : Nat) : Int))), (4, (1, ((jpT (a.natAbs % 1000000000 ^ I * b.natAbs) (jlm a.natAbs I) b.natAbs I J / 1000000000 ^ (I + J) : Nat) : Int))), (3, (0, ((I + 2 : Nat) : Int))), (2, (4, 2)), (0, (4, 0)), (1, (4, 1))]) (stN := [(1, ((jw ((jlm (a.natAbs % 1000000000 ^ I * b.natAbs) (I + J) : Nat) : Int)) + ((jpT (a.natAbs % 1000000000 ^ I * b.natAbs) (jlm a.natAbs I) b.natAbs I J / 1000000000 ^ (I + J) : Nat) : Int)) + ((jw (((jlm a.natAbs I) : Nat) : Int)) * (jw ((jlm b.natAbs J : Nat) : Int))))]) (hsN := [(100, [], jenc a), (100, [], jenc b), (100, [], ja2 0 0 (fun k => if k < I + J then ((jlm (a.natAbs % 1000000000 ^ (I + 1) * b.natAbs) k : Nat) : Int) else ((jlm (a.natAbs % 1000000000 ^ I * b.natAbs) k : Nat) : Int)))]) (c1 := 0) (s1 := 0) (c2 := b1) (s2 := b2) (by exact rfl) ?_ (by omega) (by omega)
    generalize hv : jlm (a.natAbs % 1000000000 ^ I * b.natAbs) (I + J) + jpT (a.natAbs % 1000000000 ^ I * b.natAbs) (jlm a.natAbs I) b.natAbs I J / 1000000000 ^ (I + J) + (jlm a.natAbs I) * jlm b.natAbs J = v at hd hc
    have hvb : v < 9223372036854775808 := by omega
    refine jT_eq (LN := [(6, (0, ((J + 2 : Nat) : Int))), (4, (1, ((jpT (a.natAbs % 1000000000 ^ I * b.natAbs) (jlm a.natAbs I) b.natAbs I J / 1000000000 ^ (I + J) : Nat) : Int))), (3, (0, ((I + 2 : Nat) : Int))), (2, (4, 2)), (0, (4, 0)), (1, (4, 1))]) (stN := [(1, ((v : Nat) : Int))]) (hsN := [(100, [], jenc a), (100, [], jenc b), (100, [], ja2 0 0 (fun k => if k < I + J then ((jlm (a.natAbs % 1000000000 ^ (I + 1) * b.natAbs) k : Nat) : Int) else ((jlm (a.natAbs % 1000000000 ^ I * b.natAbs) k : Nat) : Int)))]) (rfl) (by rw [← hv, jw_k (by omega), jw_k (by omega), jw_k (by omega), Int.natCast_add, Int.natCast_add, Int.natCast_mul]) (rfl) ?_
    refine jT_adv 9 (pcN := 70) (LN := [(7, (1, ((v : Nat) : Int))), (6, (0, ((J + 2 : Nat) : Int))), (4, (1, ((jpT (a.natAbs % 1000000000 ^ I * b.natAbs) (jlm a.natAbs I) b.natAbs I J / 1000000000 ^ (I + J) : Nat) : Int))), (3, (0, ((I + 2 : Nat) : Int))), (2, (4, 2)), (0, (4, 0)), (1, (4, 1))]) (stN := [(1, 1000000000), (1, ((v : Nat) : Int)), (0, (((I + 2 : Nat) : Int) + ((J + 2 : Nat) : Int)) - 2), (4, 2)]) (hsN := [(100, [], jenc a), (100, [], jenc b), (100, [], ja2 0 0 (fun k => if k < I + J then ((jlm (a.natAbs % 1000000000 ^ (I + 1) * b.natAbs) k : Nat) : Int) else ((jlm (a.natAbs % 1000000000 ^ I * b.natAbs) k : Nat) : Int)))]) (c1 := 0) (s1 := 0) (c2 := b1) (s2 := b2) (by exact rfl) ?_ (by omega) (by omega)
    refine jT_lrem (a := ((v : Nat) : Int)) (b := 1000000000) (by rfl) (by rfl) (jwl_k hvb) (rfl) (by decide) ?_
    refine jT_eq (LN := [(7, (1, ((v : Nat) : Int))), (6, (0, ((J + 2 : Nat) : Int))), (4, (1, ((jpT (a.natAbs % 1000000000 ^ I * b.natAbs) (jlm a.natAbs I) b.natAbs I J / 1000000000 ^ (I + J) : Nat) : Int))), (3, (0, ((I + 2 : Nat) : Int))), (2, (4, 2)), (0, (4, 0)), (1, (4, 1))]) (stN := [(1, ((jlm (a.natAbs % 1000000000 ^ (I + 1) * b.natAbs) (I + J) : Nat) : Int)), (0, (((I + 2 : Nat) : Int) + ((J + 2 : Nat) : Int)) - 2), (4, 2)]) (hsN := [(100, [], jenc a), (100, [], jenc b), (100, [], ja2 0 0 (fun k => if k < I + J then ((jlm (a.natAbs % 1000000000 ^ (I + 1) * b.natAbs) k : Nat) : Int) else ((jlm (a.natAbs % 1000000000 ^ I * b.natAbs) k : Nat) : Int)))]) (rfl) (by rw [hd]; rfl) (rfl) ?_
    refine jT_adv 1 (pcN := 72) (LN := [(7, (1, ((v : Nat) : Int))), (6, (0, ((J + 2 : Nat) : Int))), (4, (1, ((jpT (a.natAbs % 1000000000 ^ I * b.natAbs) (jlm a.natAbs I) b.natAbs I J / 1000000000 ^ (I + J) : Nat) : Int))), (3, (0, ((I + 2 : Nat) : Int))), (2, (4, 2)), (0, (4, 0)), (1, (4, 1))]) (stN := [(0, ((jlm (a.natAbs % 1000000000 ^ (I + 1) * b.natAbs) (I + J) : Nat) : Int)), (0, (((I + 2 : Nat) : Int) + ((J + 2 : Nat) : Int)) - 2), (4, 2)]) (hsN := [(100, [], jenc a), (100, [], jenc b), (100, [], ja2 0 0 (fun k => if k < I + J then ((jlm (a.natAbs % 1000000000 ^ (I + 1) * b.natAbs) k : Nat) : Int) else ((jlm (a.natAbs % 1000000000 ^ I * b.natAbs) k : Nat) : Int)))]) (c1 := 0) (s1 := 0) (c2 := b1) (s2 := b2) (by exact rfl) ?_ (by omega) (by omega)
    refine jT_iast (x := ((jlm (a.natAbs % 1000000000 ^ (I + 1) * b.natAbs) (I + J) : Nat) : Int)) (a := 2) (j := (I + J + 2)) (fs := []) (X := ja2 0 0 (fun k => if k < I + J then ((jlm (a.natAbs % 1000000000 ^ (I + 1) * b.natAbs) k : Nat) : Int) else ((jlm (a.natAbs % 1000000000 ^ I * b.natAbs) k : Nat) : Int))) (by rfl) (by rfl) (by rfl) (by rw [show ((I + 2 : Nat) : Int) + ((J + 2 : Nat) : Int) - 2 = ((I + J + 2 : Nat) : Int) from by omega]; exact jw_n (k := I + J + 2) (by omega)) (by rw [ja2_len]; omega) ?_
    refine jT_eq (LN := [(7, (1, ((v : Nat) : Int))), (6, (0, ((J + 2 : Nat) : Int))), (4, (1, ((jpT (a.natAbs % 1000000000 ^ I * b.natAbs) (jlm a.natAbs I) b.natAbs I J / 1000000000 ^ (I + J) : Nat) : Int))), (3, (0, ((I + 2 : Nat) : Int))), (2, (4, 2)), (0, (4, 0)), (1, (4, 1))]) (stN := []) (hsN := [(100, [], jenc a), (100, [], jenc b), (100, [], ja2 0 0 (fun k => if k < I + (J + 1) then ((jlm (a.natAbs % 1000000000 ^ (I + 1) * b.natAbs) k : Nat) : Int) else ((jlm (a.natAbs % 1000000000 ^ I * b.natAbs) k : Nat) : Int)))]) rfl rfl (by rw [ja2_set (by omega), ja2_congr (f := fun j => if j = I + J then ((jlm (a.natAbs % 1000000000 ^ (I + 1) * b.natAbs) (I + J) : Nat) : Int) else if j < I + J then ((jlm (a.natAbs % 1000000000 ^ (I + 1) * b.natAbs) j : Nat) : Int) else ((jlm (a.natAbs % 1000000000 ^ I * b.natAbs) j : Nat) : Int)) (g := fun j => if j < I + (J + 1) then ((jlm (a.natAbs % 1000000000 ^ (I + 1) * b.natAbs) j : Nat) : Int) else ((jlm (a.natAbs % 1000000000 ^ I * b.natAbs) j : Nat) : Int)) (fun k _ => jz_mul (g := fun k => ((jlm (a.natAbs % 1000000000 ^ (I + 1) * b.natAbs) k : Nat) : Int)) (w := fun k => ((jlm (a.natAbs % 1000000000 ^ I * b.natAbs) k : Nat) : Int)))]; rfl) ?_
    refine jT_adv 2 (pcN := 78) (LN := [(7, (1, ((v : Nat) : Int))), (6, (0, ((J + 2 : Nat) : Int))), (4, (1, ((jpT (a.natAbs % 1000000000 ^ I * b.natAbs) (jlm a.natAbs I) b.natAbs I J / 1000000000 ^ (I + J) : Nat) : Int))), (3, (0, ((I + 2 : Nat) : Int))), (2, (4, 2)), (0, (4, 0)), (1, (4, 1))]) (stN := [(1, 1000000000), (1, ((v : Nat) : Int))]) (hsN := [(100, [], jenc a), (100, [], jenc b), (100, [], ja2 0 0 (fun k => if k < I + (J + 1) then ((jlm (a.natAbs % 1000000000 ^ (I + 1) * b.natAbs) k : Nat) : Int) else ((jlm (a.natAbs % 1000000000 ^ I * b.natAbs) k : Nat) : Int)))]) (c1 := 0) (s1 := 0) (c2 := b1) (s2 := b2) (by exact rfl) ?_ (by omega) (by omega)
    refine jT_ldiv (a := ((v : Nat) : Int)) (b := 1000000000) (by rfl) (by rfl) (jwl_k hvb) (rfl) (by decide) ?_
    refine jT_eq (LN := [(7, (1, ((v : Nat) : Int))), (6, (0, ((J + 2 : Nat) : Int))), (4, (1, ((jpT (a.natAbs % 1000000000 ^ I * b.natAbs) (jlm a.natAbs I) b.natAbs I J / 1000000000 ^ (I + J) : Nat) : Int))), (3, (0, ((I + 2 : Nat) : Int))), (2, (4, 2)), (0, (4, 0)), (1, (4, 1))]) (stN := [(1, ((jpT (a.natAbs % 1000000000 ^ I * b.natAbs) (jlm a.natAbs I) b.natAbs I (J + 1) / 1000000000 ^ (I + (J + 1)) : Nat) : Int))]) (hsN := [(100, [], jenc a), (100, [], jenc b), (100, [], ja2 0 0 (fun k => if k < I + (J + 1) then ((jlm (a.natAbs % 1000000000 ^ (I + 1) * b.natAbs) k : Nat) : Int) else ((jlm (a.natAbs % 1000000000 ^ I * b.natAbs) k : Nat) : Int)))]) (rfl) (by rw [hc]; rfl) (rfl) ?_
    refine jT_adv 3 (pcN := 22) (LN := [(6, (0, ((J + 2 : Nat) : Int) + 1)), (4, (1, ((jpT (a.natAbs % 1000000000 ^ I * b.natAbs) (jlm a.natAbs I) b.natAbs I (J + 1) / 1000000000 ^ (I + (J + 1)) : Nat) : Int))), (7, (1, ((v : Nat) : Int))), (3, (0, ((I + 2 : Nat) : Int))), (2, (4, 2)), (0, (4, 0)), (1, (4, 1))]) (stN := []) (hsN := [(100, [], jenc a), (100, [], jenc b), (100, [], ja2 0 0 (fun k => if k < I + (J + 1) then ((jlm (a.natAbs % 1000000000 ^ (I + 1) * b.natAbs) k : Nat) : Int) else ((jlm (a.natAbs % 1000000000 ^ I * b.natAbs) k : Nat) : Int)))]) (c1 := 0) (s1 := 0) (c2 := b1) (s2 := b2) (by exact rfl) ?_ (by omega) (by omega)
    refine jT_loc (LN := [(6, (0, ((J + 2 : Nat) : Int) + 1)), (4, (1, ((jpT (a.natAbs % 1000000000 ^ I * b.natAbs) (jlm a.natAbs I) b.natAbs I (J + 1) / 1000000000 ^ (I + (J + 1)) : Nat) : Int))), (3, (0, ((I + 2 : Nat) : Int))), (2, (4, 2)), (0, (4, 0)), (1, (4, 1))]) (by show List.Nodup [6, 4, 3, 2, 0, 1]; decide) (by intro q hq; simp only [List.mem_cons, List.not_mem_nil, or_false] at hq; rcases hq with rfl | rfl | rfl | rfl | rfl | rfl <;> rfl) ?_
    exact ih (J + 1) (by omega)
theorem jmul_sign {a b : Int} (h : (a * b).natAbs ≠ 0) : (a * b).sign = a.sign * b.sign := Int.sign_mul a b
theorem jT_prod_out {xs : List Int} {d : Nat} {a b : Int} (hA : a.natAbs < 1000000000 ^ 54) (hS : (a * b).natAbs < 1000000000 ^ 54) : ∀ q I, I + q = jcn a.natAbs 54 → jT xs (d + 1) 179 2 7 [(3, (0, ((I + 2 : Nat) : Int))), (2, (4, 2)), (0, (4, 0)), (1, (4, 1))] [] [(100, [], jenc a), (100, [], jenc b), (100, [], ja2 0 0 (fun k => ((jlm (a.natAbs % 1000000000 ^ I * b.natAbs) k : Nat) : Int)))] 0 0 (fun k v hsN => k = 0 ∧ v = (4, 2) ∧ hsN = [(100, [], jenc a), (100, [], jenc b), (100, [], jenc (a * b))]) := by
  have sa := jsg a
  have sb := jsg b
  have hcn := jcn_le (n := a.natAbs) 54
  intro q
  induction q with
  | zero =>
    intro I hI
    have hW : a.natAbs % 1000000000 ^ I * b.natAbs = (a * b).natAbs := by
      rw [show I = jcn a.natAbs 54 from hI, Nat.mod_eq_of_lt (jcn_hi 54 hA), Int.natAbs_mul]
    rw [hW]
    refine jT_adv 3 (pcN := 10) (LN := [(3, (0, ((I + 2 : Nat) : Int))), (2, (4, 2)), (0, (4, 0)), (1, (4, 1))]) (stN := [(0, 1), (4, 0), (0, ((I + 2 : Nat) : Int))]) (hsN := [(100, [], jenc a), (100, [], jenc b), (100, [], ja2 0 0 (fun k => ((jlm (a * b).natAbs k : Nat) : Int)))]) (c1 := 0) (s1 := 0) (c2 := 0) (s2 := 0) (by exact rfl) ?_ (by omega) (by omega)
    refine jT_iald (x := ((jcn a.natAbs 54 : Nat) : Int)) (a := 0) (j := 1) (fs := []) (X := jenc a) (by rfl) (by rfl) (by rfl) (rfl) (rfl) ?_
    refine jT_adv 2 (pcN := 13) (LN := [(3, (0, ((I + 2 : Nat) : Int))), (2, (4, 2)), (0, (4, 0)), (1, (4, 1))]) (stN := [(0, ((jcn a.natAbs 54 : Nat) : Int) + 2), (0, ((I + 2 : Nat) : Int))]) (hsN := [(100, [], jenc a), (100, [], jenc b), (100, [], ja2 0 0 (fun k => ((jlm (a * b).natAbs k : Nat) : Int)))]) (c1 := 0) (s1 := 0) (c2 := 0) (s2 := 0) (by exact rfl) ?_ (by omega) (by omega)
    refine jT_icT (t := 93) (a := ((I + 2 : Nat) : Int)) (b := ((jcn a.natAbs 54 + 2 : Nat) : Int)) (by rfl) (by rfl) (by rfl) (jw_k (by omega)) (by rw [show ((jcn a.natAbs 54 : Nat) : Int) + 2 = ((jcn a.natAbs 54 + 2 : Nat) : Int) from by omega]; exact jw_k (by omega)) (by simp only [jcP] <;> omega) ?_
    refine jT_adv 3 (pcN := 96) (LN := [(3, (0, ((I + 2 : Nat) : Int))), (2, (4, 2)), (0, (4, 0)), (1, (4, 1))]) (stN := [(0, 0), (4, 0), (4, 2)]) (hsN := [(100, [], jenc a), (100, [], jenc b), (100, [], ja2 0 0 (fun k => ((jlm (a * b).natAbs k : Nat) : Int)))]) (c1 := 0) (s1 := 0) (c2 := 0) (s2 := 0) (by exact rfl) ?_ (by omega) (by omega)
    refine jT_iald (x := a.sign) (a := 0) (j := 0) (fs := []) (X := jenc a) (by rfl) (by rfl) (by rfl) (rfl) (rfl) ?_
    refine jT_adv 2 (pcN := 99) (LN := [(3, (0, ((I + 2 : Nat) : Int))), (2, (4, 2)), (0, (4, 0)), (1, (4, 1))]) (stN := [(0, 0), (4, 1), (0, a.sign), (4, 2)]) (hsN := [(100, [], jenc a), (100, [], jenc b), (100, [], ja2 0 0 (fun k => ((jlm (a * b).natAbs k : Nat) : Int)))]) (c1 := 0) (s1 := 0) (c2 := 0) (s2 := 0) (by exact rfl) ?_ (by omega) (by omega)
    refine jT_iald (x := b.sign) (a := 1) (j := 0) (fs := []) (X := jenc b) (by rfl) (by rfl) (by rfl) (rfl) (rfl) ?_
    refine jT_adv 1 (pcN := 101) (LN := [(3, (0, ((I + 2 : Nat) : Int))), (2, (4, 2)), (0, (4, 0)), (1, (4, 1))]) (stN := [(0, a.sign * b.sign), (4, 2)]) (hsN := [(100, [], jenc a), (100, [], jenc b), (100, [], ja2 0 0 (fun k => ((jlm (a * b).natAbs k : Nat) : Int)))]) (c1 := 0) (s1 := 0) (c2 := 0) (s2 := 0) (by exact rfl) ?_ (by omega) (by omega)
    refine jT_call [2] (y := 177) (pcN := 104) (dC := 0) (bc1 := 0) (bc2 := 0) (c1 := 0) (c2 := 0) (as := [(4, 2), (0, a.sign * b.sign)]) (asC := [(4, 0), (0, a.sign * b.sign)]) (LN := [(3, (0, ((I + 2 : Nat) : Int))), (2, (4, 2)), (0, (4, 0)), (1, (4, 1))]) (stN := []) (hsC := [(100, [], ja2 0 0 (fun k => ((jlm (a * b).natAbs k : Nat) : Int)))]) (jT_trims (n := (a * b).natAbs) (d := 0)) (by rfl) (by rfl) (by rfl) (by rfl) (⟨rfl, trivial⟩) (by rfl) (by rfl) (by omega) (by show 2 ≤ 3; omega) (by omega) (by omega) ?_ (fun _ _ hq => absurd hq.1 (by decide))
    rintro v hsN ⟨-, rfl, rfl⟩
    refine jT_eq (LN := [(3, (0, ((I + 2 : Nat) : Int))), (2, (4, 2)), (0, (4, 0)), (1, (4, 1))]) (stN := []) (hsN := [(100, [], jenc a), (100, [], jenc b), (100, [], jenc (a * b))]) rfl (rfl) (by rw [jenc_of (R := (a * b).natAbs) (s := a.sign * b.sign) (v := a * b) rfl hS jmul_sign]; rfl) ?_
    refine jT_adv 1 (pcN := 105) (LN := [(3, (0, ((I + 2 : Nat) : Int))), (2, (4, 2)), (0, (4, 0)), (1, (4, 1))]) (stN := [(4, 2)]) (hsN := [(100, [], jenc a), (100, [], jenc b), (100, [], jenc (a * b))]) (c1 := 0) (s1 := 0) (c2 := 0) (s2 := 0) (by exact rfl) ?_ (by omega) (by omega)
    exact jT_ret rfl (by decide) (by show 2 ≤ 3; decide) (by omega) (by omega) ⟨rfl, rfl, rfl⟩
  | succ q ih =>
    intro I hI
    refine jT_adv 3 (pcN := 10) (LN := [(3, (0, ((I + 2 : Nat) : Int))), (2, (4, 2)), (0, (4, 0)), (1, (4, 1))]) (stN := [(0, 1), (4, 0), (0, ((I + 2 : Nat) : Int))]) (hsN := [(100, [], jenc a), (100, [], jenc b), (100, [], ja2 0 0 (fun k => ((jlm (a.natAbs % 1000000000 ^ I * b.natAbs) k : Nat) : Int)))]) (c1 := 0) (s1 := 0) (c2 := 0) (s2 := 0) (by exact rfl) ?_ (by omega) (by omega)
    refine jT_iald (x := ((jcn a.natAbs 54 : Nat) : Int)) (a := 0) (j := 1) (fs := []) (X := jenc a) (by rfl) (by rfl) (by rfl) (rfl) (rfl) ?_
    refine jT_adv 2 (pcN := 13) (LN := [(3, (0, ((I + 2 : Nat) : Int))), (2, (4, 2)), (0, (4, 0)), (1, (4, 1))]) (stN := [(0, ((jcn a.natAbs 54 : Nat) : Int) + 2), (0, ((I + 2 : Nat) : Int))]) (hsN := [(100, [], jenc a), (100, [], jenc b), (100, [], ja2 0 0 (fun k => ((jlm (a.natAbs % 1000000000 ^ I * b.natAbs) k : Nat) : Int)))]) (c1 := 0) (s1 := 0) (c2 := 0) (s2 := 0) (by exact rfl) ?_ (by omega) (by omega)
    refine jT_icF (t := 93) (a := ((I + 2 : Nat) : Int)) (b := ((jcn a.natAbs 54 + 2 : Nat) : Int)) (by rfl) (by rfl) (by rfl) (jw_k (by omega)) (by rw [show ((jcn a.natAbs 54 : Nat) : Int) + 2 = ((jcn a.natAbs 54 + 2 : Nat) : Int) from by omega]; exact jw_k (by omega)) (by simp only [jcP] <;> omega) ?_
    refine jT_adv 4 (pcN := 22) (LN := [(6, (0, 2)), (4, (1, 0)), (3, (0, ((I + 2 : Nat) : Int))), (2, (4, 2)), (0, (4, 0)), (1, (4, 1))]) (stN := []) (hsN := [(100, [], jenc a), (100, [], jenc b), (100, [], ja2 0 0 (fun k => ((jlm (a.natAbs % 1000000000 ^ I * b.natAbs) k : Nat) : Int)))]) (c1 := 0) (s1 := 0) (c2 := 0) (s2 := 0) (by exact rfl) ?_ (by omega) (by omega)
    refine jT_loc (LN := [(6, (0, 2)), (4, (1, 0)), (3, (0, ((I + 2 : Nat) : Int))), (2, (4, 2)), (0, (4, 0)), (1, (4, 1))]) (by show List.Nodup [6, 4, 3, 2, 0, 1]; decide) (by intro q hq; simp only [List.mem_cons, List.not_mem_nil, or_false] at hq; rcases hq with rfl | rfl | rfl | rfl | rfl | rfl <;> rfl) ?_
    refine jT_eq (LN := [(6, (0, ((0 + 2 : Nat) : Int))), (4, (1, ((jpT (a.natAbs % 1000000000 ^ I * b.natAbs) (jlm a.natAbs I) b.natAbs I 0 / 1000000000 ^ (I + 0) : Nat) : Int))), (3, (0, ((I + 2 : Nat) : Int))), (2, (4, 2)), (0, (4, 0)), (1, (4, 1))]) (stN := []) (hsN := [(100, [], jenc a), (100, [], jenc b), (100, [], ja2 0 0 (fun k => if k < I + 0 then ((jlm (a.natAbs % 1000000000 ^ (I + 1) * b.natAbs) k : Nat) : Int) else ((jlm (a.natAbs % 1000000000 ^ I * b.natAbs) k : Nat) : Int)))]) (by rw [jp_0]; rfl) rfl (by rw [ja2_congr (s := 0) (c := 0) (f := (fun k => ((jlm (a.natAbs % 1000000000 ^ I * b.natAbs) k : Nat) : Int))) (g := (fun k => if k < I + 0 then ((jlm (a.natAbs % 1000000000 ^ (I + 1) * b.natAbs) k : Nat) : Int) else ((jlm (a.natAbs % 1000000000 ^ I * b.natAbs) k : Nat) : Int))) (fun k hk => jz_mul0)]) ?_
    refine jT_prod_in (by omega) ?_ (54 - I) 0 (by omega)
    refine jT_adv 2 (pcN := 7) (LN := [(3, (0, ((I + 2 : Nat) : Int) + 1)), (2, (4, 2)), (0, (4, 0)), (1, (4, 1))]) (stN := []) (hsN := [(100, [], jenc a), (100, [], jenc b), (100, [], ja2 0 0 (fun k => ((jlm (a.natAbs % 1000000000 ^ (I + 1) * b.natAbs) k : Nat) : Int)))]) (c1 := 0) (s1 := 0) (c2 := 0) (s2 := 0) (by exact rfl) ?_ (by omega) (by omega)
    exact ih (I + 1) (by omega)
theorem jT_product {xs : List Int} {d : Nat} {a b : Int} (hA : a.natAbs < 1000000000 ^ 54) (hS : (a * b).natAbs < 1000000000 ^ 54) : jT xs (d + 1) 179 2 0 [(0, (4, 0)), (1, (4, 1))] [] [(100, [], jenc a), (100, [], jenc b)] 1 56 (fun k v hsN => k = 0 ∧ v = (4, 2) ∧ hsN = [(100, [], jenc a), (100, [], jenc b), (100, [], jenc (a * b))]) := by
  refine jT_adv 5 (pcN := 7) (LN := [(3, (0, 2)), (2, (4, 2)), (0, (4, 0)), (1, (4, 1))]) (stN := []) (hsN := [(100, [], jenc a), (100, [], jenc b), (100, [], List.replicate 56 0)]) (c1 := 1) (s1 := 56) (c2 := 0) (s2 := 0) (by exact rfl) ?_ (by omega) (by omega)
  refine jT_eq (LN := [(3, (0, ((0 + 2 : Nat) : Int))), (2, (4, 2)), (0, (4, 0)), (1, (4, 1))]) (stN := []) (hsN := [(100, [], jenc a), (100, [], jenc b), (100, [], ja2 0 0 (fun k => ((jlm (a.natAbs % 1000000000 ^ 0 * b.natAbs) k : Nat) : Int)))]) rfl rfl (by rw [jrep56]; exact congrArg (fun z => [_, _, (100, [], z)]) (ja2_congr (fun k _ => by rw [Nat.pow_zero, Nat.mod_one, Nat.zero_mul]; show (0 : Int) = ((0 / _ % _ : Nat) : Int); rw [Nat.zero_div]; rfl))) ?_
  exact jT_prod_out hA hS _ 0 (Nat.zero_add _)
