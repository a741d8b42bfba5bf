/-! the model's long numbers: rows of 56 ints: sign, how many limbs, 54 limbs to the base 1000000000, the lowest first -/
def jlm (n k : Nat) : Nat := n / 1000000000 ^ k % 1000000000
def ja2 (s c : Int) (f : Nat → Int) : List Int := s :: c :: (List.range 54).map f
def jcn (n : Nat) : Nat → Nat
  | 0 => 0
  | c + 1 => if jlm n c = 0 then jcn n c else c + 1
def jenc (v : Int) : List Int := ja2 v.sign ((jcn v.natAbs 54 : Nat) : Int) (fun k => ((jlm v.natAbs k : Nat) : Int))
theorem ja2_len {s c : Int} {f : Nat → Int} : (ja2 s c f).length = 56 := by
  show ((List.range 54).map f).length + 1 + 1 = 56
  rw [List.length_map, List.length_range]
theorem ja2_get {s c : Int} {f : Nat → Int} {k : Nat} (h : k < 54) : (ja2 s c f)[k + 2]? = some (f k) := by
  show ((List.range 54).map f)[k]? = _
  rw [List.getElem?_map, List.getElem?_range h]
  rfl
theorem ja2_set {s c x : Int} {f : Nat → Int} {k : Nat} (h : k < 54) : (ja2 s c f).set (k + 2) x = ja2 s c (fun j => if j = k then x else f j) := by
  show s :: c :: ((List.range 54).map f).set k x = s :: c :: (List.range 54).map _
  congr 2
  refine List.ext_getElem? fun i => ?_
  rw [List.getElem?_set, List.getElem?_map, List.getElem?_map, List.length_map, List.length_range]
  by_cases hi : i < 54
  · rw [List.getElem?_range hi]
    by_cases hk : k = i
    · subst hk
      rw [if_pos rfl, if_pos h]
      show _ = some (if k = k then x else f k)
      rw [if_pos rfl]
    · rw [if_neg hk]
      show some (f i) = some (if i = k then x else f i)
      rw [if_neg (fun q => hk q.symm)]
  · rw [List.getElem?_eq_none (by rw [List.length_range]; omega)]
    by_cases hk : k = i
    · omega
    · rw [if_neg hk]
      rfl
theorem ja2_congr {s c : Int} {f g : Nat → Int} (h : ∀ k, k < 54 → f k = g k) : ja2 s c f = ja2 s c g := by
  show s :: c :: (List.range 54).map f = s :: c :: (List.range 54).map g
  congr 2
  exact List.map_congr_left fun k hk => h k (List.mem_range.mp hk)
theorem jlm_lt {n k : Nat} : jlm n k < 1000000000 := Nat.mod_lt _ (by decide)
theorem jw_k {k : Nat} (h : k < 2147483648) : jw ((k : Nat) : Int) = ((k : Nat) : Int) := jw_n h
theorem jwl_k {k : Nat} (h : k < 9223372036854775808) : jwl ((k : Nat) : Int) = ((k : Nat) : Int) := jwl_idd (by omega) (by omega)
theorem jz_step {c k : Nat} {g : Nat → Int} : (if k = c then g c else if c + 1 ≤ k then g k else 0) = if c ≤ k then g k else 0 := by
  by_cases h1 : k = c
  · subst h1; rw [if_pos rfl, if_pos (Nat.le_refl _)]
  · rw [if_neg h1]
    by_cases h2 : c ≤ k
    · rw [if_pos h2, if_pos (by omega)]
    · rw [if_neg h2, if_neg (by omega)]
theorem jrep56 : List.replicate 56 (0 : Int) = ja2 0 0 (fun _ => 0) := by decide
theorem jcn_le {n : Nat} : ∀ c, jcn n c ≤ c
  | 0 => Nat.le_refl 0
  | c + 1 => by
    show (if jlm n c = 0 then jcn n c else c + 1) ≤ c + 1
    split
    · have := jcn_le (n := n) c; omega
    · exact Nat.le_refl _

theorem jT_trims_loop {xs : List Int} {d n : Nat} {s0 t : Int} : ∀ c, c ≤ 54 → jT xs d 177 1 5 [(0, (4, 0)), (1, (0, t))] [] [(100, [], ja2 s0 ((c : Nat) : Int) (fun k => ((jlm n k : Nat) : Int)))] 0 0 (fun k v hsN => k = 0 ∧ v = (9, 0) ∧ hsN = [(100, [], ja2 (if jcn n c = 0 then 0 else t) ((jcn n c : Nat) : Int) (fun k => ((jlm n k : Nat) : Int)))]) := by
  have fin : ∀ c, c ≤ 54 → jcn n c = c → jT xs d 177 1 31 [(0, (4, 0)), (1, (0, t))] [] [(100, [], ja2 s0 ((c : Nat) : Int) (fun k => ((jlm n k : Nat) : Int)))] 0 0 (fun k v hsN => k = 0 ∧ v = (9, 0) ∧ hsN = [(100, [], ja2 (if jcn n c = 0 then 0 else t) ((jcn n c : Nat) : Int) (fun k => ((jlm n k : Nat) : Int)))]) := by
    intro c hc he
    rw [he]
    refine jT_adv 4 (pcN := 35) (LN := [(0, (4, 0)), (1, (0, t))]) (stN := [(0, 1), (4, 0), (0, 0), (4, 0)]) (hsN := [(100, [], ja2 s0 ((c : Nat) : Int) (fun k => ((jlm n k : Nat) : Int)))]) (c1 := 0) (s1 := 0) (c2 := 0) (s2 := 0) (by exact rfl) ?_ (by omega) (by omega)
    refine jT_iald (x := ((c : Nat) : Int)) (a := 0) (j := 1) (fs := []) (X := ja2 s0 ((c : Nat) : Int) (fun k => ((jlm n k : Nat) : Int))) (by rfl) (by rfl) (by rfl) (rfl) (rfl) ?_
    by_cases hc0 : c = 0
    · refine jT_ifF (t := 43) (by rfl) (by rfl) (by rfl) (jw_k (by omega)) (by simp only [jcP]; omega) ?_
      refine jT_adv 2 (pcN := 44) (LN := [(0, (4, 0)), (1, (0, t))]) (stN := [(0, 0), (0, 0), (4, 0)]) (hsN := [(100, [], ja2 s0 ((c : Nat) : Int) (fun k => ((jlm n k : Nat) : Int)))]) (c1 := 0) (s1 := 0) (c2 := 0) (s2 := 0) (by exact rfl) ?_ (by omega) (by omega)
      refine jT_iast (x := 0) (a := 0) (j := 0) (fs := []) (X := ja2 s0 ((c : Nat) : Int) (fun k => ((jlm n k : Nat) : Int))) (by rfl) (by rfl) (by rfl) (rfl) (by rw [ja2_len]; decide) ?_
      refine jT_eq (LN := [(0, (4, 0)), (1, (0, t))]) (stN := []) (hsN := [(100, [], ja2 0 ((c : Nat) : Int) (fun k => ((jlm n k : Nat) : Int)))]) rfl rfl (rfl) ?_
      exact jT_ret rfl (by decide) (by show 1 ≤ 1; decide) (by omega) (by omega) ⟨rfl, rfl, by rw [if_pos hc0]⟩
    · refine jT_ifT (t := 43) (by rfl) (by rfl) (by rfl) (jw_k (by omega)) (by simp only [jcP]; omega) ?_
      refine jT_adv 1 (pcN := 44) (LN := [(0, (4, 0)), (1, (0, t))]) (stN := [(0, t), (0, 0), (4, 0)]) (hsN := [(100, [], ja2 s0 ((c : Nat) : Int) (fun k => ((jlm n k : Nat) : Int)))]) (c1 := 0) (s1 := 0) (c2 := 0) (s2 := 0) (by exact rfl) ?_ (by omega) (by omega)
      refine jT_iast (x := t) (a := 0) (j := 0) (fs := []) (X := ja2 s0 ((c : Nat) : Int) (fun k => ((jlm n k : Nat) : Int))) (by rfl) (by rfl) (by rfl) (rfl) (by rw [ja2_len]; decide) ?_
      refine jT_eq (LN := [(0, (4, 0)), (1, (0, t))]) (stN := []) (hsN := [(100, [], ja2 t ((c : Nat) : Int) (fun k => ((jlm n k : Nat) : Int)))]) rfl rfl (rfl) ?_
      exact jT_ret rfl (by decide) (by show 1 ≤ 1; decide) (by omega) (by omega) ⟨rfl, rfl, by rw [if_neg hc0]⟩
  intro c
  induction c with
  | zero =>
    intro hc
    refine jT_adv 2 (pcN := 7) (LN := [(0, (4, 0)), (1, (0, t))]) (stN := [(0, 1), (4, 0)]) (hsN := [(100, [], ja2 s0 ((0 : Nat) : Int) (fun k => ((jlm n k : Nat) : Int)))]) (c1 := 0) (s1 := 0) (c2 := 0) (s2 := 0) (by exact rfl) ?_ (by omega) (by omega)
    refine jT_iald (x := 0) (a := 0) (j := 1) (fs := []) (X := ja2 s0 ((0 : Nat) : Int) (fun k => ((jlm n k : Nat) : Int))) (by rfl) (by rfl) (by rfl) (rfl) (rfl) ?_
    refine jT_ifT (t := 31) (by rfl) (by rfl) (by rfl) (jw_z) (by simp only [jcP]; omega) ?_
    exact fin 0 hc rfl
  | succ c ih =>
    intro hc
    refine jT_adv 2 (pcN := 7) (LN := [(0, (4, 0)), (1, (0, t))]) (stN := [(0, 1), (4, 0)]) (hsN := [(100, [], ja2 s0 ((c + 1 : Nat) : Int) (fun k => ((jlm n k : Nat) : Int)))]) (c1 := 0) (s1 := 0) (c2 := 0) (s2 := 0) (by exact rfl) ?_ (by omega) (by omega)
    refine jT_iald (x := ((c + 1 : Nat) : Int)) (a := 0) (j := 1) (fs := []) (X := ja2 s0 ((c + 1 : Nat) : Int) (fun k => ((jlm n k : Nat) : Int))) (by rfl) (by rfl) (by rfl) (rfl) (rfl) ?_
    refine jT_ifF (t := 31) (by rfl) (by rfl) (by rfl) (jw_k (by omega)) (by simp only [jcP]; omega) ?_
    refine jT_adv 3 (pcN := 14) (LN := [(0, (4, 0)), (1, (0, t))]) (stN := [(0, 1), (4, 0), (4, 0)]) (hsN := [(100, [], ja2 s0 ((c + 1 : Nat) : Int) (fun k => ((jlm n k : Nat) : Int)))]) (c1 := 0) (s1 := 0) (c2 := 0) (s2 := 0) (by exact rfl) ?_ (by omega) (by omega)
    refine jT_iald (x := ((c + 1 : Nat) : Int)) (a := 0) (j := 1) (fs := []) (X := ja2 s0 ((c + 1 : Nat) : Int) (fun k => ((jlm n k : Nat) : Int))) (by rfl) (by rfl) (by rfl) (rfl) (rfl) ?_
    refine jT_adv 2 (pcN := 17) (LN := [(0, (4, 0)), (1, (0, t))]) (stN := [(0, ((c + 1 : Nat) : Int) + 1), (4, 0)]) (hsN := [(100, [], ja2 s0 ((c + 1 : Nat) : Int) (fun k => ((jlm n k : Nat) : Int)))]) (c1 := 0) (s1 := 0) (c2 := 0) (s2 := 0) (by exact rfl) ?_ (by omega) (by omega)
    refine jT_iald (x := ((jlm n c : Nat) : Int)) (a := 0) (j := c + 2) (fs := []) (X := ja2 s0 ((c + 1 : Nat) : Int) (fun k => ((jlm n k : Nat) : Int))) (by rfl) (by rfl) (by rfl) (jw_n (k := c + 2) (by omega)) (ja2_get (by omega)) ?_
    by_cases hl : jlm n c = 0
    · refine jT_ifF (t := 31) (by rfl) (by rfl) (by rfl) (jw_k (by have := jlm_lt (n := n) (k := c); omega)) (by simp only [jcP]; omega) ?_
      refine jT_adv 3 (pcN := 24) (LN := [(0, (4, 0)), (1, (0, t))]) (stN := [(0, 1), (4, 0), (0, 1), (4, 0)]) (hsN := [(100, [], ja2 s0 ((c + 1 : Nat) : Int) (fun k => ((jlm n k : Nat) : Int)))]) (c1 := 0) (s1 := 0) (c2 := 0) (s2 := 0) (by exact rfl) ?_ (by omega) (by omega)
      refine jT_iald (x := ((c + 1 : Nat) : Int)) (a := 0) (j := 1) (fs := []) (X := ja2 s0 ((c + 1 : Nat) : Int) (fun k => ((jlm n k : Nat) : Int))) (by rfl) (by rfl) (by rfl) (rfl) (rfl) ?_
      refine jT_adv 2 (pcN := 27) (LN := [(0, (4, 0)), (1, (0, t))]) (stN := [(0, ((c + 1 : Nat) : Int) - 1), (0, 1), (4, 0)]) (hsN := [(100, [], ja2 s0 ((c + 1 : Nat) : Int) (fun k => ((jlm n k : Nat) : Int)))]) (c1 := 0) (s1 := 0) (c2 := 0) (s2 := 0) (by exact rfl) ?_ (by omega) (by omega)
      refine jT_iast (x := ((c + 1 : Nat) : Int) - 1) (a := 0) (j := 1) (fs := []) (X := ja2 s0 ((c + 1 : Nat) : Int) (fun k => ((jlm n k : Nat) : Int))) (by rfl) (by rfl) (by rfl) (rfl) (by rw [ja2_len]; decide) ?_
      refine jT_eq (LN := [(0, (4, 0)), (1, (0, t))]) (stN := []) (hsN := [(100, [], ja2 s0 ((c : Nat) : Int) (fun k => ((jlm n k : Nat) : Int)))]) rfl rfl (by rw [show (((c + 1 : Nat) : Int) - 1) = ((c : Nat) : Int) from by omega]; rfl) ?_
      refine jT_adv 1 (pcN := 5) (LN := [(0, (4, 0)), (1, (0, t))]) (stN := []) (hsN := [(100, [], ja2 s0 ((c : Nat) : Int) (fun k => ((jlm n k : Nat) : Int)))]) (c1 := 0) (s1 := 0) (c2 := 0) (s2 := 0) (by exact rfl) ?_ (by omega) (by omega)
      rw [show jcn n (c + 1) = jcn n c from if_pos hl]
      exact ih (by omega)
    · refine jT_ifT (t := 31) (by rfl) (by rfl) (by rfl) (jw_k (by have := jlm_lt (n := n) (k := c); omega)) (by simp only [jcP]; omega) ?_
      exact fin (c + 1) hc (if_neg hl)
theorem jT_trims {xs : List Int} {d n : Nat} {s0 c0 t : Int} : jT xs d 177 1 0 [(0, (4, 0)), (1, (0, t))] [] [(100, [], ja2 s0 c0 (fun k => ((jlm n k : Nat) : Int)))] 0 0 (fun k v hsN => k = 0 ∧ v = (9, 0) ∧ hsN = [(100, [], ja2 (if jcn n 54 = 0 then 0 else t) ((jcn n 54 : Nat) : Int) (fun k => ((jlm n k : Nat) : Int)))]) := by
  refine jT_adv 3 (pcN := 4) (LN := [(0, (4, 0)), (1, (0, t))]) (stN := [(0, 54), (0, 1), (4, 0)]) (hsN := [(100, [], ja2 s0 c0 (fun k => ((jlm n k : Nat) : Int)))]) (c1 := 0) (s1 := 0) (c2 := 0) (s2 := 0) (by exact rfl) ?_ (by omega) (by omega)
  refine jT_iast (x := 54) (a := 0) (j := 1) (fs := []) (X := ja2 s0 c0 (fun k => ((jlm n k : Nat) : Int))) (by rfl) (by rfl) (by rfl) (rfl) (by rw [ja2_len]; decide) ?_
  refine jT_eq (LN := [(0, (4, 0)), (1, (0, t))]) (stN := []) (hsN := [(100, [], ja2 s0 ((54 : Nat) : Int) (fun k => ((jlm n k : Nat) : Int)))]) rfl rfl (rfl) ?_
  exact jT_trims_loop 54 (Nat.le_refl _)
theorem jcn_0 {n : Nat} : ∀ c, jcn n c = 0 → n % 1000000000 ^ c = 0
  | 0, _ => by rw [Nat.pow_zero, Nat.mod_one]
  | c + 1, h => by
    by_cases hl : jlm n c = 0
    · rw [show jcn n (c + 1) = jcn n c from if_pos hl] at h
      rw [Nat.mod_pow_succ, jcn_0 c h, show n / 1000000000 ^ c % 1000000000 = 0 from hl, Nat.mul_zero]
    · rw [show jcn n (c + 1) = c + 1 from if_neg hl] at h
      omega
theorem jcn_z : ∀ c, jcn 0 c = 0
  | 0 => rfl
  | c + 1 => by
    show (if jlm 0 c = 0 then jcn 0 c else c + 1) = 0
    rw [if_pos (by show 0 / _ % _ = 0; rw [Nat.zero_div]), jcn_z c]
theorem jcn_iff {n : Nat} (h : n < 1000000000 ^ 54) : jcn n 54 = 0 ↔ n = 0 := by
  refine ⟨fun q => ?_, fun q => by rw [q]; exact jcn_z 54⟩
  have := jcn_0 54 q
  rw [Nat.mod_eq_of_lt h] at this
  exact this
/-- one limb of a quotient -/
theorem jdiv_limb {n b c : Nat} (hb : 0 < b) : jlm (n / b) c = (n / 1000000000 ^ (c + 1) % b * 1000000000 + jlm n c) / b ∧ n / 1000000000 ^ c % b = (n / 1000000000 ^ (c + 1) % b * 1000000000 + jlm n c) % b := by
  have e1 : n / 1000000000 ^ (c + 1) = n / 1000000000 ^ c / 1000000000 := by rw [Nat.pow_succ, Nat.div_div_eq_div_mul]
  have e2 : n / b / 1000000000 ^ c = n / 1000000000 ^ c / b := by rw [Nat.div_div_eq_div_mul, Nat.div_div_eq_div_mul, Nat.mul_comm]
  unfold jlm
  rw [e1, e2]
  generalize n / 1000000000 ^ c = N
  have hN : N = 1000000000 * (N / 1000000000) + N % 1000000000 := (Nat.div_add_mod N 1000000000).symm
  have hq : N / 1000000000 = b * (N / 1000000000 / b) + N / 1000000000 % b := (Nat.div_add_mod _ b).symm
  have hlt : N % 1000000000 < 1000000000 := Nat.mod_lt _ (by decide)
  have hlt2 : N / 1000000000 % b < b := Nat.mod_lt _ hb
  generalize N % 1000000000 = lo at *
  generalize N / 1000000000 % b = r at *
  generalize N / 1000000000 / b = q at *
  generalize N / 1000000000 = M at *
  have hN2 : N = b * (1000000000 * q) + (r * 1000000000 + lo) := by
    rw [hN, hq, Nat.mul_add, Nat.mul_left_comm 1000000000 b q, Nat.mul_comm 1000000000 r, Nat.add_assoc]
  have hv : (r * 1000000000 + lo) / b < 1000000000 := by
    rw [Nat.div_lt_iff_lt_mul hb]
    have : (r + 1) * 1000000000 ≤ b * 1000000000 := Nat.mul_le_mul_right _ hlt2
    rw [Nat.mul_comm 1000000000 b]
    omega
  constructor
  · rw [hN2, Nat.mul_add_div hb, Nat.mul_add_mod, Nat.mod_eq_of_lt hv]
  · rw [hN2, Nat.mul_add_mod]

theorem jT_divided_loop {xs : List Int} {d n b : Nat} {s0 c0 : Int} (hb : 0 < b) (hb2 : b < 2147483648) : ∀ c, c ≤ 54 → jT xs (d + 1) 180 1 11 [(5, (0, ((c + 1 : Nat) : Int))), (3, (1, ((n / 1000000000 ^ c % b : Nat) : Int))), (2, (4, 1)), (0, (4, 0)), (1, (0, ((b : Nat) : Int)))] [] [(100, [], ja2 s0 c0 (fun k => ((jlm n k : Nat) : Int))), (100, [], ja2 0 0 (fun j => if c ≤ j then ((jlm (n / b) j : Nat) : Int) else 0))] 0 0 (fun k v hsN => k = 0 ∧ v = (4, 1) ∧ hsN = [(100, [], ja2 s0 c0 (fun k => ((jlm n k : Nat) : Int))), (100, [], ja2 (if jcn (n / b) 54 = 0 then 0 else s0) ((jcn (n / b) 54 : Nat) : Int) (fun k => ((jlm (n / b) k : Nat) : Int)))]) := by
  intro c
  induction c with
  | zero =>
    intro hc
    refine jT_adv 2 (pcN := 14) (LN := [(5, (0, ((0 + 1 : Nat) : Int))), (3, (1, ((n / 1000000000 ^ 0 % b : Nat) : Int))), (2, (4, 1)), (0, (4, 0)), (1, (0, ((b : Nat) : Int)))]) (stN := [(0, 1), (0, ((0 + 1 : Nat) : Int))]) (hsN := [(100, [], ja2 s0 c0 (fun k => ((jlm n k : Nat) : Int))), (100, [], ja2 0 0 (fun j => if 0 ≤ j then ((jlm (n / b) j : Nat) : Int) else 0))]) (c1 := 0) (s1 := 0) (c2 := 0) (s2 := 0) (by exact rfl) ?_ (by omega) (by omega)
    refine jT_icT (t := 52) (b := 1) (by rfl) (by rfl) (by rfl) (jw_k (by omega)) (rfl) (by simp only [jcP]; omega) ?_
    refine jT_adv 3 (pcN := 55) (LN := [(5, (0, ((0 + 1 : Nat) : Int))), (3, (1, ((n / 1000000000 ^ 0 % b : Nat) : Int))), (2, (4, 1)), (0, (4, 0)), (1, (0, ((b : Nat) : Int)))]) (stN := [(0, 0), (4, 0), (4, 1)]) (hsN := [(100, [], ja2 s0 c0 (fun k => ((jlm n k : Nat) : Int))), (100, [], ja2 0 0 (fun j => if 0 ≤ j then ((jlm (n / b) j : Nat) : Int) else 0))]) (c1 := 0) (s1 := 0) (c2 := 0) (s2 := 0) (by exact rfl) ?_ (by omega) (by omega)
    refine jT_iald (x := s0) (a := 0) (j := 0) (fs := []) (X := ja2 s0 c0 (fun k => ((jlm n k : Nat) : Int))) (by rfl) (by rfl) (by rfl) (rfl) (rfl) ?_
    refine jT_eq (LN := [(5, (0, ((0 + 1 : Nat) : Int))), (3, (1, ((n / 1000000000 ^ 0 % b : Nat) : Int))), (2, (4, 1)), (0, (4, 0)), (1, (0, ((b : Nat) : Int)))]) (stN := [(0, s0), (4, 1)]) (hsN := [(100, [], ja2 s0 c0 (fun k => ((jlm n k : Nat) : Int))), (100, [], ja2 0 0 (fun k => ((jlm (n / b) k : Nat) : Int)))]) (rfl) (rfl) (by rw [ja2_congr (s := 0) (c := 0) (f := fun j => if 0 ≤ j then ((jlm (n / b) j : Nat) : Int) else 0) (g := fun k => ((jlm (n / b) k : Nat) : Int)) (fun k _ => if_pos (Nat.zero_le k))]) ?_
    refine jT_call [1] (y := 177) (pcN := 59) (dC := 0) (bc1 := 0) (bc2 := 0) (c1 := 0) (c2 := 0) (as := [(4, 1), (0, s0)]) (asC := [(4, 0), (0, s0)]) (LN := [(5, (0, ((0 + 1 : Nat) : Int))), (3, (1, ((n / 1000000000 ^ 0 % b : Nat) : Int))), (2, (4, 1)), (0, (4, 0)), (1, (0, ((b : Nat) : Int)))]) (stN := []) (hsC := [(100, [], ja2 0 0 (fun k => ((jlm (n / b) k : Nat) : Int)))]) (jT_trims (n := n / b) (d := 0)) (by rfl) (by rfl) (by rfl) (by rfl) (⟨rfl, trivial⟩) (by rfl) (by rfl) (by omega) (by show 1 ≤ 2; omega) (by omega) (by omega) ?_ (fun _ _ hq => absurd hq.1 (by decide))
    rintro v hsN ⟨-, rfl, rfl⟩
    refine jT_eq (LN := [(5, (0, ((0 + 1 : Nat) : Int))), (3, (1, ((n / 1000000000 ^ 0 % b : Nat) : Int))), (2, (4, 1)), (0, (4, 0)), (1, (0, ((b : Nat) : Int)))]) (stN := []) (hsN := [(100, [], ja2 s0 c0 (fun k => ((jlm n k : Nat) : Int))), (100, [], ja2 (if jcn (n / b) 54 = 0 then 0 else s0) ((jcn (n / b) 54 : Nat) : Int) (fun k => ((jlm (n / b) k : Nat) : Int)))]) rfl (rfl) (rfl) ?_
    refine jT_adv 1 (pcN := 60) (LN := [(5, (0, ((0 + 1 : Nat) : Int))), (3, (1, ((n / 1000000000 ^ 0 % b : Nat) : Int))), (2, (4, 1)), (0, (4, 0)), (1, (0, ((b : Nat) : Int)))]) (stN := [(4, 1)]) (hsN := [(100, [], ja2 s0 c0 (fun k => ((jlm n k : Nat) : Int))), (100, [], ja2 (if jcn (n / b) 54 = 0 then 0 else s0) ((jcn (n / b) 54 : Nat) : Int) (fun k => ((jlm (n / b) k : Nat) : Int)))]) (c1 := 0) (s1 := 0) (c2 := 0) (s2 := 0) (by exact rfl) ?_ (by omega) (by omega)
    exact jT_ret rfl (by decide) (by show 1 ≤ 2; decide) (by omega) (by omega) ⟨rfl, rfl, rfl⟩
  | succ c ih =>
    intro hc
    obtain ⟨hd1, hd2⟩ := jdiv_limb (n := n) (b := b) (c := c) hb
    have hr := Nat.mod_lt (n / 1000000000 ^ (c + 1)) hb
    have hl := jlm_lt (n := n) (k := c)
    have hl2 := jlm_lt (n := n / b) (k := c)
    refine jT_adv 2 (pcN := 14) (LN := [(5, (0, (((c + 1) + 1 : Nat) : Int))), (3, (1, ((n / 1000000000 ^ (c + 1) % b : Nat) : Int))), (2, (4, 1)), (0, (4, 0)), (1, (0, ((b : Nat) : Int)))]) (stN := [(0, 1), (0, (((c + 1) + 1 : Nat) : Int))]) (hsN := [(100, [], ja2 s0 c0 (fun k => ((jlm n k : Nat) : Int))), (100, [], ja2 0 0 (fun j => if (c + 1) ≤ j then ((jlm (n / b) j : Nat) : Int) else 0))]) (c1 := 0) (s1 := 0) (c2 := 0) (s2 := 0) (by exact rfl) ?_ (by omega) (by omega)
    refine jT_icF (t := 52) (b := 1) (by rfl) (by rfl) (by rfl) (jw_k (by omega)) (rfl) (by simp only [jcP]; omega) ?_
    refine jT_adv 5 (pcN := 25) (LN := [(5, (0, (((c + 1) + 1 : Nat) : Int))), (3, (1, ((n / 1000000000 ^ (c + 1) % b : Nat) : Int))), (2, (4, 1)), (0, (4, 0)), (1, (0, ((b : Nat) : Int)))]) (stN := [(0, (((c + 1) + 1 : Nat) : Int)), (4, 0), (1, ((n / 1000000000 ^ (c + 1) % b : Nat) : Int) * 1000000000)]) (hsN := [(100, [], ja2 s0 c0 (fun k => ((jlm n k : Nat) : Int))), (100, [], ja2 0 0 (fun j => if (c + 1) ≤ j then ((jlm (n / b) j : Nat) : Int) else 0))]) (c1 := 0) (s1 := 0) (c2 := 0) (s2 := 0) (by exact rfl) ?_ (by omega) (by omega)
    refine jT_iald (x := ((jlm n c : Nat) : Int)) (a := 0) (j := c + 2) (fs := []) (X := ja2 s0 c0 (fun k => ((jlm n k : Nat) : Int))) (by rfl) (by rfl) (by rfl) (jw_n (k := c + 2) (by omega)) (ja2_get (by omega)) ?_
    refine jT_adv 2 (pcN := 28) (LN := [(5, (0, (((c + 1) + 1 : Nat) : Int))), (3, (1, ((n / 1000000000 ^ (c + 1) % b : Nat) : Int))), (2, (4, 1)), (0, (4, 0)), (1, (0, ((b : Nat) : Int)))]) (stN := [(1, (((n / 1000000000 ^ (c + 1) % b : Nat) : Int) * 1000000000) + (jw ((jlm n c : Nat) : Int)))]) (hsN := [(100, [], ja2 s0 c0 (fun k => ((jlm n k : Nat) : Int))), (100, [], ja2 0 0 (fun j => if (c + 1) ≤ j then ((jlm (n / b) j : Nat) : Int) else 0))]) (c1 := 0) (s1 := 0) (c2 := 0) (s2 := 0) (by exact rfl) ?_ (by omega) (by omega)
    refine jT_eq (LN := [(5, (0, (((c + 1) + 1 : Nat) : Int))), (3, (1, ((n / 1000000000 ^ (c + 1) % b : Nat) : Int))), (2, (4, 1)), (0, (4, 0)), (1, (0, ((b : Nat) : Int)))]) (stN := [(1, ((n / 1000000000 ^ (c + 1) % b * 1000000000 + jlm n c : Nat) : Int))]) (hsN := [(100, [], ja2 s0 c0 (fun k => ((jlm n k : Nat) : Int))), (100, [], ja2 0 0 (fun j => if (c + 1) ≤ j then ((jlm (n / b) j : Nat) : Int) else 0))]) (rfl) (by rw [jw_k (by omega), Int.natCast_add, Int.natCast_mul]; rfl) (rfl) ?_
    refine jT_adv 6 (pcN := 37) (LN := [(6, (1, ((n / 1000000000 ^ (c + 1) % b * 1000000000 + jlm n c : Nat) : Int))), (5, (0, (((c + 1) + 1 : Nat) : Int))), (3, (1, ((n / 1000000000 ^ (c + 1) % b : Nat) : Int))), (2, (4, 1)), (0, (4, 0)), (1, (0, ((b : Nat) : Int)))]) (stN := [(1, jw ((b : Nat) : Int)), (1, ((n / 1000000000 ^ (c + 1) % b * 1000000000 + jlm n c : Nat) : Int)), (0, (((c + 1) + 1 : Nat) : Int)), (4, 1)]) (hsN := [(100, [], ja2 s0 c0 (fun k => ((jlm n k : Nat) : Int))), (100, [], ja2 0 0 (fun j => if (c + 1) ≤ j then ((jlm (n / b) j : Nat) : Int) else 0))]) (c1 := 0) (s1 := 0) (c2 := 0) (s2 := 0) (by exact rfl) ?_ (by omega) (by omega)
    have hvb : n / 1000000000 ^ (c + 1) % b * 1000000000 + jlm n c < 9223372036854775808 := by have : (n / 1000000000 ^ (c + 1) % b + 1) * 1000000000 ≤ 2147483648 * 1000000000 := Nat.mul_le_mul_right _ (by omega); omega
    refine jT_ldiv (a := ((n / 1000000000 ^ (c + 1) % b * 1000000000 + jlm n c : Nat) : Int)) (b := ((b : Nat) : Int)) (by rfl) (by rfl) (jwl_k hvb) (by rw [jw_k hb2]; exact jwl_k (by omega)) (by omega) ?_
    refine jT_eq (LN := [(6, (1, ((n / 1000000000 ^ (c + 1) % b * 1000000000 + jlm n c : Nat) : Int))), (5, (0, (((c + 1) + 1 : Nat) : Int))), (3, (1, ((n / 1000000000 ^ (c + 1) % b : Nat) : Int))), (2, (4, 1)), (0, (4, 0)), (1, (0, ((b : Nat) : Int)))]) (stN := [(1, ((jlm (n / b) c : Nat) : Int)), (0, (((c + 1) + 1 : Nat) : Int)), (4, 1)]) (hsN := [(100, [], ja2 s0 c0 (fun k => ((jlm n k : Nat) : Int))), (100, [], ja2 0 0 (fun j => if (c + 1) ≤ j then ((jlm (n / b) j : Nat) : Int) else 0))]) (rfl) (by rw [hd1]; rfl) (rfl) ?_
    refine jT_adv 1 (pcN := 39) (LN := [(6, (1, ((n / 1000000000 ^ (c + 1) % b * 1000000000 + jlm n c : Nat) : Int))), (5, (0, (((c + 1) + 1 : Nat) : Int))), (3, (1, ((n / 1000000000 ^ (c + 1) % b : Nat) : Int))), (2, (4, 1)), (0, (4, 0)), (1, (0, ((b : Nat) : Int)))]) (stN := [(0, ((jlm (n / b) c : Nat) : Int)), (0, (((c + 1) + 1 : Nat) : Int)), (4, 1)]) (hsN := [(100, [], ja2 s0 c0 (fun k => ((jlm n k : Nat) : Int))), (100, [], ja2 0 0 (fun j => if (c + 1) ≤ j then ((jlm (n / b) j : Nat) : Int) else 0))]) (c1 := 0) (s1 := 0) (c2 := 0) (s2 := 0) (by exact rfl) ?_ (by omega) (by omega)
    refine jT_iast (x := ((jlm (n / b) c : Nat) : Int)) (a := 1) (j := (c + 2)) (fs := []) (X := ja2 0 0 (fun j => if (c + 1) ≤ j then ((jlm (n / b) j : Nat) : Int) else 0)) (by rfl) (by rfl) (by rfl) (jw_n (k := c + 2) (by omega)) (by rw [ja2_len]; omega) ?_
    refine jT_eq (LN := [(6, (1, ((n / 1000000000 ^ (c + 1) % b * 1000000000 + jlm n c : Nat) : Int))), (5, (0, (((c + 1) + 1 : Nat) : Int))), (3, (1, ((n / 1000000000 ^ (c + 1) % b : Nat) : Int))), (2, (4, 1)), (0, (4, 0)), (1, (0, ((b : Nat) : Int)))]) (stN := []) (hsN := [(100, [], ja2 s0 c0 (fun k => ((jlm n k : Nat) : Int))), (100, [], ja2 0 0 (fun j => if c ≤ j then ((jlm (n / b) j : Nat) : Int) else 0))]) rfl rfl (by rw [ja2_set (by omega), ja2_congr (f := fun j => if j = c then ((jlm (n / b) c : Nat) : Int) else if c + 1 ≤ j then ((jlm (n / b) j : Nat) : Int) else 0) (g := fun j => if c ≤ j then ((jlm (n / b) j : Nat) : Int) else 0) (fun k _ => jz_step (g := fun k => ((jlm (n / b) k : Nat) : Int)))]; rfl) ?_
    refine jT_adv 3 (pcN := 44) (LN := [(6, (1, ((n / 1000000000 ^ (c + 1) % b * 1000000000 + jlm n c : Nat) : Int))), (5, (0, (((c + 1) + 1 : Nat) : Int))), (3, (1, ((n / 1000000000 ^ (c + 1) % b : Nat) : Int))), (2, (4, 1)), (0, (4, 0)), (1, (0, ((b : Nat) : Int)))]) (stN := [(1, jw ((b : Nat) : Int)), (1, ((n / 1000000000 ^ (c + 1) % b * 1000000000 + jlm n c : Nat) : Int))]) (hsN := [(100, [], ja2 s0 c0 (fun k => ((jlm n k : Nat) : Int))), (100, [], ja2 0 0 (fun j => if c ≤ j then ((jlm (n / b) j : Nat) : Int) else 0))]) (c1 := 0) (s1 := 0) (c2 := 0) (s2 := 0) (by exact rfl) ?_ (by omega) (by omega)
    refine jT_lrem (a := ((n / 1000000000 ^ (c + 1) % b * 1000000000 + jlm n c : Nat) : Int)) (b := ((b : Nat) : Int)) (by rfl) (by rfl) (jwl_k hvb) (by rw [jw_k hb2]; exact jwl_k (by omega)) (by omega) ?_
    refine jT_eq (LN := [(6, (1, ((n / 1000000000 ^ (c + 1) % b * 1000000000 + jlm n c : Nat) : Int))), (5, (0, (((c + 1) + 1 : Nat) : Int))), (3, (1, ((n / 1000000000 ^ (c + 1) % b : Nat) : Int))), (2, (4, 1)), (0, (4, 0)), (1, (0, ((b : Nat) : Int)))]) (stN := [(1, ((n / 1000000000 ^ c % b : Nat) : Int))]) (hsN := [(100, [], ja2 s0 c0 (fun k => ((jlm n k : Nat) : Int))), (100, [], ja2 0 0 (fun j => if c ≤ j then ((jlm (n / b) j : Nat) : Int) else 0))]) (rfl) (by rw [hd2]; rfl) (rfl) ?_
    refine jT_adv 3 (pcN := 11) (LN := [(5, (0, (((c + 1) + 1 : Nat) : Int) + (-1))), (3, (1, ((n / 1000000000 ^ c % b : Nat) : Int))), (6, (1, ((n / 1000000000 ^ (c + 1) % b * 1000000000 + jlm n c : Nat) : Int))), (2, (4, 1)), (0, (4, 0)), (1, (0, ((b : Nat) : Int)))]) (stN := []) (hsN := [(100, [], ja2 s0 c0 (fun k => ((jlm n k : Nat) : Int))), (100, [], ja2 0 0 (fun j => if c ≤ j then ((jlm (n / b) j : Nat) : Int) else 0))]) (c1 := 0) (s1 := 0) (c2 := 0) (s2 := 0) (by exact rfl) ?_ (by omega) (by omega)
    refine jT_loc (LN := [(5, (0, (((c + 1) + 1 : Nat) : Int) + (-1))), (3, (1, ((n / 1000000000 ^ c % b : Nat) : Int))), (2, (4, 1)), (0, (4, 0)), (1, (0, ((b : Nat) : Int)))]) (by show List.Nodup [5, 3, 2, 0, 1]; decide) (by intro q hq; simp only [List.mem_cons, List.not_mem_nil, or_false] at hq; rcases hq with rfl | rfl | rfl | rfl | rfl <;> rfl) ?_
    refine jT_eq (LN := [(5, (0, ((c + 1 : Nat) : Int))), (3, (1, ((n / 1000000000 ^ c % b : Nat) : Int))), (2, (4, 1)), (0, (4, 0)), (1, (0, ((b : Nat) : Int)))]) (stN := []) (hsN := _) (by rw [show ((c + 1 + 1 : Nat) : Int) + (-1) = ((c + 1 : Nat) : Int) from by omega]) rfl rfl ?_
    exact ih (by omega)
theorem jT_divided {xs : List Int} {d n b : Nat} {s0 c0 : Int} (hn : n < 1000000000 ^ 54) (hb : 0 < b) (hb2 : b < 2147483648) : jT xs (d + 1) 180 1 0 [(0, (4, 0)), (1, (0, ((b : Nat) : Int)))] [] [(100, [], ja2 s0 c0 (fun k => ((jlm n k : Nat) : Int)))] 1 56 (fun k v hsN => k = 0 ∧ v = (4, 1) ∧ hsN = [(100, [], ja2 s0 c0 (fun k => ((jlm n k : Nat) : Int))), (100, [], ja2 (if jcn (n / b) 54 = 0 then 0 else s0) ((jcn (n / b) 54 : Nat) : Int) (fun k => ((jlm (n / b) k : Nat) : Int)))]) := by
  refine jT_adv 7 (pcN := 11) (LN := [(5, (0, 55)), (3, (1, 0)), (2, (4, 1)), (0, (4, 0)), (1, (0, ((b : Nat) : Int)))]) (stN := []) (hsN := [(100, [], ja2 s0 c0 (fun k => ((jlm n k : Nat) : Int))), (100, [], List.replicate 56 0)]) (c1 := 1) (s1 := 56) (c2 := 0) (s2 := 0) (by exact rfl) ?_ (by omega) (by omega)
  refine jT_eq (LN := [(5, (0, ((54 + 1 : Nat) : Int))), (3, (1, ((n / 1000000000 ^ 54 % b : Nat) : Int))), (2, (4, 1)), (0, (4, 0)), (1, (0, ((b : Nat) : Int)))]) (stN := []) (hsN := [(100, [], ja2 s0 c0 (fun k => ((jlm n k : Nat) : Int))), (100, [], ja2 0 0 (fun j => if 54 ≤ j then ((jlm (n / b) j : Nat) : Int) else 0))]) (by rw [Nat.div_eq_of_lt hn, Nat.zero_mod]; rfl) rfl (by rw [jrep56]; exact congrArg (fun z => [(100, [], _), (100, [], z)]) (ja2_congr (fun k hk => by rw [if_neg (by omega)]))) ?_
  exact jT_divided_loop hb hb2 54 (Nat.le_refl _)
