/-! the model's long numbers: made of a long, turned round, what they leave -/
section JTT
variable {xs : List Int} {d m n0 pc b1 b2 : Nat} {L : JL} {st : List JV} {hs : List JC} {Q : Nat → JV → List JC → Prop}
theorem jT_lcmp {x y a b z : Int} {r : List JV} (hI : jmI (jm m) pc = (.lcmp, 1)) (hst : st = (1, y) :: (1, x) :: r) (ha : jwl x = a) (hb : jwl y = b) (hz : cond (decide (b < a)) 1 (cond (decide (a = b)) 0 (-1)) = z) (h : jT xs d m n0 (pc + 1) L ((0, z) :: r) hs b1 b2 Q) : jT xs d m n0 pc L st hs b1 b2 Q := by
  subst hst; subst ha; subst hb; subst hz
  refine jT_step (c1 := 0) (s1 := 0) ?_ h (by omega) (by omega)
  unfold jstep
  rw [hI]
  rfl
theorem jT_labs {x z : Int} {i : Nat} {e : Int} {r : List JV} (hI : jmI (jm m) pc = (.invokestatic i, 3)) (hp : jpool (jmC (jm m)) i = (11, 5, e)) (hst : st = (1, x) :: r) (hw : Nat.ble (jwid st) 24 = true) (hz : cond (decide (jwl x < 0)) (-x) x = z) (h : jT xs d m n0 (pc + 3) L ((1, z) :: r) hs b1 b2 Q) : jT xs d m n0 pc L st hs b1 b2 Q := by
  subst hz
  refine jT_step (c1 := 0) (s1 := 0) ?_ h (by omega) (by omega)
  unfold jstep
  rw [hI]
  show jcalls (jpool (jmC (jm m)) i) pc L st (hs, 0, 0) = _
  rw [hp]
  show cond (Nat.ble (jwid st) 24) (jspc 5 pc L st (hs, 0, 0)) none = _
  rw [hw, hst]
  rfl
end JTT
theorem jshr_63 {v : Int} (h1 : -9223372036854775808 ≤ v) (h2 : v < 9223372036854775808) : jshr v 63 = if v < 0 then -1 else 0 := by
  unfold jshr
  have e : ((Int32.ofInt 63).toInt64 &&& 63) = 63 := by decide
  rw [e]
  have e2 : (Int64.ofInt v >>> (63 : Int64)).toInt = (Int64.ofInt v).toInt >>> 63 := by
    show ((Int64.ofInt v >>> (63 : Int64)).toBitVec).toInt = _
    rw [Int64.toBitVec_shiftRight, show ((63 : Int64).toBitVec.smod 64) = 63#64 from by decide]
    show ((Int64.ofInt v).toBitVec.sshiftRight 63).toInt = _
    rw [BitVec.toInt_sshiftRight]
    rfl
  rw [e2, Int64.toInt_ofInt, Int.shiftRight_eq_div_pow]
  rw [show Int.bmod v (2 ^ 64) = v from by unfold Int.bmod; simp only []; split <;> omega]
  split <;> omega
theorem jushr_63 {v : Int} (h1 : -9223372036854775808 ≤ v) (h2 : v ≤ 9223372036854775808) : jushr v 63 = if v < 0 ∨ v = 9223372036854775808 then 1 else 0 := by
  unfold jushr
  have e : ((Int32.ofInt 63).toInt64.toUInt64 &&& Int64.toUInt64 63) = 63 := by decide
  rw [e]
  have e2 : ((Int64.ofInt v).toUInt64 >>> (63 : UInt64)).toNat = (v % 18446744073709551616).toNat >>> 63 := by
    rw [UInt64.toNat_shiftRight]
    show (BitVec.ofInt 64 v).toNat >>> _ = _
    rw [BitVec.toNat_ofInt]
    rfl
  rw [Nat.shiftRight_eq_div_pow] at e2
  by_cases hc : v < 0 ∨ v = 9223372036854775808
  · rw [if_pos hc]
    have h3 : ((Int64.ofInt v).toUInt64 >>> (63 : UInt64)).toNat = 1 := by rw [e2]; omega
    rw [show ((Int64.ofInt v).toUInt64 >>> (63 : UInt64)) = 1 from UInt64.toNat_inj.mp h3]
    decide
  · rw [if_neg hc]
    have h3 : ((Int64.ofInt v).toUInt64 >>> (63 : UInt64)).toNat = 0 := by rw [e2]; omega
    rw [show ((Int64.ofInt v).toUInt64 >>> (63 : UInt64)) = 0 from UInt64.toNat_inj.mp h3]
    decide
theorem jsignum {v : Int} (h1 : -9223372036854775808 < v) (h2 : v < 9223372036854775808) : (Int64.ofInt (jshr v 63) ||| Int64.ofInt (jushr (-v) 63)).toInt = v.sign := by
  rw [jshr_63 (by omega) h2, jushr_63 (by omega) (by omega)]
  rcases Int.lt_trichotomy v 0 with h | h | h
  · rw [if_pos h, if_neg (by omega), Int.sign_eq_neg_one_of_neg h]; decide
  · rw [if_neg (by omega), if_neg (by omega), h]; decide
  · rw [if_neg (by omega), if_pos (by omega), Int.sign_eq_one_of_pos h]; decide
theorem jcn_is {n c : Nat} (hc : c ≤ 54) (h : n / 1000000000 ^ c = 0) (h2 : c = 0 ∨ n / 1000000000 ^ (c - 1) ≠ 0) : jcn n 54 = c := by
  have hlt : n < 1000000000 ^ c := (Nat.div_eq_zero_iff_lt (Nat.pow_pos (by decide))).mp h
  have h54 : n < 1000000000 ^ 54 := Nat.lt_of_lt_of_le hlt (Nat.pow_le_pow_right (by decide) hc)
  have hhi := jcn_hi 54 h54
  refine Nat.le_antisymm (Nat.le_of_not_lt fun q => ?_) (Nat.le_of_not_lt fun q => ?_)
  · have h3 := jcn_lo (n := n) 54 (by omega)
    have h4 : 1000000000 ^ c ≤ 1000000000 ^ (jcn n 54 - 1) := Nat.pow_le_pow_right (by decide) (by omega)
    omega
  · rcases h2 with h2 | h2
    · omega
    · refine h2 (Nat.div_eq_of_lt (Nat.lt_of_lt_of_le hhi (Nat.pow_le_pow_right (by decide) (by omega))))

theorem jT_signum {xs : List Int} {d : Nat} {v : Int} (h1 : -9223372036854775808 < v) (h2 : v < 9223372036854775808) : jT xs d 378 0 0 [(0, (1, v))] [] [] 0 0 (fun k w hsN => k = 0 ∧ w = (0, v.sign) ∧ hsN = []) := by
  refine jT_adv 9 (pcN := 11) (LN := [(0, (1, v))]) (stN := [(0, (Int64.ofInt (jshr v 63) ||| Int64.ofInt (jushr (-v) 63)).toInt)]) (hsN := []) (c1 := 0) (s1 := 0) (c2 := 0) (s2 := 0) (by exact rfl) ?_ (by omega) (by omega)
  refine jT_eq (LN := [(0, (1, v))]) (stN := [(0, v.sign)]) (hsN := []) (rfl) (by rw [jsignum h1 h2]) (rfl) ?_
  exact jT_ret rfl (by decide) (by show 0 ≤ 0; decide) (by omega) (by omega) ⟨rfl, rfl, rfl⟩
theorem jT_big_loop {xs : List Int} {d : Nat} {v : Int} (h1 : -9223372036854775808 < v) (h2 : v < 9223372036854775808) : ∀ q c, c + q = 54 → (c = 0 ∨ v.natAbs / 1000000000 ^ (c - 1) ≠ 0) → jT xs d 178 0 17 [(3, (1, ((v.natAbs / 1000000000 ^ c : Nat) : Int))), (2, (4, 0)), (0, (1, v))] [] [(100, [], ja2 v.sign ((c : Nat) : Int) (fun k => if k < c then ((jlm v.natAbs k : Nat) : Int) else 0))] 0 0 (fun k w hsN => k = 0 ∧ w = (4, 0) ∧ hsN = [(100, [], jenc v)]) := by
  intro q
  induction q with
  | zero =>
    intro c hc hw
    exfalso
    obtain rfl : c = 54 := by omega
    rcases hw with hw | hw
    · omega
    · exact hw (Nat.div_eq_of_lt (Nat.lt_trans (show v.natAbs < 9223372036854775808 by omega) (by decide)))
  | succ q ih =>
    intro c hc hw
    have hle := Nat.div_le_self v.natAbs (1000000000 ^ c)
    have hl := jlm_lt (n := v.natAbs) (k := c)
    refine jT_adv 2 (pcN := 19) (LN := [(3, (1, ((v.natAbs / 1000000000 ^ c : Nat) : Int))), (2, (4, 0)), (0, (1, v))]) (stN := [(1, 0), (1, ((v.natAbs / 1000000000 ^ c : Nat) : Int))]) (hsN := [(100, [], ja2 v.sign ((c : Nat) : Int) (fun k => if k < c then ((jlm v.natAbs k : Nat) : Int) else 0))]) (c1 := 0) (s1 := 0) (c2 := 0) (s2 := 0) (by exact rfl) ?_ (by omega) (by omega)
    by_cases hz : v.natAbs / 1000000000 ^ c = 0
    · refine jT_lcmp (a := ((v.natAbs / 1000000000 ^ c : Nat) : Int)) (b := 0) (z := 0) (by rfl) (by rfl) (jwl_k (by omega)) (rfl) (by rw [hz]; rfl) ?_
      refine jT_adv 2 (pcN := 53) (LN := [(3, (1, ((v.natAbs / 1000000000 ^ c : Nat) : Int))), (2, (4, 0)), (0, (1, v))]) (stN := [(4, 0)]) (hsN := [(100, [], ja2 v.sign ((c : Nat) : Int) (fun k => if k < c then ((jlm v.natAbs k : Nat) : Int) else 0))]) (c1 := 0) (s1 := 0) (c2 := 0) (s2 := 0) (by exact rfl) ?_ (by omega) (by omega)
      refine jT_ret rfl (by decide) (by show 0 ≤ 1; decide) (by omega) (by omega) ⟨rfl, rfl, ?_⟩
      have e := jcn_is (by omega) hz hw
      unfold jenc
      rw [e, ja2_congr (fun k _ => by by_cases hk : k < c; exact if_pos hk; rw [if_neg hk]; show (0 : Int) = ((_ / _ % _ : Nat) : Int); rw [Nat.div_eq_of_lt (Nat.lt_of_lt_of_le ((Nat.div_eq_zero_iff_lt (Nat.pow_pos (by decide))).mp hz) (Nat.pow_le_pow_right (by decide) (by omega)))]; rfl)]
    · refine jT_lcmp (a := ((v.natAbs / 1000000000 ^ c : Nat) : Int)) (b := 0) (z := 1) (by rfl) (by rfl) (jwl_k (by omega)) (rfl) (by rw [decide_eq_true (show (0 : Int) < ((v.natAbs / 1000000000 ^ c : Nat) : Int) from Int.natCast_pos.mpr (Nat.pos_of_ne_zero hz))]; rfl) ?_
      refine jT_adv 5 (pcN := 27) (LN := [(3, (1, ((v.natAbs / 1000000000 ^ c : Nat) : Int))), (2, (4, 0)), (0, (1, v))]) (stN := [(0, 1), (4, 0), (0, 2), (4, 0)]) (hsN := [(100, [], ja2 v.sign ((c : Nat) : Int) (fun k => if k < c then ((jlm v.natAbs k : Nat) : Int) else 0))]) (c1 := 0) (s1 := 0) (c2 := 0) (s2 := 0) (by exact rfl) ?_ (by omega) (by omega)
      refine jT_iald (x := ((c : Nat) : Int)) (a := 0) (j := 1) (fs := []) (X := ja2 v.sign ((c : Nat) : Int) (fun k => if k < c then ((jlm v.natAbs k : Nat) : Int) else 0)) (by rfl) (by rfl) (by rfl) (rfl) (rfl) ?_
      refine jT_adv 3 (pcN := 33) (LN := [(3, (1, ((v.natAbs / 1000000000 ^ c : Nat) : Int))), (2, (4, 0)), (0, (1, v))]) (stN := [(1, 1000000000), (1, ((v.natAbs / 1000000000 ^ c : Nat) : Int)), (0, 2 + ((c : Nat) : Int)), (4, 0)]) (hsN := [(100, [], ja2 v.sign ((c : Nat) : Int) (fun k => if k < c then ((jlm v.natAbs k : Nat) : Int) else 0))]) (c1 := 0) (s1 := 0) (c2 := 0) (s2 := 0) (by exact rfl) ?_ (by omega) (by omega)
      refine jT_lrem (a := ((v.natAbs / 1000000000 ^ c : Nat) : Int)) (b := 1000000000) (by rfl) (by rfl) (jwl_k (by omega)) (rfl) (by decide) ?_
      refine jT_eq (LN := [(3, (1, ((v.natAbs / 1000000000 ^ c : Nat) : Int))), (2, (4, 0)), (0, (1, v))]) (stN := [(1, ((jlm v.natAbs c : Nat) : Int)), (0, 2 + ((c : Nat) : Int)), (4, 0)]) (hsN := [(100, [], ja2 v.sign ((c : Nat) : Int) (fun k => if k < c then ((jlm v.natAbs k : Nat) : Int) else 0))]) (rfl) (rfl) (rfl) ?_
      refine jT_adv 1 (pcN := 35) (LN := [(3, (1, ((v.natAbs / 1000000000 ^ c : Nat) : Int))), (2, (4, 0)), (0, (1, v))]) (stN := [(0, ((jlm v.natAbs c : Nat) : Int)), (0, 2 + ((c : Nat) : Int)), (4, 0)]) (hsN := [(100, [], ja2 v.sign ((c : Nat) : Int) (fun k => if k < c then ((jlm v.natAbs k : Nat) : Int) else 0))]) (c1 := 0) (s1 := 0) (c2 := 0) (s2 := 0) (by exact rfl) ?_ (by omega) (by omega)
      refine jT_iast (x := ((jlm v.natAbs c : Nat) : Int)) (a := 0) (j := (c + 2)) (fs := []) (X := ja2 v.sign ((c : Nat) : Int) (fun k => if k < c then ((jlm v.natAbs k : Nat) : Int) else 0)) (by rfl) (by rfl) (by rfl) (by rw [show (2 : Int) + ((c : Nat) : Int) = ((c + 2 : Nat) : Int) from by omega]; exact jw_n (k := c + 2) (by omega)) (by rw [ja2_len]; omega) ?_
      refine jT_eq (LN := [(3, (1, ((v.natAbs / 1000000000 ^ c : Nat) : Int))), (2, (4, 0)), (0, (1, v))]) (stN := []) (hsN := [(100, [], ja2 v.sign ((c : Nat) : Int) (fun k => if k < (c + 1) then ((jlm v.natAbs k : Nat) : Int) else 0))]) rfl rfl (by rw [ja2_set (by omega), ja2_congr (f := fun j => if j = c then ((jlm v.natAbs c : Nat) : Int) else if j < c then ((jlm v.natAbs j : Nat) : Int) else 0) (g := fun j => if j < c + 1 then ((jlm v.natAbs j : Nat) : Int) else 0) (fun k _ => jz_add (g := fun k => ((jlm v.natAbs k : Nat) : Int)))]; rfl) ?_
      refine jT_adv 3 (pcN := 39) (LN := [(3, (1, ((v.natAbs / 1000000000 ^ c : Nat) : Int))), (2, (4, 0)), (0, (1, v))]) (stN := [(0, 1), (4, 0), (0, 1), (4, 0)]) (hsN := [(100, [], ja2 v.sign ((c : Nat) : Int) (fun k => if k < (c + 1) then ((jlm v.natAbs k : Nat) : Int) else 0))]) (c1 := 0) (s1 := 0) (c2 := 0) (s2 := 0) (by exact rfl) ?_ (by omega) (by omega)
      refine jT_iald (x := ((c : Nat) : Int)) (a := 0) (j := 1) (fs := []) (X := ja2 v.sign ((c : Nat) : Int) (fun k => if k < (c + 1) then ((jlm v.natAbs k : Nat) : Int) else 0)) (by rfl) (by rfl) (by rfl) (rfl) (rfl) ?_
      refine jT_adv 2 (pcN := 42) (LN := [(3, (1, ((v.natAbs / 1000000000 ^ c : Nat) : Int))), (2, (4, 0)), (0, (1, v))]) (stN := [(0, ((c : Nat) : Int) + 1), (0, 1), (4, 0)]) (hsN := [(100, [], ja2 v.sign ((c : Nat) : Int) (fun k => if k < (c + 1) then ((jlm v.natAbs k : Nat) : Int) else 0))]) (c1 := 0) (s1 := 0) (c2 := 0) (s2 := 0) (by exact rfl) ?_ (by omega) (by omega)
      refine jT_iast (x := ((c : Nat) : Int) + 1) (a := 0) (j := 1) (fs := []) (X := ja2 v.sign ((c : Nat) : Int) (fun k => if k < (c + 1) then ((jlm v.natAbs k : Nat) : Int) else 0)) (by rfl) (by rfl) (by rfl) (rfl) (by rw [ja2_len]; decide) ?_
      refine jT_eq (LN := [(3, (1, ((v.natAbs / 1000000000 ^ c : Nat) : Int))), (2, (4, 0)), (0, (1, v))]) (stN := []) (hsN := [(100, [], ja2 v.sign (((c + 1) : Nat) : Int) (fun k => if k < (c + 1) then ((jlm v.natAbs k : Nat) : Int) else 0))]) rfl rfl (rfl) ?_
      refine jT_adv 2 (pcN := 47) (LN := [(3, (1, ((v.natAbs / 1000000000 ^ c : Nat) : Int))), (2, (4, 0)), (0, (1, v))]) (stN := [(1, 1000000000), (1, ((v.natAbs / 1000000000 ^ c : Nat) : Int))]) (hsN := [(100, [], ja2 v.sign (((c + 1) : Nat) : Int) (fun k => if k < (c + 1) then ((jlm v.natAbs k : Nat) : Int) else 0))]) (c1 := 0) (s1 := 0) (c2 := 0) (s2 := 0) (by exact rfl) ?_ (by omega) (by omega)
      refine jT_ldiv (a := ((v.natAbs / 1000000000 ^ c : Nat) : Int)) (b := 1000000000) (by rfl) (by rfl) (jwl_k (by omega)) (rfl) (by decide) ?_
      refine jT_eq (LN := [(3, (1, ((v.natAbs / 1000000000 ^ c : Nat) : Int))), (2, (4, 0)), (0, (1, v))]) (stN := [(1, ((v.natAbs / 1000000000 ^ (c + 1) : Nat) : Int))]) (hsN := [(100, [], ja2 v.sign (((c + 1) : Nat) : Int) (fun k => if k < (c + 1) then ((jlm v.natAbs k : Nat) : Int) else 0))]) (rfl) (by rw [Nat.pow_succ, ← Nat.div_div_eq_div_mul]; rfl) (rfl) ?_
      refine jT_adv 2 (pcN := 17) (LN := [(3, (1, ((v.natAbs / 1000000000 ^ (c + 1) : Nat) : Int))), (2, (4, 0)), (0, (1, v))]) (stN := []) (hsN := [(100, [], ja2 v.sign (((c + 1) : Nat) : Int) (fun k => if k < (c + 1) then ((jlm v.natAbs k : Nat) : Int) else 0))]) (c1 := 0) (s1 := 0) (c2 := 0) (s2 := 0) (by exact rfl) ?_ (by omega) (by omega)
      refine jT_loc (LN := [(3, (1, ((v.natAbs / 1000000000 ^ (c + 1) : Nat) : Int))), (2, (4, 0)), (0, (1, v))]) (by show List.Nodup [3, 2, 0]; decide) (by intro q hq; simp only [List.mem_cons, List.not_mem_nil, or_false] at hq; rcases hq with rfl | rfl | rfl <;> rfl) ?_
      exact ih (c + 1) (by omega) (Or.inr (by rw [Nat.add_sub_cancel]; exact hz))
theorem jT_big {xs : List Int} {d : Nat} {v : Int} (h1 : -9223372036854775808 < v) (h2 : v < 9223372036854775808) : jT xs (d + 1) 178 0 0 [(0, (1, v))] [] [] 1 56 (fun k w hsN => k = 0 ∧ w = (4, 0) ∧ hsN = [(100, [], jenc v)]) := by
  refine jT_adv 6 (pcN := 8) (LN := [(2, (4, 0)), (0, (1, v))]) (stN := [(1, v), (0, 0), (4, 0)]) (hsN := [(100, [], List.replicate 56 0)]) (c1 := 1) (s1 := 56) (c2 := 0) (s2 := 0) (by exact rfl) ?_ (by omega) (by omega)
  refine jT_call [] (y := 378) (pcN := 11) (dC := 0) (bc1 := 0) (bc2 := 0) (c1 := 0) (c2 := 0) (as := [(1, v)]) (asC := [(1, v)]) (LN := [(2, (4, 0)), (0, (1, v))]) (stN := [(0, 0), (4, 0)]) (hsC := []) (jT_signum (d := 0) h1 h2) (by rfl) (by rfl) (by rfl) (by rfl) (trivial) (by rfl) (by rfl) (by omega) (by show 0 ≤ 1; omega) (by omega) (by omega) ?_ (fun _ _ hq => absurd hq.1 (by decide))
  rintro v hsN ⟨-, rfl, rfl⟩
  refine jT_eq (LN := [(2, (4, 0)), (0, (1, v))]) (stN := [(0, v.sign), (0, 0), (4, 0)]) (hsN := [(100, [], List.replicate 56 0)]) rfl (rfl) (rfl) ?_
  refine jT_iast (x := v.sign) (a := 0) (j := 0) (fs := []) (X := List.replicate 56 0) (by rfl) (by rfl) (by rfl) (rfl) (by decide) ?_
  refine jT_eq (LN := [(2, (4, 0)), (0, (1, v))]) (stN := []) (hsN := [(100, [], ja2 v.sign ((0 : Nat) : Int) (fun k => if k < 0 then ((jlm v.natAbs k : Nat) : Int) else 0))]) rfl rfl (by rw [jrep56]; rfl) ?_
  refine jT_adv 1 (pcN := 13) (LN := [(2, (4, 0)), (0, (1, v))]) (stN := [(1, v)]) (hsN := [(100, [], ja2 v.sign ((0 : Nat) : Int) (fun k => if k < 0 then ((jlm v.natAbs k : Nat) : Int) else 0))]) (c1 := 0) (s1 := 0) (c2 := 0) (s2 := 0) (by exact rfl) ?_ (by omega) (by omega)
  refine jT_labs (z := ((v.natAbs : Nat) : Int)) (by rfl) (by rfl) (by rfl) (by rfl) (by rw [jwl_idd (by omega) (by omega)]; by_cases h : v < 0; (rw [decide_eq_true h]; show -v = _; omega); (rw [decide_eq_false h]; show v = _; omega)) ?_
  refine jT_eq (LN := [(2, (4, 0)), (0, (1, v))]) (stN := [(1, ((v.natAbs / 1000000000 ^ 0 : Nat) : Int))]) (hsN := [(100, [], ja2 v.sign ((0 : Nat) : Int) (fun k => if k < 0 then ((jlm v.natAbs k : Nat) : Int) else 0))]) (rfl) (by rw [Nat.pow_zero, Nat.div_one]) (rfl) ?_
  refine jT_adv 1 (pcN := 17) (LN := [(3, (1, ((v.natAbs / 1000000000 ^ 0 : Nat) : Int))), (2, (4, 0)), (0, (1, v))]) (stN := []) (hsN := [(100, [], ja2 v.sign ((0 : Nat) : Int) (fun k => if k < 0 then ((jlm v.natAbs k : Nat) : Int) else 0))]) (c1 := 0) (s1 := 0) (c2 := 0) (s2 := 0) (by exact rfl) ?_ (by omega) (by omega)
  refine jT_loc (LN := [(3, (1, ((v.natAbs / 1000000000 ^ 0 : Nat) : Int))), (2, (4, 0)), (0, (1, v))]) (by show List.Nodup [3, 2, 0]; decide) (by intro q hq; simp only [List.mem_cons, List.not_mem_nil, or_false] at hq; rcases hq with rfl | rfl | rfl <;> rfl) ?_
  exact jT_big_loop h1 h2 54 0 rfl (Or.inl rfl)
