/-! the model's long numbers: turned round, what they leave -/
theorem jenc_len {v : Int} : (jenc v).length = 56 := ja2_len
theorem jneg_enc {v : Int} : (jenc v).set 0 (-v.sign) = jenc (-v) := by
  unfold jenc
  rw [Int.natAbs_neg, Int.sign_neg]
  rfl
theorem jcell_at {hs : List JC} {x : Nat × Nat} {a : Nat} {c : JC} {k : JC → JS} (h : hs[a]? = some c) (hg : Nat.beq c.1 999 = false) : jcell (hs, x) ((a : Nat) : Int) k = k c := by
  show (match hs[a]? with
    | some c => cond (Nat.beq c.1 999) none (k c)
    | none => none) = _
  rw [h]
  show cond (Nat.beq c.1 999) none (k c) = _
  rw [hg]
  rfl
theorem jstep_is {xs : List Int} {m pc i : Nat} {L : JL} {st : List JV} {h : JH} (hI : jmI (jm m) pc = (.invokestatic i, 3)) : jstep xs m pc L st h = jcalls (jpool (jmC (jm m)) i) pc L st h := by
  unfold jstep
  rw [hI]
  rfl
theorem jcalls_6 {pc : Nat} {e : Int} {L : JL} {st : List JV} {h : JH} (hw : Nat.ble (jwid st) 24 = true) : jcalls (11, 6, e) pc L st h = jcopy pc L st h := by
  show cond (Nat.ble (jwid st) 24) (jspc 6 pc L st h) none = _
  rw [hw]
  rfl
theorem jcopy_at {pc a b s0 d0 n k : Nat} {L : JL} {r : List JV} {hs : List JC} {X Y : List Int} (hk : (Nat.beq k k && (Nat.beq k 100 || Nat.beq k 101)) = true) (ha : hs[a]? = some (k, [], X)) (hb : hs[b]? = some (k, [], Y)) (hn : n < 2147483648) (hs0 : s0 < 2147483648) (hd0 : d0 < 2147483648) (h1 : s0 + n ≤ X.length) (h2 : d0 + n ≤ Y.length) : jcopy pc L ((0, ((n : Nat) : Int)) :: (0, ((d0 : Nat) : Int)) :: (4, ((b : Nat) : Int)) :: (0, ((s0 : Nat) : Int)) :: (4, ((a : Nat) : Int)) :: r) (hs, 0, 0) = jnx (pc + 3) L r (hs.set b (k, [], jcpy X Y s0 d0 n), 0, 0) := by
  have g1 := jw_n hs0
  have g2 := jw_n hd0
  have g3 := jw_n hn
  have g4 := Nat.ble_eq_true_of_le h1
  have g5 := Nat.ble_eq_true_of_le h2
  have hk9 : Nat.beq k 999 = false := by
    obtain ⟨-, h2⟩ := Bool.and_eq_true_iff.mp hk
    rcases Bool.or_eq_true_iff.mp h2 with h3 | h3 <;> rw [Nat.eq_of_beq_eq_true h3] <;> rfl
  simp only [jcopy, jcell_at ha hk9, jcell_at hb hk9, hk, cond_true, g1, g2, g3, g4, g5, Bool.and_self, Int.toNat_natCast]
section JTT
variable {xs : List Int} {d m n0 pc b1 b2 : Nat} {L : JL} {st : List JV} {hs : List JC} {Q : Nat → JV → List JC → Prop}
/-- a row of ints copied over another one -/
theorem jT_cpy {i a b s0 d0 n : Nat} {e : Int} {r : List JV} {X Y : List Int} {k : Nat} (hI : jmI (jm m) pc = (.invokestatic i, 3)) (hp : jpool (jmC (jm m)) i = (11, 6, e)) (hst : st = (0, ((n : Nat) : Int)) :: (0, ((d0 : Nat) : Int)) :: (4, ((b : Nat) : Int)) :: (0, ((s0 : Nat) : Int)) :: (4, ((a : Nat) : Int)) :: r) (hw : Nat.ble (jwid st) 24 = true) (hk : (Nat.beq k k && (Nat.beq k 100 || Nat.beq k 101)) = true) (ha : hs[a]? = some (k, [], X)) (hb : hs[b]? = some (k, [], Y)) (hn : n < 2147483648) (hs0 : s0 < 2147483648) (hd0 : d0 < 2147483648) (h1 : s0 + n ≤ X.length) (h2 : d0 + n ≤ Y.length)
    (h : jT xs d m n0 (pc + 3) L r (hs.set b (k, [], jcpy X Y s0 d0 n)) b1 b2 Q) : jT xs d m n0 pc L st hs b1 b2 Q := by
  have e1 : jstep xs m pc L st (hs, 0, 0) = jnx (pc + 3) L r (hs.set b (k, [], jcpy X Y s0 d0 n), 0, 0) := by
    rw [jstep_is hI, hp, jcalls_6 hw, hst]
    exact jcopy_at hk ha hb hn hs0 hd0 h1 h2
  exact jT_step (c1 := 0) (s1 := 0) e1 h (by omega) (by omega)
end JTT
theorem jcpy_all {X Y : List Int} {n : Nat} (h1 : X.length = n) (h2 : Y.length = n) : jcpy X Y 0 0 n = X := by
  unfold jcpy
  rw [List.take_zero, List.drop_zero, ← h1, List.take_length, Nat.zero_add, h1, ← h2, List.drop_length, List.append_nil]
  rfl

theorem jT_copied {xs : List Int} {d : Nat} {a : Int} : jT xs d 185 1 0 [(0, (4, 0))] [] [(100, [], jenc a)] 1 56 (fun k w hsN => k = 0 ∧ w = (4, 1) ∧ hsN = [(100, [], jenc a), (100, [], jenc a)]) := by
  refine jT_adv 8 (pcN := 11) (LN := [(1, (4, 1)), (0, (4, 0))]) (stN := [(0, 56), (0, 0), (4, 1), (0, 0), (4, 0)]) (hsN := [(100, [], jenc a), (100, [], List.replicate 56 0)]) (c1 := 1) (s1 := 56) (c2 := 0) (s2 := 0) (by exact rfl) ?_ (by omega) (by omega)
  refine jT_cpy (a := 0) (b := 1) (s0 := 0) (d0 := 0) (n := 56) (k := 100) (X := jenc a) (Y := List.replicate 56 0) (by rfl) (by rfl) (by rfl) (by rfl) (by rfl) (by rfl) (by rfl) (by decide) (by decide) (by decide) (by rw [jenc_len]; decide) (by decide) ?_
  refine jT_eq (LN := [(1, (4, 1)), (0, (4, 0))]) (stN := []) (hsN := [(100, [], jenc a), (100, [], jenc a)]) rfl rfl (by rw [jcpy_all jenc_len (by decide)]; rfl) ?_
  refine jT_adv 1 (pcN := 15) (LN := [(1, (4, 1)), (0, (4, 0))]) (stN := [(4, 1)]) (hsN := [(100, [], jenc a), (100, [], jenc a)]) (c1 := 0) (s1 := 0) (c2 := 0) (s2 := 0) (by exact rfl) ?_ (by omega) (by omega)
  exact jT_ret rfl (by decide) (by show 1 ≤ 2; decide) (by omega) (by omega) ⟨rfl, rfl, rfl⟩
theorem jT_negative {xs : List Int} {d : Nat} {a : Int} : jT xs (d + 1) 184 1 0 [(0, (4, 0))] [] [(100, [], jenc a)] 1 56 (fun k w hsN => k = 0 ∧ w = (4, 1) ∧ hsN = [(100, [], jenc a), (100, [], jenc (-a))]) := by
  refine jT_adv 1 (pcN := 1) (LN := [(0, (4, 0))]) (stN := [(4, 0)]) (hsN := [(100, [], jenc a)]) (c1 := 0) (s1 := 0) (c2 := 1) (s2 := 56) (by exact rfl) ?_ (by omega) (by omega)
  refine jT_call [0] (y := 185) (pcN := 4) (dC := 0) (bc1 := 1) (bc2 := 56) (c1 := 0) (c2 := 0) (as := [(4, 0)]) (asC := [(4, 0)]) (LN := [(0, (4, 0))]) (stN := []) (hsC := [(100, [], jenc a)]) (jT_copied (d := 0)) (by rfl) (by rfl) (by rfl) (by rfl) (⟨rfl, trivial⟩) (by rfl) (by rfl) (by omega) (by show 1 ≤ 1; omega) (by omega) (by omega) ?_ (fun _ _ hq => absurd hq.1 (by decide))
  rintro v hsN ⟨-, rfl, rfl⟩
  refine jT_eq (LN := [(0, (4, 0))]) (stN := [(4, 1)]) (hsN := [(100, [], jenc a), (100, [], jenc a)]) rfl (rfl) (rfl) ?_
  refine jT_adv 5 (pcN := 9) (LN := [(1, (4, 1)), (0, (4, 0))]) (stN := [(0, 0), (4, 0), (0, 0), (4, 1)]) (hsN := [(100, [], jenc a), (100, [], jenc a)]) (c1 := 0) (s1 := 0) (c2 := 0) (s2 := 0) (by exact rfl) ?_ (by omega) (by omega)
  refine jT_iald (x := a.sign) (a := 0) (j := 0) (fs := []) (X := jenc a) (by rfl) (by rfl) (by rfl) (rfl) (rfl) ?_
  refine jT_adv 1 (pcN := 11) (LN := [(1, (4, 1)), (0, (4, 0))]) (stN := [(0, -a.sign), (0, 0), (4, 1)]) (hsN := [(100, [], jenc a), (100, [], jenc a)]) (c1 := 0) (s1 := 0) (c2 := 0) (s2 := 0) (by exact rfl) ?_ (by omega) (by omega)
  refine jT_iast (x := -a.sign) (a := 1) (j := 0) (fs := []) (X := jenc a) (by rfl) (by rfl) (by rfl) (rfl) (by rw [jenc_len]; decide) ?_
  refine jT_eq (LN := [(1, (4, 1)), (0, (4, 0))]) (stN := []) (hsN := [(100, [], jenc a), (100, [], jenc (-a))]) rfl rfl (by rw [jneg_enc]; rfl) ?_
  refine jT_adv 1 (pcN := 13) (LN := [(1, (4, 1)), (0, (4, 0))]) (stN := [(4, 1)]) (hsN := [(100, [], jenc a), (100, [], jenc (-a))]) (c1 := 0) (s1 := 0) (c2 := 0) (s2 := 0) (by exact rfl) ?_ (by omega) (by omega)
  exact jT_ret rfl (by decide) (by show 1 ≤ 2; decide) (by omega) (by omega) ⟨rfl, rfl, rfl⟩
