/-! runs that print their own proofs: what they stand on -/
theorem jw_nn {x : Int} (h0 : 0 ≤ x) (h1 : x < 2147483648) : jw x = .ofNat x.toNat := by
  rw [jw_idd (by omega) h1]
  exact (Int.toNat_of_nonneg h0).symm
theorem jall_get (n : Nat) {X : List Int} {x : Int} {j : Nat} (h : (List.range n).all (fun j => decide (X[j]? = some x)) = true) (hj : j < n) : X[j]? = some x := of_decide_eq_true (List.all_eq_true.mp h j (List.mem_range.mpr hj))
section JTT
variable {xs : List Int} {d m n0 pc b1 b2 : Nat} {L : JL} {st : List JV} {hs : List JC} {Q : Nat → JV → List JC → Prop}
/-- what is no longer told of a cell -/
theorem jT_forget {a : Nat} {c : JC} (ha : hs[a]? = some c) (hg : jisG c = false) (h : jT xs d m n0 pc L st (hs.set a jgh) b1 b2 Q) : jT xs d m n0 pc L st hs b1 b2 Q := by
  intro ρ H c0 s L2 E hL
  have hlt := (List.getElem?_eq_some_iff.mp ha).1
  have E2 : jEm ρ (hs.set a jgh) H := ⟨E.1, fun i => by rw [List.length_set]; exact E.2.1 i, fun k c2 hk => by
    rw [List.getElem?_set] at hk
    by_cases e : a = k
    · subst e
      rw [if_pos rfl, if_pos hlt] at hk
      cases hk
      exact ⟨jEm_lt E hlt, Or.inl rfl⟩
    · rw [if_neg e] at hk
      exact E.2.2 k c2 hk⟩
  obtain ⟨f, ρ', k, v, hsN, H', c', s', q1, q2, q3, q4, q5, q6, q7, q8, q11, q9, q12⟩ := h ρ H c0 s L2 E2 hL
  refine ⟨f, ρ', k, v, hsN, H', c', s', q1, q2, q3, q4, q5, q6, q7, fun q hq hn => q8 q hq (fun i c2 hi hg2 => ?_), fun i hi => ?_, q9, fun i c2 hi hc hg2 => q12 i c2 hi ?_ hg2⟩
  · rw [List.getElem?_set] at hi
    by_cases e : a = i
    · subst e
      rw [if_pos rfl, if_pos hlt] at hi
      cases hi
      cases hg2
    · rw [if_neg e] at hi
      exact hn i c2 hi hg2
  · obtain ⟨j, hj, e⟩ := q11 i hi
    rw [List.length_set] at hj
    exact ⟨j, hj, e⟩
  · rw [List.getElem?_set, if_neg (fun e => ?_)]
    · exact hc
    · subst e
      rw [ha] at hc
      have h6 : c = c2 := Option.some.inj hc
      rw [h6, hg2] at hg
      cases hg
/-- a call whose answer is told, its cells behind it told -/
theorem jT_callB (g : List Nat) {y pcN dC bc1 bc2 c1 c2 : Nat} {as asC : List JV} {LN : JL} {stN : List JV} {hsC hsD : List JC} {v : JV} {st2 : List JV} {hs2 : List JC} (hC : jT xs dC y g.length 0 (jent 0 asC) [] hsC bc1 bc2 (fun k w hsN => k = 0 ∧ w = v ∧ hsN = hsD))
    (hst : jstep xs m pc L st (hs, 0, 0) = some (.inr (.inr (y, as, (pcN, LN, stN), (hs, 0, 0))))) (hw : (Nat.ble (jwid stN) 8 && Nat.ble (jwid as) (jmL (jm y))) = true) (hB : jgB g hs.length = true) (hlen : hsC.length = g.length) (hsb : jSb (jgm g hs.length) hs 0 hsC) (has : as = jrS (jgm g hs.length) asC)
    (hcl : cond (jcH hs.length hs) (cond (jcL hs.length LN) (jcS hs.length stN) false) false = true) (hd : dC < d) (hn : n0 ≤ hs.length) (h1 : bc1 + c1 ≤ b1) (h2 : bc2 + c2 ≤ b2)
    (hst2 : cond (Nat.beq (jmR (jm y)) 9) stN (jrV (jgm g hs.length) v :: stN) = st2) (hhs2 : jput (jgm g hs.length) hs hsC hsD = hs2)
    (cont : jT xs d m n0 pcN LN st2 hs2 c1 c2 Q) : jT xs d m n0 pc L st hs b1 b2 Q := by
  refine jT_call g hC hst hw hB hlen hsb has hcl hd hn h1 h2 (fun w hsN hq => ?_) (fun _ _ hq => absurd hq.1 (by decide))
  obtain ⟨-, rfl, rfl⟩ := hq
  rw [hst2, hhs2]
  exact cont
/-- the same where only new cells come -/
theorem jT_callA (g : List Nat) {y pcN dC bc1 bc2 c1 c2 : Nat} {as asC : List JV} {LN : JL} {stN : List JV} {hsC ex : List JC} {v : JV} {st2 : List JV} {hs2 : List JC} (hC : jT xs dC y g.length 0 (jent 0 asC) [] hsC bc1 bc2 (fun k w hsN => k = 0 ∧ w = v ∧ hsN = hsC ++ ex))
    (hst : jstep xs m pc L st (hs, 0, 0) = some (.inr (.inr (y, as, (pcN, LN, stN), (hs, 0, 0))))) (hw : (Nat.ble (jwid stN) 8 && Nat.ble (jwid as) (jmL (jm y))) = true) (hB : jgB g hs.length = true) (hlen : hsC.length = g.length) (hsb : jSb (jgm g hs.length) hs 0 hsC) (has : as = jrS (jgm g hs.length) asC)
    (hcl : cond (jcH hs.length hs) (cond (jcL hs.length LN) (jcS hs.length stN) false) false = true) (hd : dC < d) (hn : n0 ≤ hs.length) (h1 : bc1 + c1 ≤ b1) (h2 : bc2 + c2 ≤ b2)
    (hst2 : cond (Nat.beq (jmR (jm y)) 9) stN (jrV (jgm g hs.length) v :: stN) = st2) (hhs2 : hs ++ ex.map (jrC (jgm g hs.length)) = hs2)
    (cont : jT xs d m n0 pcN LN st2 hs2 c1 c2 Q) : jT xs d m n0 pc L st hs b1 b2 Q :=
  jT_callB g hC hst hw hB hlen hsb has hcl hd hn h1 h2 hst2 ((jput_new (jgB_inj hB) hsb).trans hhs2) cont
/-- a call that throws -/
theorem jT_callX (g : List Nat) {y pcN dC bc1 bc2 e : Nat} {as asC : List JV} {LN : JL} {stN : List JV} {hsC : List JC} (hC : jT xs dC y g.length 0 (jent 0 asC) [] hsC bc1 bc2 (fun k w hsN => k = 1 ∧ w = (0, ((e : Nat) : Int)) ∧ hsN = hsC ++ []))
    (hst : jstep xs m pc L st (hs, 0, 0) = some (.inr (.inr (y, as, (pcN, LN, stN), (hs, 0, 0))))) (hw : (Nat.ble (jwid stN) 8 && Nat.ble (jwid as) (jmL (jm y))) = true) (hB : jgB g hs.length = true) (hlen : hsC.length = g.length) (hsb : jSb (jgm g hs.length) hs 0 hsC) (has : as = jrS (jgm g hs.length) asC)
    (hcl : cond (jcH hs.length hs) (cond (jcL hs.length LN) (jcS hs.length stN) false) false = true) (hd : dC < d) (hn : n0 ≤ hs.length) (h1 : bc1 ≤ b1) (h2 : bc2 ≤ b2)
    (hx : jXt m pc (0, ((e : Nat) : Int)) (fun k v => Q k v hs)) : jT xs d m n0 pc L st hs b1 b2 Q := by
  refine jT_call (c1 := 0) (c2 := 0) g hC hst hw hB hlen hsb has hcl hd hn (by omega) (by omega) (fun _ _ hq => absurd hq.1 (by decide)) (fun w hsN hq => ?_)
  obtain ⟨-, rfl, rfl⟩ := hq
  rw [List.append_nil, jput_same (jgB_inj hB) hsb]
  exact hx
/-- a reference read at a place with a name -/
theorem jT_aald {kd : Nat} {i x : Int} {a j : Nat} {r : List JV} {fs : List JV} {X : List Int} (hI : jmI (jm m) pc = (.aaload, 1)) (hst : st = (0, i) :: (4, ((a : Nat) : Int)) :: r) (hc : hs[a]? = some (kd, fs, X)) (hj : jw i = .ofNat j) (hx : X[j]? = some x) (hk : (!(Nat.beq kd 999) && (Nat.ble 110 kd && (jaix kd).isSome)) = true) (h : jT xs d m n0 (pc + 1) L ((4, x) :: r) hs b1 b2 Q) : jT xs d m n0 pc L st hs b1 b2 Q := by
  subst hst
  obtain ⟨hk1, hk2⟩ := Bool.and_eq_true_iff.mp hk
  have hk1 : Nat.beq kd 999 = false := by
    cases hb : Nat.beq kd 999 with
    | false => rfl
    | true => rw [hb] at hk1; cases hk1
  refine jT_step (c1 := 0) (s1 := 0) ?_ h (by omega) (by omega)
  unfold jstep
  rw [hI]
  show jcell (hs, 0, 0) ((a : Nat) : Int) _ = _
  rw [jcell_at hc hk1]
  show cond (Nat.ble 110 kd && (jaix kd).isSome) (match jw i with
    | .ofNat j => (match X[j]? with
      | some x => jnx (pc + 1) L ((4, x) :: r) (hs, 0, 0)
      | none => none)
    | .negSucc _ => none) none = _
  rw [hk2, hj]
  dsimp only [cond_true]
  rw [hx]
  rfl
/-- a reference written at a place with a name; the row is no longer told -/
theorem jT_aastG {kd : Nat} {i : Int} {a b j : Nat} {r : List JV} {fs : List JV} {X : List Int} {e : JC} (hI : jmI (jm m) pc = (.aastore, 1)) (hst : st = (4, ((b : Nat) : Int)) :: (0, i) :: (4, ((a : Nat) : Int)) :: r) (hc : hs[a]? = some (kd, fs, X)) (hj : jw i = .ofNat j) (hx : j < X.length) (hk : (!(Nat.beq kd 999) && (Nat.ble 110 kd && (jaix kd).isSome)) = true) (hb : hs[b]? = some e) (hkk : cond (Nat.beq kd 130) (Nat.beq e.1 100) (Nat.beq (110 + e.1) kd) = true) (h : jT xs d m n0 (pc + 1) L r (hs.set a jgh) b1 b2 Q) : jT xs d m n0 pc L st hs b1 b2 Q := by
  subst hst
  obtain ⟨hk1, hk2⟩ := Bool.and_eq_true_iff.mp hk
  have hk1 : Nat.beq kd 999 = false := by
    cases hb : Nat.beq kd 999 with
    | false => rfl
    | true => rw [hb] at hk1; cases hk1
  have hlt := (List.getElem?_eq_some_iff.mp hc).1
  have h' : jT xs d m n0 (pc + 1) L r (hs.set a (kd, fs, X.set j (Int.ofNat b))) b1 b2 Q := by
    refine jT_forget (a := a) (c := (kd, fs, X.set j (Int.ofNat b))) ?_ (jisG_no hk1) ?_
    · rw [List.getElem?_set, if_pos rfl, if_pos hlt]
    · rw [List.set_set]
      exact h
  refine jT_step (c1 := 0) (s1 := 0) ?_ h' (by omega) (by omega)
  unfold jstep
  rw [hI]
  show jcell (hs, 0, 0) ((a : Nat) : Int) _ = _
  rw [jcell_at hc hk1]
  show cond (Nat.ble 110 kd && (jaix kd).isSome) (match jw i with
    | .ofNat j => cond (Nat.blt j X.length) (match hs[b]? with
        | some d => cond (cond (Nat.beq kd 130) (Nat.beq d.1 100) (Nat.beq (110 + d.1) kd)) (jnx (pc + 1) L r (hs.set a (kd, fs, X.set j (.ofNat b)), 0, 0)) none
        | none => none) none
    | .negSucc _ => none) none = _
  rw [hk2, hj]
  dsimp only [cond_true]
  rw [show Nat.blt j X.length = true from Nat.ble_eq_true_of_le hx, hb]
  dsimp only [cond_true]
  rw [hkk]
  rfl
theorem jT_alen {a kd n : Nat} {r : List JV} {fs : List JV} {X : List Int} (hI : jmI (jm m) pc = (.arraylength, 1)) (hst : st = (4, ((a : Nat) : Int)) :: r) (hc : hs[a]? = some (kd, fs, X)) (hk : (!(Nat.beq kd 999) && (Nat.ble 100 kd && (jaix kd).isSome)) = true) (hn : X.length = n) (h : jT xs d m n0 (pc + 1) L ((0, ((n : Nat) : Int)) :: r) hs b1 b2 Q) : jT xs d m n0 pc L st hs b1 b2 Q := by
  subst hst; subst hn
  obtain ⟨hk1, hk2⟩ := Bool.and_eq_true_iff.mp hk
  have hk1 : Nat.beq kd 999 = false := by
    cases hb : Nat.beq kd 999 with
    | false => rfl
    | true => rw [hb] at hk1; cases hk1
  refine jT_step (c1 := 0) (s1 := 0) ?_ h (by omega) (by omega)
  unfold jstep
  rw [hI]
  show jcell (hs, 0, 0) ((a : Nat) : Int) _ = _
  rw [jcell_at hc hk1]
  show cond (Nat.ble 100 kd && (jaix kd).isSome) _ none = _
  rw [hk2]
  rfl
theorem jT_mm0 {x y z : Int} {i : Nat} {e : Int} {r : List JV} (hI : jmI (jm m) pc = (.invokestatic i, 3)) (hp : jpool (jmC (jm m)) i = (11, 0, e)) (hst : st = (0, y) :: (0, x) :: r) (hw : Nat.ble (jwid st) 24 = true) (hx : jw x = x) (hy : jw y = y) (hz : cond (decide (x < y)) y x = z) (h : jT xs d m n0 (pc + 3) L ((0, z) :: r) hs b1 b2 Q) : jT xs d m n0 pc L st hs b1 b2 Q := by
  subst hz
  refine jT_step (c1 := 0) (s1 := 0) ?_ h (by omega) (by omega)
  unfold jstep
  rw [hI]
  show jcalls (jpool (jmC (jm m)) i) pc L st (hs, 0, 0) = _
  rw [hp]
  show cond (Nat.ble (jwid st) 24) (jspc 0 pc L st (hs, 0, 0)) none = _
  rw [hw]
  subst hst
  show jnx (pc + 3) L ((0, cond (decide (jw x < jw y)) y x) :: r) (hs, 0, 0) = _
  rw [hx, hy]
  rfl
theorem jT_mm1 {x y z : Int} {i : Nat} {e : Int} {r : List JV} (hI : jmI (jm m) pc = (.invokestatic i, 3)) (hp : jpool (jmC (jm m)) i = (11, 1, e)) (hst : st = (0, y) :: (0, x) :: r) (hw : Nat.ble (jwid st) 24 = true) (hx : jw x = x) (hy : jw y = y) (hz : cond (decide (x < y)) x y = z) (h : jT xs d m n0 (pc + 3) L ((0, z) :: r) hs b1 b2 Q) : jT xs d m n0 pc L st hs b1 b2 Q := by
  subst hz
  refine jT_step (c1 := 0) (s1 := 0) ?_ h (by omega) (by omega)
  unfold jstep
  rw [hI]
  show jcalls (jpool (jmC (jm m)) i) pc L st (hs, 0, 0) = _
  rw [hp]
  show cond (Nat.ble (jwid st) 24) (jspc 1 pc L st (hs, 0, 0)) none = _
  rw [hw]
  subst hst
  show jnx (pc + 3) L ((0, cond (decide (jw x < jw y)) x y) :: r) (hs, 0, 0) = _
  rw [hx, hy]
  rfl
theorem jT_mm3 {x y z : Int} {i : Nat} {e : Int} {r : List JV} (hI : jmI (jm m) pc = (.invokestatic i, 3)) (hp : jpool (jmC (jm m)) i = (11, 3, e)) (hst : st = (1, y) :: (1, x) :: r) (hw : Nat.ble (jwid st) 24 = true) (hx : jwl x = x) (hy : jwl y = y) (hz : cond (decide (y < x)) x y = z) (h : jT xs d m n0 (pc + 3) L ((1, z) :: r) hs b1 b2 Q) : jT xs d m n0 pc L st hs b1 b2 Q := by
  subst hz
  refine jT_step (c1 := 0) (s1 := 0) ?_ h (by omega) (by omega)
  unfold jstep
  rw [hI]
  show jcalls (jpool (jmC (jm m)) i) pc L st (hs, 0, 0) = _
  rw [hp]
  show cond (Nat.ble (jwid st) 24) (jspc 3 pc L st (hs, 0, 0)) none = _
  rw [hw]
  subst hst
  show jnx (pc + 3) L ((1, cond (decide (jwl y < jwl x)) x y) :: r) (hs, 0, 0) = _
  rw [hx, hy]
  rfl
theorem jT_mm4 {x y z : Int} {i : Nat} {e : Int} {r : List JV} (hI : jmI (jm m) pc = (.invokestatic i, 3)) (hp : jpool (jmC (jm m)) i = (11, 4, e)) (hst : st = (1, y) :: (1, x) :: r) (hw : Nat.ble (jwid st) 24 = true) (hx : jwl x = x) (hy : jwl y = y) (hz : cond (decide (x < y)) x y = z) (h : jT xs d m n0 (pc + 3) L ((1, z) :: r) hs b1 b2 Q) : jT xs d m n0 pc L st hs b1 b2 Q := by
  subst hz
  refine jT_step (c1 := 0) (s1 := 0) ?_ h (by omega) (by omega)
  unfold jstep
  rw [hI]
  show jcalls (jpool (jmC (jm m)) i) pc L st (hs, 0, 0) = _
  rw [hp]
  show cond (Nat.ble (jwid st) 24) (jspc 4 pc L st (hs, 0, 0)) none = _
  rw [hw]
  subst hst
  show jnx (pc + 3) L ((1, cond (decide (jwl x < jwl y)) x y) :: r) (hs, 0, 0) = _
  rw [hx, hy]
  rfl
theorem jT_l2d {x z : Int} {r : List JV} (hI : jmI (jm m) pc = (.l2d, 1)) (hst : st = (1, x) :: r) (hz : ((FP.l2d (Int64.ofInt x)).toNat : Int) = z) (h : jT xs d m n0 (pc + 1) L ((3, z) :: r) hs b1 b2 Q) : jT xs d m n0 pc L st hs b1 b2 Q := by
  subst hst; subst hz
  refine jT_step (c1 := 0) (s1 := 0) ?_ h (by omega) (by omega)
  unfold jstep
  rw [hI]
  rfl
theorem jT_i2d {x z : Int} {r : List JV} (hI : jmI (jm m) pc = (.i2d, 1)) (hst : st = (0, x) :: r) (hz : ((FP.i2d (Int32.ofInt x)).toNat : Int) = z) (h : jT xs d m n0 (pc + 1) L ((3, z) :: r) hs b1 b2 Q) : jT xs d m n0 pc L st hs b1 b2 Q := by
  subst hst; subst hz
  refine jT_step (c1 := 0) (s1 := 0) ?_ h (by omega) (by omega)
  unfold jstep
  rw [hI]
  rfl
theorem jT_i2f {x z : Int} {r : List JV} (hI : jmI (jm m) pc = (.i2f, 1)) (hst : st = (0, x) :: r) (hz : ((FP.i2f (Int32.ofInt x)).toNat : Int) = z) (h : jT xs d m n0 (pc + 1) L ((2, z) :: r) hs b1 b2 Q) : jT xs d m n0 pc L st hs b1 b2 Q := by
  subst hst; subst hz
  refine jT_step (c1 := 0) (s1 := 0) ?_ h (by omega) (by omega)
  unfold jstep
  rw [hI]
  rfl
theorem jT_d2l {x z : Int} {r : List JV} (hI : jmI (jm m) pc = (.d2l, 1)) (hst : st = (3, x) :: r) (hz : (FP.d2l (ju64 x)).toInt = z) (h : jT xs d m n0 (pc + 1) L ((1, z) :: r) hs b1 b2 Q) : jT xs d m n0 pc L st hs b1 b2 Q := by
  subst hst; subst hz
  refine jT_step (c1 := 0) (s1 := 0) ?_ h (by omega) (by omega)
  unfold jstep
  rw [hI]
  rfl
theorem jT_f2d {x z : Int} {r : List JV} (hI : jmI (jm m) pc = (.f2d, 1)) (hst : st = (2, x) :: r) (hz : jn64 (FP.f2d (ju32 x)) = true ∧ ((FP.f2d (ju32 x)).toNat : Int) = z) (h : jT xs d m n0 (pc + 1) L ((3, z) :: r) hs b1 b2 Q) : jT xs d m n0 pc L st hs b1 b2 Q := by
  obtain ⟨hn, hz⟩ := hz
  subst hst; subst hz
  refine jT_step (c1 := 0) (s1 := 0) ?_ h (by omega) (by omega)
  unfold jstep
  rw [hI]
  show cond (jn64 (FP.f2d (ju32 x))) _ none = _
  rw [hn]
  rfl
theorem jT_ddiv {x y z : Int} {r : List JV} (hI : jmI (jm m) pc = (.ddiv, 1)) (hst : st = (3, y) :: (3, x) :: r) (hz : jn64 (FP.ddiv (ju64 x) (ju64 y)) = true ∧ ((FP.ddiv (ju64 x) (ju64 y)).toNat : Int) = z) (h : jT xs d m n0 (pc + 1) L ((3, z) :: r) hs b1 b2 Q) : jT xs d m n0 pc L st hs b1 b2 Q := by
  obtain ⟨hn, hz⟩ := hz
  subst hst; subst hz
  refine jT_step (c1 := 0) (s1 := 0) ?_ h (by omega) (by omega)
  unfold jstep
  rw [hI]
  show cond (jn64 (FP.ddiv (ju64 x) (ju64 y))) _ none = _
  rw [hn]
  rfl
theorem jT_dmul {x y z : Int} {r : List JV} (hI : jmI (jm m) pc = (.dmul, 1)) (hst : st = (3, y) :: (3, x) :: r) (hz : jn64 (FP.dmul (ju64 x) (ju64 y)) = true ∧ ((FP.dmul (ju64 x) (ju64 y)).toNat : Int) = z) (h : jT xs d m n0 (pc + 1) L ((3, z) :: r) hs b1 b2 Q) : jT xs d m n0 pc L st hs b1 b2 Q := by
  obtain ⟨hn, hz⟩ := hz
  subst hst; subst hz
  refine jT_step (c1 := 0) (s1 := 0) ?_ h (by omega) (by omega)
  unfold jstep
  rw [hI]
  show cond (jn64 (FP.dmul (ju64 x) (ju64 y))) _ none = _
  rw [hn]
  rfl
theorem jT_dadd {x y z : Int} {r : List JV} (hI : jmI (jm m) pc = (.dadd, 1)) (hst : st = (3, y) :: (3, x) :: r) (hz : jn64 (FP.dadd (ju64 x) (ju64 y)) = true ∧ ((FP.dadd (ju64 x) (ju64 y)).toNat : Int) = z) (h : jT xs d m n0 (pc + 1) L ((3, z) :: r) hs b1 b2 Q) : jT xs d m n0 pc L st hs b1 b2 Q := by
  obtain ⟨hn, hz⟩ := hz
  subst hst; subst hz
  refine jT_step (c1 := 0) (s1 := 0) ?_ h (by omega) (by omega)
  unfold jstep
  rw [hI]
  show cond (jn64 (FP.dadd (ju64 x) (ju64 y))) _ none = _
  rw [hn]
  rfl
theorem jT_fdiv {x y z : Int} {r : List JV} (hI : jmI (jm m) pc = (.fdiv, 1)) (hst : st = (2, y) :: (2, x) :: r) (hz : jn32 (FP.fdiv (ju32 x) (ju32 y)) = true ∧ ((FP.fdiv (ju32 x) (ju32 y)).toNat : Int) = z) (h : jT xs d m n0 (pc + 1) L ((2, z) :: r) hs b1 b2 Q) : jT xs d m n0 pc L st hs b1 b2 Q := by
  obtain ⟨hn, hz⟩ := hz
  subst hst; subst hz
  refine jT_step (c1 := 0) (s1 := 0) ?_ h (by omega) (by omega)
  unfold jstep
  rw [hI]
  show cond (jn32 (FP.fdiv (ju32 x) (ju32 y))) _ none = _
  rw [hn]
  rfl


end JTT
def jlg (k : Nat) : Int := match k with
  | 0 => 2 * ((jat 1 3 : Nat) : Int)
  | 1 => 2 * ((jat 1 3 : Nat) : Int) + 2 * ((jat 1 5 : Nat) : Int)
  | 2 => 4 * ((jat 1 3 : Nat) : Int) + 2 * ((jat 1 9 : Nat) : Int)
  | 3 => 6 * ((jat 1 3 : Nat) : Int) - 2 * ((jat 1 15 : Nat) : Int)
  | 4 => 6 * ((jat 1 3 : Nat) : Int) + 2 * ((jat 1 5 : Nat) : Int) - 2 * ((jat 1 23 : Nat) : Int)
  | _ => 6 * ((jat 1 3 : Nat) : Int) + 2 * ((jat 1 5 : Nat) : Int) + 2 * ((jat 1 25 : Nat) : Int)
theorem jrep56e : List.replicate 56 (0 : Int) = jenc 0 := by decide
theorem jenc_sg {v s : Int} (h : v.sign = s) : (jenc v)[0]? = some s := by rw [← h]; rfl
/-- the reference's row of state behind its constructor -/
def jS0u : List Int := [1, 0, 0, 0, 0, 0, 0, 1] ++ List.replicate 273 0
def jS0 : List Int := [0, 0, 0, 0, 0, 0, 1, 0, 0, 0, 0, 0, 0, 1, 0, 0, 0, 0, 0, 0, 1, 0, 0, 0, 0, 0, 0, 1, 0, 0, 0, 0, 0, 0, 1, 0, 0, 0, 0, 0, 0, 1, 0, 0, 0, 0, 0, 0, 1, 0, 0, 0, 0, 0, 0, 1] ++ (jS0u ++ (jS0u ++ (jS0u ++ (jS0u ++ List.replicate 433 0))))
theorem jS0_len : jS0.length = 1613 := by decide +kernel
theorem jS0_r0 {r : Int} (h0 : 0 ≤ r) (h1 : r ≤ 7) : jS0[(7 * r).toNat]? = some 0 := by
  have h := (by decide +kernel : ∀ k, k < 8 → jS0[7 * k + 0]? = some 0) r.toNat (by omega)
  rw [show 7 * r.toNat + 0 = (7 * r).toNat by omega] at h
  exact h
theorem jS0_r1 {r : Int} (h0 : 0 ≤ r) (h1 : r ≤ 7) : jS0[(7 * r + 1).toNat]? = some 0 := by
  have h := (by decide +kernel : ∀ k, k < 8 → jS0[7 * k + 1]? = some 0) r.toNat (by omega)
  rw [show 7 * r.toNat + 1 = (7 * r + 1).toNat by omega] at h
  exact h
theorem jS0_r2 {r : Int} (h0 : 0 ≤ r) (h1 : r ≤ 7) : jS0[(7 * r + 2).toNat]? = some 0 := by
  have h := (by decide +kernel : ∀ k, k < 8 → jS0[7 * k + 2]? = some 0) r.toNat (by omega)
  rw [show 7 * r.toNat + 2 = (7 * r + 2).toNat by omega] at h
  exact h
theorem jS0_r3 {r : Int} (h0 : 0 ≤ r) (h1 : r ≤ 7) : jS0[(7 * r + 3).toNat]? = some 0 := by
  have h := (by decide +kernel : ∀ k, k < 8 → jS0[7 * k + 3]? = some 0) r.toNat (by omega)
  rw [show 7 * r.toNat + 3 = (7 * r + 3).toNat by omega] at h
  exact h
theorem jS0_r4 {r : Int} (h0 : 0 ≤ r) (h1 : r ≤ 7) : jS0[(7 * r + 4).toNat]? = some 0 := by
  have h := (by decide +kernel : ∀ k, k < 8 → jS0[7 * k + 4]? = some 0) r.toNat (by omega)
  rw [show 7 * r.toNat + 4 = (7 * r + 4).toNat by omega] at h
  exact h
theorem jS0_r5 {r : Int} (h0 : 0 ≤ r) (h1 : r ≤ 7) : jS0[(7 * r + 5).toNat]? = some 0 := by
  have h := (by decide +kernel : ∀ k, k < 8 → jS0[7 * k + 5]? = some 0) r.toNat (by omega)
  rw [show 7 * r.toNat + 5 = (7 * r + 5).toNat by omega] at h
  exact h
theorem jS0_r6 {r : Int} (h0 : 0 ≤ r) (h1 : r ≤ 7) : jS0[(7 * r + 6).toNat]? = some 1 := by
  have h := (by decide +kernel : ∀ k, k < 8 → jS0[7 * k + 6]? = some 1) r.toNat (by omega)
  rw [show 7 * r.toNat + 6 = (7 * r + 6).toNat by omega] at h
  exact h
theorem jS0_s56 {r : Int} (h0 : 0 ≤ r) (h1 : r ≤ 3) : jS0[(281 * r + 56).toNat]? = some 1 := by
  have h := (by decide +kernel : ∀ k, k < 4 → jS0[281 * k + 56]? = some 1) r.toNat (by omega)
  rw [show 281 * r.toNat + 56 = (281 * r + 56).toNat by omega] at h
  exact h
theorem jS0_s57 {r : Int} (h0 : 0 ≤ r) (h1 : r ≤ 3) : jS0[(281 * r + 57).toNat]? = some 0 := by
  have h := (by decide +kernel : ∀ k, k < 4 → jS0[281 * k + 57]? = some 0) r.toNat (by omega)
  rw [show 281 * r.toNat + 57 = (281 * r + 57).toNat by omega] at h
  exact h
theorem jS0_s58 {r : Int} (h0 : 0 ≤ r) (h1 : r ≤ 3) : jS0[(281 * r + 58).toNat]? = some 0 := by
  have h := (by decide +kernel : ∀ k, k < 4 → jS0[281 * k + 58]? = some 0) r.toNat (by omega)
  rw [show 281 * r.toNat + 58 = (281 * r + 58).toNat by omega] at h
  exact h
theorem jS0_s59 {r : Int} (h0 : 0 ≤ r) (h1 : r ≤ 3) : jS0[(281 * r + 59).toNat]? = some 0 := by
  have h := (by decide +kernel : ∀ k, k < 4 → jS0[281 * k + 59]? = some 0) r.toNat (by omega)
  rw [show 281 * r.toNat + 59 = (281 * r + 59).toNat by omega] at h
  exact h
theorem jS0_s60 {r : Int} (h0 : 0 ≤ r) (h1 : r ≤ 3) : jS0[(281 * r + 60).toNat]? = some 0 := by
  have h := (by decide +kernel : ∀ k, k < 4 → jS0[281 * k + 60]? = some 0) r.toNat (by omega)
  rw [show 281 * r.toNat + 60 = (281 * r + 60).toNat by omega] at h
  exact h
theorem jS0_s61 {r : Int} (h0 : 0 ≤ r) (h1 : r ≤ 3) : jS0[(281 * r + 61).toNat]? = some 0 := by
  have h := (by decide +kernel : ∀ k, k < 4 → jS0[281 * k + 61]? = some 0) r.toNat (by omega)
  rw [show 281 * r.toNat + 61 = (281 * r + 61).toNat by omega] at h
  exact h
theorem jS0_s62 {r : Int} (h0 : 0 ≤ r) (h1 : r ≤ 3) : jS0[(281 * r + 62).toNat]? = some 0 := by
  have h := (by decide +kernel : ∀ k, k < 4 → jS0[281 * k + 62]? = some 0) r.toNat (by omega)
  rw [show 281 * r.toNat + 62 = (281 * r + 62).toNat by omega] at h
  exact h
theorem jS0_s63 {r : Int} (h0 : 0 ≤ r) (h1 : r ≤ 3) : jS0[(281 * r + 63).toNat]? = some 1 := by
  have h := (by decide +kernel : ∀ k, k < 4 → jS0[281 * k + 63]? = some 1) r.toNat (by omega)
  rw [show 281 * r.toNat + 63 = (281 * r + 63).toNat by omega] at h
  exact h
theorem jS0_f {r : Int} (h0 : 0 ≤ r) (h1 : r ≤ 11) : jS0[(r + 1180).toNat]? = some 0 := by
  have h := (by decide +kernel : ∀ k, k < 12 → jS0[k + 1180]? = some 0) r.toNat (by omega)
  rw [show r.toNat + 1180 = (r + 1180).toNat by omega] at h
  exact h
theorem jtm_lt {x y : Int} (h0 : 0 ≤ x) (h1 : x < y) : x.tmod y = x := by
  rw [Int.tmod_eq_emod_of_nonneg h0]
  exact Int.emod_eq_of_lt h0 h1
theorem jtm_sub {x y : Int} (h0 : y ≤ x) (h1 : x < y * 2) : x.tmod y = x - y := by
  rw [Int.tmod_eq_emod_of_nonneg (by omega), ← Int.sub_emod_right x y]
  exact Int.emod_eq_of_lt (by omega) (by omega)
section JTT
variable {xs : List Int} {d m n0 pc b1 b2 : Nat} {L : JL} {st : List JV} {hs : List JC} {Q : Nat → JV → List JC → Prop}
/-- a call that throws, its cells behind it told -/
theorem jT_callY (g : List Nat) {y pcN dC bc1 bc2 e : Nat} {as asC : List JV} {LN : JL} {stN : List JV} {hsC hsD hs2 : List JC} (hC : jT xs dC y g.length 0 (jent 0 asC) [] hsC bc1 bc2 (fun k w hsN => k = 1 ∧ w = (0, ((e : Nat) : Int)) ∧ hsN = hsD))
    (hst : jstep xs m pc L st (hs, 0, 0) = some (.inr (.inr (y, as, (pcN, LN, stN), (hs, 0, 0))))) (hw : (Nat.ble (jwid stN) 8 && Nat.ble (jwid as) (jmL (jm y))) = true) (hB : jgB g hs.length = true) (hlen : hsC.length = g.length) (hsb : jSb (jgm g hs.length) hs 0 hsC) (has : as = jrS (jgm g hs.length) asC)
    (hcl : cond (jcH hs.length hs) (cond (jcL hs.length LN) (jcS hs.length stN) false) false = true) (hd : dC < d) (hn : n0 ≤ hs.length) (h1 : bc1 ≤ b1) (h2 : bc2 ≤ b2)
    (hhs2 : jput (jgm g hs.length) hs hsC hsD = hs2) (hx : jXt m pc (0, ((e : Nat) : Int)) (fun k v => Q k v hs2)) : jT xs d m n0 pc L st hs b1 b2 Q := by
  refine jT_call (c1 := 0) (c2 := 0) g hC hst hw hB hlen hsb has hcl hd hn (by omega) (by omega) (fun _ _ hq => absurd hq.1 (by decide)) (fun w hsN hq => ?_)
  obtain ⟨-, rfl, rfl⟩ := hq
  rw [hhs2]
  exact hx
end JTT
theorem jcpyl {X Y : List Int} {s d n k : Nat} (h1 : s + n ≤ X.length) (h2 : d + n ≤ Y.length) (h3 : Y.length = k) : (jcpy X Y s d n).length = k := by
  unfold jcpy
  rw [List.length_append, List.length_append, List.length_take, List.length_take, List.length_drop, List.length_drop]
  omega
theorem jx64b (x y : Int) : (Int64.ofInt x ^^^ Int64.ofInt y).toInt < 0 ↔ ((jwl x < 0) ≠ (jwl y < 0)) := by
  have e : ∀ z : Int, (Int64.ofInt z).toBitVec.msb = decide (jwl z < 0) := by
    intro z
    rw [BitVec.msb_eq_toInt]
    congr 1
    show ((Int64.ofInt z).toInt < 0) = _
    rw [Int64.toInt_ofInt]
    unfold jwl
    rw [Int.bmod_def]
    simp only [Int64.size]
    apply propext
    constructor <;> intro h <;> omega
  have h1 : (Int64.ofInt x ^^^ Int64.ofInt y).toInt < 0 ↔ (Int64.ofInt x ^^^ Int64.ofInt y).toBitVec.msb = true := by
    rw [BitVec.msb_eq_toInt, decide_eq_true_iff]
    exact Iff.rfl
  rw [h1, Int64.toBitVec_xor, BitVec.msb_xor, e, e]
  by_cases p : jwl x < 0 <;> by_cases q : jwl y < 0 <;> simp [p, q]
theorem jx32b (x y : Int) : (Int32.ofInt x ^^^ Int32.ofInt y).toInt < 0 ↔ ((jw x < 0) ≠ (jw y < 0)) := by
  have e : ∀ z : Int, (Int32.ofInt z).toBitVec.msb = decide (jw z < 0) := by
    intro z
    rw [BitVec.msb_eq_toInt]
    congr 1
    show ((Int32.ofInt z).toInt < 0) = _
    rw [Int32.toInt_ofInt]
    unfold jw
    rw [Int.bmod_def]
    simp only [Int32.size]
    apply propext
    constructor <;> intro h <;> omega
  have h1 : (Int32.ofInt x ^^^ Int32.ofInt y).toInt < 0 ↔ (Int32.ofInt x ^^^ Int32.ofInt y).toBitVec.msb = true := by
    rw [BitVec.msb_eq_toInt, decide_eq_true_iff]
    exact Iff.rfl
  rw [h1, Int32.toBitVec_xor, BitVec.msb_xor, e, e]
  by_cases p : jw x < 0 <;> by_cases q : jw y < 0 <;> simp [p, q]
theorem jtd_y {x y : Int} : x.tdiv y = if 0 ≤ x then x / y else -((-x) / y) := by
  by_cases h : 0 ≤ x
  · rw [if_pos h, Int.tdiv_eq_ediv_of_nonneg h]
  · rw [if_neg h, ← Int.tdiv_eq_ediv_of_nonneg (show 0 ≤ -x by omega), Int.neg_tdiv, Int.neg_neg]
theorem jtm_y {x y : Int} : x.tmod y = if 0 ≤ x then x % y else -((-x) % y) := by
  by_cases h : 0 ≤ x
  · rw [if_pos h, Int.tmod_eq_emod_of_nonneg h]
  · rw [if_neg h, ← Int.tmod_eq_emod_of_nonneg (show 0 ≤ -x by omega), Int.neg_tmod, Int.neg_neg]
