/-! stretches without names, reckoned -/
def j6 (st : List JV) : Bool := st.any (fun v => Nat.beq v.1 6)
theorem jstep_xs {xs : List Int} {m pc : Nat} {L : JL} {st : List JV} {h : JH} (h6 : j6 st = false) : jstep xs m pc L st h = jstep [] m pc L st h := by
  unfold jstep
  cases hI : (jmI (jm m) pc).1 with
  | iaload =>
    congr 1
    unfold jstep0
    match st, h6 with
    | [], _ => rfl
    | [(t, i)], _ => cases t <;> rfl
    | (t, i) :: (u, a) :: r, h6 =>
      have hu : Nat.beq u 6 = false := by
        cases hb : Nat.beq u 6 with
        | false => rfl
        | true =>
          have e : j6 ((t, i) :: (u, a) :: r) = true := by
            unfold j6
            rw [List.any_cons, List.any_cons, show Nat.beq ((u, a) : JV).1 6 = true from hb]
            cases Nat.beq ((t, i) : JV).1 6 <;> rfl
          rw [e] at h6
          cases h6
      have hne : u ≠ 6 := fun e => by rw [e] at hu; cases hu
      match t, u, hne with
      | 0, 0, _ => rfl
      | 0, 1, _ => rfl
      | 0, 2, _ => rfl
      | 0, 3, _ => rfl
      | 0, 4, _ => rfl
      | 0, 5, _ => rfl
      | 0, 6, h => exact absurd rfl h
      | 0, u + 7, _ => rfl
      | t + 1, u, _ => rfl
  | arraylength =>
    congr 1
    unfold jstep0
    match st, h6 with
    | [], _ => rfl
    | (u, a) :: r, h6 =>
      have hu : Nat.beq u 6 = false := by
        cases hb : Nat.beq u 6 with
        | false => rfl
        | true =>
          have e : j6 ((u, a) :: r) = true := by
            unfold j6
            rw [List.any_cons, show Nat.beq ((u, a) : JV).1 6 = true from hb]
            rfl
          rw [e] at h6
          cases h6
      have hne : u ≠ 6 := fun e => by rw [e] at hu; cases hu
      match u, hne with
      | 0, _ => rfl
      | 1, _ => rfl
      | 2, _ => rfl
      | 3, _ => rfl
      | 4, _ => rfl
      | 5, _ => rfl
      | 6, h => exact absurd rfl h
      | u + 7, _ => rfl
  | _ => rfl
def jgk (m n : Nat) : Nat → JL → List JV → JH → Option (JF × JH) :=
  Nat.rec (motive := fun _ => Nat → JL → List JV → JH → Option (JF × JH)) (fun pc L st h => some ((pc, L, st), h))
    (fun _ ih pc L st h => cond (j6 st) none (match jstep [] m pc L st h with
      | some (.inl (g, h')) => ih g.1 g.2.1 g.2.2 h'
      | _ => none)) n
theorem jgk_ok {xs : List Int} {m : Nat} {z : JF × JH} : ∀ (n pc : Nat) (L : JL) (st : List JV) (h : JH), jgk m n pc L st h = some z → jgon xs m n pc L st h = some z := by
  intro n
  induction n with
  | zero => intro pc L st h hr; exact hr
  | succ n ih =>
    intro pc L st h hr
    have hr : cond (j6 st) none (match jstep [] m pc L st h with
      | some (.inl (g, h')) => jgk m n g.1 g.2.1 g.2.2 h'
      | _ => none) = some z := hr
    rw [jgon_s]
    cases h6 : j6 st with
    | true => rw [h6] at hr; cases hr
    | false =>
      rw [h6] at hr
      rw [jstep_xs h6]
      cases hj : jstep [] m pc L st h with
      | none =>
        rw [hj] at hr
        cases hr
      | some q =>
        rw [hj] at hr
        match q, hr with
        | .inl (g, h1), hr => exact ih _ _ _ _ hr
        | .inr q, hr => cases hr
def jeqL (a b : JL) : Bool := decide (a = b)
def jeqS (a b : List JV) : Bool := decide (a = b)
def jeqH (a b : List JC) : Bool := decide (a = b)
def jgkB (m n pc : Nat) (L : JL) (st : List JV) (hs : List JC) (pcN : Nat) (LN : JL) (stN : List JV) (hsN : List JC) (c1 s1 : Nat) : Bool := match jgk m n pc L st (hs, 0, 0) with
  | some ((p, l, s), (h, c, e)) => cond (Nat.beq p pcN) (cond (jeqL l LN) (cond (jeqS s stN) (cond (jeqH h hsN) (cond (Nat.beq c c1) (Nat.beq e s1) false) false) false) false) false
  | none => false
theorem jgkB_ok {m n pc : Nat} {L : JL} {st : List JV} {hs : List JC} {pcN : Nat} {LN : JL} {stN : List JV} {hsN : List JC} {c1 s1 : Nat} (h : jgkB m n pc L st hs pcN LN stN hsN c1 s1 = true) : jgk m n pc L st (hs, 0, 0) = some ((pcN, LN, stN), (hsN, c1, s1)) := by
  unfold jgkB at h
  cases hj : jgk m n pc L st (hs, 0, 0) with
  | none => rw [hj] at h; cases h
  | some z =>
    obtain ⟨⟨p, l, s⟩, h2, c, e⟩ := z
    rw [hj] at h
    obtain ⟨h1, h⟩ := jcondT h
    obtain ⟨h3, h⟩ := jcondT h
    obtain ⟨h4, h⟩ := jcondT h
    obtain ⟨h5, h⟩ := jcondT h
    obtain ⟨h6, h7⟩ := jcondT h
    rw [Nat.eq_of_beq_eq_true h1, of_decide_eq_true h3, of_decide_eq_true h4, of_decide_eq_true h5, Nat.eq_of_beq_eq_true h6, Nat.eq_of_beq_eq_true h7]
section JTT
variable {xs : List Int} {d m n0 pc b1 b2 : Nat} {L : JL} {st : List JV} {hs : List JC} {Q : Nat → JV → List JC → Prop}
theorem jT_advK (n : Nat) {pcN : Nat} {LN : JL} {stN : List JV} {hsN : List JC} {c1 s1 c2 s2 : Nat} (hr : jgkB m n pc L st hs pcN LN stN hsN c1 s1 = true) (h : jT xs d m n0 pcN LN stN hsN c2 s2 Q) (h1 : c1 + c2 ≤ b1) (h2 : s1 + s2 ≤ b2) : jT xs d m n0 pc L st hs b1 b2 Q :=
  jT_adv n (jgk_ok _ _ _ _ _ (jgkB_ok hr)) h h1 h2
end JTT
/-- a step that calls, without the other instructions -/
def jcallx (m : Nat) (q : Instr × Nat) (pc : Nat) (L : JL) (st : List JV) (h : JH) : JS := match q with
  | (.invokestatic i, 3) => jcalls (jpool (jmC (jm m)) i) pc L st h
  | (.invokevirtual i, 3) => jcallv (jpool (jmC (jm m)) i) pc L st h
  | (.invokespecial i, 3) => jcalli (jpool (jmC (jm m)) i) pc L st h
  | _ => none
theorem jst_call {xs : List Int} {m pc : Nat} {L : JL} {st : List JV} {h : JH} {z : (JF × JH) ⊕ (JO ⊕ (Nat × List JV × JF × JH))} (hr : jcallx m (jmI (jm m) pc) pc L st h = some z) : jstep xs m pc L st h = some z := by
  unfold jstep
  generalize jmI (jm m) pc = q at hr ⊢
  unfold jcallx at hr
  split at hr
  · exact hr
  · exact hr
  · exact hr
  · cases hr
