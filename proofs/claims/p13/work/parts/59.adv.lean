/-! the little machine, part 22: many steps at once; steps that a fact is needed for -/
noncomputable def jgon (xs : List Int) (m n : Nat) : Nat → JL → List JV → JH → Option (JF × JH) :=
  Nat.rec (motive := fun _ => Nat → JL → List JV → JH → Option (JF × JH)) (fun pc L st h => some ((pc, L, st), h))
    (fun _ ih pc L st h => match jstep xs m pc L st h with
      | some (.inl (g, h')) => ih g.1 g.2.1 g.2.2 h'
      | _ => none) n
theorem jgon_s {xs : List Int} {m n pc : Nat} {L : JL} {st : List JV} {h : JH} : jgon xs m (n + 1) pc L st h = (match jstep xs m pc L st h with
      | some (.inl (g, h')) => jgon xs m n g.1 g.2.1 g.2.2 h'
      | _ => none) := rfl
theorem jgon_sim {xs : List Int} {m : Nat} : ∀ (n pc : Nat) (L : JL) (st : List JV) (h : JH) (g : JF) (h' : JH), jgon xs m n pc L st h = some (g, h') → ∀ (ρ : Nat → Nat) (H : List JC) (b1 b2 : Nat) (L2 : JL), jEm ρ h.1 H → jLe (jrL ρ L) L2 →
    ∃ H' L3, (∀ f d, jrun xs (f + n) d m pc L2 (jrS ρ st) (H, b1 + h.2.1, b2 + h.2.2) = jrun xs f d m g.1 L3 (jrS ρ g.2.2) (H', b1 + h'.2.1, b2 + h'.2.2)) ∧ jLe (jrL ρ g.2.1) L3 ∧ jEm ρ h'.1 H' ∧ jFq ρ h.1 H h'.1 H' := by
  intro n
  induction n with
  | zero =>
    intro pc L st h g h' hr ρ H b1 b2 L2 E hL
    cases hr
    exact ⟨H, L2, fun _ _ => rfl, hL, E, jFq_rf⟩
  | succ n ih =>
    intro pc L st h g h' hr ρ H b1 b2 L2 E hL
    have S := jstep_sim (xs := xs) (m := m) (pc := pc) (L := L) (st := st) (b1 := b1) (b2 := b2) E hL
    rw [jgon_s] at hr
    cases hs : jstep xs m pc L st h with
    | none => rw [hs] at hr; cases hr
    | some z =>
      have Z := S z hs
      rw [hs] at hr
      match z, hr, Z with
      | .inl (g1, h1), hr, Z =>
        obtain ⟨H1, L3, e1, hL3, E1, F1⟩ := Z
        obtain ⟨H2, L4, e2, hL4, E2, F2⟩ := ih g1.1 g1.2.1 g1.2.2 h1 g h' hr ρ H1 b1 b2 L3 E1 hL3
        refine ⟨H2, L4, fun f d => ?_, hL4, E2, jFq_tr E F1 F2⟩
        rw [show f + (n + 1) = (f + n) + 1 from rfl, jrun_s, e1]
        exact e2 f d
theorem jw_idd {x : Int} (h1 : -2147483648 ≤ x) (h2 : x < 2147483648) : jw x = x := by unfold jw; omega
theorem jwl_idd {x : Int} (h1 : -9223372036854775808 ≤ x) (h2 : x < 9223372036854775808) : jwl x = x := by unfold jwl; omega
theorem jw_z : jw 0 = 0 := by decide
theorem jw_n {k : Nat} (h : k < 2147483648) : jw ((k : Nat) : Int) = Int.ofNat k := by
  rw [jw_idd (by omega) (by omega)]
  rfl
section JTT
variable {xs : List Int} {d m n0 pc b1 b2 : Nat} {L : JL} {st : List JV} {hs : List JC} {Q : Nat → JV → List JC → Prop}
/-- so many steps that only go on -/
theorem jT_adv (n : Nat) {pcN : Nat} {LN : JL} {stN : List JV} {hsN : List JC} {c1 s1 c2 s2 : Nat} (hr : jgon xs m n pc L st (hs, 0, 0) = some ((pcN, LN, stN), (hsN, c1, s1))) (h : jT xs d m n0 pcN LN stN hsN c2 s2 Q) (h1 : c1 + c2 ≤ b1) (h2 : s1 + s2 ≤ b2) : jT xs d m n0 pc L st hs b1 b2 Q := by
  intro ρ H c s L2 E hL
  obtain ⟨H1, L3, e1, hL3, E1, F1⟩ := jgon_sim n pc L st (hs, 0, 0) _ _ hr ρ H c s L2 E hL
  obtain ⟨f, ρ', k, v, hs2, H', c', s', q1, q2, q3, q4, q5, q6, q7, q8, q11, ⟨q9, q10⟩, q12⟩ := h ρ H1 (c + c1) (s + s1) L3 E1 hL3
  refine ⟨f + n, ρ', k, v, hs2, H', c', s', q1, q2, (e1 f d).trans q3, q4, q5, q6, Nat.le_trans F1.2.1 q7, ?_, fun i hi => ?_, ⟨by omega, by omega⟩, fun i c hi0 hi hg => q12 i c hi0 (F1.2.2.2 i c hi hg) hg⟩
  · intro q hq hn
    rw [q8 q (Nat.lt_of_lt_of_le hq F1.2.1) (jFq_back E F1.2.2.2 hq hn), F1.2.2.1 q hq hn]
  · obtain ⟨j, hj, e⟩ := q11 i (Nat.lt_of_lt_of_le hi F1.2.1)
    exact ⟨j, jEm_back E (by omega), e⟩
/-- a jump that hangs on numbers -/
theorem jT_if {c : ClassFile.Cond} {o x : Int} {t : Nat} {r : List JV} (hI : jmI (jm m) pc = (.ifCond c o, 3)) (hst : st = (0, x) :: r) (ht : (pc : Int) + o = Int.ofNat t) (hy : jcmp c x 0 = true → jT xs d m n0 t L r hs b1 b2 Q) (hn : jcmp c x 0 = false → jT xs d m n0 (pc + 3) L r hs b1 b2 Q) : jT xs d m n0 pc L st hs b1 b2 Q := by
  subst hst
  have e : jstep xs m pc L ((0, x) :: r) (hs, 0, 0) = cond (jcmp c x 0) (jnx t L r (hs, 0, 0)) (jnx (pc + 3) L r (hs, 0, 0)) := by
    unfold jstep
    rw [hI]
    show jbr (jcmp c x 0) pc o L r (hs, 0, 0) = _
    unfold jbr
    rw [ht]
  cases hb : jcmp c x 0 with
  | true => exact jT_step (by rw [e, hb]; rfl) (hy hb) (by omega) (by omega)
  | false => exact jT_step (by rw [e, hb]; rfl) (hn hb) (by omega) (by omega)
theorem jT_ic {c : ClassFile.Cond} {o x y : Int} {t : Nat} {r : List JV} (hI : jmI (jm m) pc = (.if_icmp c o, 3)) (hst : st = (0, y) :: (0, x) :: r) (ht : (pc : Int) + o = Int.ofNat t) (hy : jcmp c x y = true → jT xs d m n0 t L r hs b1 b2 Q) (hn : jcmp c x y = false → jT xs d m n0 (pc + 3) L r hs b1 b2 Q) : jT xs d m n0 pc L st hs b1 b2 Q := by
  subst hst
  have e : jstep xs m pc L ((0, y) :: (0, x) :: r) (hs, 0, 0) = cond (jcmp c x y) (jnx t L r (hs, 0, 0)) (jnx (pc + 3) L r (hs, 0, 0)) := by
    unfold jstep
    rw [hI]
    show jbr (jcmp c x y) pc o L r (hs, 0, 0) = _
    unfold jbr
    rw [ht]
  cases hb : jcmp c x y with
  | true => exact jT_step (by rw [e, hb]; rfl) (hy hb) (by omega) (by omega)
  | false => exact jT_step (by rw [e, hb]; rfl) (hn hb) (by omega) (by omega)
/-- a row of ints read -/
theorem jT_iald {i x : Int} {a j : Nat} {r fs : List JV} {X : List Int} (hI : jmI (jm m) pc = (.iaload, 1)) (hst : st = (0, i) :: (4, ((a : Nat) : Int)) :: r) (hc : hs[a]? = some (100, fs, X)) (hj : jw i = .ofNat j) (hx : X[j]? = some x) (h : jT xs d m n0 (pc + 1) L ((0, x) :: r) hs b1 b2 Q) : jT xs d m n0 pc L st hs b1 b2 Q := by
  subst hst
  refine jT_step (c1 := 0) (s1 := 0) ?_ h (by omega) (by omega)
  unfold jstep
  rw [hI]
  show jald 100 0 pc L ((0, i) :: (4, Int.ofNat a) :: r) (hs, 0, 0) = _
  show jcell (hs, 0, 0) (Int.ofNat a) _ = _
  unfold jcell
  dsimp only
  rw [hc]
  dsimp only
  rw [hj]
  dsimp only
  rw [hx]
  rfl
theorem jT_lald {i x : Int} {a j : Nat} {r fs : List JV} {X : List Int} (hI : jmI (jm m) pc = (.laload, 1)) (hst : st = (0, i) :: (4, ((a : Nat) : Int)) :: r) (hc : hs[a]? = some (101, fs, X)) (hj : jw i = .ofNat j) (hx : X[j]? = some x) (h : jT xs d m n0 (pc + 1) L ((1, x) :: r) hs b1 b2 Q) : jT xs d m n0 pc L st hs b1 b2 Q := by
  subst hst
  refine jT_step (c1 := 0) (s1 := 0) ?_ h (by omega) (by omega)
  unfold jstep
  rw [hI]
  show jald 101 1 pc L ((0, i) :: (4, Int.ofNat a) :: r) (hs, 0, 0) = _
  show jcell (hs, 0, 0) (Int.ofNat a) _ = _
  unfold jcell
  dsimp only
  rw [hc]
  dsimp only
  rw [hj]
  dsimp only
  rw [hx]
  rfl
theorem jT_iast {i x : Int} {a j : Nat} {r fs : List JV} {X : List Int} (hI : jmI (jm m) pc = (.iastore, 1)) (hst : st = (0, x) :: (0, i) :: (4, ((a : Nat) : Int)) :: r) (hc : hs[a]? = some (100, fs, X)) (hj : jw i = .ofNat j) (hx : j < X.length) (h : jT xs d m n0 (pc + 1) L r (hs.set a (100, fs, X.set j x)) b1 b2 Q) : jT xs d m n0 pc L st hs b1 b2 Q := by
  subst hst
  refine jT_step (c1 := 0) (s1 := 0) ?_ h (by omega) (by omega)
  unfold jstep
  rw [hI]
  show jcell (hs, 0, 0) (Int.ofNat a) _ = _
  unfold jcell
  dsimp only
  rw [hc]
  dsimp only
  rw [hj]
  dsimp only
  rw [show Nat.blt j X.length = true from Nat.ble_eq_true_of_le hx]
  rfl
theorem jT_ldiv {x y a b : Int} {r : List JV} (hI : jmI (jm m) pc = (.ldiv, 1)) (hst : st = (1, y) :: (1, x) :: r) (ha : jwl x = a) (hb : jwl y = b) (hb0 : b ≠ 0) (h : jT xs d m n0 (pc + 1) L ((1, a.tdiv b) :: r) hs b1 b2 Q) : jT xs d m n0 pc L st hs b1 b2 Q := by
  subst hst
  refine jT_step (c1 := 0) (s1 := 0) ?_ h (by omega) (by omega)
  unfold jstep
  rw [hI]
  show cond (decide (jwl y = 0)) none _ = _
  rw [ha, hb, decide_eq_false hb0]
  rfl
theorem jT_lrem {x y a b : Int} {r : List JV} (hI : jmI (jm m) pc = (.lrem, 1)) (hst : st = (1, y) :: (1, x) :: r) (ha : jwl x = a) (hb : jwl y = b) (hb0 : b ≠ 0) (h : jT xs d m n0 (pc + 1) L ((1, a.tmod b) :: r) hs b1 b2 Q) : jT xs d m n0 pc L st hs b1 b2 Q := by
  subst hst
  refine jT_step (c1 := 0) (s1 := 0) ?_ h (by omega) (by omega)
  unfold jstep
  rw [hI]
  show cond (decide (jwl y = 0)) none _ = _
  rw [ha, hb, decide_eq_false hb0]
  rfl
/-- the same state in other words -/
theorem jT_eq {LN : JL} {stN : List JV} {hsN : List JC} (hL : L = LN) (hS : st = stN) (hH : hs = hsN) (h : jT xs d m n0 pc LN stN hsN b1 b2 Q) : jT xs d m n0 pc L st hs b1 b2 Q := by
  subst hL; subst hS; subst hH; exact h
end JTT
def jcP (c : ClassFile.Cond) (a b : Int) : Prop := match c with
  | .eq => a = b
  | .ne => ¬ a = b
  | .lt => a < b
  | .ge => b ≤ a
  | .gt => b < a
  | .le => a ≤ b
theorem jcmp_iff {c : ClassFile.Cond} {x y a b : Int} (ha : jw x = a) (hb : jw y = b) : jcmp c x y = true ↔ jcP c a b := by
  subst ha; subst hb
  cases c <;> exact decide_eq_true_iff
theorem jcmp_not {c : ClassFile.Cond} {x y a b : Int} (ha : jw x = a) (hb : jw y = b) (h : jcmp c x y = false) : ¬ jcP c a b := fun q => by
  rw [(jcmp_iff ha hb).mpr q] at h
  cases h
section JTT
variable {xs : List Int} {d m n0 pc b1 b2 : Nat} {L : JL} {st : List JV} {hs : List JC} {Q : Nat → JV → List JC → Prop}
theorem jT_if2 {c : ClassFile.Cond} {o x a : Int} {t : Nat} {r : List JV} (hI : jmI (jm m) pc = (.ifCond c o, 3)) (hst : st = (0, x) :: r) (ht : (pc : Int) + o = Int.ofNat t) (ha : jw x = a) (hy : jcP c a 0 → jT xs d m n0 t L r hs b1 b2 Q) (hn : ¬ jcP c a 0 → jT xs d m n0 (pc + 3) L r hs b1 b2 Q) : jT xs d m n0 pc L st hs b1 b2 Q :=
  jT_if hI hst ht (fun q => hy ((jcmp_iff ha jw_z).mp q)) (fun q => hn (jcmp_not ha jw_z q))
theorem jT_ic2 {c : ClassFile.Cond} {o x y a b : Int} {t : Nat} {r : List JV} (hI : jmI (jm m) pc = (.if_icmp c o, 3)) (hst : st = (0, y) :: (0, x) :: r) (ht : (pc : Int) + o = Int.ofNat t) (ha : jw x = a) (hb : jw y = b) (hy : jcP c a b → jT xs d m n0 t L r hs b1 b2 Q) (hn : ¬ jcP c a b → jT xs d m n0 (pc + 3) L r hs b1 b2 Q) : jT xs d m n0 pc L st hs b1 b2 Q :=
  jT_ic hI hst ht (fun q => hy ((jcmp_iff ha hb).mp q)) (fun q => hn (jcmp_not ha hb q))
theorem jT_ifT {c : ClassFile.Cond} {o x a : Int} {t : Nat} {r : List JV} (hI : jmI (jm m) pc = (.ifCond c o, 3)) (hst : st = (0, x) :: r) (ht : (pc : Int) + o = Int.ofNat t) (ha : jw x = a) (hp : jcP c a 0) (hy : jT xs d m n0 t L r hs b1 b2 Q) : jT xs d m n0 pc L st hs b1 b2 Q :=
  jT_if2 hI hst ht ha (fun _ => hy) (fun q => absurd hp q)
theorem jT_ifF {c : ClassFile.Cond} {o x a : Int} {t : Nat} {r : List JV} (hI : jmI (jm m) pc = (.ifCond c o, 3)) (hst : st = (0, x) :: r) (ht : (pc : Int) + o = Int.ofNat t) (ha : jw x = a) (hp : ¬ jcP c a 0) (hn : jT xs d m n0 (pc + 3) L r hs b1 b2 Q) : jT xs d m n0 pc L st hs b1 b2 Q :=
  jT_if2 hI hst ht ha (fun q => absurd q hp) (fun _ => hn)
theorem jT_icT {c : ClassFile.Cond} {o x y a b : Int} {t : Nat} {r : List JV} (hI : jmI (jm m) pc = (.if_icmp c o, 3)) (hst : st = (0, y) :: (0, x) :: r) (ht : (pc : Int) + o = Int.ofNat t) (ha : jw x = a) (hb : jw y = b) (hp : jcP c a b) (hy : jT xs d m n0 t L r hs b1 b2 Q) : jT xs d m n0 pc L st hs b1 b2 Q :=
  jT_ic2 hI hst ht ha hb (fun _ => hy) (fun q => absurd hp q)
theorem jT_icF {c : ClassFile.Cond} {o x y a b : Int} {t : Nat} {r : List JV} (hI : jmI (jm m) pc = (.if_icmp c o, 3)) (hst : st = (0, y) :: (0, x) :: r) (ht : (pc : Int) + o = Int.ofNat t) (ha : jw x = a) (hb : jw y = b) (hp : ¬ jcP c a b) (hn : jT xs d m n0 (pc + 3) L r hs b1 b2 Q) : jT xs d m n0 pc L st hs b1 b2 Q :=
  jT_ic2 hI hst ht ha hb (fun q => absurd q hp) (fun _ => hn)
end JTT
