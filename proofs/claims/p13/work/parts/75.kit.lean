/-! runs that print their own proofs: what they stand on -/
section JTT
variable {xs : List Int} {d m n0 pc b1 b2 : Nat} {L : JL} {st : List JV} {hs : List JC} {Q : Nat → JV → List JC → Prop}
/-- a call whose answer is told, its cells behind it told -/
theorem jT_callB (g : List Nat) {y pcN dC bc1 bc2 c1 c2 : Nat} {as asC : List JV} {LN : JL} {stN : List JV} {hsC hsD : List JC} {v : JV} {st2 : List JV} {hs2 : List JC} (hC : jT xs dC y g.length 0 (jent 0 asC) [] hsC bc1 bc2 (fun k w hsN => k = 0 ∧ w = v ∧ hsN = hsD))
    (hst : jstep xs m pc L st (hs, 0, 0) = some (.inr (.inr (y, as, (pcN, LN, stN), (hs, 0, 0))))) (hw : (Nat.ble (jwid stN) 8 && Nat.ble (jwid as) (jmL (jm y))) = true) (hB : jgB g hs.length = true) (hlen : hsC.length = g.length) (hsb : jSb (jgm g hs.length) hs 0 hsC) (has : as = jrS (jgm g hs.length) asC)
    (hcl : cond (jcH hs.length hs) (cond (jcL hs.length LN) (jcS hs.length stN) false) false = true) (hd : dC < d) (hn : n0 ≤ hs.length) (h1 : bc1 + c1 ≤ b1) (h2 : bc2 + c2 ≤ b2)
    (hst2 : cond (Nat.beq (jmR (jm y)) 9) stN (jrV (jgm g hs.length) v :: stN) = st2) (hhs2 : jput (jgm g hs.length) hs hsC hsD = hs2)
    (cont : jT xs d m n0 pcN LN st2 hs2 c1 c2 Q) : jT xs d m n0 pc L st hs b1 b2 Q := by
  refine jT_call g hC hst hw hB hlen hsb has hcl hd hn h1 h2 (fun w hsN hq => ?_) (fun _ _ hq => absurd hq.1 (by decide))
  obtain ⟨-, rfl, rfl⟩ := hq
  rw [hst2, hhs2]
  exact cont
/-- the same where only new cells come -/
theorem jT_callA (g : List Nat) {y pcN dC bc1 bc2 c1 c2 : Nat} {as asC : List JV} {LN : JL} {stN : List JV} {hsC ex : List JC} {v : JV} {st2 : List JV} {hs2 : List JC} (hC : jT xs dC y g.length 0 (jent 0 asC) [] hsC bc1 bc2 (fun k w hsN => k = 0 ∧ w = v ∧ hsN = hsC ++ ex))
    (hst : jstep xs m pc L st (hs, 0, 0) = some (.inr (.inr (y, as, (pcN, LN, stN), (hs, 0, 0))))) (hw : (Nat.ble (jwid stN) 8 && Nat.ble (jwid as) (jmL (jm y))) = true) (hB : jgB g hs.length = true) (hlen : hsC.length = g.length) (hsb : jSb (jgm g hs.length) hs 0 hsC) (has : as = jrS (jgm g hs.length) asC)
    (hcl : cond (jcH hs.length hs) (cond (jcL hs.length LN) (jcS hs.length stN) false) false = true) (hd : dC < d) (hn : n0 ≤ hs.length) (h1 : bc1 + c1 ≤ b1) (h2 : bc2 + c2 ≤ b2)
    (hst2 : cond (Nat.beq (jmR (jm y)) 9) stN (jrV (jgm g hs.length) v :: stN) = st2) (hhs2 : hs ++ ex.map (jrC (jgm g hs.length)) = hs2)
    (cont : jT xs d m n0 pcN LN st2 hs2 c1 c2 Q) : jT xs d m n0 pc L st hs b1 b2 Q :=
  jT_callB g hC hst hw hB hlen hsb has hcl hd hn h1 h2 hst2 ((jput_new (jgB_inj hB) hsb).trans hhs2) cont
theorem jT_l2d {x z : Int} {r : List JV} (hI : jmI (jm m) pc = (.l2d, 1)) (hst : st = (1, x) :: r) (hz : ((FP.l2d (Int64.ofInt x)).toNat : Int) = z) (h : jT xs d m n0 (pc + 1) L ((3, z) :: r) hs b1 b2 Q) : jT xs d m n0 pc L st hs b1 b2 Q := by
  subst hst; subst hz
  refine jT_step (c1 := 0) (s1 := 0) ?_ h (by omega) (by omega)
  unfold jstep
  rw [hI]
  rfl
theorem jT_d2l {x z : Int} {r : List JV} (hI : jmI (jm m) pc = (.d2l, 1)) (hst : st = (3, x) :: r) (hz : (FP.d2l (ju64 x)).toInt = z) (h : jT xs d m n0 (pc + 1) L ((1, z) :: r) hs b1 b2 Q) : jT xs d m n0 pc L st hs b1 b2 Q := by
  subst hst; subst hz
  refine jT_step (c1 := 0) (s1 := 0) ?_ h (by omega) (by omega)
  unfold jstep
  rw [hI]
  rfl
theorem jT_ddiv {x y z : Int} {r : List JV} (hI : jmI (jm m) pc = (.ddiv, 1)) (hst : st = (3, y) :: (3, x) :: r) (hz : jn64 (FP.ddiv (ju64 x) (ju64 y)) = true ∧ ((FP.ddiv (ju64 x) (ju64 y)).toNat : Int) = z) (h : jT xs d m n0 (pc + 1) L ((3, z) :: r) hs b1 b2 Q) : jT xs d m n0 pc L st hs b1 b2 Q := by
  obtain ⟨hn, hz⟩ := hz
  subst hst; subst hz
  refine jT_step (c1 := 0) (s1 := 0) ?_ h (by omega) (by omega)
  unfold jstep
  rw [hI]
  show cond (jn64 (FP.ddiv (ju64 x) (ju64 y))) _ none = _
  rw [hn]
  rfl
theorem jT_dmul {x y z : Int} {r : List JV} (hI : jmI (jm m) pc = (.dmul, 1)) (hst : st = (3, y) :: (3, x) :: r) (hz : jn64 (FP.dmul (ju64 x) (ju64 y)) = true ∧ ((FP.dmul (ju64 x) (ju64 y)).toNat : Int) = z) (h : jT xs d m n0 (pc + 1) L ((3, z) :: r) hs b1 b2 Q) : jT xs d m n0 pc L st hs b1 b2 Q := by
  obtain ⟨hn, hz⟩ := hz
  subst hst; subst hz
  refine jT_step (c1 := 0) (s1 := 0) ?_ h (by omega) (by omega)
  unfold jstep
  rw [hI]
  show cond (jn64 (FP.dmul (ju64 x) (ju64 y))) _ none = _
  rw [hn]
  rfl
theorem jT_dadd {x y z : Int} {r : List JV} (hI : jmI (jm m) pc = (.dadd, 1)) (hst : st = (3, y) :: (3, x) :: r) (hz : jn64 (FP.dadd (ju64 x) (ju64 y)) = true ∧ ((FP.dadd (ju64 x) (ju64 y)).toNat : Int) = z) (h : jT xs d m n0 (pc + 1) L ((3, z) :: r) hs b1 b2 Q) : jT xs d m n0 pc L st hs b1 b2 Q := by
  obtain ⟨hn, hz⟩ := hz
  subst hst; subst hz
  refine jT_step (c1 := 0) (s1 := 0) ?_ h (by omega) (by omega)
  unfold jstep
  rw [hI]
  show cond (jn64 (FP.dadd (ju64 x) (ju64 y))) _ none = _
  rw [hn]
  rfl
end JTT
def jlg (k : Nat) : Int := match k with
  | 0 => 2 * ((jat 1 3 : Nat) : Int)
  | 1 => 2 * ((jat 1 3 : Nat) : Int) + 2 * ((jat 1 5 : Nat) : Int)
  | 2 => 4 * ((jat 1 3 : Nat) : Int) + 2 * ((jat 1 9 : Nat) : Int)
  | 3 => 6 * ((jat 1 3 : Nat) : Int) - 2 * ((jat 1 15 : Nat) : Int)
  | 4 => 6 * ((jat 1 3 : Nat) : Int) + 2 * ((jat 1 5 : Nat) : Int) - 2 * ((jat 1 23 : Nat) : Int)
  | _ => 6 * ((jat 1 3 : Nat) : Int) + 2 * ((jat 1 5 : Nat) : Int) + 2 * ((jat 1 25 : Nat) : Int)
theorem jrep56e : List.replicate 56 (0 : Int) = jenc 0 := by decide
theorem jenc_sg {v s : Int} (h : v.sign = s) : (jenc v)[0]? = some s := by rw [← h]; rfl
/-- the reference's row of state behind its constructor -/
def jS0u : List Int := [1, 0, 0, 0, 0, 0, 0, 1] ++ List.replicate 273 0
def jS0 : List Int := [0, 0, 0, 0, 0, 0, 1, 0, 0, 0, 0, 0, 0, 1, 0, 0, 0, 0, 0, 0, 1, 0, 0, 0, 0, 0, 0, 1, 0, 0, 0, 0, 0, 0, 1, 0, 0, 0, 0, 0, 0, 1, 0, 0, 0, 0, 0, 0, 1, 0, 0, 0, 0, 0, 0, 1] ++ (jS0u ++ (jS0u ++ (jS0u ++ (jS0u ++ List.replicate 433 0))))
section JTT
variable {xs : List Int} {d m n0 pc b1 b2 : Nat} {L : JL} {st : List JV} {hs : List JC} {Q : Nat → JV → List JC → Prop}
/-- a call that throws, its cells behind it told -/
theorem jT_callY (g : List Nat) {y pcN dC bc1 bc2 e : Nat} {as asC : List JV} {LN : JL} {stN : List JV} {hsC hsD hs2 : List JC} (hC : jT xs dC y g.length 0 (jent 0 asC) [] hsC bc1 bc2 (fun k w hsN => k = 1 ∧ w = (0, ((e : Nat) : Int)) ∧ hsN = hsD))
    (hst : jstep xs m pc L st (hs, 0, 0) = some (.inr (.inr (y, as, (pcN, LN, stN), (hs, 0, 0))))) (hw : (Nat.ble (jwid stN) 8 && Nat.ble (jwid as) (jmL (jm y))) = true) (hB : jgB g hs.length = true) (hlen : hsC.length = g.length) (hsb : jSb (jgm g hs.length) hs 0 hsC) (has : as = jrS (jgm g hs.length) asC)
    (hcl : cond (jcH hs.length hs) (cond (jcL hs.length LN) (jcS hs.length stN) false) false = true) (hd : dC < d) (hn : n0 ≤ hs.length) (h1 : bc1 ≤ b1) (h2 : bc2 ≤ b2)
    (hhs2 : jput (jgm g hs.length) hs hsC hsD = hs2) (hx : jXt m pc (0, ((e : Nat) : Int)) (fun k v => Q k v hs2)) : jT xs d m n0 pc L st hs b1 b2 Q := by
  refine jT_call (c1 := 0) (c2 := 0) g hC hst hw hB hlen hsb has hcl hd hn (by omega) (by omega) (fun _ _ hq => absurd hq.1 (by decide)) (fun w hsN hq => ?_)
  obtain ⟨-, rfl, rfl⟩ := hq
  rw [hhs2]
  exact hx
end JTT
