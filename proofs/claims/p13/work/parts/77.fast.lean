/-! calls in pictures without names: one check by reckoning -/
def jgq (N : Nat) : List Nat → Bool
  | [] => true
  | a :: r => cond (Nat.blt a N) (cond (r.all (fun b => !(Nat.beq a b))) (jgq N r) false) false
def jSq (ĝ : Nat → Nat) (hs : List JC) : Nat → List JC → Bool
  | _, [] => true
  | k, c :: r => cond (cond (jisG c) (Nat.blt (ĝ k) hs.length) (decide (hs[ĝ k]? = some (jrC ĝ c)))) (jSq ĝ hs (k + 1) r) false
def jck (g : List Nat) (N : Nat) (hs hsC : List JC) : Bool := cond (Nat.beq hs.length N) (cond (Nat.beq hsC.length g.length) (cond (jgq N g) (cond (jcH N hs) (jSq (jgm g N) hs 0 hsC) false) false) false) false
theorem jgq_lt {N : Nat} : ∀ (g : List Nat), jgq N g = true → ∀ x ∈ g, x < N
  | [], _, x, hx => nomatch hx
  | a :: r, h, x, hx => by
    obtain ⟨h1, h2⟩ := jcondT h
    obtain ⟨h2, h3⟩ := jcondT h2
    rcases List.mem_cons.mp hx with rfl | hx
    · exact Nat.le_of_ble_eq_true h1
    · exact jgq_lt r h3 x hx
theorem jgq_inj {N : Nat} : ∀ (g : List Nat), jgq N g = true → ∀ (i j x : Nat), g[i]? = some x → g[j]? = some x → i = j
  | [], _, i, j, x, hi, _ => by cases i <;> cases hi
  | a :: r, h, i, j, x, hi, hj => by
    obtain ⟨h1, h2⟩ := jcondT h
    obtain ⟨h2, h3⟩ := jcondT h2
    have no : ∀ k : Nat, r[k]? = some a → False := fun k hk => by
      have h4 := List.all_eq_true.mp h2 a (List.mem_of_getElem? hk)
      rw [show Nat.beq a a = true from Nat.beq_refl a] at h4
      cases h4
    match i, j, hi, hj with
    | 0, 0, _, _ => rfl
    | 0, j + 1, hi, hj => cases hi; exact (no j hj).elim
    | i + 1, 0, hi, hj => cases hj; exact (no i hi).elim
    | i + 1, j + 1, hi, hj => rw [jgq_inj r h3 i j x hi hj]
theorem jgq_B {g : List Nat} {N : Nat} (h : jgq N g = true) : jgB g N = true := by
  unfold jgB
  rw [Bool.and_eq_true_iff]
  refine ⟨List.all_eq_true.mpr fun x hx => Nat.ble_eq_true_of_le (jgq_lt g h x hx), List.all_eq_true.mpr fun i hi => List.all_eq_true.mpr fun j hj => ?_⟩
  have hi := List.mem_range.mp hi
  have hj := List.mem_range.mp hj
  cases hb : Nat.beq (g.getD i 0) (g.getD j 0) with
  | false => exact Bool.or_true _
  | true =>
    have e := Nat.eq_of_beq_eq_true hb
    rw [List.getD_eq_getElem?_getD, List.getD_eq_getElem?_getD, List.getElem?_eq_getElem hi, List.getElem?_eq_getElem hj] at e
    have e : g[i] = g[j] := e
    have h2 := jgq_inj g h i j g[i] (List.getElem?_eq_getElem hi) (by rw [List.getElem?_eq_getElem hj, e])
    subst h2
    rw [show Nat.beq i i = true from Nat.beq_refl i]
    rfl
theorem jSq_ok {ĝ : Nat → Nat} {hs : List JC} : ∀ (r : List JC) (k : Nat), jSq ĝ hs k r = true → jSb ĝ hs k r
  | [], _, _ => trivial
  | c :: r, k, h => by
    obtain ⟨h1, h2⟩ := jcondT h
    refine ⟨?_, jSq_ok r (k + 1) h2⟩
    cases hg : jisG c with
    | false =>
      rw [hg] at h1
      exact of_decide_eq_true h1
    | true =>
      rw [hg] at h1
      have hlt : ĝ k < hs.length := Nat.le_of_ble_eq_true h1
      show (hs[ĝ k]?).map (fun _ => jgh) = some (jrC ĝ c)
      rw [List.getElem?_eq_getElem hlt, jisG_is hg]
      rfl
theorem jck_ok {g : List Nat} {N : Nat} {hs hsC : List JC} (h : jck g N hs hsC = true) : hs.length = N ∧ hsC.length = g.length ∧ jgB g N = true ∧ jcH N hs = true ∧ jSb (jgm g N) hs 0 hsC := by
  obtain ⟨h1, h⟩ := jcondT h
  obtain ⟨h2, h⟩ := jcondT h
  obtain ⟨h3, h⟩ := jcondT h
  obtain ⟨h4, h⟩ := jcondT h
  exact ⟨Nat.eq_of_beq_eq_true h1, Nat.eq_of_beq_eq_true h2, jgq_B h3, h4, jSq_ok _ _ h⟩
section JTT
variable {xs : List Int} {d m n0 pc b1 b2 : Nat} {L : JL} {st : List JV} {hs : List JC} {Q : Nat → JV → List JC → Prop}
theorem jT_fB (g : List Nat) (N : Nat) {y pcN dC bc1 bc2 c1 c2 : Nat} {as asC : List JV} {LN : JL} {stN : List JV} {hsC hsD : List JC} {v : JV} {st2 : List JV} {hs2 : List JC} (hC : jT xs dC y g.length 0 (jent 0 asC) [] hsC bc1 bc2 (fun k w hsN => k = 0 ∧ w = v ∧ hsN = hsD))
    (hst : jstep xs m pc L st (hs, 0, 0) = some (.inr (.inr (y, as, (pcN, LN, stN), (hs, 0, 0))))) (hw : (Nat.ble (jwid stN) 8 && Nat.ble (jwid as) (jmL (jm y))) = true) (hk : jck g N hs hsC = true) (has : as = jrS (jgm g N) asC)
    (hcl : cond (jcL N LN) (jcS N stN) false = true) (hd : dC < d) (hn : n0 ≤ N) (h1 : bc1 + c1 ≤ b1) (h2 : bc2 + c2 ≤ b2)
    (hst2 : cond (Nat.beq (jmR (jm y)) 9) stN (jrV (jgm g N) v :: stN) = st2) (hhs2 : jput (jgm g N) hs hsC hsD = hs2)
    (cont : jT xs d m n0 pcN LN st2 hs2 c1 c2 Q) : jT xs d m n0 pc L st hs b1 b2 Q := by
  obtain ⟨e1, e2, e3, e4, e5⟩ := jck_ok hk
  subst e1
  exact jT_callB g hC hst hw e3 e2 e5 has (by rw [e4]; exact hcl) hd hn h1 h2 hst2 hhs2 cont
theorem jT_fA (g : List Nat) (N : Nat) {y pcN dC bc1 bc2 c1 c2 : Nat} {as asC : List JV} {LN : JL} {stN : List JV} {hsC ex : List JC} {v : JV} {st2 : List JV} {hs2 : List JC} (hC : jT xs dC y g.length 0 (jent 0 asC) [] hsC bc1 bc2 (fun k w hsN => k = 0 ∧ w = v ∧ hsN = hsC ++ ex))
    (hst : jstep xs m pc L st (hs, 0, 0) = some (.inr (.inr (y, as, (pcN, LN, stN), (hs, 0, 0))))) (hw : (Nat.ble (jwid stN) 8 && Nat.ble (jwid as) (jmL (jm y))) = true) (hk : jck g N hs hsC = true) (has : as = jrS (jgm g N) asC)
    (hcl : cond (jcL N LN) (jcS N stN) false = true) (hd : dC < d) (hn : n0 ≤ N) (h1 : bc1 + c1 ≤ b1) (h2 : bc2 + c2 ≤ b2)
    (hst2 : cond (Nat.beq (jmR (jm y)) 9) stN (jrV (jgm g N) v :: stN) = st2) (hhs2 : hs ++ ex.map (jrC (jgm g N)) = hs2)
    (cont : jT xs d m n0 pcN LN st2 hs2 c1 c2 Q) : jT xs d m n0 pc L st hs b1 b2 Q := by
  obtain ⟨e1, e2, e3, e4, e5⟩ := jck_ok hk
  subst e1
  exact jT_callA g hC hst hw e3 e2 e5 has (by rw [e4]; exact hcl) hd hn h1 h2 hst2 hhs2 cont
theorem jT_fR (g : List Nat) (N : Nat) {y pcN dC bc1 bc2 c1 c2 : Nat} {as asC : List JV} {LN : JL} {stN : List JV} {hsC : List JC} {v : JV} {st2 : List JV} (hC : jT xs dC y g.length 0 (jent 0 asC) [] hsC bc1 bc2 (fun k w hsN => k = 0 ∧ w = v ∧ hsN = hsC ++ []))
    (hst : jstep xs m pc L st (hs, 0, 0) = some (.inr (.inr (y, as, (pcN, LN, stN), (hs, 0, 0))))) (hw : (Nat.ble (jwid stN) 8 && Nat.ble (jwid as) (jmL (jm y))) = true) (hk : jck g N hs hsC = true) (has : as = jrS (jgm g N) asC)
    (hcl : cond (jcL N LN) (jcS N stN) false = true) (hd : dC < d) (hn : n0 ≤ N) (h1 : bc1 + c1 ≤ b1) (h2 : bc2 + c2 ≤ b2)
    (hst2 : cond (Nat.beq (jmR (jm y)) 9) stN (jrV (jgm g N) v :: stN) = st2)
    (cont : jT xs d m n0 pcN LN st2 hs c1 c2 Q) : jT xs d m n0 pc L st hs b1 b2 Q :=
  jT_fA g N hC hst hw hk has hcl hd hn h1 h2 hst2 (List.append_nil hs) cont
theorem jT_fY (g : List Nat) (N : Nat) {y pcN dC bc1 bc2 e : Nat} {as asC : List JV} {LN : JL} {stN : List JV} {hsC hsD hs2 : List JC} (hC : jT xs dC y g.length 0 (jent 0 asC) [] hsC bc1 bc2 (fun k w hsN => k = 1 ∧ w = (0, ((e : Nat) : Int)) ∧ hsN = hsD))
    (hst : jstep xs m pc L st (hs, 0, 0) = some (.inr (.inr (y, as, (pcN, LN, stN), (hs, 0, 0))))) (hw : (Nat.ble (jwid stN) 8 && Nat.ble (jwid as) (jmL (jm y))) = true) (hk : jck g N hs hsC = true) (has : as = jrS (jgm g N) asC)
    (hcl : cond (jcL N LN) (jcS N stN) false = true) (hd : dC < d) (hn : n0 ≤ N) (h1 : bc1 ≤ b1) (h2 : bc2 ≤ b2)
    (hhs2 : jput (jgm g N) hs hsC hsD = hs2) (hx : jXt m pc (0, ((e : Nat) : Int)) (fun k v => Q k v hs2)) : jT xs d m n0 pc L st hs b1 b2 Q := by
  obtain ⟨e1, e2, e3, e4, e5⟩ := jck_ok hk
  subst e1
  exact jT_callY g hC hst hw e3 e2 e5 has (by rw [e4]; exact hcl) hd hn h1 h2 hhs2 hx
end JTT
section JTT
variable {xs : List Int} {d m n0 pc b1 b2 : Nat} {L : JL} {st : List JV} {hs : List JC} {Q : Nat → JV → List JC → Prop}
theorem jT_land {x y z : Int} {r : List JV} (hI : jmI (jm m) pc = (.land, 1)) (hst : st = (1, y) :: (1, x) :: r) (hz : (Int64.ofInt x &&& Int64.ofInt y).toInt = z) (h : jT xs d m n0 (pc + 1) L ((1, z) :: r) hs b1 b2 Q) : jT xs d m n0 pc L st hs b1 b2 Q := by
  subst hst; subst hz
  refine jT_step (c1 := 0) (s1 := 0) ?_ h (by omega) (by omega)
  unfold jstep
  rw [hI]
  rfl
theorem jT_iand {x y z : Int} {r : List JV} (hI : jmI (jm m) pc = (.iand, 1)) (hst : st = (0, y) :: (0, x) :: r) (hz : (Int32.ofInt x &&& Int32.ofInt y).toInt = z) (h : jT xs d m n0 (pc + 1) L ((0, z) :: r) hs b1 b2 Q) : jT xs d m n0 pc L st hs b1 b2 Q := by
  subst hst; subst hz
  refine jT_step (c1 := 0) (s1 := 0) ?_ h (by omega) (by omega)
  unfold jstep
  rw [hI]
  rfl
end JTT
