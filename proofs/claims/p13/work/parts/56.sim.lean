/-! the little machine, part 20: the same run in a larger heap, its cells under other numbers -/
def jrX (ρ : Nat → Nat) (x : Int) : Int := match x with
  | .ofNat k => .ofNat (ρ k)
  | .negSucc k => .negSucc k
def jrV (ρ : Nat → Nat) (v : JV) : JV := cond (Nat.beq v.1 4) (4, jrX ρ v.2) v
abbrev jrS (ρ : Nat → Nat) (st : List JV) : List JV := st.map (jrV ρ)
def jrQ (ρ : Nat → Nat) (q : Nat × JV) : Nat × JV := (q.1, jrV ρ q.2)
abbrev jrL (ρ : Nat → Nat) (L : JL) : JL := L.map (jrQ ρ)
def jrC (ρ : Nat → Nat) (c : JC) : JC := (c.1, c.2.1.map (jrV ρ), cond (Nat.ble 110 c.1) (c.2.2.map (jrX ρ)) c.2.2)
/-- the small heap's cells stand in the large one; what is made next stands at the end of both -/
def jgh : JC := (999, [], [])
/-- a cell that is not told -/
def jisG (c : JC) : Bool := cond (Nat.beq c.1 999) (cond c.2.1.isEmpty c.2.2.isEmpty false) false
def jEm (ρ : Nat → Nat) (hs H : List JC) : Prop := (∀ i j, ρ i = ρ j → i = j) ∧ (∀ i, ρ (hs.length + i) = H.length + i) ∧ ∀ k c, hs[k]? = some c → ρ k < H.length ∧ (jisG c = true ∨ H[ρ k]? = some (jrC ρ c))
def jFq (ρ : Nat → Nat) (hs H hsN H' : List JC) : Prop := hs.length ≤ hsN.length ∧ H.length ≤ H'.length ∧ (∀ q, q < H.length → (∀ (i : Nat) (c : JC), hs[i]? = some c → jisG c = false → ρ i ≠ q) → H'[q]? = H[q]?) ∧ ∀ (i : Nat) (c : JC), hs[i]? = some c → jisG c = true → hsN[i]? = some c
theorem jisG_no {c : JC} (h : Nat.beq c.1 999 = false) : jisG c = false := by unfold jisG; rw [h]; rfl
theorem jisG_is {c : JC} (h : jisG c = true) : c = jgh := by
  obtain ⟨k, fs, es⟩ := c
  unfold jisG at h
  cases hb : Nat.beq k 999 with
  | false => rw [show Nat.beq (k, fs, es).1 999 = false from hb] at h; cases h
  | true =>
    rw [show Nat.beq (k, fs, es).1 999 = true from hb] at h
    have e := Nat.eq_of_beq_eq_true hb
    subst e
    cases fs with
    | cons a r => cases h
    | nil =>
      cases es with
      | cons a r => cases h
      | nil => rfl
/-- the locals of one list are those of another, but for some that are not told -/
def jLe (L L2 : JL) : Prop := (L.map Prod.fst).Nodup ∧ (L2.map Prod.fst).Nodup ∧ ∀ i, (jget L i).1 = 9 ∨ jget L2 i = jget L i
def jSimZ (ρ : Nat → Nat) (hs H : List JC) (b1 b2 : Nat) (z : (JF × JH) ⊕ (JO ⊕ (Nat × List JV × JF × JH))) (y : JS) : Prop := match z with
  | .inl (g, h') => ∃ H' L2, y = some (.inl ((g.1, L2, jrS ρ g.2.2), (H', b1 + h'.2.1, b2 + h'.2.2))) ∧ jLe (jrL ρ g.2.1) L2 ∧ jEm ρ h'.1 H' ∧ jFq ρ hs H h'.1 H'
  | .inr (.inl (k, v, h')) => ∃ H', y = some (.inr (.inl (k, jrV ρ v, (H', b1 + h'.2.1, b2 + h'.2.2)))) ∧ jEm ρ h'.1 H' ∧ jFq ρ hs H h'.1 H'
  | .inr (.inr (w, as, g, h')) => ∃ H' L2, y = some (.inr (.inr (w, jrS ρ as, (g.1, L2, jrS ρ g.2.2), (H', b1 + h'.2.1, b2 + h'.2.2)))) ∧ jLe (jrL ρ g.2.1) L2 ∧ jEm ρ h'.1 H' ∧ jFq ρ hs H h'.1 H'
def jSim (ρ : Nat → Nat) (hs H : List JC) (b1 b2 : Nat) (x y : JS) : Prop := ∀ z, x = some z → jSimZ ρ hs H b1 b2 z y
section JSM
variable {ρ : Nat → Nat} {h : JH} {H : List JC} {b1 b2 : Nat}
theorem jrV_t {t : Nat} {x : Int} (ht : t ≠ 4) : jrV ρ (t, x) = (t, x) := by
  show cond (Nat.beq t 4) _ _ = _
  cases hb : Nat.beq t 4 with
  | false => rfl
  | true => exact absurd (Nat.eq_of_beq_eq_true hb) ht
theorem jrV_fst {v : JV} : (jrV ρ v).1 = v.1 := by
  unfold jrV
  cases hb : Nat.beq v.1 4 with
  | false => rfl
  | true => exact (Nat.eq_of_beq_eq_true hb).symm
theorem jone_rn {v : JV} : jone (jrV ρ v) = jone v := by unfold jone; rw [jrV_fst]
theorem jwid_rn : ∀ st : List JV, jwid (jrS ρ st) = jwid st
  | [] => rfl
  | v :: r => by
    show cond (jone (jrV ρ v)) 1 2 + jwid (jrS ρ r) = cond (jone v) 1 2 + jwid r
    rw [jone_rn, jwid_rn r]
theorem jget_rn (i : Nat) : ∀ L : JL, jget (jrL ρ L) i = jrV ρ (jget L i)
  | [] => rfl
  | (k, v) :: r => by
    show cond (Nat.beq k i) (jrV ρ v) (jget (jrL ρ r) i) = jrV ρ (cond (Nat.beq k i) v (jget r i))
    rw [jget_rn i r]
    cases Nat.beq k i <;> rfl
theorem jk1_rn {i : Nat} {q : Nat × JV} : jk1 i (jrQ ρ q) = jk1 i q := by
  show cond (Nat.beq q.1 i) false (cond (Nat.beq (q.1 + 1) i) (jone (jrV ρ q.2)) true) = _
  rw [jone_rn]; rfl
theorem jk2_rn {i : Nat} {q : Nat × JV} : jk2 i (jrQ ρ q) = jk2 i q := by
  show cond (Nat.beq q.1 i) false (cond (Nat.beq q.1 (i + 1)) false (cond (Nat.beq (q.1 + 1) i) (jone (jrV ρ q.2)) true)) = _
  rw [jone_rn]; rfl
theorem jst1_rn {L : JL} {i : Nat} {v : JV} : jst1 (jrL ρ L) i (jrV ρ v) = jrL ρ (jst1 L i v) := by
  show (i, jrV ρ v) :: (L.map (jrQ ρ)).filter (jk1 i) = (i, jrV ρ v) :: (L.filter (jk1 i)).map (jrQ ρ)
  rw [List.filter_map]
  have e : jk1 i ∘ jrQ ρ = jk1 i := funext fun q => jk1_rn
  rw [e]
theorem jst2_rn {L : JL} {i : Nat} {v : JV} : jst2 (jrL ρ L) i (jrV ρ v) = jrL ρ (jst2 L i v) := by
  show (i, jrV ρ v) :: (L.map (jrQ ρ)).filter (jk2 i) = (i, jrV ρ v) :: (L.filter (jk2 i)).map (jrQ ρ)
  rw [List.filter_map]
  have e : jk2 i ∘ jrQ ρ = jk2 i := funext fun q => jk2_rn
  rw [e]
theorem jget_no {k : Nat} : ∀ L : JL, k ∉ L.map Prod.fst → jget L k = (9, 0)
  | [], _ => rfl
  | (a, v) :: r, h => by
    have h1 : k ≠ a := fun e => h (by rw [e]; exact List.mem_cons_self)
    have h2 : Nat.beq a k = false := by
      cases hb : Nat.beq a k with
      | false => rfl
      | true => exact absurd (Nat.eq_of_beq_eq_true hb).symm h1
    show cond (Nat.beq a k) v (jget r k) = _
    rw [h2]
    exact jget_no r (fun q => h (List.mem_cons_of_mem _ q))
theorem jget_f {p : Nat × JV → Bool} {k : Nat} : ∀ L : JL, (L.map Prod.fst).Nodup → jget (L.filter p) k = cond (p (k, jget L k)) (jget L k) (9, 0)
  | [], _ => by show ((9, 0) : JV) = _; cases p (k, jget [] k) <;> rfl
  | (a, v) :: r, h => by
    have hn := List.nodup_cons.mp (show (a :: r.map Prod.fst).Nodup from h)
    have ih := jget_f (p := p) (k := k) r hn.2
    cases hb : Nat.beq a k with
    | true =>
      have e := Nat.eq_of_beq_eq_true hb
      subst e
      have hg : jget ((a, v) :: r) a = v := by show cond (Nat.beq a a) v _ = v; rw [hb]; rfl
      rw [hg]
      cases hp : p (a, v) with
      | true => rw [List.filter_cons_of_pos hp]; show cond (Nat.beq a a) v _ = v; rw [hb]; rfl
      | false =>
        rw [List.filter_cons_of_neg (by rw [hp]; decide)]
        exact jget_no _ (fun q => by
          obtain ⟨x, hx, e⟩ := List.mem_map.mp q
          exact hn.1 (List.mem_map.mpr ⟨x, (List.mem_filter.mp hx).1, e⟩))
    | false =>
      have hg : jget ((a, v) :: r) k = jget r k := by show cond (Nat.beq a k) v _ = _; rw [hb]; rfl
      rw [hg, ← ih]
      cases hp : p (a, v) with
      | true => rw [List.filter_cons_of_pos hp]; show cond (Nat.beq a k) v _ = _; rw [hb]; rfl
      | false => rw [List.filter_cons_of_neg (by rw [hp]; decide)]
theorem jnd_f {p : Nat × JV → Bool} {L : JL} (h : (L.map Prod.fst).Nodup) : ((L.filter p).map Prod.fst).Nodup := List.Nodup.sublist (List.filter_sublist.map _) h
theorem jLe_st {p : Nat × JV → Bool} {L L2 : JL} {i : Nat} {v : JV} (hp : ∀ w, p (i, w) = false) (h : jLe L L2) : jLe ((i, v) :: L.filter p) ((i, v) :: L2.filter p) := by
  have nd : ∀ M : JL, (M.map Prod.fst).Nodup → (((i, v) :: M.filter p).map Prod.fst).Nodup := fun M hM => List.nodup_cons.mpr ⟨fun q => by
    obtain ⟨x, hx, e⟩ := List.mem_map.mp q
    have h1 := (List.mem_filter.mp hx).2
    obtain ⟨a, w⟩ := x
    have e : a = i := e
    subst e
    rw [hp w] at h1
    exact absurd h1 (by decide), jnd_f hM⟩
  refine ⟨nd L h.1, nd L2 h.2.1, fun k => ?_⟩
  show (cond (Nat.beq i k) v (jget (L.filter p) k)).1 = 9 ∨ cond (Nat.beq i k) v (jget (L2.filter p) k) = cond (Nat.beq i k) v (jget (L.filter p) k)
  cases Nat.beq i k with
  | true => exact Or.inr rfl
  | false =>
    show (jget (L.filter p) k).1 = 9 ∨ jget (L2.filter p) k = jget (L.filter p) k
    rw [jget_f L h.1, jget_f L2 h.2.1]
    rcases h.2.2 k with h9 | he
    · refine Or.inl ?_
      cases p (k, jget L k) with
      | true => exact h9
      | false => rfl
    · rw [he]; exact Or.inr rfl
theorem jk1_i {i : Nat} (w : JV) : jk1 i (i, w) = false := by show cond (Nat.beq i i) _ _ = _; rw [show Nat.beq i i = true from Nat.beq_refl i]; rfl
theorem jk2_i {i : Nat} (w : JV) : jk2 i (i, w) = false := by show cond (Nat.beq i i) _ _ = _; rw [show Nat.beq i i = true from Nat.beq_refl i]; rfl
theorem jLe_st1 {L L2 : JL} {i : Nat} {v : JV} (h : jLe (jrL ρ L) L2) : jLe (jrL ρ (jst1 L i v)) (jst1 L2 i (jrV ρ v)) := by
  rw [← jst1_rn]
  exact jLe_st jk1_i h
theorem jLe_st2 {L L2 : JL} {i : Nat} {v : JV} (h : jLe (jrL ρ L) L2) : jLe (jrL ρ (jst2 L i v)) (jst2 L2 i (jrV ρ v)) := by
  rw [← jst2_rn]
  exact jLe_st jk2_i h
theorem jLe_get {L L2 : JL} (h : jLe (jrL ρ L) L2) (i : Nat) : (jget L i).1 = 9 ∨ jget L2 i = jrV ρ (jget L i) := by
  have h1 := h.2.2 i
  rw [jget_rn, jrV_fst] at h1
  exact h1
theorem jent_k : ∀ (as : List JV) (i k : Nat), k ∈ (jent i as).map Prod.fst → i ≤ k
  | [], _, _, h => nomatch h
  | v :: r, i, k, h => by
    rcases List.mem_cons.mp (show k ∈ i :: (jent (i + cond (jone v) 1 2) r).map Prod.fst from h) with h | h
    · omega
    · have := jent_k r _ k h
      omega
theorem jent_nd : ∀ (as : List JV) (i : Nat), ((jent i as).map Prod.fst).Nodup
  | [], _ => List.nodup_nil
  | v :: r, i => by
    refine List.nodup_cons.mpr ⟨fun h => ?_, jent_nd r _⟩
    have := jent_k r _ _ h
    cases hv : jone v <;> rw [hv] at this <;> simp only [cond_true, cond_false] at this <;> omega
theorem jLe_rf {L : JL} (h : (L.map Prod.fst).Nodup) : jLe L L := ⟨h, h, fun _ => Or.inr rfl⟩
theorem jfit_rn {t : Nat} {v : JV} : jfit t (jrV ρ v) = jfit t v := by
  unfold jfit
  rw [jrV_fst]
  cases h8 : Nat.beq t 8 with
  | false => rfl
  | true =>
    show (Nat.beq v.1 0 && _) = (Nat.beq v.1 0 && _)
    cases h0 : Nat.beq v.1 0 with
    | false => rfl
    | true =>
      have e : jrV ρ v = v := by
        obtain ⟨t', x⟩ := v
        exact jrV_t (by rw [show t' = 0 from Nat.eq_of_beq_eq_true h0]; decide)
      rw [e]
theorem jtake_rn : ∀ (n : Nat) (st acc as r : List JV), jtake n st acc = some (as, r) → jtake n (jrS ρ st) (jrS ρ acc) = some (jrS ρ as, jrS ρ r)
  | 0, st, acc, as, r, q => by cases q; rfl
  | n + 1, [], acc, as, r, q => by cases q
  | n + 1, v :: st, acc, as, r, q => jtake_rn n st (v :: acc) as r q
theorem jent_rn : ∀ (as : List JV) (i : Nat), jent i (jrS ρ as) = jrL ρ (jent i as)
  | [], _ => rfl
  | v :: r, i => by
    show (i, jrV ρ v) :: jent (i + cond (jone (jrV ρ v)) 1 2) (jrS ρ r) = (i, jrV ρ v) :: jrL ρ (jent (i + cond (jone v) 1 2) r)
    rw [jone_rn, jent_rn r]
theorem jrC_e {c : JC} (q : Nat.ble 110 c.1 = false) : (jrC ρ c).2.2 = c.2.2 := by
  show cond (Nat.ble 110 c.1) _ _ = _
  rw [q]; rfl
theorem jrC_q {c : JC} (q : Nat.ble 110 c.1 = true) : (jrC ρ c).2.2 = c.2.2.map (jrX ρ) := by
  show cond (Nat.ble 110 c.1) _ _ = _
  rw [q]; rfl
theorem jFq_rf {hs H : List JC} : jFq ρ hs H hs H := ⟨Nat.le_refl _, Nat.le_refl _, fun _ _ _ => rfl, fun _ _ h _ => h⟩
/-- what stands in a later picture and is told was told before, or is new -/
theorem jFq_back {hs H hs1 : List JC} (E : jEm ρ hs H) (h4 : ∀ (i : Nat) (c : JC), hs[i]? = some c → jisG c = true → hs1[i]? = some c) {q : Nat} (hq : q < H.length) (hn : ∀ (i : Nat) (c : JC), hs[i]? = some c → jisG c = false → ρ i ≠ q) : ∀ (i : Nat) (c : JC), hs1[i]? = some c → jisG c = false → ρ i ≠ q := by
  intro i c hi hg he
  by_cases hlt : i < hs.length
  · have h0 := List.getElem?_eq_getElem hlt
    cases hb : jisG hs[i] with
    | false => exact hn i _ h0 hb he
    | true =>
      have h5 := h4 i _ h0 hb
      rw [hi] at h5
      have h6 : c = hs[i] := Option.some.inj h5
      rw [h6, hb] at hg
      cases hg
  · have := E.2.1 (i - hs.length)
    rw [show hs.length + (i - hs.length) = i from by omega] at this
    omega
theorem jFq_tr {hs H hs1 H1 hs2 H2 : List JC} (E : jEm ρ hs H) (h1 : jFq ρ hs H hs1 H1) (h2 : jFq ρ hs1 H1 hs2 H2) : jFq ρ hs H hs2 H2 := by
  refine ⟨Nat.le_trans h1.1 h2.1, Nat.le_trans h1.2.1 h2.2.1, fun q hq hn => ?_, fun i c hi hg => h2.2.2.2 i c (h1.2.2.2 i c hi hg) hg⟩
  rw [h2.2.2.1 q (Nat.lt_of_lt_of_le hq h1.2.1) (jFq_back E h1.2.2.2 hq hn), h1.2.2.1 q hq hn]
theorem jEm_lt {hs H : List JC} (E : jEm ρ hs H) {k : Nat} (hk : k < hs.length) : ρ k < H.length := (E.2.2 k _ (List.getElem?_eq_getElem hk)).1
theorem jSim_none {hs H : List JC} {y : JS} : jSim ρ hs H b1 b2 none y := fun _ q => nomatch q
theorem jSim_nx {pc : Nat} {L L2 : JL} {st st2 : List JV} (E : jEm ρ h.1 H) (hL : jLe (jrL ρ L) L2) (hS : st2 = jrS ρ st) : jSim ρ h.1 H b1 b2 (jnx pc L st h) (jnx pc L2 st2 (H, b1 + h.2.1, b2 + h.2.2)) := fun z q => by
  cases q; subst hS
  exact ⟨H, L2, rfl, hL, E, jFq_rf⟩
theorem jSim_out {k : Nat} {v v2 : JV} (E : jEm ρ h.1 H) (hv : v2 = jrV ρ v) : jSim ρ h.1 H b1 b2 (jout k v h) (jout k v2 (H, b1 + h.2.1, b2 + h.2.2)) := fun z q => by
  cases q; subst hv
  exact ⟨H, rfl, E, jFq_rf⟩
theorem jSim_cl {w : Nat} {as as2 : List JV} {g : JF} {L2 : JL} {st2 : List JV} (E : jEm ρ h.1 H) (ha : as2 = jrS ρ as) (hL : jLe (jrL ρ g.2.1) L2) (hS : st2 = jrS ρ g.2.2) : jSim ρ h.1 H b1 b2 (jcl w as g h) (jcl w as2 (g.1, L2, st2) (H, b1 + h.2.1, b2 + h.2.2)) := fun z q => by
  cases q; subst ha; subst hS
  exact ⟨H, L2, rfl, hL, E, jFq_rf⟩
theorem jSim_cond {hs H : List JC} {b : Bool} {x y x' y' : JS} (h1 : jSim ρ hs H b1 b2 x x') (h2 : jSim ρ hs H b1 b2 y y') : jSim ρ hs H b1 b2 (cond b x y) (cond b x' y') := by cases b <;> assumption
theorem jSim_condT {hs H : List JC} {b b' : Bool} {x x' : JS} (hb : b' = b) (h1 : b = true → jSim ρ hs H b1 b2 x x') : jSim ρ hs H b1 b2 (cond b x none) (cond b' x' none) := by
  subst hb
  cases hq : b' with
  | true => exact h1 hq
  | false => exact jSim_none
theorem jEm_set {n : Nat} {hs H : List JC} {c c' : JC} (E : jEm ρ hs H) (hn : hs[n]? = some c) : jEm ρ (hs.set n c') (H.set (ρ n) (jrC ρ c')) := by
  refine ⟨E.1, fun i => by rw [List.length_set, List.length_set]; exact E.2.1 i, fun k c2 hk => ?_⟩
  have hlt := (List.getElem?_eq_some_iff.mp hn).1
  have hlt2 := jEm_lt E hlt
  rw [List.getElem?_set] at hk
  rw [List.getElem?_set, List.length_set]
  by_cases hkn : n = k
  · subst hkn
    rw [if_pos rfl, if_pos hlt] at hk
    rw [if_pos rfl, if_pos hlt2]
    cases hk
    exact ⟨hlt2, Or.inr rfl⟩
  · rw [if_neg hkn] at hk
    rw [if_neg (fun q => hkn (E.1 _ _ q))]
    exact E.2.2 k c2 hk
theorem jFq_set {n : Nat} {hs H : List JC} {c c' C' : JC} (hn : hs[n]? = some c) (hg : jisG c = false) : jFq ρ hs H (hs.set n c') (H.set (ρ n) C') := by
  refine ⟨Nat.le_of_eq (List.length_set).symm, Nat.le_of_eq (List.length_set).symm, fun q _ hq => ?_, fun i c2 hi hg2 => ?_⟩
  · rw [List.getElem?_set, if_neg (hq n c hn hg)]
  · rw [List.getElem?_set, if_neg (fun e => ?_)]
    · exact hi
    · subst e
      rw [hn] at hi
      have h6 : c = c2 := Option.some.inj hi
      rw [h6, hg2] at hg
      cases hg
theorem jSim_set {pc n : Nat} {L L2 : JL} {st st2 : List JV} {c c' C' : JC} (E : jEm ρ h.1 H) (hn : h.1[n]? = some c) (hg : Nat.beq c.1 999 = false) (hC : C' = jrC ρ c') (hL : jLe (jrL ρ L) L2) (hS : st2 = jrS ρ st) : jSim ρ h.1 H b1 b2 (jnx pc L st (h.1.set n c', h.2)) (jnx pc L2 st2 (H.set (ρ n) C', b1 + h.2.1, b2 + h.2.2)) := fun z q => by
  cases q; subst hS; subst hC
  exact ⟨_, L2, rfl, hL, jEm_set E hn, jFq_set hn (jisG_no hg)⟩
theorem jEm_app {hs H cs : List JC} (E : jEm ρ hs H) : jEm ρ (hs ++ cs) (H ++ cs.map (jrC ρ)) := by
  refine ⟨E.1, fun i => by rw [List.length_append, List.length_append, List.length_map, Nat.add_assoc, Nat.add_assoc]; exact E.2.1 _, fun k c hk => ?_⟩
  by_cases hlt : k < hs.length
  · rw [List.getElem?_append_left hlt] at hk
    rw [List.getElem?_append_left (jEm_lt E hlt), List.length_append]
    exact ⟨Nat.lt_of_lt_of_le (jEm_lt E hlt) (Nat.le_add_right _ _), (E.2.2 k c hk).2⟩
  · have h1 := E.2.1 (k - hs.length)
    rw [show hs.length + (k - hs.length) = k from by omega] at h1
    rw [List.getElem?_append_right (by omega)] at hk
    have h2 := (List.getElem?_eq_some_iff.mp hk).1
    rw [h1, List.getElem?_append_right (by omega), Nat.add_sub_cancel_left, List.getElem?_map, hk, List.length_append, List.length_map]
    exact ⟨by omega, Or.inr rfl⟩
theorem jFq_app {hs H cs cs' : List JC} : jFq ρ hs H (hs ++ cs) (H ++ cs') := by
  refine ⟨by rw [List.length_append]; omega, by rw [List.length_append]; omega, fun q hq _ => ?_, fun i c hi _ => ?_⟩
  · rw [List.getElem?_append_left hq]
  · rw [List.getElem?_append_left (List.getElem?_eq_some_iff.mp hi).1]
    exact hi
theorem jSim_app {pc x y : Nat} {L L2 : JL} {st st2 : List JV} {cs cs2 : List JC} (E : jEm ρ h.1 H) (hC : cs2 = cs.map (jrC ρ)) (hL : jLe (jrL ρ L) L2) (hS : st2 = jrS ρ st) : jSim ρ h.1 H b1 b2 (jnx pc L st (h.1 ++ cs, h.2.1 + x, h.2.2 + y)) (jnx pc L2 st2 (H ++ cs2, b1 + h.2.1 + x, b2 + h.2.2 + y)) := fun z q => by
  cases q; subst hS; subst hC
  rw [Nat.add_assoc b1, Nat.add_assoc b2]
  exact ⟨_, L2, rfl, hL, jEm_app E, jFq_app⟩
theorem jEm_0 {hs H : List JC} (E : jEm ρ hs H) : ρ hs.length = H.length := E.2.1 0
theorem jSim_new {pc n sz sz' : Nat} {L L2 : JL} {r r2 : List JV} {c C' : JC} (E : jEm ρ h.1 H) (hC : C' = jrC ρ c) (hz : sz' = sz) (hL : jLe (jrL ρ L) L2) (hS : r2 = jrS ρ r) : jSim ρ h.1 H b1 b2 (jnew pc n L r h c sz) (jnew pc n L2 r2 (H, b1 + h.2.1, b2 + h.2.2) C' sz') := by
  subst hz
  refine jSim_app E (by rw [hC]; rfl) hL ?_
  rw [hS]
  show ((4, ((H.length : Nat) : Int)) : JV) :: _ = (4, Int.ofNat (ρ h.1.length)) :: _
  rw [jEm_0 E]
  rfl
theorem jSim_cell {a : Int} {k k' : JC → JS} (E : jEm ρ h.1 H) (hk : ∀ n c, a = .ofNat n → h.1[n]? = some c → Nat.beq c.1 999 = false → jSim ρ h.1 H b1 b2 (k c) (k' (jrC ρ c))) : jSim ρ h.1 H b1 b2 (jcell h a k) (jcell (H, b1 + h.2.1, b2 + h.2.2) (jrX ρ a) k') := fun z q => by
  obtain ⟨n, c, rfl, hc, hg, q⟩ := jcell_some2 q
  have h1 : H[ρ n]? = some (jrC ρ c) := by
    rcases (E.2.2 n c hc).2 with h | h
    · rw [jisG_no hg] at h
      cases h
    · exact h
  have h2 := hk n c rfl hc hg z q
  show jSimZ ρ h.1 H b1 b2 z (match H[ρ n]? with
    | some c => cond (Nat.beq c.1 999) none (k' c)
    | none => none)
  rw [h1]
  show jSimZ ρ h.1 H b1 b2 z (cond (Nat.beq c.1 999) none (k' (jrC ρ c)))
  rw [hg]
  exact h2
theorem jSim_ji2 {hs H : List JC} {st : List JV} {k k' : Int → Int → List JV → JS} (hk : ∀ x y r, jSim ρ hs H b1 b2 (k x y r) (k' x y (jrS ρ r))) : jSim ρ hs H b1 b2 (ji2 st k) (ji2 (jrS ρ st) k') := fun z q => by
  unfold ji2 at q
  split at q
  · exact hk _ _ _ z q
  · cases q
theorem jSim_jl2 {hs H : List JC} {st : List JV} {k k' : Int → Int → List JV → JS} (hk : ∀ x y r, jSim ρ hs H b1 b2 (k x y r) (k' x y (jrS ρ r))) : jSim ρ hs H b1 b2 (jl2 st k) (jl2 (jrS ρ st) k') := fun z q => by
  unfold jl2 at q
  split at q
  · exact hk _ _ _ z q
  · cases q
theorem jSim_jd2 {hs H : List JC} {st : List JV} {k k' : Int → Int → List JV → JS} (hk : ∀ x y r, jSim ρ hs H b1 b2 (k x y r) (k' x y (jrS ρ r))) : jSim ρ hs H b1 b2 (jd2 st k) (jd2 (jrS ρ st) k') := fun z q => by
  unfold jd2 at q
  split at q
  · exact hk _ _ _ z q
  · cases q
theorem jSim_jls {hs H : List JC} {st : List JV} {k k' : Int → Int → List JV → JS} (hk : ∀ x y r, jSim ρ hs H b1 b2 (k x y r) (k' x y (jrS ρ r))) : jSim ρ hs H b1 b2 (jls st k) (jls (jrS ρ st) k') := fun z q => by
  unfold jls at q
  split at q
  · exact hk _ _ _ z q
  · cases q
theorem jSim_ji1 {hs H : List JC} {st : List JV} {k k' : Int → List JV → JS} (hk : ∀ x r, jSim ρ hs H b1 b2 (k x r) (k' x (jrS ρ r))) : jSim ρ hs H b1 b2 (ji1 st k) (ji1 (jrS ρ st) k') := fun z q => by
  unfold ji1 at q
  split at q
  · exact hk _ _ z q
  · cases q
theorem jSim_jl1 {hs H : List JC} {st : List JV} {k k' : Int → List JV → JS} (hk : ∀ x r, jSim ρ hs H b1 b2 (k x r) (k' x (jrS ρ r))) : jSim ρ hs H b1 b2 (jl1 st k) (jl1 (jrS ρ st) k') := fun z q => by
  unfold jl1 at q
  split at q
  · exact hk _ _ z q
  · cases q
theorem jSim_jd1 {hs H : List JC} {st : List JV} {k k' : Int → List JV → JS} (hk : ∀ x r, jSim ρ hs H b1 b2 (k x r) (k' x (jrS ρ r))) : jSim ρ hs H b1 b2 (jd1 st k) (jd1 (jrS ρ st) k') := fun z q => by
  unfold jd1 at q
  split at q
  · exact hk _ _ z q
  · cases q
theorem jSim_jld {t pc n i : Nat} {L : JL} {st : List JV} {L2 : JL} (ht : t ≠ 9) (E : jEm ρ h.1 H) (hL : jLe (jrL ρ L) L2) : jSim ρ h.1 H b1 b2 (jld t pc n i L st h) (jld t pc n i L2 (jrS ρ st) (H, b1 + h.2.1, b2 + h.2.2)) := by
  unfold jld
  refine fun z q => ?_
  obtain ⟨hb, q'⟩ := jcond_some q
  have h0 := Nat.eq_of_beq_eq_true hb
  rcases jLe_get hL i with h9 | he
  · rw [h9] at h0
    exact absurd h0.symm ht
  · rw [he, jrV_fst]
    exact jSim_cond (jSim_nx E hL rfl) jSim_none z q
theorem jSim_jldr {pc n i : Nat} {L : JL} {st : List JV} {L2 : JL} (E : jEm ρ h.1 H) (hL : jLe (jrL ρ L) L2) : jSim ρ h.1 H b1 b2 (jldr pc n i L st h) (jldr pc n i L2 (jrS ρ st) (H, b1 + h.2.1, b2 + h.2.2)) := by
  unfold jldr
  refine fun z q => ?_
  obtain ⟨hb, q'⟩ := jcond_some q
  have h0 := Nat.le_of_ble_eq_true (Bool.and_eq_true_iff.mp hb).2
  rcases jLe_get hL i with h9 | he
  · omega
  · rw [he, jrV_fst]
    exact jSim_cond (jSim_nx E hL rfl) jSim_none z q
theorem jSim_jsv {t pc n m i : Nat} {L : JL} {st : List JV} {L2 : JL} (E : jEm ρ h.1 H) (hL : jLe (jrL ρ L) L2) : jSim ρ h.1 H b1 b2 (jsv t pc n m i L st h) (jsv t pc n m i L2 (jrS ρ st) (H, b1 + h.2.1, b2 + h.2.2)) := by
  cases st with
  | nil => exact jSim_none
  | cons v r =>
    refine jSim_condT (by rw [jrV_fst]) (fun _ => jSim_nx E (jLe_st1 hL) rfl)
theorem jSim_jsv2 {t pc n m i : Nat} {L : JL} {st : List JV} {L2 : JL} (E : jEm ρ h.1 H) (hL : jLe (jrL ρ L) L2) : jSim ρ h.1 H b1 b2 (jsv2 t pc n m i L st h) (jsv2 t pc n m i L2 (jrS ρ st) (H, b1 + h.2.1, b2 + h.2.2)) := by
  cases st with
  | nil => exact jSim_none
  | cons v r =>
    refine jSim_condT (by rw [jrV_fst]) (fun _ => jSim_nx E (jLe_st2 hL) rfl)
theorem jSim_jsvr {pc n m i : Nat} {L : JL} {st : List JV} {L2 : JL} (E : jEm ρ h.1 H) (hL : jLe (jrL ρ L) L2) : jSim ρ h.1 H b1 b2 (jsvr pc n m i L st h) (jsvr pc n m i L2 (jrS ρ st) (H, b1 + h.2.1, b2 + h.2.2)) := by
  cases st with
  | nil => exact jSim_none
  | cons v r =>
    refine jSim_condT (by rw [jrV_fst]) (fun _ => jSim_nx E (jLe_st1 hL) rfl)
theorem jSim_go {pc : Nat} {o : Int} {L L2 : JL} {st st2 : List JV} (E : jEm ρ h.1 H) (hL : jLe (jrL ρ L) L2) (hS : st2 = jrS ρ st) : jSim ρ h.1 H b1 b2 (jgo pc o L st h) (jgo pc o L2 st2 (H, b1 + h.2.1, b2 + h.2.2)) := by
  unfold jgo
  cases (pc : Int) + o with
  | ofNat t => exact jSim_nx E hL hS
  | negSucc t => exact jSim_none
theorem jSim_br {b : Bool} {pc : Nat} {o : Int} {L L2 : JL} {st st2 : List JV} (E : jEm ρ h.1 H) (hL : jLe (jrL ρ L) L2) (hS : st2 = jrS ρ st) : jSim ρ h.1 H b1 b2 (jbr b pc o L st h) (jbr b pc o L2 st2 (H, b1 + h.2.1, b2 + h.2.2)) := by
  unfold jbr
  cases (pc : Int) + o with
  | ofNat t => exact jSim_cond (jSim_nx E hL hS) (jSim_nx E hL hS)
  | negSucc t => exact jSim_none
theorem jSim_jald {kd t pc : Nat} {L : JL} {st : List JV} {L2 : JL} (E : jEm ρ h.1 H) (hL : jLe (jrL ρ L) L2) (hkd : Nat.ble 110 kd = false) (ht : t ≠ 4) : jSim ρ h.1 H b1 b2 (jald kd t pc L st h) (jald kd t pc L2 (jrS ρ st) (H, b1 + h.2.1, b2 + h.2.2)) := fun z q => by
  unfold jald at q
  split at q
  · rename_i i a r
    refine jSim_cell E (fun n c _ _ _ => jSim_condT (b := Nat.beq c.1 kd) rfl (fun hb => ?_)) z q
    rw [jrC_e (by rw [Nat.eq_of_beq_eq_true hb]; exact hkd)]
    cases jw i with
    | negSucc j => exact jSim_none
    | ofNat j =>
      dsimp only
      cases c.2.2[j]? with
      | none => exact jSim_none
      | some x => exact jSim_nx E hL (by show _ = jrV ρ (t, x) :: _; rw [jrV_t ht])
  · cases q
theorem jSim_jast {kd t pc : Nat} {L : JL} {st : List JV} {L2 : JL} (E : jEm ρ h.1 H) (hL : jLe (jrL ρ L) L2) (hkd : Nat.ble 110 kd = false) (ht : t ≠ 4) : jSim ρ h.1 H b1 b2 (jast kd t pc L st h) (jast kd t pc L2 (jrS ρ st) (H, b1 + h.2.1, b2 + h.2.2)) := fun z q => by
  unfold jast at q
  split at q
  · rename_i t' x i a r
    obtain ⟨hb, q2⟩ := jcond_some q
    have ht' : t' = t := Nat.eq_of_beq_eq_true hb
    subst ht'
    show jSimZ ρ h.1 H b1 b2 z (jast kd t' pc L2 (jrV ρ (t', x) :: (0, i) :: (4, jrX ρ a) :: jrS ρ r) (H, b1 + h.2.1, b2 + h.2.2))
    rw [jrV_t ht]
    show jSimZ ρ h.1 H b1 b2 z (cond (Nat.beq t' t') _ none)
    rw [show Nat.beq t' t' = true from Nat.beq_refl t']
    refine jSim_cell E (fun n c ha hn hg => jSim_condT (b := Nat.beq c.1 kd) rfl (fun hb => ?_)) z q2
    subst ha
    have hk : Nat.ble 110 c.1 = false := by rw [Nat.eq_of_beq_eq_true hb]; exact hkd
    rw [jrC_e hk]
    cases jw i with
    | negSucc j => exact jSim_none
    | ofNat j =>
      dsimp only
      refine jSim_condT rfl (fun _ => jSim_set E hn hg ?_ hL rfl)
      show _ = (c.1, c.2.1.map (jrV ρ), cond (Nat.ble 110 c.1) _ _)
      rw [hk]
      rfl
  · cases q
theorem jSim_jtab {kd t pc : Nat} {L : JL} {st : List JV} {tb : Nat → Nat × List Int} {L2 : JL} (E : jEm ρ h.1 H) (hL : jLe (jrL ρ L) L2) (ht : t ≠ 4) : jSim ρ h.1 H b1 b2 (jtab kd t pc L st h tb) (jtab kd t pc L2 (jrS ρ st) (H, b1 + h.2.1, b2 + h.2.2) tb) := fun z q => by
  unfold jtab at q
  split at q
  · rename_i i a r
    revert q
    revert z
    show jSim ρ h.1 H b1 b2 _ (jtab kd t pc L2 ((0, i) :: (5, a) :: jrS ρ r) (H, b1 + h.2.1, b2 + h.2.2) tb)
    unfold jtab
    cases a with
    | negSucc n => exact jSim_none
    | ofNat n =>
      refine jSim_cond ?_ jSim_none
      cases jw i with
      | negSucc j => exact jSim_none
      | ofNat j =>
        dsimp only
        cases (tb n).2[j]? with
        | none => exact jSim_none
        | some x => exact jSim_nx E hL (by show _ = jrV ρ (t, x) :: _; rw [jrV_t ht])
  · cases q
theorem jSim_jgetf {e : Nat × Nat × Int} {pc : Nat} {L : JL} {st : List JV} {L2 : JL} (E : jEm ρ h.1 H) (hL : jLe (jrL ρ L) L2) : jSim ρ h.1 H b1 b2 (jgetf e pc L st h) (jgetf e pc L2 (jrS ρ st) (H, b1 + h.2.1, b2 + h.2.2)) := by
  unfold jgetf
  refine jSim_cond (fun z q => ?_) jSim_none
  split at q
  · rename_i a r
    refine jSim_cell E (fun n c _ _ _ => jSim_condT (b := Nat.beq c.1 e.2.1) rfl (fun hb => ?_)) z q
    show jSim ρ h.1 H b1 b2 _ (match (c.2.1.map (jrV ρ))[e.2.2.toNat]? with
      | some v => jnx (pc + 3) L2 (v :: jrS ρ r) (H, b1 + h.2.1, b2 + h.2.2)
      | none => none)
    rw [List.getElem?_map]
    cases c.2.1[e.2.2.toNat]? with
    | none => exact jSim_none
    | some v => exact jSim_nx E hL rfl
  · cases q
theorem jSim_jputf {e : Nat × Nat × Int} {fin : Nat → Bool} {pc : Nat} {L : JL} {st : List JV} {L2 : JL} (E : jEm ρ h.1 H) (hL : jLe (jrL ρ L) L2) : jSim ρ h.1 H b1 b2 (jputf e fin pc L st h) (jputf e fin pc L2 (jrS ρ st) (H, b1 + h.2.1, b2 + h.2.2)) := by
  unfold jputf
  refine jSim_cond (fun z q => ?_) jSim_none
  split at q
  · rename_i v a r
    refine jSim_cell E (fun n c ha hn hg => jSim_condT ?_ (fun hb => ?_)) z q
    · rw [jfit_rn]
      show (Nat.beq c.1 e.2.1 && Nat.blt e.2.2.toNat (c.2.1.map (jrV ρ)).length && _ && _) = _
      rw [List.length_map]
    · subst ha
      refine jSim_set E hn hg ?_ hL rfl
      show _ = (c.1, (c.2.1.set e.2.2.toNat v).map (jrV ρ), _)
      rw [List.map_set]
      rfl
  · cases q
theorem jSim_jcopy {pc : Nat} {L : JL} {st : List JV} {L2 : JL} (E : jEm ρ h.1 H) (hL : jLe (jrL ρ L) L2) : jSim ρ h.1 H b1 b2 (jcopy pc L st h) (jcopy pc L2 (jrS ρ st) (H, b1 + h.2.1, b2 + h.2.2)) := fun z q => by
  unfold jcopy at q
  split at q
  · rename_i n dp b sp a r
    refine jSim_cell E (fun n1 c _ _ _ => ?_) z q
    refine jSim_cell E (fun n2 d hb hn hg => ?_)
    subst hb
    refine jSim_condT (b := (Nat.beq c.1 d.1 && (Nat.beq c.1 100 || Nat.beq c.1 101))) rfl (fun hc => ?_)
    obtain ⟨h1, h2⟩ := Bool.and_eq_true_iff.mp hc
    have hk : Nat.ble 110 c.1 = false := by
      rcases Bool.or_eq_true_iff.mp h2 with h3 | h3 <;> rw [Nat.eq_of_beq_eq_true h3] <;> rfl
    have hk2 : Nat.ble 110 d.1 = false := by rw [← Nat.eq_of_beq_eq_true h1]; exact hk
    rw [jrC_e hk, jrC_e hk2]
    cases jw sp with
    | negSucc j => exact jSim_none
    | ofNat s0 =>
      cases jw dp with
      | negSucc j => exact jSim_none
      | ofNat d0 =>
        cases jw n with
        | negSucc j => exact jSim_none
        | ofNat n0 =>
          refine jSim_condT rfl (fun _ => jSim_set E hn hg ?_ hL rfl)
          show _ = (d.1, d.2.1.map (jrV ρ), cond (Nat.ble 110 d.1) _ _)
          rw [hk2]
          rfl
  · cases q
theorem jSim_spc {k pc : Nat} {L : JL} {st : List JV} {L2 : JL} (E : jEm ρ h.1 H) (hL : jLe (jrL ρ L) L2) : jSim ρ h.1 H b1 b2 (jspc k pc L st h) (jspc k pc L2 (jrS ρ st) (H, b1 + h.2.1, b2 + h.2.2)) := by
  match k with
  | 0 => exact jSim_ji2 fun x y r => jSim_nx E hL rfl
  | 1 => exact jSim_ji2 fun x y r => jSim_nx E hL rfl
  | 2 => exact jSim_ji1 fun x r => jSim_nx E hL rfl
  | 3 => exact jSim_jl2 fun x y r => jSim_nx E hL rfl
  | 4 => exact jSim_jl2 fun x y r => jSim_nx E hL rfl
  | 5 => exact jSim_jl1 fun x r => jSim_nx E hL rfl
  | 6 => exact jSim_jcopy E hL
  | k + 7 => exact jSim_none
end JSM
