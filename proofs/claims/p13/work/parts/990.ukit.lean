/-! runs that make at least so many cells: the judgement jU, its rows out of those of jT -/
/-- so many different numbers below m are at most m -/
theorem ju_pig : ∀ (m n : Nat) (f : Nat → Nat), (∀ i, i < n → f i < m) → (∀ i j, i < n → j < n → f i = f j → i = j) → n ≤ m := by
  intro m
  induction m with
  | zero =>
    intro n f h1 _
    cases n with
    | zero => exact Nat.le_refl _
    | succ n => exact absurd (h1 0 (Nat.succ_pos _)) (Nat.not_lt_zero _)
  | succ m ih =>
    intro n f h1 h2
    cases n with
    | zero => exact Nat.zero_le _
    | succ n =>
      refine Nat.succ_le_succ (ih n (fun i => if f i = m then f n else f i) (fun i hi => ?_) (fun i j hi hj he => ?_))
      · show (if f i = m then f n else f i) < m
        have a1 := h1 i (by omega)
        have a2 := h1 n (by omega)
        by_cases e : f i = m
        · rw [if_pos e]
          have : f n ≠ m := fun q => by have := h2 i n (by omega) (by omega) (by rw [e, q]); omega
          omega
        · rw [if_neg e]
          omega
      · have he : (if f i = m then f n else f i) = (if f j = m then f n else f j) := he
        by_cases ei : f i = m
        · by_cases ej : f j = m
          · exact h2 i j (by omega) (by omega) (by rw [ei, ej])
          · rw [if_pos ei, if_neg ej] at he
            have := h2 n j (by omega) (by omega) he
            omega
        · by_cases ej : f j = m
          · rw [if_neg ei, if_pos ej] at he
            have := h2 i n (by omega) (by omega) he
            omega
          · rw [if_neg ei, if_neg ej] at he
            exact h2 i j (by omega) (by omega) he
/-- a told run that makes at least lo cells -/
def jU (xs : List Int) (d m n0 pc : Nat) (L : JL) (st : List JV) (hs : List JC) (lo : Nat) (Q : Nat → JV → List JC → Prop) : Prop :=
  ∀ (ρ : Nat → Nat) (H : List JC) (c s : Nat) (L2 : JL), jEm ρ hs H → jLe (jrL ρ L) L2 → ∃ (f : Nat) (ρ' : Nat → Nat) (k : Nat) (v : JV) (hsN H' : List JC) (c' s' : Nat), Q k v hsN ∧ k < 2 ∧
    jrun xs f d m pc L2 (jrS ρ st) (H, c, s) = (k, jrV ρ' v, (H', c', s')) ∧ jEm ρ' hsN H' ∧ (∀ i, i < n0 → ρ' i = ρ i) ∧ n0 ≤ hsN.length ∧ H.length ≤ H'.length ∧ (∀ q, q < H.length → (∀ (i : Nat) (c : JC), hs[i]? = some c → jisG c = false → ρ i ≠ q) → H'[q]? = H[q]?) ∧ (∀ i, ρ' i < H.length → ∃ j, j < hs.length ∧ ρ' i = ρ j) ∧ H.length + lo ≤ H'.length ∧ ∀ (i : Nat) (c : JC), i < n0 → hs[i]? = some c → jisG c = true → hsN[i]? = some c
/-- the same numbers before and behind: how much longer -/
theorem ju_grow {ρ : Nat → Nat} {hs hsN H H1 : List JC} (E : jEm ρ hs H) (E1 : jEm ρ hsN H1) (h : hs.length ≤ hsN.length) : H1.length = H.length + (hsN.length - hs.length) := by
  have h1 := E1.2.1 0
  have h2 := E.2.1 (hsN.length - hs.length)
  rw [show hs.length + (hsN.length - hs.length) = hsN.length + 0 from by omega, h1] at h2
  omega
theorem jble {a b : Nat} (h : Nat.ble a b = true) : a ≤ b := Nat.le_of_ble_eq_true h
section JUU
variable {xs : List Int} {d m n0 pc lo pcN : Nat} {L : JL} {st : List JV} {hs : List JC} {Q : Nat → JV → List JC → Prop}
theorem jU.mono {Q' : Nat → JV → List JC → Prop} {d' lo' : Nat} (h : jU xs d m n0 pc L st hs lo Q) (hd : d ≤ d') (h1 : lo' ≤ lo) (hq : ∀ k v hsN, Q k v hsN → Q' k v hsN) : jU xs d' m n0 pc L st hs lo' Q' := by
  intro ρ H c s L2 E hL
  obtain ⟨f, ρ', k, v, hsN, H', c', s', q1, q2, q3, q4, q5, q6, q7, q8, q11, q9, q12⟩ := h ρ H c s L2 E hL
  exact ⟨f, ρ', k, v, hsN, H', c', s', hq _ _ _ q1, q2, jrun_up _ _ _ _ _ _ _ _ _ _ q3 q2 f d' (Nat.le_refl _) hd, q4, q5, q6, q7, q8, q11, by omega, q12⟩
/-- what a told run leaves in its picture it has made -/
theorem jU_of {b1 b2 : Nat} (h : jT xs d m n0 pc L st hs b1 b2 Q) (hn : n0 = hs.length) (hl : ∀ k v hsN, Q k v hsN → hs.length + lo ≤ hsN.length) : jU xs d m n0 pc L st hs lo Q := by
  intro ρ H c s L2 E hL
  obtain ⟨f, ρ', k, v, hsN, H', c', s', q1, q2, q3, q4, q5, q6, q7, q8, q11, q9, q12⟩ := h ρ H c s L2 E hL
  refine ⟨f, ρ', k, v, hsN, H', c', s', q1, q2, q3, q4, q5, q6, q7, q8, q11, ?_, q12⟩
  have h1 := hl _ _ _ q1
  have low : ∀ i, i < lo → H.length ≤ ρ' (hs.length + i) := fun i _ => by
    by_cases hh : ρ' (hs.length + i) < H.length
    · obtain ⟨j, hj, e⟩ := q11 _ hh
      rw [← q5 j (by omega)] at e
      have := q4.1 _ _ e
      omega
    · omega
  have h2 := ju_pig (H'.length - H.length) lo (fun i => ρ' (hs.length + i) - H.length) (fun i hi => by
    show ρ' (hs.length + i) - H.length < _
    have a1 := jEm_lt q4 (k := hs.length + i) (by omega)
    have a2 := low i hi
    omega) (fun i j hi hj he => by
    have he : ρ' (hs.length + i) - H.length = ρ' (hs.length + j) - H.length := he
    have a1 := low i hi
    have a2 := low j hj
    have := q4.1 (hs.length + i) (hs.length + j) (by omega)
    omega)
  omega
theorem jU_run {f k : Nat} {v : JV} {hsN : List JC} {c1 s1 : Nat} (hr : jrun xs f d m pc L st (hs, 0, 0) = (k, v, (hsN, c1, s1))) (hk : k < 2) (hn : n0 ≤ hs.length) (hq : Q k v hsN) : jU xs d m n0 pc L st hs 0 Q := by
  intro ρ H c s L2 E hL
  obtain ⟨H', e1, E1, F1⟩ := jrun_sim f d m pc k L st (hs, 0, 0) (hsN, c1, s1) v hr hk ρ H c s L2 E hL
  exact ⟨f, ρ, k, v, hsN, H', c + c1, s + s1, hq, hk, e1, E1, fun _ _ => rfl, Nat.le_trans hn F1.1, F1.2.1, F1.2.2.1, fun i hi => ⟨i, jEm_back E hi, rfl⟩, F1.2.1, fun i c _ hi hg => F1.2.2.2 i c hi hg⟩
theorem jU_ret {k : Nat} {v : JV} {hsN : List JC} {c1 s1 : Nat} (hst : jstep xs m pc L st (hs, 0, 0) = some (.inr (.inl (k, v, (hsN, c1, s1))))) (hk : k < 2) (hn : n0 ≤ hs.length) (hq : Q k v hsN) : jU xs d m n0 pc L st hs 0 Q :=
  jU_run (f := 1) (by rw [jrun_s, hst]) hk hn hq
theorem jU_step {pcN : Nat} {LN : JL} {stN : List JV} {hsN : List JC} {c1 s1 : Nat} (hst : jstep xs m pc L st (hs, 0, 0) = some (.inl ((pcN, LN, stN), (hsN, c1, s1)))) (h : jU xs d m n0 pcN LN stN hsN lo Q) : jU xs d m n0 pc L st hs lo Q := by
  intro ρ H c s L2 E hL
  obtain ⟨H1, L3, e1, hL3, E1, F1⟩ := jstep_sim (xs := xs) (m := m) (pc := pc) (L := L) (st := st) (h := (hs, 0, 0)) (b1 := c) (b2 := s) E hL _ hst
  obtain ⟨f, ρ', k, v, hs2, H', c', s', q1, q2, q3, q4, q5, q6, q7, q8, q11, q9, q12⟩ := h ρ H1 (c + c1) (s + s1) L3 E1 hL3
  refine ⟨f + 1, ρ', k, v, hs2, H', c', s', q1, q2, ?_, q4, q5, q6, Nat.le_trans F1.2.1 q7, ?_, fun i hi => ?_, Nat.le_trans (Nat.add_le_add_right F1.2.1 _) q9, fun i c hi0 hi hg => q12 i c hi0 (F1.2.2.2 i c hi hg) hg⟩
  · rw [jrun_s]
    rw [show jstep xs m pc L2 (jrS ρ st) (H, c, s) = _ from e1]
    exact q3
  · intro q hq hn
    rw [q8 q (Nat.lt_of_lt_of_le hq F1.2.1) (jFq_back E F1.2.2.2 hq hn), F1.2.2.1 q hq hn]
  · obtain ⟨j, hj, e⟩ := q11 i (Nat.lt_of_lt_of_le hi F1.2.1)
    exact ⟨j, jEm_back E (by omega), e⟩
/-- so many steps that only go on -/
theorem jU_adv (n : Nat) {pcN : Nat} {LN : JL} {stN : List JV} {hsN : List JC} {c1 s1 c2 : Nat} (hr : jgon xs m n pc L st (hs, 0, 0) = some ((pcN, LN, stN), (hsN, c1, s1))) (h : jU xs d m n0 pcN LN stN hsN c2 Q) (h1 : lo ≤ c1 + c2) (hc : Nat.ble (hs.length + c1) hsN.length = true) : jU xs d m n0 pc L st hs lo Q := by
  intro ρ H c s L2 E hL
  obtain ⟨H1, L3, e1, hL3, E1, F1⟩ := jgon_sim n pc L st (hs, 0, 0) _ _ hr ρ H c s L2 E hL
  obtain ⟨f, ρ', k, v, hs2, H', c', s', q1, q2, q3, q4, q5, q6, q7, q8, q11, q9, q12⟩ := h ρ H1 (c + c1) (s + s1) L3 E1 hL3
  have hg : H1.length = H.length + (hsN.length - hs.length) := ju_grow E E1 F1.1
  have hc := jble hc
  refine ⟨f + n, ρ', k, v, hs2, H', c', s', q1, q2, (e1 f d).trans q3, q4, q5, q6, Nat.le_trans F1.2.1 q7, ?_, fun i hi => ?_, by omega, fun i c hi0 hi hg => q12 i c hi0 (F1.2.2.2 i c hi hg) hg⟩
  · intro q hq hn
    rw [q8 q (Nat.lt_of_lt_of_le hq F1.2.1) (jFq_back E F1.2.2.2 hq hn), F1.2.2.1 q hq hn]
  · obtain ⟨j, hj, e⟩ := q11 i (Nat.lt_of_lt_of_le hi F1.2.1)
    exact ⟨j, jEm_back E (by omega), e⟩
theorem jU_advK (n : Nat) {pcN : Nat} {LN : JL} {stN : List JV} {hsN : List JC} {c1 s1 c2 : Nat} (hr : jgkB m n pc L st hs pcN LN stN hsN c1 s1 = true) (h : jU xs d m n0 pcN LN stN hsN c2 Q) (h1 : lo ≤ c1 + c2) (hc : Nat.ble (hs.length + c1) hsN.length = true) : jU xs d m n0 pc L st hs lo Q :=
  jU_adv n (jgk_ok _ _ _ _ _ (jgkB_ok hr)) h h1 hc
theorem jU_loc {LN : JL} (h1 : (LN.map Prod.fst).Nodup) (h2 : ∀ q ∈ LN, jget L q.1 = q.2) (h : jU xs d m n0 pc LN st hs lo Q) : jU xs d m n0 pc L st hs lo Q := by
  intro ρ H c s L2 E hL
  refine h ρ H c s L2 E ⟨?_, hL.2.1, fun i => ?_⟩
  · show ((LN.map (jrQ ρ)).map Prod.fst).Nodup
    rw [List.map_map]
    exact h1
  · rw [jget_rn, jrV_fst]
    by_cases hi : i ∈ LN.map Prod.fst
    · obtain ⟨q, hq, rfl⟩ := List.mem_map.mp hi
      have h3 : jget LN q.1 = q.2 := jget_mem LN h1 q hq
      rcases jLe_get hL q.1 with h9 | he
      · refine Or.inl ?_
        rw [h3, ← h2 q hq]
        exact h9
      · refine Or.inr ?_
        rw [he, h2 q hq, h3]
    · exact Or.inl (by rw [jget_no LN hi])
theorem jU_gc (g : List Nat) {hs0 : List JC} {L0 : JL} {st0 : List JV} (hB : jgB g hs.length = true) (hlen : hs0.length = g.length) (hsb : jSb (jgm g hs.length) hs 0 hs0) (hL : L = jrL (jgm g hs.length) L0) (hS : st = jrS (jgm g hs.length) st0) (hn : (List.range n0).all (fun i => Nat.blt i g.length && Nat.beq (g.getD i 0) i) = true)
    (h : jU xs d m n0 pc L0 st0 hs0 lo Q) : jU xs d m n0 pc L st hs lo Q := by
  intro ρ H c s L2 E hL2
  have E0 := jEm_sub E hB hlen hsb
  subst hL
  subst hS
  rw [jrL_comp] at hL2
  obtain ⟨f, ρ', k, v, hsN, H', c', s', q1, q2, q3, q4, q5, q6, q7, q8, q11, q9, q12⟩ := h _ H c s L2 E0 hL2
  have hn1 : ∀ i, i < n0 → i < g.length ∧ jgm g hs.length i = i := fun i hi => by
    obtain ⟨h1, h2⟩ := Bool.and_eq_true_iff.mp (List.all_eq_true.mp hn i (List.mem_range.mpr hi))
    exact ⟨Nat.le_of_ble_eq_true h1, by rw [jgm_lt (Nat.le_of_ble_eq_true h1), Nat.eq_of_beq_eq_true h2]⟩
  refine ⟨f, ρ', k, v, hsN, H', c', s', q1, q2, ?_, q4, fun i hi => ?_, q6, q7, fun q hq hne => q8 q hq (fun i c hi hg he => ?_), fun i hi => ?_, q9, fun i c hi hc hg => ?_⟩
  · rw [jrS_comp]
    exact q3
  · rw [q5 i hi]
    show ρ (jgm g hs.length i) = ρ i
    rw [(hn1 i hi).2]
  · have h1 := jSb_get hs0 0 i c hsb hi hg
    rw [Nat.zero_add] at h1
    exact hne _ _ h1 (by rw [jisG_rn]; exact hg) he
  · obtain ⟨j, hj, e⟩ := q11 i hi
    exact ⟨_, jgB_lt hB (show j < g.length by omega), e⟩
  · obtain ⟨h1, h2⟩ := hn1 i hi
    have h3 : i < hs0.length := by omega
    have h4 := List.getElem?_eq_getElem h3
    have h5 : hs0[i] = c := by
      cases hg2 : jisG hs0[i] with
      | true => rw [jisG_is hg2, jisG_is hg]
      | false =>
        have h6 := jSb_get hs0 0 i _ hsb h4 hg2
        rw [Nat.zero_add, h2, hc] at h6
        have h7 : c = jrC (jgm g hs.length) hs0[i] := Option.some.inj h6
        rw [h7, jisG_rn, hg2] at hg
        cases hg
    rw [h5] at h4
    exact q12 i c hi h4 hg
theorem jU_if {c : ClassFile.Cond} {o x : Int} {t : Nat} {r : List JV} (hI : jmI (jm m) pc = (.ifCond c o, 3)) (hst : st = (0, x) :: r) (ht : (pc : Int) + o = Int.ofNat t) (hy : jcmp c x 0 = true → jU xs d m n0 t L r hs lo Q) (hn : jcmp c x 0 = false → jU xs d m n0 (pc + 3) L r hs lo Q) : jU xs d m n0 pc L st hs lo Q := by
  subst hst
  have e : jstep xs m pc L ((0, x) :: r) (hs, 0, 0) = cond (jcmp c x 0) (jnx t L r (hs, 0, 0)) (jnx (pc + 3) L r (hs, 0, 0)) := by
    unfold jstep
    rw [hI]
    show jbr (jcmp c x 0) pc o L r (hs, 0, 0) = _
    unfold jbr
    rw [ht]
  cases hb : jcmp c x 0 with
  | true => exact jU_step (by rw [e, hb]; rfl) (hy hb)
  | false => exact jU_step (by rw [e, hb]; rfl) (hn hb)
theorem jU_ic {c : ClassFile.Cond} {o x y : Int} {t : Nat} {r : List JV} (hI : jmI (jm m) pc = (.if_icmp c o, 3)) (hst : st = (0, y) :: (0, x) :: r) (ht : (pc : Int) + o = Int.ofNat t) (hy : jcmp c x y = true → jU xs d m n0 t L r hs lo Q) (hn : jcmp c x y = false → jU xs d m n0 (pc + 3) L r hs lo Q) : jU xs d m n0 pc L st hs lo Q := by
  subst hst
  have e : jstep xs m pc L ((0, y) :: (0, x) :: r) (hs, 0, 0) = cond (jcmp c x y) (jnx t L r (hs, 0, 0)) (jnx (pc + 3) L r (hs, 0, 0)) := by
    unfold jstep
    rw [hI]
    show jbr (jcmp c x y) pc o L r (hs, 0, 0) = _
    unfold jbr
    rw [ht]
  cases hb : jcmp c x y with
  | true => exact jU_step (by rw [e, hb]; rfl) (hy hb)
  | false => exact jU_step (by rw [e, hb]; rfl) (hn hb)
theorem jU_lald {i x : Int} {a j : Nat} {r fs : List JV} {X : List Int} (hI : jmI (jm m) pc = (.laload, 1)) (hst : st = (0, i) :: (4, ((a : Nat) : Int)) :: r) (hc : hs[a]? = some (101, fs, X)) (hj : jw i = .ofNat j) (hx : X[j]? = some x) (h : jU xs d m n0 (pc + 1) L ((1, x) :: r) hs lo Q) : jU xs d m n0 pc L st hs lo Q := by
  subst hst
  refine jU_step (c1 := 0) (s1 := 0) ?_ h
  unfold jstep
  rw [hI]
  show jald 101 1 pc L ((0, i) :: (4, Int.ofNat a) :: r) (hs, 0, 0) = _
  show jcell (hs, 0, 0) (Int.ofNat a) _ = _
  unfold jcell
  dsimp only
  rw [hc]
  dsimp only
  rw [hj]
  dsimp only
  rw [hx]
  rfl
theorem jU_eq {LN : JL} {stN : List JV} {hsN : List JC} (hL : L = LN) (hS : st = stN) (hH : hs = hsN) (h : jU xs d m n0 pc LN stN hsN lo Q) : jU xs d m n0 pc L st hs lo Q := by
  subst hL; subst hS; subst hH; exact h
theorem jU_ic2 {c : ClassFile.Cond} {o x y a b : Int} {t : Nat} {r : List JV} (hI : jmI (jm m) pc = (.if_icmp c o, 3)) (hst : st = (0, y) :: (0, x) :: r) (ht : (pc : Int) + o = Int.ofNat t) (ha : jw x = a) (hb : jw y = b) (hy : jcP c a b → jU xs d m n0 t L r hs lo Q) (hn : ¬ jcP c a b → jU xs d m n0 (pc + 3) L r hs lo Q) : jU xs d m n0 pc L st hs lo Q :=
  jU_ic hI hst ht (fun q => hy ((jcmp_iff ha hb).mp q)) (fun q => hn (jcmp_not ha hb q))
theorem jU_icT {c : ClassFile.Cond} {o x y a b : Int} {t : Nat} {r : List JV} (hI : jmI (jm m) pc = (.if_icmp c o, 3)) (hst : st = (0, y) :: (0, x) :: r) (ht : (pc : Int) + o = Int.ofNat t) (ha : jw x = a) (hb : jw y = b) (hp : jcP c a b) (hy : jU xs d m n0 t L r hs lo Q) : jU xs d m n0 pc L st hs lo Q :=
  jU_ic2 hI hst ht ha hb (fun _ => hy) (fun q => absurd hp q)
theorem jU_icF {c : ClassFile.Cond} {o x y a b : Int} {t : Nat} {r : List JV} (hI : jmI (jm m) pc = (.if_icmp c o, 3)) (hst : st = (0, y) :: (0, x) :: r) (ht : (pc : Int) + o = Int.ofNat t) (ha : jw x = a) (hb : jw y = b) (hp : ¬ jcP c a b) (hn : jU xs d m n0 (pc + 3) L r hs lo Q) : jU xs d m n0 pc L st hs lo Q :=
  jU_ic2 hI hst ht ha hb (fun q => absurd q hp) (fun _ => hn)
theorem jU_drop (n : Nat) {hs0 ex : List JC} (hh : hs = hs0 ++ ex) (hlen : hs0.length = n) (hcl : cond (jcH n hs0) (cond (jcL n L) (jcS n st) false) false = true) (hn : n0 ≤ n) (h : jU xs d m n0 pc L st hs0 lo Q) : jU xs d m n0 pc L st hs lo Q := by
  subst hh
  subst hlen
  obtain ⟨hc1, hc2⟩ := jcondT hcl
  obtain ⟨hc2, hc3⟩ := jcondT hc2
  have hag : ∀ i, i < hs0.length → jgm (List.range hs0.length) (hs0 ++ ex).length i = (fun i => i) i := fun i hi => jgr_lt hi
  refine jU_gc (List.range hs0.length) (hs0 := hs0) (L0 := L) (st0 := st) (jgr_B (by rw [List.length_append]; omega)) (by rw [List.length_range]) (jSb_of _ _ fun j c hj => ?_) ?_ ?_ ?_ h
  · have hj2 := (List.getElem?_eq_some_iff.mp hj).1
    rw [Nat.zero_add, hag j hj2, List.getElem?_append_left hj2, hj, jrC_ext hag (jcH_get _ _ _ hc1 hj), jrC_id]
  · rw [jrL_ext hag L hc2]
    show L = L.map (jrQ fun i => i)
    rw [show jrQ (fun i => i) = id from funext fun q => by show (q.1, jrV (fun i => i) q.2) = q; rw [jrV_id], List.map_id]
  · rw [jrS_ext hag st hc3, jrS_id]
  · rw [List.all_eq_true]
    intro i hi
    have h3 : i < hs0.length := Nat.lt_of_lt_of_le (List.mem_range.mp hi) hn
    rw [List.length_range, show Nat.blt i hs0.length = true from Nat.ble_eq_true_of_le h3, List.getD_eq_getElem?_getD, List.getElem?_range h3]
    exact Nat.beq_refl i
theorem jU_iand {x y z : Int} {r : List JV} (hI : jmI (jm m) pc = (.iand, 1)) (hst : st = (0, y) :: (0, x) :: r) (hz : (Int32.ofInt x &&& Int32.ofInt y).toInt = z) (h : jU xs d m n0 (pc + 1) L ((0, z) :: r) hs lo Q) : jU xs d m n0 pc L st hs lo Q := by
  subst hst; subst hz
  refine jU_step (c1 := 0) (s1 := 0) ?_ h
  unfold jstep
  rw [hI]
  rfl
theorem jU_xiload_n {i : Fin 4} {v : JV} (hI : jmI (jm m) pc = (.iload_n i, 1)) (hv : jget L i.val = v) (ht : Nat.beq v.1 0 = true) (hp : pc + 1 = pcN) (h : jU xs d m n0 pcN L (v :: st) hs lo Q) : jU xs d m n0 pc L st hs lo Q := by
  subst hp
  refine jU_step (c1 := 0) (s1 := 0) ?_ h
  unfold jstep
  rw [hI]
  show jld 0 pc 1 i.val L st (hs, 0, 0) = _
  unfold jld
  rw [hv, ht]
  rfl
theorem jU_xiload {i : Nat} {v : JV} (hI : jmI (jm m) pc = (.iload i, 2)) (hv : jget L i = v) (ht : Nat.beq v.1 0 = true) (hp : pc + 2 = pcN) (h : jU xs d m n0 pcN L (v :: st) hs lo Q) : jU xs d m n0 pc L st hs lo Q := by
  subst hp
  refine jU_step (c1 := 0) (s1 := 0) ?_ h
  unfold jstep
  rw [hI]
  show jld 0 pc 2 i L st (hs, 0, 0) = _
  unfold jld
  rw [hv, ht]
  rfl
theorem jU_xaload_n {i : Fin 4} {v : JV} (hI : jmI (jm m) pc = (.aload_n i, 1)) (hv : jget L i.val = v) (ht : (Nat.ble 4 v.1 && Nat.ble v.1 7) = true) (hp : pc + 1 = pcN) (h : jU xs d m n0 pcN L (v :: st) hs lo Q) : jU xs d m n0 pc L st hs lo Q := by
  subst hp
  refine jU_step (c1 := 0) (s1 := 0) ?_ h
  unfold jstep
  rw [hI]
  show jldr pc 1 i.val L st (hs, 0, 0) = _
  unfold jldr
  rw [hv, ht]
  rfl
theorem jU_xaload {i : Nat} {v : JV} (hI : jmI (jm m) pc = (.aload i, 2)) (hv : jget L i = v) (ht : (Nat.ble 4 v.1 && Nat.ble v.1 7) = true) (hp : pc + 2 = pcN) (h : jU xs d m n0 pcN L (v :: st) hs lo Q) : jU xs d m n0 pc L st hs lo Q := by
  subst hp
  refine jU_step (c1 := 0) (s1 := 0) ?_ h
  unfold jstep
  rw [hI]
  show jldr pc 2 i L st (hs, 0, 0) = _
  unfold jldr
  rw [hv, ht]
  rfl
theorem jU_xistore {i : Nat} {v : JV} {r : List JV} {LN : JL} (hI : jmI (jm m) pc = (.istore i, 2)) (hst : st = v :: r) (ht : (Nat.beq v.1 0 && Nat.blt i (jmL (jm m))) = true) (hL : jst1 L i v = LN) (hp : pc + 2 = pcN) (h : jU xs d m n0 pcN LN r hs lo Q) : jU xs d m n0 pc L st hs lo Q := by
  subst hL; subst hst
  subst hp
  refine jU_step (c1 := 0) (s1 := 0) ?_ h
  unfold jstep
  rw [hI]
  show cond (Nat.beq v.1 0 && Nat.blt i (jmL (jm m))) _ none = _
  rw [ht]
  rfl
theorem jU_xastore {i : Nat} {v : JV} {r : List JV} {LN : JL} (hI : jmI (jm m) pc = (.astore i, 2)) (hst : st = v :: r) (ht : (Nat.ble 4 v.1 && Nat.ble v.1 7 && Nat.blt i (jmL (jm m))) = true) (hL : jst1 L i v = LN) (hp : pc + 2 = pcN) (h : jU xs d m n0 pcN LN r hs lo Q) : jU xs d m n0 pc L st hs lo Q := by
  subst hL; subst hst
  subst hp
  refine jU_step (c1 := 0) (s1 := 0) ?_ h
  unfold jstep
  rw [hI]
  show cond (Nat.ble 4 v.1 && Nat.ble v.1 7 && Nat.blt i (jmL (jm m))) _ none = _
  rw [ht]
  rfl
theorem jU_xastore_n {i : Fin 4} {v : JV} {r : List JV} {LN : JL} (hI : jmI (jm m) pc = (.astore_n i, 1)) (hst : st = v :: r) (ht : (Nat.ble 4 v.1 && Nat.ble v.1 7 && Nat.blt i.val (jmL (jm m))) = true) (hL : jst1 L i.val v = LN) (hp : pc + 1 = pcN) (h : jU xs d m n0 pcN LN r hs lo Q) : jU xs d m n0 pc L st hs lo Q := by
  subst hL; subst hst
  subst hp
  refine jU_step (c1 := 0) (s1 := 0) ?_ h
  unfold jstep
  rw [hI]
  show cond (Nat.ble 4 v.1 && Nat.ble v.1 7 && Nat.blt i.val (jmL (jm m))) _ none = _
  rw [ht]
  rfl
theorem jU_xiconst {k : Int} (hI : jmI (jm m) pc = (.iconst k, 1)) (hp : pc + 1 = pcN) (h : jU xs d m n0 pcN L ((0, k) :: st) hs lo Q) : jU xs d m n0 pc L st hs lo Q := by
  subst hp
  refine jU_step (c1 := 0) (s1 := 0) ?_ h
  unfold jstep
  rw [hI]
  rfl
theorem jU_xbipush {k : Int} (hI : jmI (jm m) pc = (.bipush k, 2)) (hk : (decide (-128 ≤ k) && decide (k < 128)) = true) (hp : pc + 2 = pcN) (h : jU xs d m n0 pcN L ((0, k) :: st) hs lo Q) : jU xs d m n0 pc L st hs lo Q := by
  subst hp
  refine jU_step (c1 := 0) (s1 := 0) ?_ h
  unfold jstep
  rw [hI]
  show cond (decide (-128 ≤ k) && decide (k < 128)) _ none = _
  rw [hk]
  rfl
theorem jU_xiadd {x y z : Int} {r : List JV} (hI : jmI (jm m) pc = (.iadd, 1)) (hst : st = (0, y) :: (0, x) :: r) (hz : x + y = z) (hp : pc + 1 = pcN) (h : jU xs d m n0 pcN L ((0, z) :: r) hs lo Q) : jU xs d m n0 pc L st hs lo Q := by
  subst hz; subst hst
  subst hp
  refine jU_step (c1 := 0) (s1 := 0) ?_ h
  unfold jstep
  rw [hI]
  rfl
theorem jU_xisub {x y z : Int} {r : List JV} (hI : jmI (jm m) pc = (.isub, 1)) (hst : st = (0, y) :: (0, x) :: r) (hz : x - y = z) (hp : pc + 1 = pcN) (h : jU xs d m n0 pcN L ((0, z) :: r) hs lo Q) : jU xs d m n0 pc L st hs lo Q := by
  subst hz; subst hst
  subst hp
  refine jU_step (c1 := 0) (s1 := 0) ?_ h
  unfold jstep
  rw [hI]
  rfl
theorem jU_xlmul {x y z : Int} {r : List JV} (hI : jmI (jm m) pc = (.lmul, 1)) (hst : st = (1, y) :: (1, x) :: r) (hz : x * y = z) (hp : pc + 1 = pcN) (h : jU xs d m n0 pcN L ((1, z) :: r) hs lo Q) : jU xs d m n0 pc L st hs lo Q := by
  subst hz; subst hst
  subst hp
  refine jU_step (c1 := 0) (s1 := 0) ?_ h
  unfold jstep
  rw [hI]
  rfl
theorem jU_xlsub {x y z : Int} {r : List JV} (hI : jmI (jm m) pc = (.lsub, 1)) (hst : st = (1, y) :: (1, x) :: r) (hz : x - y = z) (hp : pc + 1 = pcN) (h : jU xs d m n0 pcN L ((1, z) :: r) hs lo Q) : jU xs d m n0 pc L st hs lo Q := by
  subst hz; subst hst
  subst hp
  refine jU_step (c1 := 0) (s1 := 0) ?_ h
  unfold jstep
  rw [hI]
  rfl
theorem jU_xi2l {x z : Int} {r : List JV} (hI : jmI (jm m) pc = (.i2l, 1)) (hst : st = (0, x) :: r) (hz : jw x = z) (hp : pc + 1 = pcN) (h : jU xs d m n0 pcN L ((1, z) :: r) hs lo Q) : jU xs d m n0 pc L st hs lo Q := by
  subst hz; subst hst
  subst hp
  refine jU_step (c1 := 0) (s1 := 0) ?_ h
  unfold jstep
  rw [hI]
  rfl
theorem jU_xiinc {i : Nat} {k x z : Int} {LN : JL} (hI : jmI (jm m) pc = (.iinc i k, 3)) (hv : jget L i = (0, x)) (hm : Nat.blt i (jmL (jm m)) = true) (hz : x + k = z) (hL : jst1 L i (0, z) = LN) (hp : pc + 3 = pcN) (h : jU xs d m n0 pcN LN st hs lo Q) : jU xs d m n0 pc L st hs lo Q := by
  subst hL; subst hz
  subst hp
  refine jU_step (c1 := 0) (s1 := 0) ?_ h
  unfold jstep
  rw [hI]
  show cond (Nat.beq (jget L i).1 0 && Nat.blt i (jmL (jm m))) (jnx (pc + 3) (jst1 L i (0, (jget L i).2 + k)) st (hs, 0, 0)) none = _
  rw [hv, hm]
  rfl
theorem jU_xgoto {o : Int} (hI : jmI (jm m) pc = (.goto o, 3)) (hp : (pc : Int) + o = Int.ofNat pcN) (h : jU xs d m n0 pcN L st hs lo Q) : jU xs d m n0 pc L st hs lo Q := by
  refine jU_step (c1 := 0) (s1 := 0) ?_ h
  unfold jstep
  rw [hI]
  show jgo pc o L st (hs, 0, 0) = _
  unfold jgo
  rw [hp]
  rfl
theorem jU_xicT {c : ClassFile.Cond} {o x y : Int} {r : List JV} (hI : jmI (jm m) pc = (.if_icmp c o, 3)) (hst : st = (0, y) :: (0, x) :: r) (hb : jcmp c x y = true) (hp : (pc : Int) + o = Int.ofNat pcN) (h : jU xs d m n0 pcN L r hs lo Q) : jU xs d m n0 pc L st hs lo Q :=
  jU_ic hI hst hp (fun _ => h) (fun q => by rw [hb] at q; cases q)
theorem jU_xicF {c : ClassFile.Cond} {o x y : Int} {t : Nat} {r : List JV} (hI : jmI (jm m) pc = (.if_icmp c o, 3)) (hst : st = (0, y) :: (0, x) :: r) (hb : jcmp c x y = false) (ht : (pc : Int) + o = Int.ofNat t) (hp : pc + 3 = pcN) (h : jU xs d m n0 pcN L r hs lo Q) : jU xs d m n0 pc L st hs lo Q := by
  subst hp
  exact jU_ic hI hst ht (fun q => by rw [hb] at q; cases q) (fun _ => h)
theorem jU_xifF {c : ClassFile.Cond} {o x : Int} {t : Nat} {r : List JV} (hI : jmI (jm m) pc = (.ifCond c o, 3)) (hst : st = (0, x) :: r) (hb : jcmp c x 0 = false) (ht : (pc : Int) + o = Int.ofNat t) (hp : pc + 3 = pcN) (h : jU xs d m n0 pcN L r hs lo Q) : jU xs d m n0 pc L st hs lo Q := by
  subst hp
  exact jU_if hI hst ht (fun q => by rw [hb] at q; cases q) (fun _ => h)
theorem jU_xgetf {i a t ci : Nat} {fi : Int} {r : List JV} {c : JC} {v : JV} (hI : jmI (jm m) pc = (.getfield i, 3)) (hst : st = (4, ((a : Nat) : Int)) :: r) (hq : jpool (jmC (jm m)) i = (t, ci, fi)) (ht : (Nat.beq t 1 || Nat.beq t 2) = true) (hc : hs[a]? = some c) (hk : (!(Nat.beq c.1 999) && Nat.beq c.1 ci) = true) (hv : c.2.1[fi.toNat]? = some v) (hp : pc + 3 = pcN) (h : jU xs d m n0 pcN L (v :: r) hs lo Q) : jU xs d m n0 pc L st hs lo Q := by
  subst hst
  obtain ⟨hk1, hk2⟩ := Bool.and_eq_true_iff.mp hk
  have hk1 : Nat.beq c.1 999 = false := by
    cases hb : Nat.beq c.1 999 with
    | false => rfl
    | true => rw [hb] at hk1; cases hk1
  subst hp
  refine jU_step (c1 := 0) (s1 := 0) ?_ h
  unfold jstep
  rw [hI]
  show jgetf (jpool (jmC (jm m)) i) pc L ((4, ((a : Nat) : Int)) :: r) (hs, 0, 0) = _
  rw [hq]
  show cond (Nat.beq t 1 || Nat.beq t 2) (jcell (hs, 0, 0) ((a : Nat) : Int) _) none = _
  rw [ht, jcell_at hc hk1]
  show cond (Nat.beq c.1 ci) (match c.2.1[fi.toNat]? with
    | some v => jnx (pc + 3) L (v :: r) (hs, 0, 0)
    | none => none) none = _
  rw [hk2, hv]
  rfl
/-- a call, by what is known of the callee on a part of the picture; no throw -/
theorem jU_call0 (g : List Nat) {y pcN dC bc c1 : Nat} {as asC : List JV} {LN : JL} {stN : List JV} {hsC hsD : List JC} {v : JV} {st2 : List JV} {hs2 : List JC} (hC : jU xs dC y g.length 0 (jent 0 asC) [] hsC bc (fun k w hsN => k = 0 ∧ w = v ∧ hsN = hsD))
    (hst : jstep xs m pc L st (hs, 0, 0) = some (.inr (.inr (y, as, (pcN, LN, stN), (hs, 0, 0))))) (hw : (Nat.ble (jwid stN) 8 && Nat.ble (jwid as) (jmL (jm y))) = true) (hB : jgB g hs.length = true) (hlen : hsC.length = g.length) (hsb : jSb (jgm g hs.length) hs 0 hsC) (has : as = jrS (jgm g hs.length) asC)
    (hcl : cond (jcH hs.length hs) (cond (jcL hs.length LN) (jcS hs.length stN) false) false = true) (hd : dC < d) (hn : n0 ≤ hs.length) (h1 : lo ≤ bc + c1)
    (hst2 : cond (Nat.beq (jmR (jm y)) 9) stN (jrV (jgm g hs.length) v :: stN) = st2) (hhs2 : jput (jgm g hs.length) hs hsC hsD = hs2)
    (cont : jU xs d m n0 pcN LN st2 hs2 c1 Q) : jU xs d m n0 pc L st hs lo Q := by
  subst hst2
  subst hhs2
  intro ρ H c s L2 E hL
  obtain ⟨hc1, hc2⟩ := jcondT hcl
  obtain ⟨hc2, hc3⟩ := jcondT hc2
  have E0 := jEm_sub E hB hlen hsb
  obtain ⟨f1, ρ1, k1, v1, hsE, H1, cc, ss, q1, q2, q3, q4, q5, q6, q7, q8, q11, q9, q12⟩ := hC _ H c s _ E0 (jLe_rf (by rw [← jent_rn]; exact jent_nd _ _))
  obtain ⟨rfl, rfl, rfl⟩ := q1
  rw [hlen] at q11
  have hcomp := jg2_comp hB q5
  have EP := jEm_put E hB hc1 q5 q4 hlen hsb q6 q7 q8 q11
  obtain ⟨d1, rfl⟩ : ∃ d1, d = d1 + 1 := ⟨d - 1, by omega⟩
  obtain ⟨H0, L3, e1, hL3, -, F1⟩ := jstep_sim (xs := xs) (m := m) (pc := pc) (L := L) (st := st) (h := (hs, 0, 0)) (b1 := c) (b2 := s) E hL _ hst
  have e1 : jstep xs m pc L2 (jrS ρ st) (H, c, s) = some (.inr (.inr (y, jrS ρ as, (pcN, L3, jrS ρ stN), (H, c, s)))) := by
    obtain ⟨hz, -⟩ := (jstep_inv e1 : jInv m pc _ _ _ (.inr (.inr (y, jrS ρ as, _, _))))
    have hz1 : H0 = H := congrArg Prod.fst hz
    subst hz1
    exact e1
  have hag : ∀ i, i < hs.length → ρ i = jg2 ρ ρ1 hs.length g.length i := fun i hi => (jg2_lt hi).symm
  have hL4 : jLe (jrL (jg2 ρ ρ1 hs.length g.length) LN) L3 := by
    rw [← jrL_ext hag LN hc2]
    exact hL3
  have q3' : jrun xs f1 d1 y 0 (jent 0 (jrS ρ as)) [] (H, c, s) = (0, jrV ρ1 v1, (H1, cc, ss)) := by
    rw [has, jrS_comp, jent_rn]
    exact jrun_up _ _ _ _ _ _ _ _ _ _ q3 q2 f1 d1 (Nat.le_refl _) (by omega)
  have hw' : (Nat.ble (jwid (jrS ρ stN)) 8 && Nat.ble (jwid (jrS ρ as)) (jmL (jm y))) = true := by rw [jwid_rn, jwid_rn]; exact hw
  have frame1 : ∀ q, q < H.length → (∀ (i : Nat) (c : JC), hs[i]? = some c → jisG c = false → ρ i ≠ q) → H1[q]? = H[q]? := fun q hq hne => q8 q hq (fun i c hi hg he => by
    have h1 := jSb_get hsC 0 i c hsb hi hg
    rw [Nat.zero_add] at h1
    exact hne _ _ h1 (by rw [jisG_rn]; exact hg) he)
  have new1 : ∀ i, jg2 ρ ρ1 hs.length g.length i < H.length → ∃ j, j < hs.length ∧ jg2 ρ ρ1 hs.length g.length i = ρ j := by
    intro i hi
    by_cases hlt : i < hs.length
    · exact ⟨i, hlt, jg2_lt hlt⟩
    · rw [jg2_ge hlt] at hi ⊢
      obtain ⟨j, hj, e⟩ := q11 _ hi
      exact ⟨_, jgB_lt hB hj, e⟩
  obtain ⟨f2, ρ', k, v, hsN, H', c', s', r1, r2, r3, r4, r5, r6, r7, r8, r11, r9, r12⟩ := cont _ H1 cc ss L3 EP hL4
  refine ⟨max f1 f2 + 1, ρ', k, v, hsN, H', c', s', r1, r2, ?_, r4, fun i hi => ?_, r6, Nat.le_trans q7 r7, fun q hq hne => ?_, fun i hi => ?_, by omega, fun i c hi hc hg => r12 i c hi (jput_ghost hsb hc hg) hg⟩
  · rw [jrun_s, e1]
    try dsimp only [cond_true]
    rw [hw', jrun_up _ _ _ _ _ _ _ _ _ _ q3' (by decide) (max f1 f2) d1 (Nat.le_max_left _ _) (Nat.le_refl _)]
    show jrun xs (max f1 f2) (d1 + 1) m pcN L3 (cond (Nat.beq (jmR (jm y)) 9) (jrS ρ stN) (jrV ρ1 v1 :: jrS ρ stN)) (H1, cc, ss) = _
    rw [← jrun_up _ _ _ _ _ _ _ _ _ _ r3 r2 (max f1 f2) (d1 + 1) (Nat.le_max_right _ _) (Nat.le_refl _)]
    have es : cond (Nat.beq (jmR (jm y)) 9) (jrS ρ stN) (jrV ρ1 v1 :: jrS ρ stN) = jrS (jg2 ρ ρ1 hs.length g.length) (cond (Nat.beq (jmR (jm y)) 9) stN (jrV (jgm g hs.length) v1 :: stN)) := by
      rw [jrS_ext hag stN hc3]
      cases Nat.beq (jmR (jm y)) 9 with
      | true => rfl
      | false =>
        show jrV ρ1 v1 :: _ = jrV _ (jrV _ v1) :: _
        rw [jrV_comp, hcomp]
    rw [es]
  · rw [r5 i hi, jg2_lt (Nat.lt_of_lt_of_le hi hn)]
  · rw [r8 q (Nat.lt_of_lt_of_le hq q7) (fun i c hi hg he => ?_), frame1 q hq hne]
    by_cases hlt : i < hs.length
    · have h0 := List.getElem?_eq_getElem hlt
      cases hb : jisG hs[i] with
      | true =>
        have h5 := jput_ghost (hsC' := hsE) hsb h0 hb
        rw [hi] at h5
        have h6 : c = hs[i] := Option.some.inj h5
        rw [h6, hb] at hg
        cases hg
      | false =>
        rw [jg2_lt hlt] at he
        exact hne i _ h0 hb he
    · rw [jg2_ge hlt] at he
      obtain ⟨j, hj, e⟩ := q11 _ (by rw [he]; exact hq)
      have e2 : ρ1 (g.length + (i - hs.length)) = ρ1 j := by rw [e, q5 j hj]
      have := q4.1 _ _ e2
      omega
  · obtain ⟨j, hj, e⟩ := r11 i (Nat.lt_of_lt_of_le hi q7)
    obtain ⟨j2, hj2, e2⟩ := new1 j (by rw [← e]; exact hi)
    exact ⟨j2, hj2, by rw [e]; exact e2⟩
/-- a call whose callee is told with its cells' number -/
theorem jU_hB (g : List Nat) (N : Nat) {y pcN dC bc c1 : Nat} {as asC : List JV} {LN : JL} {stN : List JV} {hsC hsD : List JC} {v : JV} {st2 : List JV} {hs2 : List JC} (hC : jU xs dC y g.length 0 (jent 0 asC) [] hsC bc (fun k w hsN => k = 0 ∧ w = v ∧ hsN = hsD))
    (hst : jstep xs m pc L st (hs, 0, 0) = some (.inr (.inr (y, as, (pcN, LN, stN), (hs, 0, 0))))) (hw : (Nat.ble (jwid stN) 8 && Nat.ble (jwid as) (jmL (jm y))) = true) (hk : jck g N hs hsC = true) (has : as = jrS (jgm g N) asC)
    (hcl : cond (jcL N LN) (jcS N stN) false = true) (hd : dC < d) (hn : n0 ≤ N) (h1 : lo ≤ bc + c1)
    (hst2 : cond (Nat.beq (jmR (jm y)) 9) stN (jrV (jgm g N) v :: stN) = st2) (hhs2 : jput (jgm g N) hs hsC hsD = hs2)
    (cont : jU xs d m n0 pcN LN st2 hs2 c1 Q) : jU xs d m n0 pc L st hs lo Q := by
  obtain ⟨e1, e2, e3, e4, e5⟩ := jck_ok hk
  subst e1
  exact jU_call0 g hC hst hw e3 e2 e5 has (by rw [e4]; exact hcl) hd hn h1 hst2 hhs2 cont
theorem jU_hA (g : List Nat) (N : Nat) {y pcN dC bc c1 : Nat} {as asC : List JV} {LN : JL} {stN : List JV} {hsC ex : List JC} {v : JV} {st2 : List JV} {hs2 : List JC} (hC : jU xs dC y g.length 0 (jent 0 asC) [] hsC bc (fun k w hsN => k = 0 ∧ w = v ∧ hsN = hsC ++ ex))
    (hst : jstep xs m pc L st (hs, 0, 0) = some (.inr (.inr (y, as, (pcN, LN, stN), (hs, 0, 0))))) (hw : (Nat.ble (jwid stN) 8 && Nat.ble (jwid as) (jmL (jm y))) = true) (hk : jck g N hs hsC = true) (has : as = jrS (jgm g N) asC)
    (hcl : cond (jcL N LN) (jcS N stN) false = true) (hd : dC < d) (hn : n0 ≤ N) (h1 : lo ≤ bc + c1)
    (hst2 : cond (Nat.beq (jmR (jm y)) 9) stN (jrV (jgm g N) v :: stN) = st2) (hhs2 : hs ++ ex.map (jrC (jgm g N)) = hs2)
    (cont : jU xs d m n0 pcN LN st2 hs2 c1 Q) : jU xs d m n0 pc L st hs lo Q := by
  obtain ⟨e1, e2, e3, e4, e5⟩ := jck_ok hk
  subst e1
  exact jU_call0 g hC hst hw e3 e2 e5 has (by rw [e4]; exact hcl) hd hn h1 hst2 ((jput_new (jgB_inj e3) e5).trans hhs2) cont
/-- a call whose callee is told by jT: what it leaves counts -/
theorem jU_fB (g : List Nat) (N : Nat) {y pcN dC bc1 bc2 e c1 : Nat} {as asC : List JV} {LN : JL} {stN : List JV} {hsC hsD : List JC} {v : JV} {st2 : List JV} {hs2 : List JC} (hC : jT xs dC y g.length 0 (jent 0 asC) [] hsC bc1 bc2 (fun k w hsN => k = 0 ∧ w = v ∧ hsN = hsD))
    (hst : jstep xs m pc L st (hs, 0, 0) = some (.inr (.inr (y, as, (pcN, LN, stN), (hs, 0, 0))))) (hw : (Nat.ble (jwid stN) 8 && Nat.ble (jwid as) (jmL (jm y))) = true) (hk : jck g N hs hsC = true) (has : as = jrS (jgm g N) asC)
    (hcl : cond (jcL N LN) (jcS N stN) false = true) (hd : dC < d) (hn : n0 ≤ N) (h1 : lo ≤ e + c1) (h2 : Nat.ble (hsC.length + e) hsD.length = true)
    (hst2 : cond (Nat.beq (jmR (jm y)) 9) stN (jrV (jgm g N) v :: stN) = st2) (hhs2 : jput (jgm g N) hs hsC hsD = hs2)
    (cont : jU xs d m n0 pcN LN st2 hs2 c1 Q) : jU xs d m n0 pc L st hs lo Q :=
  jU_hB g N (jU_of hC (jck_ok hk).2.1.symm (fun k w hsN q => by rw [q.2.2]; exact jble h2)) hst hw hk has hcl hd hn h1 hst2 hhs2 cont
theorem jU_fA (g : List Nat) (N : Nat) {y pcN dC bc1 bc2 e c1 : Nat} {as asC : List JV} {LN : JL} {stN : List JV} {hsC ex : List JC} {v : JV} {st2 : List JV} {hs2 : List JC} (hC : jT xs dC y g.length 0 (jent 0 asC) [] hsC bc1 bc2 (fun k w hsN => k = 0 ∧ w = v ∧ hsN = hsC ++ ex))
    (hst : jstep xs m pc L st (hs, 0, 0) = some (.inr (.inr (y, as, (pcN, LN, stN), (hs, 0, 0))))) (hw : (Nat.ble (jwid stN) 8 && Nat.ble (jwid as) (jmL (jm y))) = true) (hk : jck g N hs hsC = true) (has : as = jrS (jgm g N) asC)
    (hcl : cond (jcL N LN) (jcS N stN) false = true) (hd : dC < d) (hn : n0 ≤ N) (h1 : lo ≤ e + c1) (h2 : Nat.ble e ex.length = true)
    (hst2 : cond (Nat.beq (jmR (jm y)) 9) stN (jrV (jgm g N) v :: stN) = st2) (hhs2 : hs ++ ex.map (jrC (jgm g N)) = hs2)
    (cont : jU xs d m n0 pcN LN st2 hs2 c1 Q) : jU xs d m n0 pc L st hs lo Q :=
  jU_hA g N (jU_of hC (jck_ok hk).2.1.symm (fun k w hsN q => by rw [q.2.2, List.length_append]; exact Nat.add_le_add_left (jble h2) _)) hst hw hk has hcl hd hn h1 hst2 hhs2 cont
theorem jU_fR (g : List Nat) (N : Nat) {y pcN dC bc1 bc2 : Nat} {as asC : List JV} {LN : JL} {stN : List JV} {hsC : List JC} {v : JV} {st2 : List JV} (hC : jT xs dC y g.length 0 (jent 0 asC) [] hsC bc1 bc2 (fun k w hsN => k = 0 ∧ w = v ∧ hsN = hsC ++ []))
    (hst : jstep xs m pc L st (hs, 0, 0) = some (.inr (.inr (y, as, (pcN, LN, stN), (hs, 0, 0))))) (hw : (Nat.ble (jwid stN) 8 && Nat.ble (jwid as) (jmL (jm y))) = true) (hk : jck g N hs hsC = true) (has : as = jrS (jgm g N) asC)
    (hcl : cond (jcL N LN) (jcS N stN) false = true) (hd : dC < d) (hn : n0 ≤ N)
    (hst2 : cond (Nat.beq (jmR (jm y)) 9) stN (jrV (jgm g N) v :: stN) = st2)
    (cont : jU xs d m n0 pcN LN st2 hs lo Q) : jU xs d m n0 pc L st hs lo Q :=
  jU_fA (e := 0) g N hC hst hw hk has hcl hd hn (Nat.le_of_eq (Nat.zero_add _).symm) rfl hst2 (List.append_nil hs) cont
/-- from a larger picture to a part of it -/
theorem jU_leaf (g : List Nat) (N : Nat) {L0 : JL} {hs0 : List JC} {dl : Nat} (h : jU xs dl m g.length pc L0 [] hs0 lo (fun k v _ => k = 0 ∧ v = (0, 1))) (hk : jck g N hs hs0 = true) (hL : L = jrL (jgm g N) L0) : jU xs dl m 0 pc L [] hs lo (fun k v _ => k = 0 ∧ v = (0, 1)) := by
  obtain ⟨e1, e2, e3, e4, e5⟩ := jck_ok hk
  have h3 : jU xs dl m 0 pc L0 [] hs0 lo (fun k v _ => k = 0 ∧ v = (0, 1)) := by
    intro ρ H c s L2 E hL
    obtain ⟨f, ρ', k, v, hsN, H', c', s', q1, q2, q3, q4, q5, q6, q7, q8, q11, q9, q12⟩ := h ρ H c s L2 E hL
    exact ⟨f, ρ', k, v, hsN, H', c', s', q1, q2, q3, q4, fun i hi => absurd hi (Nat.not_lt_zero _), Nat.zero_le _, q7, q8, q11, q9, fun i c2 hi => absurd hi (Nat.not_lt_zero _)⟩
  rw [← e1] at e3 e5 hL
  exact jU_gc g e3 e2 e5 hL rfl rfl h3
end JUU
