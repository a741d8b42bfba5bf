/-! the little machine, part 21: runs on pictures -/
theorem jrun_up {xs : List Int} : ∀ (f d m pc k : Nat) (L : JL) (st : List JV) (h h' : JH) (v : JV), jrun xs f d m pc L st h = (k, v, h') → k < 2 → ∀ f' d', f ≤ f' → d ≤ d' → jrun xs f' d' m pc L st h = (k, v, h') := by
  intro f
  induction f with
  | zero =>
    intro d m pc k L st h h' v hr hk
    cases hr
    exact absurd hk (by decide)
  | succ f ih =>
    intro d m pc k L st h h' v hr hk f' d' hf hd
    obtain ⟨f1, rfl⟩ : ∃ f1, f' = f1 + 1 := ⟨f' - 1, by omega⟩
    have hf1 : f ≤ f1 := by omega
    rw [jrun_s] at hr
    rw [jrun_s]
    cases hs : jstep xs m pc L st h with
    | none => rw [hs] at hr; cases hr; exact absurd hk (by decide)
    | some z =>
      rw [hs] at hr
      match z, hr with
      | .inl (g, h1), hr => exact ih _ _ _ _ _ _ _ _ _ hr hk f1 d' hf1 hd
      | .inr (.inl o), hr => exact hr
      | .inr (.inr (y, as, g, h1)), hr =>
        cases d with
        | zero => cases hr; exact absurd hk (by decide)
        | succ d =>
          obtain ⟨d1, rfl⟩ : ∃ d1, d' = d1 + 1 := ⟨d' - 1, by omega⟩
          have hd1 : d ≤ d1 := by omega
          try dsimp only [cond_true] at hr
          try dsimp only [cond_true]
          cases hb : (Nat.ble (jwid g.2.2) 8 && Nat.ble (jwid as) (jmL (jm y))) with
          | false => rw [hb] at hr; cases hr; exact absurd hk (by decide)
          | true =>
            rw [hb] at hr
            cases hq : jrun xs f d y 0 (jent 0 as) [] h1 with
            | mk k2 q =>
              obtain ⟨v2, h2⟩ := q
              rw [hq] at hr
              match k2, hr, hq with
              | 0, hr, hq =>
                rw [ih _ _ _ _ _ _ _ _ _ hq (by decide) f1 d1 hf1 hd1]
                exact ih _ _ _ _ _ _ _ _ _ hr hk f1 (d1 + 1) hf1 (by omega)
              | 1, hr, hq =>
                rw [ih _ _ _ _ _ _ _ _ _ hq (by decide) f1 d1 hf1 hd1]
                exact hr
              | k2 + 2, hr, hq => cases hr; exact absurd hk (by decide)
theorem jrun_sim {xs : List Int} : ∀ (f d m pc k : Nat) (L : JL) (st : List JV) (h h' : JH) (v : JV), jrun xs f d m pc L st h = (k, v, h') → k < 2 → ∀ (ρ : Nat → Nat) (H : List JC) (b1 b2 : Nat) (L2 : JL), jEm ρ h.1 H → jLe (jrL ρ L) L2 →
    ∃ H', jrun xs f d m pc L2 (jrS ρ st) (H, b1 + h.2.1, b2 + h.2.2) = (k, jrV ρ v, (H', b1 + h'.2.1, b2 + h'.2.2)) ∧ jEm ρ h'.1 H' ∧ jFq ρ h.1 H h'.1 H' := by
  intro f
  induction f with
  | zero =>
    intro d m pc k L st h h' v hr hk
    cases hr
    exact absurd hk (by decide)
  | succ f ih =>
    intro d m pc k L st h h' v hr hk ρ H b1 b2 L2 E hL
    have S := jstep_sim (xs := xs) (m := m) (pc := pc) (L := L) (st := st) (b1 := b1) (b2 := b2) E hL
    rw [jrun_s] at hr
    rw [jrun_s]
    cases hs : jstep xs m pc L st h with
    | none => rw [hs] at hr; cases hr; exact absurd hk (by decide)
    | some z =>
      have Z := S z hs
      rw [hs] at hr
      match z, hr, Z with
      | .inl (g, h1), hr, Z =>
        obtain ⟨H1, L3, e1, hL3, E1, F1⟩ := Z
        rw [e1]
        obtain ⟨H2, e2, E2, F2⟩ := ih d m g.1 k g.2.1 g.2.2 h1 h' v hr hk ρ H1 b1 b2 L3 E1 hL3
        exact ⟨H2, e2, E2, jFq_tr E F1 F2⟩
      | .inr (.inl o), hr, Z =>
        obtain ⟨k0, v0, h0⟩ := o
        cases hr
        obtain ⟨H1, e1, E1, F1⟩ := Z
        rw [e1]
        exact ⟨H1, rfl, E1, F1⟩
      | .inr (.inr (y, as, g, h1)), hr, Z =>
        obtain ⟨H1, L3, e1, hL3, E1, F1⟩ := Z
        rw [e1]
        cases d with
        | zero => cases hr; exact absurd hk (by decide)
        | succ d =>
          try dsimp only [cond_true] at hr
          try dsimp only [cond_true]
          have hent : jLe (jrL ρ (jent 0 as)) (jrL ρ (jent 0 as)) := by
            rw [← jent_rn]
            exact jLe_rf (jent_nd _ _)
          rw [jwid_rn, jwid_rn, jent_rn]
          cases hb : (Nat.ble (jwid g.2.2) 8 && Nat.ble (jwid as) (jmL (jm y))) with
          | false => rw [hb] at hr; cases hr; exact absurd hk (by decide)
          | true =>
            rw [hb] at hr
            cases hq : jrun xs f d y 0 (jent 0 as) [] h1 with
            | mk k2 q =>
              obtain ⟨v2, h2⟩ := q
              rw [hq] at hr
              match k2, hr, hq with
              | 0, hr, hq =>
                obtain ⟨H2, e2, E2, F2⟩ := ih d y 0 0 (jent 0 as) [] h1 h2 v2 hq (by decide) ρ H1 b1 b2 _ E1 hent
                rw [show jrun xs f d y 0 (jrL ρ (jent 0 as)) [] (H1, b1 + h1.2.1, b2 + h1.2.2) = _ from e2]
                obtain ⟨H3, e3, E3, F3⟩ := ih (d + 1) m g.1 k g.2.1 (cond (Nat.beq (jmR (jm m)) 9 && false) g.2.2 (cond (Nat.beq (jmR (jm y)) 9) g.2.2 (v2 :: g.2.2))) h2 h' v (by rw [Bool.and_false]; exact hr) hk ρ H2 b1 b2 L3 E2 hL3
                refine ⟨H3, ?_, E3, jFq_tr E F1 (jFq_tr E1 F2 F3)⟩
                rw [← e3, Bool.and_false]
                cases Nat.beq (jmR (jm y)) 9 <;> rfl
              | 1, hr, hq =>
                obtain ⟨H2, e2, E2, F2⟩ := ih d y 0 1 (jent 0 as) [] h1 h2 v2 hq (by decide) ρ H1 b1 b2 _ E1 hent
                rw [show jrun xs f d y 0 (jrL ρ (jent 0 as)) [] (H1, b1 + h1.2.1, b2 + h1.2.2) = _ from e2]
                obtain ⟨-, hv0, -⟩ := jrun_thr _ _ _ _ _ _ _ _ _ hq
                have ev : jrV ρ v2 = v2 := by
                  obtain ⟨t, x⟩ := v2
                  exact jrV_t (by rw [show t = 0 from hv0]; decide)
                rw [ev]
                replace hr : (match jhnd m pc v2.2 with
                  | some k => (0, (0, k), h2)
                  | none => cond (Nat.beq (jmF (jm m)) 3) (1, v2, h2) (2, v2, h2)) = (k, v, h') := hr
                show ∃ H', (match jhnd m pc v2.2 with
                  | some k => (0, (0, k), (H2, b1 + h2.2.1, b2 + h2.2.2))
                  | none => cond (Nat.beq (jmF (jm m)) 3) (1, v2, (H2, b1 + h2.2.1, b2 + h2.2.2)) (2, v2, (H2, b1 + h2.2.1, b2 + h2.2.2))) = (k, jrV ρ v, (H', b1 + h'.2.1, b2 + h'.2.2)) ∧ jEm ρ h'.1 H' ∧ jFq ρ h.1 H h'.1 H'
                cases hz : jhnd m pc v2.2 with
                | some z =>
                  rw [hz] at hr
                  cases hr
                  exact ⟨H2, rfl, E2, jFq_tr E F1 F2⟩
                | none =>
                  rw [hz] at hr
                  cases h3 : Nat.beq (jmF (jm m)) 3 with
                  | false => rw [h3] at hr; cases hr; exact absurd hk (by decide)
                  | true =>
                    rw [h3] at hr
                    cases hr
                    refine ⟨H2, ?_, E2, jFq_tr E F1 F2⟩
                    rw [ev]
                    rfl
              | k2 + 2, hr, hq => cases hr; exact absurd hk (by decide)
/-- the judgement: wherever the picture hs lies, the run ends with k, v and a picture that Q tells; the first n0 cells keep their places -/
def jT (xs : List Int) (d m n0 pc : Nat) (L : JL) (st : List JV) (hs : List JC) (b1 b2 : Nat) (Q : Nat → JV → List JC → Prop) : Prop :=
  ∀ (ρ : Nat → Nat) (H : List JC) (c s : Nat) (L2 : JL), jEm ρ hs H → jLe (jrL ρ L) L2 → ∃ (f : Nat) (ρ' : Nat → Nat) (k : Nat) (v : JV) (hsN H' : List JC) (c' s' : Nat), Q k v hsN ∧ k < 2 ∧
    jrun xs f d m pc L2 (jrS ρ st) (H, c, s) = (k, jrV ρ' v, (H', c', s')) ∧ jEm ρ' hsN H' ∧ (∀ i, i < n0 → ρ' i = ρ i) ∧ n0 ≤ hsN.length ∧ H.length ≤ H'.length ∧ (∀ q, q < H.length → (∀ (i : Nat) (c : JC), hs[i]? = some c → jisG c = false → ρ i ≠ q) → H'[q]? = H[q]?) ∧ (∀ i, ρ' i < H.length → ∃ j, j < hs.length ∧ ρ' i = ρ j) ∧ (c' ≤ c + b1 ∧ s' ≤ s + b2) ∧ ∀ (i : Nat) (c : JC), i < n0 → hs[i]? = some c → jisG c = true → hsN[i]? = some c
theorem jEm_back {ρ : Nat → Nat} {hs H : List JC} (E : jEm ρ hs H) {i : Nat} (h : ρ i < H.length) : i < hs.length := by
  by_cases hlt : i < hs.length
  · exact hlt
  · have := E.2.1 (i - hs.length)
    rw [show hs.length + (i - hs.length) = i from by omega] at this
    omega
theorem jget_mem : ∀ (L : JL), (L.map Prod.fst).Nodup → ∀ q ∈ L, jget L q.1 = q.2
  | [], _, q, hq => nomatch hq
  | a :: r, h, q, hq => by
    have hn := List.nodup_cons.mp (show (a.1 :: r.map Prod.fst).Nodup from h)
    show cond (Nat.beq a.1 q.1) a.2 (jget r q.1) = q.2
    rcases List.mem_cons.mp hq with rfl | hq
    · rw [show Nat.beq q.1 q.1 = true from Nat.beq_refl _]; rfl
    · have hne : Nat.beq a.1 q.1 = false := by
        cases hb : Nat.beq a.1 q.1 with
        | false => rfl
        | true => exact absurd (List.mem_map.mpr ⟨q, hq, (Nat.eq_of_beq_eq_true hb).symm⟩) hn.1
      rw [hne]
      exact jget_mem r hn.2 q hq
section JTT
variable {xs : List Int} {d m n0 pc b1 b2 : Nat} {L : JL} {st : List JV} {hs : List JC} {Q : Nat → JV → List JC → Prop}
theorem jT.mono {Q' : Nat → JV → List JC → Prop} {d' c1 c2 : Nat} (h : jT xs d m n0 pc L st hs b1 b2 Q) (hd : d ≤ d') (h1 : b1 ≤ c1) (h2 : b2 ≤ c2) (hq : ∀ k v hsN, Q k v hsN → Q' k v hsN) : jT xs d' m n0 pc L st hs c1 c2 Q' := by
  intro ρ H c s L2 E hL
  obtain ⟨f, ρ', k, v, hsN, H', c', s', q1, q2, q3, q4, q5, q6, q7, q8, q11, ⟨q9, q10⟩, q12⟩ := h ρ H c s L2 E hL
  exact ⟨f, ρ', k, v, hsN, H', c', s', hq _ _ _ q1, q2, jrun_up _ _ _ _ _ _ _ _ _ _ q3 q2 f d' (Nat.le_refl _) hd, q4, q5, q6, q7, q8, q11, ⟨by omega, by omega⟩, q12⟩
/-- a run told on the picture alone -/
theorem jT_run {f k : Nat} {v : JV} {hsN : List JC} {c1 s1 : Nat} (hr : jrun xs f d m pc L st (hs, 0, 0) = (k, v, (hsN, c1, s1))) (hk : k < 2) (hn : n0 ≤ hs.length) (h1 : c1 ≤ b1) (h2 : s1 ≤ b2) (hq : Q k v hsN) : jT xs d m n0 pc L st hs b1 b2 Q := by
  intro ρ H c s L2 E hL
  obtain ⟨H', e1, E1, F1⟩ := jrun_sim f d m pc k L st (hs, 0, 0) (hsN, c1, s1) v hr hk ρ H c s L2 E hL
  exact ⟨f, ρ, k, v, hsN, H', c + c1, s + s1, hq, hk, e1, E1, fun _ _ => rfl, Nat.le_trans hn F1.1, F1.2.1, F1.2.2.1, fun i hi => ⟨i, jEm_back E hi, rfl⟩, ⟨by omega, by omega⟩, fun i c _ hi hg => F1.2.2.2 i c hi hg⟩
/-- steps that only go on -/
theorem jT_step {pcN : Nat} {LN : JL} {stN : List JV} {hsN : List JC} {c1 s1 c2 s2 : Nat} (hst : jstep xs m pc L st (hs, 0, 0) = some (.inl ((pcN, LN, stN), (hsN, c1, s1)))) (h : jT xs d m n0 pcN LN stN hsN c2 s2 Q) (h1 : c1 + c2 ≤ b1) (h2 : s1 + s2 ≤ b2) : jT xs d m n0 pc L st hs b1 b2 Q := by
  intro ρ H c s L2 E hL
  obtain ⟨H1, L3, e1, hL3, E1, F1⟩ := jstep_sim (xs := xs) (m := m) (pc := pc) (L := L) (st := st) (h := (hs, 0, 0)) (b1 := c) (b2 := s) E hL _ hst
  obtain ⟨f, ρ', k, v, hs2, H', c', s', q1, q2, q3, q4, q5, q6, q7, q8, q11, ⟨q9, q10⟩, q12⟩ := h ρ H1 (c + c1) (s + s1) L3 E1 hL3
  refine ⟨f + 1, ρ', k, v, hs2, H', c', s', q1, q2, ?_, q4, q5, q6, Nat.le_trans F1.2.1 q7, ?_, fun i hi => ?_, ⟨by omega, by omega⟩, fun i c hi0 hi hg => q12 i c hi0 (F1.2.2.2 i c hi hg) hg⟩
  · rw [jrun_s]
    rw [show jstep xs m pc L2 (jrS ρ st) (H, c, s) = _ from e1]
    exact q3
  · intro q hq hn
    rw [q8 q (Nat.lt_of_lt_of_le hq F1.2.1) (jFq_back E F1.2.2.2 hq hn), F1.2.2.1 q hq hn]
  · obtain ⟨j, hj, e⟩ := q11 i (Nat.lt_of_lt_of_le hi F1.2.1)
    exact ⟨j, jEm_back E (by omega), e⟩
/-- fewer locals, or in another order -/
theorem jT_loc {LN : JL} (h1 : (LN.map Prod.fst).Nodup) (h2 : ∀ q ∈ LN, jget L q.1 = q.2) (h : jT xs d m n0 pc LN st hs b1 b2 Q) : jT xs d m n0 pc L st hs b1 b2 Q := by
  intro ρ H c s L2 E hL
  refine h ρ H c s L2 E ⟨?_, hL.2.1, fun i => ?_⟩
  · show ((LN.map (jrQ ρ)).map Prod.fst).Nodup
    rw [List.map_map]
    exact h1
  · rw [jget_rn, jrV_fst]
    by_cases hi : i ∈ LN.map Prod.fst
    · obtain ⟨q, hq, rfl⟩ := List.mem_map.mp hi
      have h3 : jget LN q.1 = q.2 := jget_mem LN h1 q hq
      rcases jLe_get hL q.1 with h9 | he
      · refine Or.inl ?_
        rw [h3, ← h2 q hq]
        exact h9
      · refine Or.inr ?_
        rw [he, h2 q hq, h3]
    · exact Or.inl (by rw [jget_no LN hi])
/-- the method's end -/
theorem jT_ret {k : Nat} {v : JV} {hsN : List JC} {c1 s1 : Nat} (hst : jstep xs m pc L st (hs, 0, 0) = some (.inr (.inl (k, v, (hsN, c1, s1))))) (hk : k < 2) (hn : n0 ≤ hs.length) (h1 : c1 ≤ b1) (h2 : s1 ≤ b2) (hq : Q k v hsN) : jT xs d m n0 pc L st hs b1 b2 Q :=
  jT_run (f := 1) (by rw [jrun_s, hst]) hk hn h1 h2 hq
/-- numbers of a part of the picture: g of the first n, then those behind the picture -/
def jgm (g : List Nat) (N : Nat) (i : Nat) : Nat := cond (Nat.blt i g.length) (g.getD i 0) (N + (i - g.length))
def jgB (g : List Nat) (N : Nat) : Bool := g.all (fun x => Nat.blt x N) && (List.range g.length).all (fun i => (List.range g.length).all (fun j => Nat.beq i j || !(Nat.beq (g.getD i 0) (g.getD j 0))))
/-- the part r of a picture lies in hs, from the number k on -/
def jSb (ĝ : Nat → Nat) (hs : List JC) : Nat → List JC → Prop
  | _, [] => True
  | k, c :: r => cond (jisG c) ((hs[ĝ k]?).map (fun _ => jgh)) (hs[ĝ k]?) = some (jrC ĝ c) ∧ jSb ĝ hs (k + 1) r
/-- the picture after a call on a part of it: what was not told there stays -/
def jputL (ĝ : Nat → Nat) (hs : List JC) : Nat → List JC → List JC → List JC
  | k, c0 :: r0, c :: r => cond (jisG c0) (jputL ĝ hs (k + 1) r0 r) ((jputL ĝ hs (k + 1) r0 r).set (ĝ k) (jrC ĝ c))
  | _, _, _ => hs
def jput (ĝ : Nat → Nat) (hs hC0 hC : List JC) : List JC := jputL ĝ hs 0 hC0 (hC.take hC0.length) ++ (hC.drop hC0.length).map (jrC ĝ)
/-- whether all references are among the first n -/
def jcX (n : Nat) (x : Int) : Bool := match x with
  | .ofNat k => Nat.blt k n
  | .negSucc _ => true
def jcV (n : Nat) (v : JV) : Bool := cond (Nat.beq v.1 4) (jcX n v.2) true
def jcS (n : Nat) : List JV → Bool
  | [] => true
  | v :: r => cond (jcV n v) (jcS n r) false
def jcL (n : Nat) : JL → Bool
  | [] => true
  | q :: r => cond (jcV n q.2) (jcL n r) false
def jcE (n : Nat) : List Int → Bool
  | [] => true
  | x :: r => cond (jcX n x) (jcE n r) false
def jcC (n : Nat) (c : JC) : Bool := cond (jcS n c.2.1) (cond (Nat.ble 110 c.1) (jcE n c.2.2) true) false
def jcH (n : Nat) : List JC → Bool
  | [] => true
  | c :: r => cond (jcC n c) (jcH n r) false
theorem jcondT {a b : Bool} (h : cond a b false = true) : a = true ∧ b = true := by
  cases a with
  | true => exact ⟨rfl, h⟩
  | false => cases h
theorem jrX_ext {ρ σ : Nat → Nat} {n : Nat} (hag : ∀ i, i < n → ρ i = σ i) {x : Int} (h : jcX n x = true) : jrX ρ x = jrX σ x := by
  cases x with
  | ofNat k => show Int.ofNat (ρ k) = Int.ofNat (σ k); rw [hag k (Nat.le_of_ble_eq_true h)]
  | negSucc k => rfl
theorem jrV_ext {ρ σ : Nat → Nat} {n : Nat} (hag : ∀ i, i < n → ρ i = σ i) {v : JV} (h : jcV n v = true) : jrV ρ v = jrV σ v := by
  unfold jrV
  unfold jcV at h
  cases hb : Nat.beq v.1 4 with
  | false => rfl
  | true =>
    rw [hb] at h
    show (4, jrX ρ v.2) = (4, jrX σ v.2)
    rw [jrX_ext hag h]
theorem jrS_ext {ρ σ : Nat → Nat} {n : Nat} (hag : ∀ i, i < n → ρ i = σ i) : ∀ st : List JV, jcS n st = true → jrS ρ st = jrS σ st
  | [], _ => rfl
  | v :: r, h => by
    obtain ⟨h1, h2⟩ := jcondT h
    show jrV ρ v :: jrS ρ r = jrV σ v :: jrS σ r
    rw [jrV_ext hag h1, jrS_ext hag r h2]
theorem jrL_ext {ρ σ : Nat → Nat} {n : Nat} (hag : ∀ i, i < n → ρ i = σ i) : ∀ L : JL, jcL n L = true → jrL ρ L = jrL σ L
  | [], _ => rfl
  | q :: r, h => by
    obtain ⟨h1, h2⟩ := jcondT h
    show (q.1, jrV ρ q.2) :: jrL ρ r = (q.1, jrV σ q.2) :: jrL σ r
    rw [jrV_ext hag h1, jrL_ext hag r h2]
theorem jrE_ext {ρ σ : Nat → Nat} {n : Nat} (hag : ∀ i, i < n → ρ i = σ i) : ∀ es : List Int, jcE n es = true → es.map (jrX ρ) = es.map (jrX σ)
  | [], _ => rfl
  | x :: r, h => by
    obtain ⟨h1, h2⟩ := jcondT h
    show jrX ρ x :: r.map (jrX ρ) = jrX σ x :: r.map (jrX σ)
    rw [jrX_ext hag h1, jrE_ext hag r h2]
theorem jrC_ext {ρ σ : Nat → Nat} {n : Nat} (hag : ∀ i, i < n → ρ i = σ i) {c : JC} (h : jcC n c = true) : jrC ρ c = jrC σ c := by
  obtain ⟨h1, h2⟩ := jcondT h
  unfold jrC
  rw [show c.2.1.map (jrV ρ) = c.2.1.map (jrV σ) from jrS_ext hag _ h1]
  cases hb : Nat.ble 110 c.1 with
  | false => rfl
  | true =>
    rw [hb] at h2
    show (c.1, _, c.2.2.map (jrX ρ)) = (c.1, _, c.2.2.map (jrX σ))
    rw [jrE_ext hag _ h2]
theorem jcH_get {n : Nat} : ∀ (hs : List JC) (k : Nat) (c : JC), jcH n hs = true → hs[k]? = some c → jcC n c = true
  | [], k, c, _, hk => by cases k <;> cases hk
  | a :: r, 0, c, h, hk => by cases hk; exact (jcondT h).1
  | a :: r, k + 1, c, h, hk => jcH_get r k c (jcondT h).2 hk
theorem jrX_comp {ρ σ : Nat → Nat} {x : Int} : jrX ρ (jrX σ x) = jrX (ρ ∘ σ) x := by cases x <;> rfl
theorem jrV_comp {ρ σ : Nat → Nat} {v : JV} : jrV ρ (jrV σ v) = jrV (ρ ∘ σ) v := by
  unfold jrV
  cases hb : Nat.beq v.1 4 with
  | false => show cond (Nat.beq v.1 4) _ _ = _; rw [hb]; rfl
  | true => show ((4, jrX ρ (jrX σ v.2)) : JV) = (4, _); rw [jrX_comp]
theorem jrS_comp {ρ σ : Nat → Nat} {st : List JV} : jrS ρ (jrS σ st) = jrS (ρ ∘ σ) st := by
  show (st.map (jrV σ)).map (jrV ρ) = st.map (jrV (ρ ∘ σ))
  rw [List.map_map]
  exact List.map_congr_left fun v _ => jrV_comp
theorem jrL_comp {ρ σ : Nat → Nat} {L : JL} : jrL ρ (jrL σ L) = jrL (ρ ∘ σ) L := by
  show (L.map (jrQ σ)).map (jrQ ρ) = L.map (jrQ (ρ ∘ σ))
  rw [List.map_map]
  exact List.map_congr_left fun q _ => by show (q.1, jrV ρ (jrV σ q.2)) = _; rw [jrV_comp]; rfl
theorem jrC_comp {ρ σ : Nat → Nat} {c : JC} : jrC ρ (jrC σ c) = jrC (ρ ∘ σ) c := by
  unfold jrC
  show (c.1, (c.2.1.map (jrV σ)).map (jrV ρ), _) = _
  rw [show (c.2.1.map (jrV σ)).map (jrV ρ) = c.2.1.map (jrV (ρ ∘ σ)) from jrS_comp]
  cases Nat.ble 110 c.1 with
  | false => rfl
  | true =>
    show (c.1, _, (c.2.2.map (jrX σ)).map (jrX ρ)) = _
    rw [List.map_map]
    show _ = (c.1, _, c.2.2.map (jrX (ρ ∘ σ)))
    congr 2
    exact List.map_congr_left fun x _ => jrX_comp
end JTT
section JTT
variable {xs : List Int} {d m n0 pc b1 b2 : Nat} {L : JL} {st : List JV} {hs : List JC} {Q : Nat → JV → List JC → Prop}
theorem jgm_lt {g : List Nat} {N i : Nat} (h : i < g.length) : jgm g N i = g.getD i 0 := by
  unfold jgm
  rw [show Nat.blt i g.length = true from Nat.ble_eq_true_of_le h]
  rfl
theorem jgm_ge {g : List Nat} {N i : Nat} (h : ¬ i < g.length) : jgm g N i = N + (i - g.length) := by
  unfold jgm
  cases hb : Nat.blt i g.length with
  | true => exact absurd (Nat.le_of_ble_eq_true hb) h
  | false => rfl
theorem jgm_add {g : List Nat} {N i : Nat} : jgm g N (g.length + i) = N + i := by
  rw [jgm_ge (by omega), Nat.add_sub_cancel_left]
theorem jgB_lt {g : List Nat} {N i : Nat} (hB : jgB g N = true) (h : i < g.length) : jgm g N i < N := by
  rw [jgm_lt h, List.getD_eq_getElem?_getD, List.getElem?_eq_getElem h]
  exact Nat.le_of_ble_eq_true (List.all_eq_true.mp (Bool.and_eq_true_iff.mp hB).1 _ (List.getElem_mem h))
theorem jgB_inj {g : List Nat} {N : Nat} (hB : jgB g N = true) : ∀ i j, jgm g N i = jgm g N j → i = j := by
  intro i j he
  by_cases hi : i < g.length
  · by_cases hj : j < g.length
    · rw [jgm_lt hi, jgm_lt hj] at he
      have h1 := List.all_eq_true.mp (List.all_eq_true.mp (Bool.and_eq_true_iff.mp hB).2 i (List.mem_range.mpr hi)) j (List.mem_range.mpr hj)
      rw [he, show Nat.beq (g.getD j 0) (g.getD j 0) = true from Nat.beq_refl _] at h1
      rcases Bool.or_eq_true_iff.mp h1 with h2 | h2
      · exact Nat.eq_of_beq_eq_true h2
      · cases h2
    · have h1 := jgB_lt hB hi
      rw [he, jgm_ge hj] at h1
      omega
  · by_cases hj : j < g.length
    · have h1 := jgB_lt hB hj
      rw [← he, jgm_ge hi] at h1
      omega
    · rw [jgm_ge hi, jgm_ge hj] at he
      omega
theorem jSb_get0 {ĝ : Nat → Nat} {hs : List JC} : ∀ (r : List JC) (k j : Nat) (c : JC), jSb ĝ hs k r → r[j]? = some c → cond (jisG c) ((hs[ĝ (k + j)]?).map (fun _ => jgh)) (hs[ĝ (k + j)]?) = some (jrC ĝ c)
  | [], k, j, c, _, hj => by cases j <;> cases hj
  | a :: r, k, 0, c, h, hj => by cases hj; exact h.1
  | a :: r, k, j + 1, c, h, hj => by
    have h1 := jSb_get0 r (k + 1) j c h.2 hj
    rw [show k + (j + 1) = k + 1 + j from by omega]
    exact h1
theorem jSb_get {ĝ : Nat → Nat} {hs : List JC} (r : List JC) (k j : Nat) (c : JC) (h : jSb ĝ hs k r) (hj : r[j]? = some c) (hg : jisG c = false) : hs[ĝ (k + j)]? = some (jrC ĝ c) := by
  have h1 := jSb_get0 r k j c h hj
  rw [hg] at h1
  exact h1
theorem jSb_lt {ĝ : Nat → Nat} {hs : List JC} (r : List JC) (k j : Nat) (c : JC) (h : jSb ĝ hs k r) (hj : r[j]? = some c) : ĝ (k + j) < hs.length := by
  have h1 := jSb_get0 r k j c h hj
  cases hg : jisG c with
  | false =>
    rw [hg] at h1
    exact (List.getElem?_eq_some_iff.mp h1).1
  | true =>
    rw [hg] at h1
    obtain ⟨a, ha, -⟩ := Option.map_eq_some_iff.mp (show (hs[ĝ (k + j)]?).map (fun _ => jgh) = _ from h1)
    exact (List.getElem?_eq_some_iff.mp ha).1
theorem jisG_rn {ρ : Nat → Nat} {c : JC} : jisG (jrC ρ c) = jisG c := by
  obtain ⟨k, fs, es⟩ := c
  show cond (Nat.beq k 999) (cond (fs.map (jrV ρ)).isEmpty (cond (Nat.ble 110 k) (es.map (jrX ρ)) es).isEmpty false) false = cond (Nat.beq k 999) (cond fs.isEmpty es.isEmpty false) false
  rw [show (fs.map (jrV ρ)).isEmpty = fs.isEmpty from by cases fs <;> rfl, show (cond (Nat.ble 110 k) (es.map (jrX ρ)) es).isEmpty = es.isEmpty from by cases Nat.ble 110 k <;> cases es <;> rfl]
/-- a part of the picture lies where the picture lies -/
theorem jEm_sub {ρ : Nat → Nat} {g : List Nat} {hs hs0 H : List JC} (E : jEm ρ hs H) (hB : jgB g hs.length = true) (hlen : hs0.length = g.length) (hsb : jSb (jgm g hs.length) hs 0 hs0) : jEm (ρ ∘ jgm g hs.length) hs0 H := by
  refine ⟨fun i j he => jgB_inj hB i j (E.1 _ _ he), fun i => ?_, fun k c hk => ?_⟩
  · show ρ (jgm g hs.length (hs0.length + i)) = _
    rw [hlen, jgm_add, E.2.1]
  · have h0 := jSb_lt hs0 0 k c hsb hk
    rw [Nat.zero_add] at h0
    refine ⟨jEm_lt E h0, ?_⟩
    cases hg : jisG c with
    | true => exact Or.inl rfl
    | false =>
      have h1 := jSb_get hs0 0 k c hsb hk hg
      rw [Nat.zero_add] at h1
      rcases (E.2.2 _ _ h1).2 with h2 | h2
      · rw [jisG_rn, hg] at h2
        cases h2
      · rw [jrC_comp] at h2
        exact Or.inr h2
/-- what is no longer needed goes -/
theorem jT_gc (g : List Nat) {hs0 : List JC} {L0 : JL} {st0 : List JV} (hB : jgB g hs.length = true) (hlen : hs0.length = g.length) (hsb : jSb (jgm g hs.length) hs 0 hs0) (hL : L = jrL (jgm g hs.length) L0) (hS : st = jrS (jgm g hs.length) st0) (hn : (List.range n0).all (fun i => Nat.blt i g.length && Nat.beq (g.getD i 0) i) = true)
    (h : jT xs d m n0 pc L0 st0 hs0 b1 b2 Q) : jT xs d m n0 pc L st hs b1 b2 Q := by
  intro ρ H c s L2 E hL2
  have E0 := jEm_sub E hB hlen hsb
  subst hL
  subst hS
  rw [jrL_comp] at hL2
  obtain ⟨f, ρ', k, v, hsN, H', c', s', q1, q2, q3, q4, q5, q6, q7, q8, q11, q9, q12⟩ := h _ H c s L2 E0 hL2
  have hn1 : ∀ i, i < n0 → i < g.length ∧ jgm g hs.length i = i := fun i hi => by
    obtain ⟨h1, h2⟩ := Bool.and_eq_true_iff.mp (List.all_eq_true.mp hn i (List.mem_range.mpr hi))
    exact ⟨Nat.le_of_ble_eq_true h1, by rw [jgm_lt (Nat.le_of_ble_eq_true h1), Nat.eq_of_beq_eq_true h2]⟩
  refine ⟨f, ρ', k, v, hsN, H', c', s', q1, q2, ?_, q4, fun i hi => ?_, q6, q7, fun q hq hne => q8 q hq (fun i c hi hg he => ?_), fun i hi => ?_, q9, fun i c hi hc hg => ?_⟩
  · rw [jrS_comp]
    exact q3
  · rw [q5 i hi]
    show ρ (jgm g hs.length i) = ρ i
    rw [(hn1 i hi).2]
  · have h1 := jSb_get hs0 0 i c hsb hi hg
    rw [Nat.zero_add] at h1
    exact hne _ _ h1 (by rw [jisG_rn]; exact hg) he
  · obtain ⟨j, hj, e⟩ := q11 i hi
    exact ⟨_, jgB_lt hB (show j < g.length by omega), e⟩
  · obtain ⟨h1, h2⟩ := hn1 i hi
    have h3 : i < hs0.length := by omega
    have h4 := List.getElem?_eq_getElem h3
    have h5 : hs0[i] = c := by
      cases hg2 : jisG hs0[i] with
      | true => rw [jisG_is hg2, jisG_is hg]
      | false =>
        have h6 := jSb_get hs0 0 i _ hsb h4 hg2
        rw [Nat.zero_add, h2, hc] at h6
        have h7 : c = jrC (jgm g hs.length) hs0[i] := Option.some.inj h6
        rw [h7, jisG_rn, hg2] at hg
        cases hg
    rw [h5] at h4
    exact q12 i c hi h4 hg
theorem jputL_len {ĝ : Nat → Nat} {hs : List JC} : ∀ (l0 l : List JC) (k : Nat), (jputL ĝ hs k l0 l).length = hs.length
  | [], _, _ => rfl
  | _ :: _, [], _ => rfl
  | c0 :: r0, c :: r, k => by
    show (cond (jisG c0) (jputL ĝ hs (k + 1) r0 r) ((jputL ĝ hs (k + 1) r0 r).set (ĝ k) (jrC ĝ c))).length = _
    cases jisG c0 with
    | true => exact jputL_len r0 r _
    | false =>
      show ((jputL ĝ hs (k + 1) r0 r).set (ĝ k) (jrC ĝ c)).length = _
      rw [List.length_set, jputL_len r0 r]
theorem jputL_out {ĝ : Nat → Nat} {hs : List JC} {i : Nat} : ∀ (l0 l : List JC) (k : Nat), (∀ (j : Nat) (c : JC), l0[j]? = some c → jisG c = false → ĝ (k + j) ≠ i) → (jputL ĝ hs k l0 l)[i]? = hs[i]?
  | [], _, _, _ => rfl
  | _ :: _, [], _, _ => rfl
  | c0 :: r0, c :: r, k, h => by
    have ih : (jputL ĝ hs (k + 1) r0 r)[i]? = hs[i]? := jputL_out r0 r (k + 1) (fun j c hj hg => by
      have := h (j + 1) c hj hg
      rw [show k + (j + 1) = k + 1 + j from by omega] at this
      exact this)
    show (cond (jisG c0) (jputL ĝ hs (k + 1) r0 r) ((jputL ĝ hs (k + 1) r0 r).set (ĝ k) (jrC ĝ c)))[i]? = _
    cases hg : jisG c0 with
    | true => exact ih
    | false =>
      show ((jputL ĝ hs (k + 1) r0 r).set (ĝ k) (jrC ĝ c))[i]? = _
      rw [List.getElem?_set, if_neg (show ĝ k ≠ i from h 0 c0 rfl hg)]
      exact ih
theorem jputL_in {ĝ : Nat → Nat} {hs : List JC} (hi : ∀ i j, ĝ i = ĝ j → i = j) : ∀ (l0 l : List JC) (k j : Nat) (c0 c : JC), l0[j]? = some c0 → l[j]? = some c → jisG c0 = false → ĝ (k + j) < hs.length → (jputL ĝ hs k l0 l)[ĝ (k + j)]? = some (jrC ĝ c)
  | [], _, k, j, c0, c, hj, _, _, _ => by cases j <;> cases hj
  | _ :: _, [], k, j, c0, c, _, hj, _, _ => by cases j <;> cases hj
  | a0 :: r0, a :: r, k, 0, c0, c, hj0, hj, hg, hlt => by
    cases hj0; cases hj
    show (cond (jisG a0) (jputL ĝ hs (k + 1) r0 r) ((jputL ĝ hs (k + 1) r0 r).set (ĝ k) (jrC ĝ a)))[ĝ k]? = _
    rw [hg]
    show ((jputL ĝ hs (k + 1) r0 r).set (ĝ k) (jrC ĝ a))[ĝ k]? = _
    rw [List.getElem?_set, if_pos rfl, if_pos (by rw [jputL_len]; exact hlt)]
  | a0 :: r0, a :: r, k, j + 1, c0, c, hj0, hj, hg, hlt => by
    have ih := jputL_in hi r0 r (k + 1) j c0 c hj0 hj hg (by rw [show k + 1 + j = k + (j + 1) from by omega]; exact hlt)
    rw [show k + (j + 1) = k + 1 + j from by omega]
    show (cond (jisG a0) (jputL ĝ hs (k + 1) r0 r) ((jputL ĝ hs (k + 1) r0 r).set (ĝ k) (jrC ĝ a)))[ĝ (k + 1 + j)]? = _
    cases jisG a0 with
    | true => exact ih
    | false =>
      show ((jputL ĝ hs (k + 1) r0 r).set (ĝ k) (jrC ĝ a))[ĝ (k + 1 + j)]? = _
      rw [List.getElem?_set, if_neg (fun q => by have := hi _ _ q; omega)]
      exact ih
theorem jput_len {ĝ : Nat → Nat} {hs hC0 hC : List JC} : (jput ĝ hs hC0 hC).length = hs.length + (hC.length - hC0.length) := by
  unfold jput
  rw [List.length_append, jputL_len, List.length_map, List.length_drop]
/-- the numbers behind a call -/
def jg2 (ρ ρ1 : Nat → Nat) (N n i : Nat) : Nat := if i < N then ρ i else ρ1 (n + (i - N))
theorem jg2_lt {ρ ρ1 : Nat → Nat} {N n i : Nat} (h : i < N) : jg2 ρ ρ1 N n i = ρ i := if_pos h
theorem jg2_ge {ρ ρ1 : Nat → Nat} {N n i : Nat} (h : ¬ i < N) : jg2 ρ ρ1 N n i = ρ1 (n + (i - N)) := if_neg h
theorem jg2_comp {ρ ρ1 : Nat → Nat} {g : List Nat} {N : Nat} (hB : jgB g N = true) (hag : ∀ i, i < g.length → ρ1 i = (ρ ∘ jgm g N) i) : jg2 ρ ρ1 N g.length ∘ jgm g N = ρ1 := funext fun i => by
  show jg2 ρ ρ1 N g.length (jgm g N i) = ρ1 i
  by_cases hi : i < g.length
  · rw [jg2_lt (jgB_lt hB hi), hag i hi]
    rfl
  · rw [jgm_ge hi, jg2_ge (by omega)]
    congr 1
    omega
/-- what was not told before a call is not told behind it -/
theorem jput_ghost {ĝ : Nat → Nat} {hs hsC hsC' : List JC} (hsb : jSb ĝ hs 0 hsC) {i : Nat} {c : JC} (hi : hs[i]? = some c) (hg : jisG c = true) : (jput ĝ hs hsC hsC')[i]? = some c := by
  have hlt := (List.getElem?_eq_some_iff.mp hi).1
  unfold jput
  rw [List.getElem?_append_left (by rw [jputL_len]; exact hlt), jputL_out _ _ _ (fun j c0 hj hg0 he => ?_)]
  · exact hi
  · have h1 := jSb_get hsC 0 j c0 hsb hj hg0
    rw [he, hi] at h1
    have h2 : c = jrC ĝ c0 := Option.some.inj h1
    rw [h2, jisG_rn, hg0] at hg
    cases hg
theorem jEm_put {ρ ρ1 : Nat → Nat} {g : List Nat} {hs hsC hsC' H H1 : List JC} (E : jEm ρ hs H) (hB : jgB g hs.length = true) (hcl : jcH hs.length hs = true) (hag : ∀ i, i < g.length → ρ1 i = (ρ ∘ jgm g hs.length) i) (E1 : jEm ρ1 hsC' H1) (hlen : hsC.length = g.length) (hsb : jSb (jgm g hs.length) hs 0 hsC) (hn1 : g.length ≤ hsC'.length) (hHH : H.length ≤ H1.length)
    (hfr : ∀ q, q < H.length → (∀ (i : Nat) (c : JC), hsC[i]? = some c → jisG c = false → (ρ ∘ jgm g hs.length) i ≠ q) → H1[q]? = H[q]?) (hnew : ∀ i, ρ1 i < H.length → ∃ j, j < g.length ∧ ρ1 i = (ρ ∘ jgm g hs.length) j) : jEm (jg2 ρ ρ1 hs.length g.length) (jput (jgm g hs.length) hs hsC hsC') H1 := by
  have hcomp := jg2_comp hB hag
  have cross : ∀ i t, i < hs.length → ¬ t < g.length → ρ i = ρ1 t → False := by
    intro i t hi ht he
    obtain ⟨j, hj, e⟩ := hnew t (by rw [← he]; exact jEm_lt E hi)
    rw [← hag j hj] at e
    exact ht (by rw [E1.1 _ _ e]; exact hj)
  refine ⟨fun i j he => ?_, fun i => ?_, fun k c hk => ?_⟩
  · by_cases hi : i < hs.length
    · by_cases hj : j < hs.length
      · rw [jg2_lt hi, jg2_lt hj] at he
        exact E.1 _ _ he
      · rw [jg2_lt hi, jg2_ge hj] at he
        exact (cross i _ hi (by omega) he).elim
    · by_cases hj : j < hs.length
      · rw [jg2_ge hi, jg2_lt hj] at he
        exact (cross j _ hj (by omega) he.symm).elim
      · rw [jg2_ge hi, jg2_ge hj] at he
        have := E1.1 _ _ he
        omega
  · rw [jput_len, jg2_ge (by omega), ← E1.2.1]
    congr 1
    omega
  · have key : ∀ (j : Nat) (c' : JC), hsC'[j]? = some c' → jg2 ρ ρ1 hs.length g.length (jgm g hs.length j) < H1.length ∧ (jisG (jrC (jgm g hs.length) c') = true ∨ H1[jg2 ρ ρ1 hs.length g.length (jgm g hs.length j)]? = some (jrC (jg2 ρ ρ1 hs.length g.length) (jrC (jgm g hs.length) c'))) := by
      intro j c' hj
      rw [jrC_comp, hcomp]
      show (jg2 ρ ρ1 hs.length g.length ∘ jgm g hs.length) j < _ ∧ (_ ∨ H1[(jg2 ρ ρ1 hs.length g.length ∘ jgm g hs.length) j]? = _)
      rw [hcomp, jisG_rn]
      exact E1.2.2 j c' hj
    have old : ∀ (c : JC), hs[k]? = some c → (∀ (i : Nat) (c0 : JC), hsC[i]? = some c0 → jisG c0 = false → jgm g hs.length i ≠ k) → jg2 ρ ρ1 hs.length g.length k < H1.length ∧ (jisG c = true ∨ H1[jg2 ρ ρ1 hs.length g.length k]? = some (jrC (jg2 ρ ρ1 hs.length g.length) c)) := by
      intro c hc hno
      have hlt := (List.getElem?_eq_some_iff.mp hc).1
      rw [jg2_lt hlt]
      refine ⟨Nat.lt_of_lt_of_le (jEm_lt E hlt) hHH, ?_⟩
      rcases (E.2.2 k c hc).2 with h | h
      · exact Or.inl h
      · refine Or.inr ?_
        rw [hfr _ (jEm_lt E hlt) (fun i c0 hi hg he => hno i c0 hi hg (E.1 _ _ he)), h]
        congr 1
        exact jrC_ext (n := hs.length) (fun i hi => (jg2_lt hi).symm) (jcH_get hs k c hcl hc)
    by_cases hlt : k < hs.length
    · unfold jput at hk
      rw [List.getElem?_append_left (by rw [jputL_len]; exact hlt)] at hk
      by_cases hex : ∃ (j : Nat) (c0 : JC), hsC[j]? = some c0 ∧ jisG c0 = false ∧ jgm g hs.length j = k
      · obtain ⟨j, c0, hj0, hg0, rfl⟩ := hex
        have hj1 : j < hsC.length := (List.getElem?_eq_some_iff.mp hj0).1
        have hj2 : j < hsC'.length := by omega
        have hget : (hsC'.take hsC.length)[j]? = some hsC'[j] := by
          rw [List.getElem?_take, if_pos hj1, List.getElem?_eq_getElem hj2]
        have h1 := jputL_in (hs := hs) (jgB_inj hB) hsC (hsC'.take hsC.length) 0 j _ _ hj0 hget hg0 (by rw [Nat.zero_add]; exact hlt)
        rw [Nat.zero_add] at h1
        rw [h1] at hk
        cases hk
        exact key j _ (List.getElem?_eq_getElem hj2)
      · have hno : ∀ (i : Nat) (c0 : JC), hsC[i]? = some c0 → jisG c0 = false → jgm g hs.length i ≠ k := fun i c0 hi hg he => hex ⟨i, c0, hi, hg, he⟩
        rw [jputL_out _ _ _ (fun j c0 hj hg he => hno j c0 hj hg (by rw [Nat.zero_add] at he; exact he))] at hk
        exact old c hk hno
    · unfold jput at hk
      rw [List.getElem?_append_right (by rw [jputL_len]; omega), jputL_len, List.getElem?_map, List.getElem?_drop] at hk
      obtain ⟨c', hc', rfl⟩ := Option.map_eq_some_iff.mp hk
      have h1 := key _ c' hc'
      rw [hlen, jgm_add] at h1
      rw [show hs.length + (k - hs.length) = k from by omega] at h1
      exact h1
/-- what a throw that comes back makes of the caller -/
def jXt (m pc : Nat) (v : JV) (Q : Nat → JV → Prop) : Prop := match jhnd m pc v.2 with
  | some z => Q 0 (0, z)
  | none => jmF (jm m) = 3 ∧ Q 1 v
/-- a call, by what is known of the callee on a part of the picture -/
theorem jT_call0 (g : List Nat) {y pcN dC bc1 bc2 c1 c2 : Nat} {as asC : List JV} {LN : JL} {stN : List JV} {hsC : List JC} {QC : Nat → JV → List JC → Prop} (hC : jT xs dC y g.length 0 (jent 0 asC) [] hsC bc1 bc2 QC)
    (hst : jstep xs m pc L st (hs, 0, 0) = some (.inr (.inr (y, as, (pcN, LN, stN), (hs, 0, 0))))) (hw : (Nat.ble (jwid stN) 8 && Nat.ble (jwid as) (jmL (jm y))) = true) (hB : jgB g hs.length = true) (hlen : hsC.length = g.length) (hsb : jSb (jgm g hs.length) hs 0 hsC) (has : as = jrS (jgm g hs.length) asC)
    (hcl : cond (jcH hs.length hs) (cond (jcL hs.length LN) (jcS hs.length stN) false) false = true) (hd : dC < d) (hn : n0 ≤ hs.length) (h1 : bc1 + c1 ≤ b1) (h2 : bc2 + c2 ≤ b2)
    (cont0 : ∀ v hsC', QC 0 v hsC' → (∀ (i : Nat) (c : JC), hsC[i]? = some c → jisG c = true → hsC'[i]? = some c) → jT xs d m n0 pcN LN (cond (Nat.beq (jmR (jm y)) 9) stN (jrV (jgm g hs.length) v :: stN)) (jput (jgm g hs.length) hs hsC hsC') c1 c2 Q)
    (cont1 : ∀ v hsC', QC 1 v hsC' → (∀ (i : Nat) (c : JC), hsC[i]? = some c → jisG c = true → hsC'[i]? = some c) → jXt m pc v (fun k v => Q k v (jput (jgm g hs.length) hs hsC hsC'))) : jT xs d m n0 pc L st hs b1 b2 Q := by
  intro ρ H c s L2 E hL
  obtain ⟨hc1, hc2⟩ := jcondT hcl
  obtain ⟨hc2, hc3⟩ := jcondT hc2
  have E0 := jEm_sub E hB hlen hsb
  obtain ⟨f1, ρ1, k1, v1, hsC', H1, cc, ss, q1, q2, q3, q4, q5, q6, q7, q8, q11, ⟨q9, q10⟩, q12⟩ := hC _ H c s _ E0 (jLe_rf (by rw [← jent_rn]; exact jent_nd _ _))
  rw [hlen] at q11
  have hcomp := jg2_comp hB q5
  have EP := jEm_put E hB hc1 q5 q4 hlen hsb q6 q7 q8 q11
  have q12 : ∀ (i : Nat) (c : JC), hsC[i]? = some c → jisG c = true → hsC'[i]? = some c := fun i c hi hg => q12 i c (by rw [← hlen]; exact (List.getElem?_eq_some_iff.mp hi).1) hi hg
  obtain ⟨d1, rfl⟩ : ∃ d1, d = d1 + 1 := ⟨d - 1, by omega⟩
  obtain ⟨H0, L3, e1, hL3, -, F1⟩ := jstep_sim (xs := xs) (m := m) (pc := pc) (L := L) (st := st) (h := (hs, 0, 0)) (b1 := c) (b2 := s) E hL _ hst
  have e1 : jstep xs m pc L2 (jrS ρ st) (H, c, s) = some (.inr (.inr (y, jrS ρ as, (pcN, L3, jrS ρ stN), (H, c, s)))) := by
    obtain ⟨hz, -⟩ := (jstep_inv e1 : jInv m pc _ _ _ (.inr (.inr (y, jrS ρ as, _, _))))
    have hz1 : H0 = H := congrArg Prod.fst hz
    subst hz1
    exact e1
  have hag : ∀ i, i < hs.length → ρ i = jg2 ρ ρ1 hs.length g.length i := fun i hi => (jg2_lt hi).symm
  have hL4 : jLe (jrL (jg2 ρ ρ1 hs.length g.length) LN) L3 := by
    rw [← jrL_ext hag LN hc2]
    exact hL3
  have q3' : jrun xs f1 d1 y 0 (jent 0 (jrS ρ as)) [] (H, c, s) = (k1, jrV ρ1 v1, (H1, cc, ss)) := by
    rw [has, jrS_comp, jent_rn]
    exact jrun_up _ _ _ _ _ _ _ _ _ _ q3 q2 f1 d1 (Nat.le_refl _) (by omega)
  have hw' : (Nat.ble (jwid (jrS ρ stN)) 8 && Nat.ble (jwid (jrS ρ as)) (jmL (jm y))) = true := by rw [jwid_rn, jwid_rn]; exact hw
  have frame1 : ∀ q, q < H.length → (∀ (i : Nat) (c : JC), hs[i]? = some c → jisG c = false → ρ i ≠ q) → H1[q]? = H[q]? := fun q hq hne => q8 q hq (fun i c hi hg he => by
    have h1 := jSb_get hsC 0 i c hsb hi hg
    rw [Nat.zero_add] at h1
    exact hne _ _ h1 (by rw [jisG_rn]; exact hg) he)
  have new1 : ∀ i, jg2 ρ ρ1 hs.length g.length i < H.length → ∃ j, j < hs.length ∧ jg2 ρ ρ1 hs.length g.length i = ρ j := by
    intro i hi
    by_cases hlt : i < hs.length
    · exact ⟨i, hlt, jg2_lt hlt⟩
    · rw [jg2_ge hlt] at hi ⊢
      obtain ⟨j, hj, e⟩ := q11 _ hi
      exact ⟨_, jgB_lt hB hj, e⟩
  match k1, q1, q2, q3' with
  | 0, q1, q2, q3' =>
    obtain ⟨f2, ρ', k, v, hsN, H', c', s', r1, r2, r3, r4, r5, r6, r7, r8, r11, ⟨r9, r10⟩, r12⟩ := cont0 v1 hsC' q1 q12 _ H1 cc ss L3 EP hL4
    refine ⟨max f1 f2 + 1, ρ', k, v, hsN, H', c', s', r1, r2, ?_, r4, fun i hi => ?_, r6, Nat.le_trans q7 r7, fun q hq hne => ?_, fun i hi => ?_, ⟨by omega, by omega⟩, fun i c hi hc hg => r12 i c hi (jput_ghost hsb hc hg) hg⟩
    · rw [jrun_s, e1]
      try dsimp only [cond_true]
      rw [hw', jrun_up _ _ _ _ _ _ _ _ _ _ q3' (by decide) (max f1 f2) d1 (Nat.le_max_left _ _) (Nat.le_refl _)]
      show jrun xs (max f1 f2) (d1 + 1) m pcN L3 (cond (Nat.beq (jmR (jm y)) 9) (jrS ρ stN) (jrV ρ1 v1 :: jrS ρ stN)) (H1, cc, ss) = _
      rw [← jrun_up _ _ _ _ _ _ _ _ _ _ r3 r2 (max f1 f2) (d1 + 1) (Nat.le_max_right _ _) (Nat.le_refl _)]
      have es : cond (Nat.beq (jmR (jm y)) 9) (jrS ρ stN) (jrV ρ1 v1 :: jrS ρ stN) = jrS (jg2 ρ ρ1 hs.length g.length) (cond (Nat.beq (jmR (jm y)) 9) stN (jrV (jgm g hs.length) v1 :: stN)) := by
        rw [jrS_ext hag stN hc3]
        cases Nat.beq (jmR (jm y)) 9 with
        | true => rfl
        | false =>
          show jrV ρ1 v1 :: _ = jrV _ (jrV _ v1) :: _
          rw [jrV_comp, hcomp]
      rw [es]
    · rw [r5 i hi, jg2_lt (Nat.lt_of_lt_of_le hi hn)]
    · rw [r8 q (Nat.lt_of_lt_of_le hq q7) (fun i c hi hg he => ?_), frame1 q hq hne]
      by_cases hlt : i < hs.length
      · have h0 := List.getElem?_eq_getElem hlt
        cases hb : jisG hs[i] with
        | true =>
          have h5 := jput_ghost (hsC' := hsC') hsb h0 hb
          rw [hi] at h5
          have h6 : c = hs[i] := Option.some.inj h5
          rw [h6, hb] at hg
          cases hg
        | false =>
          rw [jg2_lt hlt] at he
          exact hne i _ h0 hb he
      · rw [jg2_ge hlt] at he
        obtain ⟨j, hj, e⟩ := q11 _ (by rw [he]; exact hq)
        have e2 : ρ1 (g.length + (i - hs.length)) = ρ1 j := by rw [e, q5 j hj]
        have := q4.1 _ _ e2
        omega
    · obtain ⟨j, hj, e⟩ := r11 i (Nat.lt_of_lt_of_le hi q7)
      obtain ⟨j2, hj2, e2⟩ := new1 j (by rw [← e]; exact hi)
      exact ⟨j2, hj2, by rw [e]; exact e2⟩
  | 1, q1, q2, q3' =>
    have hx := cont1 v1 hsC' q1 q12
    obtain ⟨-, hv0, -⟩ := jrun_thr _ _ _ _ _ _ _ _ _ q3'
    rw [jrV_fst] at hv0
    have ev : ∀ σ, jrV σ v1 = v1 := by
      intro σ
      obtain ⟨t, x⟩ := v1
      exact jrV_t (by rw [show t = 0 from hv0]; decide)
    rw [ev] at q3'
    unfold jXt at hx
    cases hz : jhnd m pc v1.2 with
    | some z =>
      rw [hz] at hx
      refine ⟨f1 + 1, _, 0, (0, z), _, H1, cc, ss, hx, by decide, ?_, EP, fun i hi => jg2_lt (Nat.lt_of_lt_of_le hi hn), by rw [jput_len]; omega, q7, frame1, new1, ⟨by omega, by omega⟩, fun i c hi hc hg => jput_ghost hsb hc hg⟩
      rw [jrun_s, e1]
      try dsimp only [cond_true]
      rw [hw', q3']
      show (match jhnd m pc v1.2 with
        | some k => (0, (0, k), (H1, cc, ss))
        | none => cond (Nat.beq (jmF (jm m)) 3) (1, v1, (H1, cc, ss)) (2, v1, (H1, cc, ss))) = _
      rw [hz]
      rfl
    | none =>
      rw [hz] at hx
      refine ⟨f1 + 1, _, 1, v1, _, H1, cc, ss, hx.2, by decide, ?_, EP, fun i hi => jg2_lt (Nat.lt_of_lt_of_le hi hn), by rw [jput_len]; omega, q7, frame1, new1, ⟨by omega, by omega⟩, fun i c hi hc hg => jput_ghost hsb hc hg⟩
      rw [jrun_s, e1]
      try dsimp only [cond_true]
      rw [hw', q3']
      show (match jhnd m pc v1.2 with
        | some k => (0, (0, k), (H1, cc, ss))
        | none => cond (Nat.beq (jmF (jm m)) 3) (1, v1, (H1, cc, ss)) (2, v1, (H1, cc, ss))) = _
      rw [hz, ev, show Nat.beq (jmF (jm m)) 3 = true from by rw [hx.1]; rfl]
      rfl
  | k1 + 2, q1, q2, q3' => omega
/-- a call, by what is known of the callee on a part of the picture -/
theorem jT_call (g : List Nat) {y pcN dC bc1 bc2 c1 c2 : Nat} {as asC : List JV} {LN : JL} {stN : List JV} {hsC : List JC} {QC : Nat → JV → List JC → Prop} (hC : jT xs dC y g.length 0 (jent 0 asC) [] hsC bc1 bc2 QC)
    (hst : jstep xs m pc L st (hs, 0, 0) = some (.inr (.inr (y, as, (pcN, LN, stN), (hs, 0, 0))))) (hw : (Nat.ble (jwid stN) 8 && Nat.ble (jwid as) (jmL (jm y))) = true) (hB : jgB g hs.length = true) (hlen : hsC.length = g.length) (hsb : jSb (jgm g hs.length) hs 0 hsC) (has : as = jrS (jgm g hs.length) asC)
    (hcl : cond (jcH hs.length hs) (cond (jcL hs.length LN) (jcS hs.length stN) false) false = true) (hd : dC < d) (hn : n0 ≤ hs.length) (h1 : bc1 + c1 ≤ b1) (h2 : bc2 + c2 ≤ b2)
    (cont0 : ∀ v hsC', QC 0 v hsC' → jT xs d m n0 pcN LN (cond (Nat.beq (jmR (jm y)) 9) stN (jrV (jgm g hs.length) v :: stN)) (jput (jgm g hs.length) hs hsC hsC') c1 c2 Q)
    (cont1 : ∀ v hsC', QC 1 v hsC' → jXt m pc v (fun k v => Q k v (jput (jgm g hs.length) hs hsC hsC'))) : jT xs d m n0 pc L st hs b1 b2 Q :=
  jT_call0 g hC hst hw hB hlen hsb has hcl hd hn h1 h2 (fun v hsC' q _ => cont0 v hsC' q) (fun v hsC' q _ => cont1 v hsC' q)
end JTT
