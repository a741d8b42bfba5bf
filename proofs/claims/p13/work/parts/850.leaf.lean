/-! from the picture behind both constructors to a case's picture; from runs to steps at the top -/
section JTT
variable {xs : List Int} {d m n0 pc b1 b2 : Nat} {L : JL} {st : List JV} {hs : List JC} {Q : Nat → JV → List JC → Prop}
theorem jT.low {n1 : Nat} (h : jT xs d m n0 pc L st hs b1 b2 Q) (hle : n1 ≤ n0) : jT xs d m n1 pc L st hs b1 b2 Q := by
  intro ρ H c s L2 E hL
  obtain ⟨f, ρ', k, v, hsN, H', c', s', q1, q2, q3, q4, q5, q6, q7, q8, q11, q9, q12⟩ := h ρ H c s L2 E hL
  exact ⟨f, ρ', k, v, hsN, H', c', s', q1, q2, q3, q4, fun i hi => q5 i (by omega), by omega, q7, q8, q11, q9, fun i c2 hi => q12 i c2 (by omega)⟩
theorem jT_leaf (g : List Nat) {L0 : JL} {hs0 : List JC} {dl c1 c2 : Nat} (h : jT xs dl m g.length pc L0 [] hs0 c1 c2 (fun k v _ => k = 0 ∧ v = (0, 1))) (hk : jck g 156 hs hs0 = true) (hL : L = jrL (jgm g 156) L0) (h1 : c1 ≤ b1) (h2 : c2 ≤ b2) : jT xs dl m 0 pc L [] hs b1 b2 (fun k v _ => k = 0 ∧ v = (0, 1)) := by
  obtain ⟨e1, e2, e3, e4, e5⟩ := jck_ok hk
  have h3 : jT xs dl m 0 pc L0 [] hs0 b1 b2 (fun k v _ => k = 0 ∧ v = (0, 1)) := (h.low (Nat.zero_le _)).mono (Nat.le_refl _) h1 h2 (fun _ _ _ q => q)
  rw [← e1] at e3 e5 hL
  exact jT_gc g e3 e2 e5 hL rfl rfl h3
end JTT
/-- a run of a method whose throws nobody catches, as steps at the top -/
theorem jrun_top {xs : List Int} {d m f0 : Nat} (h5 : jmF (jm m) = 5) : ∀ (f pc : Nat) (L : JL) (st : List JV) (h h' : JH) (v : JV), jrun xs f (d + 1) m pc L st h = (0, v, h') → f ≤ f0 → ∃ n pcN LN stN, jadv xs f0 d m n pc L st h = some ((pcN, LN, stN), h') ∧ jEnd0 m pcN stN v := by
  intro f
  induction f with
  | zero =>
    intro pc L st h h' v hr _
    cases hr
  | succ f ih =>
    intro pc L st h h' v hr hf
    rw [jrun_s] at hr
    cases hs : jstep xs m pc L st h with
    | none => rw [hs] at hr; cases hr
    | some z =>
      have hinv := jstep_inv hs
      rw [hs] at hr
      match z, hr, hs, hinv with
      | .inl (g, h1), hr, hs, _ =>
        obtain ⟨n, pcN, LN, stN, e, he⟩ := ih g.1 g.2.1 g.2.2 h1 h' v hr (by omega)
        refine ⟨n + 1, pcN, LN, stN, ?_, he⟩
        rw [jadv_s, hs]
        exact e
      | .inr (.inl o), hr, hs, hinv =>
        obtain ⟨k, w, h1⟩ := o
        cases hr
        rcases hinv with ⟨-, e, he⟩ | ⟨e, -⟩
        · refine ⟨0, pc, L, st, ?_, he⟩
          show some ((pc, L, st), h) = some ((pc, L, st), h')
          rw [show h' = h from e]
        · cases e
      | .inr (.inr (y, as, g, h1)), hr, hs, _ =>
        try dsimp only [cond_true] at hr
        cases hb : (Nat.ble (jwid g.2.2) 8 && Nat.ble (jwid as) (jmL (jm y))) with
        | false => rw [hb] at hr; cases hr
        | true =>
          rw [hb] at hr
          cases hq : jrun xs f d y 0 (jent 0 as) [] h1 with
          | mk k2 q =>
            obtain ⟨v2, h2⟩ := q
            rw [hq] at hr
            match k2, hr, hq with
            | 0, hr, hq =>
              obtain ⟨n, pcN, LN, stN, e, he⟩ := ih g.1 g.2.1 (cond (Nat.beq (jmR (jm y)) 9) g.2.2 (v2 :: g.2.2)) h2 h' v hr (by omega)
              refine ⟨n + 1, pcN, LN, stN, ?_, he⟩
              rw [jadv_s, hs]
              try dsimp only [cond_true]
              rw [hb, jrun_up _ _ _ _ _ _ _ _ _ _ hq (by decide) f0 d (by omega) (Nat.le_refl _)]
              exact e
            | 1, hr, hq =>
              have hz : jhnd m pc v2.2 = none := by
                unfold jhnd
                rw [h5]
                cases jhOk m <;> rfl
              replace hr : (match jhnd m pc v2.2 with
                | some k => (0, (0, k), h2)
                | none => cond (Nat.beq (jmF (jm m)) 3) (1, v2, h2) (2, v2, h2)) = (0, v, h') := hr
              rw [hz, h5] at hr
              cases hr
            | k2 + 2, hr, hq => cases hr
