/-! the little machine, part 13: what a run can be -/
theorem jrun_s {xs : List Int} {f d m pc : Nat} {L : JL} {st : List JV} {h : JH} : jrun xs (f + 1) d m pc L st h = (match jstep xs m pc L st h with
      | none => (2, (9, 0), h)
      | some (.inl (g, h')) => jrun xs f d m g.1 g.2.1 g.2.2 h'
      | some (.inr (.inl o)) => o
      | some (.inr (.inr (y, a, g, h'))) => (match d with
        | 0 => (2, (9, 0), h')
        | d' + 1 => cond (Nat.ble (jwid g.2.2) 8 && Nat.ble (jwid a) (jmL (jm y))) (match jrun xs f d' y 0 (jent 0 a) [] h' with
          | (0, v, h2) => jrun xs f d m g.1 g.2.1 (cond (Nat.beq (jmR (jm y)) 9) g.2.2 (v :: g.2.2)) h2
          | (1, v, h2) => (match jhnd m pc v.2 with
            | some k => (0, (0, k), h2)
            | none => cond (Nat.beq (jmF (jm m)) 3) (1, v, h2) (2, v, h2))
          | (_, _, h2) => (2, (9, 0), h2)) (2, (9, 0), h'))) := rfl
theorem jrun_inv {xs : List Int} {f d m pc k : Nat} {L : JL} {st : List JV} {h h' : JH} {v : JV} (hr : jrun xs (f + 1) d m pc L st h = (k, v, h')) (hk : k < 2) :
    (∃ g h1, jstep xs m pc L st h = some (.inl (g, h1)) ∧ jrun xs f d m g.1 g.2.1 g.2.2 h1 = (k, v, h')) ∨
    jstep xs m pc L st h = some (.inr (.inl (k, v, h'))) ∨
    (∃ y as g d', jstep xs m pc L st h = some (.inr (.inr (y, as, g, h))) ∧ d = d' + 1 ∧ jwid g.2.2 ≤ 8 ∧ jwid as ≤ jmL (jm y) ∧ ∃ v2 h2,
      (jrun xs f d' y 0 (jent 0 as) [] h = (0, v2, h2) ∧ jrun xs f d m g.1 g.2.1 (cond (Nat.beq (jmR (jm y)) 9) g.2.2 (v2 :: g.2.2)) h2 = (k, v, h')) ∨
      (jrun xs f d' y 0 (jent 0 as) [] h = (1, v2, h2) ∧ ((∃ z, jhnd m pc v2.2 = some z ∧ k = 0 ∧ v = (0, z) ∧ h' = h2) ∨ (jmF (jm m) = 3 ∧ k = 1 ∧ v = v2 ∧ h' = h2)))) := by
  rw [jrun_s] at hr
  cases hj : jstep xs m pc L st h with
  | none =>
    rw [hj] at hr
    cases hr
    exact absurd hk (by decide)
  | some z =>
    rw [hj] at hr
    have hinv := jstep_inv hj
    match z, hr, hj, hinv with
    | .inl (g, h1), hr, hj, _ => exact Or.inl ⟨g, h1, rfl, hr⟩
    | .inr (.inl o), hr, hj, _ =>
      dsimp only at hr
      subst hr
      exact Or.inr (Or.inl rfl)
    | .inr (.inr (y, as, g, h1)), hr, hj, hinv =>
      obtain ⟨rfl, -⟩ := hinv
      cases d with
      | zero =>
        cases hr
        exact absurd hk (by decide)
      | succ d' =>
        dsimp only at hr
        cases hb : (Nat.ble (jwid g.2.2) 8 && Nat.ble (jwid as) (jmL (jm y))) with
        | false =>
          rw [hb] at hr
          cases hr
          exact absurd hk (by decide)
        | true =>
          obtain ⟨hb1, hb2⟩ := Bool.and_eq_true_iff.mp hb
          rw [hb] at hr
          refine Or.inr (Or.inr ⟨y, as, g, d', rfl, rfl, Nat.le_of_ble_eq_true hb1, Nat.le_of_ble_eq_true hb2, ?_⟩)
          cases hq : jrun xs f d' y 0 (jent 0 as) [] h1 with
          | mk k2 q =>
            obtain ⟨v2, h2⟩ := q
            rw [hq] at hr
            dsimp only [cond] at hr
            match k2, hr, hq with
            | 0, hr, hq => exact ⟨v2, h2, Or.inl ⟨rfl, hr⟩⟩
            | 1, hr, hq =>
              refine ⟨v2, h2, Or.inr ⟨rfl, ?_⟩⟩
              replace hr : (match jhnd m pc v2.2 with
                | some z => (0, (0, z), h2)
                | none => cond (Nat.beq (jmF (jm m)) 3) (1, v2, h2) (2, v2, h2)) = (k, v, h') := hr
              cases hh : jhnd m pc v2.2 with
              | some z =>
                rw [hh] at hr
                cases hr
                exact Or.inl ⟨z, rfl, rfl, rfl, rfl⟩
              | none =>
                rw [hh] at hr
                dsimp only at hr
                cases h3 : Nat.beq (jmF (jm m)) 3 with
                | true =>
                  rw [h3] at hr
                  cases hr
                  exact Or.inr ⟨Nat.eq_of_beq_eq_true h3, rfl, rfl, rfl⟩
                | false =>
                  rw [h3] at hr
                  cases hr
                  exact absurd hk (by decide)
            | k2 + 2, hr, hq =>
              cases hr
              exact absurd hk (by decide)
theorem jrun_mono {xs : List Int} : ∀ (f d m pc k : Nat) (L : JL) (st : List JV) (h h' : JH) (v : JV), jrun xs f d m pc L st h = (k, v, h') → k < 2 → jhle h h' := by
  intro f
  induction f with
  | zero =>
    intro d m pc k L st h h' v hr hk
    cases hr
    exact absurd hk (by decide)
  | succ f ih =>
    intro d m pc k L st h h' v hr hk
    rcases jrun_inv hr hk with ⟨g, h1, hs, hr1⟩ | hs | ⟨y, as, g, d', hs, -, -, -, v2, h2, ⟨hr1, hr2⟩ | ⟨hr1, hz⟩⟩
    · exact jhle.trans (jstep_inv hs) (ih _ _ _ _ _ _ _ _ _ hr1 hk)
    · rcases jstep_inv hs with ⟨-, rfl, -⟩ | ⟨-, hq⟩
      · exact jhle_rf
      · obtain ⟨i, e, kk, ic, t, w, z1, z2, -, -, -, -, -, -, -, -, -, -, rfl⟩ := hq
        exact ⟨Nat.le_add_right _ _, Nat.le_add_right _ _⟩
    · exact jhle.trans (ih _ _ _ _ _ _ _ _ _ hr1 (by decide)) (ih _ _ _ _ _ _ _ _ _ hr2 hk)
    · have h9 := ih _ _ _ _ _ _ _ _ _ hr1 (by decide)
      rcases hz with ⟨z, -, -, -, rfl⟩ | ⟨-, -, -, rfl⟩
      · exact h9
      · exact h9
/-- who throws is of the sort that may -/
theorem jrun_thr {xs : List Int} : ∀ (f d m pc : Nat) (L : JL) (st : List JV) (h h' : JH) (v : JV), jrun xs f d m pc L st h = (1, v, h') → jmF (jm m) = 3 ∧ v.1 = 0 ∧ ∃ e : Nat, e < 5 ∧ v.2 = (e : Int) := by
  intro f
  induction f with
  | zero =>
    intro d m pc L st h h' v hr
    cases hr
  | succ f ih =>
    intro d m pc L st h h' v hr
    rcases jrun_inv hr (by decide) with ⟨g, h1, hs, hr1⟩ | hs | ⟨y, as, g, d', hs, -, -, -, v2, h2, ⟨hr1, hr2⟩ | ⟨hr1, hz⟩⟩
    · exact ih _ _ _ _ _ _ _ _ hr1
    · rcases jstep_inv hs with ⟨h9, -, -⟩ | ⟨-, hq⟩
      · cases h9
      · obtain ⟨i, e, kk, ic, t, w, z1, z2, -, -, h3, -, h5, -, -, -, -, rfl, -⟩ := hq
        exact ⟨h3, rfl, e, h5, rfl⟩
    · exact ih _ _ _ _ _ _ _ _ hr2
    · rcases hz with ⟨z, -, h9, -, -⟩ | ⟨h3, -, rfl, rfl⟩
      · cases h9
      · exact ⟨h3, (ih _ _ _ _ _ _ _ _ hr1).2⟩
theorem jhnd_0 {m pc : Nat} {e z : Int} (h : jhnd m pc e = some z) : jhOk m = true ∧ jmF (jm m) = 4 ∧ jmR (jm m) = 0 ∧ ∃ q, (jmH (jm m)).find? (fun q => Nat.ble q.1 pc && Nat.blt pc q.2.1 && jcat (jmC (jm m)) q.2.2.2 e) = some q ∧ jhcd m q.2.2.1 = some z := by
  unfold jhnd at h
  cases hb : (jhOk m && Nat.beq (jmF (jm m)) 4 && Nat.beq (jmR (jm m)) 0) with
  | false => rw [hb] at h; cases h
  | true =>
    rw [hb] at h
    obtain ⟨hb, hb3⟩ := Bool.and_eq_true_iff.mp hb
    obtain ⟨hb1, hb2⟩ := Bool.and_eq_true_iff.mp hb
    refine ⟨hb1, Nat.eq_of_beq_eq_true hb2, Nat.eq_of_beq_eq_true hb3, ?_⟩
    dsimp only [cond] at h
    split at h
    · rename_i q hq
      exact ⟨q, hq, h⟩
    · cases h
/-- nothing is answered by a method without an answer, and by no other -/
theorem jrun_r9 {xs : List Int} : ∀ (f d m pc : Nat) (L : JL) (st : List JV) (h h' : JH) (v : JV), jrun xs f d m pc L st h = (0, v, h') → Nat.beq v.1 9 = Nat.beq (jmR (jm m)) 9 := by
  intro f
  induction f with
  | zero =>
    intro d m pc L st h h' v hr
    cases hr
  | succ f ih =>
    intro d m pc L st h h' v hr
    rcases jrun_inv hr (by decide) with ⟨g, h1, hs, hr1⟩ | hs | ⟨y, as, g, d', hs, -, -, -, v2, h2, ⟨hr1, hr2⟩ | ⟨hr1, hz⟩⟩
    · exact ih _ _ _ _ _ _ _ _ hr1
    · rcases jstep_inv hs with ⟨-, -, he⟩ | ⟨h9, -⟩
      · obtain ⟨ins, -, he⟩ := he
        rcases he with ⟨-, -, h1, h2 | ⟨h2, -⟩⟩ | ⟨-, -, h1, h2⟩ | ⟨-, -, h1, h2⟩ | ⟨-, -, h1, h2⟩ | ⟨-, -, h1, h2⟩ | ⟨-, -, h1, h2⟩
        · rw [h1, h2]
        · rw [h1, h2]; rfl
        · rw [h1, h2]
        · rw [h1, h2]
        · rw [h1, h2]
        · rw [h1, h2]
        · rw [h1, h2]
      · cases h9
    · exact ih _ _ _ _ _ _ _ _ hr2
    · rcases hz with ⟨z, hz, -, rfl, -⟩ | ⟨-, h9, -, -⟩
      · obtain ⟨-, -, h0, -⟩ := jhnd_0 hz
        rw [h0]
      · cases h9
/-- values off the stack -/
theorem jtake_ok : ∀ (n : Nat) (st acc as r : List JV), jtake n st acc = some (as, r) → ∃ t : List JV, st = t ++ r ∧ as = t.reverse ++ acc ∧ t.length = n
  | 0, st, acc, as, r, h => by
    cases h
    exact ⟨[], rfl, rfl, rfl⟩
  | n + 1, [], acc, as, r, h => by cases h
  | n + 1, v :: st, acc, as, r, h => by
    obtain ⟨t, h1, h2, h3⟩ := jtake_ok n st (v :: acc) as r h
    exact ⟨v :: t, by rw [h1]; rfl, by rw [h2, List.reverse_cons, List.append_assoc]; rfl, by rw [List.length_cons, h3]⟩
theorem jtake_st {n : Nat} {st as r : List JV} (h : jtake n st [] = some (as, r)) (a : JA) : st.map (jc a) = (as.map (jc a)).reverse ++ r.map (jc a) ∧ as.length = n := by
  obtain ⟨t, h1, h2, h3⟩ := jtake_ok n st [] as r h
  rw [List.append_nil] at h2
  subst h1
  subst h2
  exact ⟨by rw [List.map_append, List.map_reverse, List.reverse_reverse], by rw [List.length_reverse]; exact h3⟩
theorem jtake_wf {k n : Nat} {st as r : List JV} (h : jtake n st [] = some (as, r)) (hw : jwS k st) : jwS k as ∧ jwS k r := by
  obtain ⟨t, h1, h2, -⟩ := jtake_ok n st [] as r h
  rw [List.append_nil] at h2
  subst h1
  subst h2
  exact ⟨fun v hv => hw v (List.mem_append_left _ (List.mem_reverse.mp hv)), fun v hv => hw v (List.mem_append_right _ hv)⟩
/-- the locals at a method's entry -/
theorem jent_args {a : JA} : ∀ (as : List JV) (i : Nat), lv_args i (as.map (jc a)) = (jent i as).map (jcv a)
  | [], _ => rfl
  | v :: r, i => by
    show (i, jc a v) :: lv_args (if (jc a v).category = 2 then i + 2 else i + 1) (r.map (jc a)) = (i, jc a v) :: (jent (i + cond (jone v) 1 2) r).map (jcv a)
    rw [jent_args r]
    cases hv : jone v with
    | true => rw [jc_cat1 hv]; rfl
    | false => rw [jc_cat2 hv]; rfl
theorem jent_len {a : JA} : ∀ as : List JV, (lg_sl (as.map (jc a))).length = jwid as
  | [] => rfl
  | v :: r => by
    show ((if (jc a v).category = 2 then [Slot.val (jc a v), Slot.second] else [Slot.val (jc a v)]) ++ lg_sl (r.map (jc a))).length = cond (jone v) 1 2 + jwid r
    rw [List.length_append, jent_len r]
    cases hv : jone v with
    | true => rw [jc_cat1 hv]; rfl
    | false => rw [jc_cat2 hv]; rfl
theorem jent_wf {n : Nat} : ∀ (as : List JV) (i : Nat), jwS n as → jwL n (jent i as)
  | [], _, _ => fun q hq => nomatch hq
  | v :: r, i, h => fun q hq => (List.mem_cons.mp hq).elim (fun e => by rw [e]; exact jS_head h) (fun hq => jent_wf r _ (jS_tail h) q hq)
