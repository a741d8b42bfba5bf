/-! the little machine, part 19: steps at the top; a smaller picture; the law's frame -/
/-- so many steps at the top, calls within f -/
noncomputable def jadv (xs : List Int) (f d m n : Nat) : Nat → JL → List JV → JH → Option (JF × JH) :=
  Nat.rec (motive := fun _ => Nat → JL → List JV → JH → Option (JF × JH)) (fun pc L st h => some ((pc, L, st), h))
    (fun _ ih pc L st h => match jstep xs m pc L st h with
      | some (.inl (g, h')) => ih g.1 g.2.1 g.2.2 h'
      | some (.inr (.inr (y, a, g, h'))) => cond (Nat.ble (jwid g.2.2) 8 && Nat.ble (jwid a) (jmL (jm y))) (match jrun xs f d y 0 (jent 0 a) [] h' with
        | (0, v, h2) => ih g.1 g.2.1 (cond (Nat.beq (jmR (jm y)) 9) g.2.2 (v :: g.2.2)) h2
        | _ => none) none
      | _ => none) n
theorem jadv_s {xs : List Int} {f d m n pc : Nat} {L : JL} {st : List JV} {h : JH} : jadv xs f d m (n + 1) pc L st h = (match jstep xs m pc L st h with
      | some (.inl (g, h')) => jadv xs f d m n g.1 g.2.1 g.2.2 h'
      | some (.inr (.inr (y, a, g, h'))) => cond (Nat.ble (jwid g.2.2) 8 && Nat.ble (jwid a) (jmL (jm y))) (match jrun xs f d y 0 (jent 0 a) [] h' with
        | (0, v, h2) => jadv xs f d m n g.1 g.2.1 (cond (Nat.beq (jmR (jm y)) 9) g.2.2 (v :: g.2.2)) h2
        | _ => none) none
      | _ => none) := rfl
theorem jadv_inv {xs : List Int} {f d m n pc : Nat} {L : JL} {st : List JV} {h : JH} {z : JF × JH} (hr : jadv xs f d m (n + 1) pc L st h = some z) :
    (∃ g h1, jstep xs m pc L st h = some (.inl (g, h1)) ∧ jadv xs f d m n g.1 g.2.1 g.2.2 h1 = some z) ∨
    (∃ y as g v2 h2, jstep xs m pc L st h = some (.inr (.inr (y, as, g, h))) ∧ jwid g.2.2 ≤ 8 ∧ jwid as ≤ jmL (jm y) ∧ jrun xs f d y 0 (jent 0 as) [] h = (0, v2, h2) ∧ jadv xs f d m n g.1 g.2.1 (cond (Nat.beq (jmR (jm y)) 9) g.2.2 (v2 :: g.2.2)) h2 = some z) := by
  rw [jadv_s] at hr
  cases hj : jstep xs m pc L st h with
  | none => rw [hj] at hr; cases hr
  | some q =>
    rw [hj] at hr
    have hinv := jstep_inv hj
    match q, hr, hj, hinv with
    | .inl (g, h1), hr, hj, _ => exact Or.inl ⟨g, h1, rfl, hr⟩
    | .inr (.inl o), hr, hj, _ => cases hr
    | .inr (.inr (y, as, g, h1)), hr, hj, hinv =>
      obtain ⟨rfl, -⟩ := hinv
      dsimp only at hr
      cases hb : (Nat.ble (jwid g.2.2) 8 && Nat.ble (jwid as) (jmL (jm y))) with
      | false => rw [hb] at hr; cases hr
      | true =>
        obtain ⟨hb1, hb2⟩ := Bool.and_eq_true_iff.mp hb
        rw [hb] at hr
        cases hq : jrun xs f d y 0 (jent 0 as) [] h1 with
        | mk k2 q =>
          obtain ⟨v2, h2⟩ := q
          rw [hq] at hr
          match k2, hr, hq with
          | 0, hr, hq => exact Or.inr ⟨y, as, g, v2, h2, rfl, Nat.le_of_ble_eq_true hb1, Nat.le_of_ble_eq_true hb2, hq, hr⟩
          | k2 + 1, hr, hq => cases hr
theorem jadv_mono {xs : List Int} {f d m : Nat} : ∀ (n pc : Nat) (L : JL) (st : List JV) (h : JH) (z : JF × JH), jadv xs f d m n pc L st h = some z → jhle h z.2 := by
  intro n
  induction n with
  | zero =>
    intro pc L st h z hr
    cases hr
    exact jhle_rf
  | succ n ih =>
    intro pc L st h z hr
    rcases jadv_inv hr with ⟨g, h1, hs, hr1⟩ | ⟨y, as, g, v2, h2, hs, -, -, hr1, hr2⟩
    · exact jhle.trans (jstep_inv hs) (ih _ _ _ _ _ hr1)
    · exact jhle.trans (jrun_mono _ _ _ _ _ _ _ _ _ _ hr1 (by decide)) (ih _ _ _ _ _ hr2)
section JLW
variable {p : Program} {l : Launch} {e : Env} {R : Room} {s : State} {m : MethodId} {args : Array Value} {below : List Frame} {meth : Method} {c : Code} {Q : State → Prop}
variable {D : va_G} {aC : Nat → ClassId} {A : Nat → Prop} {xs : List Int}
theorem jadv_ok (hl : l.stackTraces = false) {f d mm : Nat} : ∀ (n pc : Nat) (L : JL) (st : List JV) (h : JH) (pcN : Nat) (LN : JL) (stN : List JV) (h' : JH), jadv xs f d mm n pc L st h = some ((pcN, LN, stN), h') →
    ∀ (a : JA) (H : Heap) (locs : List Loc) (ls : Array Slot) (cells slots : Nat), jFx p s m meth c mm → jCx D aC xs a A s → jHp D aC a A s h.1 H locs → jFr a h.1.length (jmL (jm mm)) L st ls → d + 1 + 8 ≤ R.frames → 72 * (d + 1) + 200 ≤ R.locals → h'.2.1 + cells ≤ h.2.1 + R.cells → h'.2.2 + slots ≤ h.2.2 + R.slots →
    jKn p l e R s m args below meth c Q D aC A (jmL (jm mm)) a h cells slots pcN LN stN h' → W p l e R s m args below meth c H locs cells slots Q (F0 m pc ls (st.map (jc a))) := by
  intro n
  induction n with
  | zero =>
    intro pc L st h pcN LN stN h' hr a H locs ls cells slots fx cx hP hf hRf hRl hc hs K
    cases hr
    exact K.same hP hf
  | succ n ih =>
    intro pc L st h pcN LN stN h' hr a H locs ls cells slots fx cx hP hf hRf hRl hc hs K
    have hmono := jadv_mono _ _ _ _ _ _ hr
    have hm1 := hmono.1
    have hm2 := hmono.2
    dsimp only at hm1 hm2
    rcases jadv_inv hr with ⟨g, h1, hst, hr1⟩ | ⟨y, as, g, v2, h2, hst, hwid, hwa, hr1, hr2⟩
    · obtain ⟨pc1, L1, st1⟩ := g
      have hle := jadv_mono _ _ _ _ _ _ hr1
      have hl1 := hle.1
      have hl2 := hle.2
      have hle0 : jhle h h1 := jstep_inv hst
      have hq1 := hle0.1
      have hq2 := hle0.2
      dsimp only at hl1 hl2
      refine jstep_ok fx cx hP hf (by omega) (by omega) (by omega) (by omega) (by omega) (by omega) hst (fun a' H' locs' ls' cells' slots' hag hlen hP' hf' e1 e2 => ?_)
      exact ih pc1 L1 st1 h1 pcN LN stN h' hr1 a' H' locs' ls' cells' slots' fx (cx.agr hag.1) hP' hf' hRf hRl (by omega) (by omega) (fun a2 H2 locs2 ls2 c2 s2 g1 g2 g3 g4 g5 g6 => K a2 H2 locs2 ls2 c2 s2 (hag.trans g1 hlen) (Nat.le_trans hlen g2) g3 g4 (by omega) (by omega))
    · obtain ⟨-, hC⟩ := (jstep_inv hst : jInv mm pc L st h (.inr (.inr (y, as, g, h))))
      have hwas := jcal_wf hf hC
      have h5 := jcal_f5 hC
      have hM := jmet0_of (sz := H.size) (a := a) (l := l) (D := D) (aC := aC) (jframe hl f) hr1 hP.2.2.2 hwas hwa h5
      have hle := jrun_mono _ _ _ _ _ _ _ _ _ _ hr1 (by decide)
      have hle2 := jadv_mono _ _ _ _ _ _ hr2
      have q1 := hle.1
      have q2 := hle.2
      have q3 := hle2.1
      have q4 := hle2.2
      dsimp only at q3 q4
      refine jcal0 fx cx hP hf hC hM hwid (jrun_r9 _ _ _ _ _ _ _ _ _ hr1) (by omega) (by omega) (by omega) (by omega) (fun a' H1 locs1 hag hlen hP1 hf1 => ?_)
      have hg1 : g.1 = pc + 3 := hC.1
      have hg2 : g.2.1 = L := hC.2.1
      rw [hg1, hg2] at hr2
      exact ih (pc + 3) L _ h2 pcN LN stN h' hr2 a' H1 locs1 ls _ _ fx (cx.agr hag.1) hP1 hf1 hRf hRl (by omega) (by omega) (fun a2 H2 locs2 ls2 c2 s2 g1 g2 g3 g4 g5 g6 => K a2 H2 locs2 ls2 c2 s2 (hag.trans g1 hlen) (Nat.le_trans hlen g2) g3 g4 (by omega) (by omega))
end JLW
