section JSM
variable {ρ : Nat → Nat} {h : JH} {H : List JC} {b1 b2 : Nat}
theorem jSim_jnewa {t : ArrayType} {pc : Nat} {L : JL} {st : List JV} {L2 : JL} (E : jEm ρ h.1 H) (hL : jLe (jrL ρ L) L2) : jSim ρ h.1 H b1 b2 (jnewa t pc L st h) (jnewa t pc L2 (jrS ρ st) (H, b1 + h.2.1, b2 + h.2.2)) := by
  refine jSim_ji1 fun x r => ?_
  cases jw x with
  | negSucc n => exact jSim_none
  | ofNat n =>
    refine jSim_cond ?_ jSim_none
    cases t <;> first | exact jSim_none | exact jSim_new E rfl rfl hL rfl
theorem jSim_jnewq {e : Nat × Nat × Int} {pc : Nat} {L : JL} {st : List JV} {L2 : JL} (E : jEm ρ h.1 H) (hL : jLe (jrL ρ L) L2) : jSim ρ h.1 H b1 b2 (jnewq e pc L st h) (jnewq e pc L2 (jrS ρ st) (H, b1 + h.2.1, b2 + h.2.2)) := by
  refine jSim_ji1 fun x r => ?_
  cases jw x with
  | negSucc n => exact jSim_none
  | ofNat n =>
    have hrep : (List.replicate n (-1 : Int)).map (jrX ρ) = List.replicate n (-1) := by rw [List.map_replicate]; rfl
    refine jSim_cond (jSim_cond (jSim_new E ?_ rfl hL rfl) (jSim_cond (jSim_new E ?_ rfl hL rfl) jSim_none)) jSim_none
    · show _ = (110 + e.2.1, [], cond (Nat.ble 110 (110 + e.2.1)) ((List.replicate n (-1 : Int)).map (jrX ρ)) (List.replicate n (-1)))
      rw [hrep]
      cases Nat.ble 110 (110 + e.2.1) <;> rfl
    · show _ = (130, [], ((List.replicate n (-1 : Int)).map (jrX ρ)))
      rw [hrep]
theorem jSim_jnewm {e : Nat × Nat × Int} {d pc : Nat} {L : JL} {st : List JV} {L2 : JL} (E : jEm ρ h.1 H) (hL : jLe (jrL ρ L) L2) : jSim ρ h.1 H b1 b2 (jnewm e d pc L st h) (jnewm e d pc L2 (jrS ρ st) (H, b1 + h.2.1, b2 + h.2.2)) := by
  refine jSim_ji2 fun x y r => ?_
  cases jw x with
  | negSucc n => exact jSim_none
  | ofNat n =>
    cases jw y with
    | negSucc n => exact jSim_none
    | ofNat k =>
      refine jSim_cond (jSim_app E ?_ hL ?_) jSim_none
      · rw [List.map_cons, List.map_replicate]
        congr 1
        show _ = (130, [], ((List.range n).map (fun j => ((h.1.length + 1 + j : Nat) : Int))).map (jrX ρ))
        rw [List.map_map]
        congr 2
        refine congrArg (fun f => List.map f (List.range n)) (funext fun j => ?_)
        show ((H.length + 1 + j : Nat) : Int) = Int.ofNat (ρ (h.1.length + 1 + j))
        rw [Nat.add_assoc, Nat.add_assoc, E.2.1]
        rfl
      · show ((4, ((H.length : Nat) : Int)) : JV) :: _ = (4, Int.ofNat (ρ h.1.length)) :: _
        rw [jEm_0 E]
        rfl
theorem jSim_jaald {pc : Nat} {L : JL} {st : List JV} {L2 : JL} (E : jEm ρ h.1 H) (hL : jLe (jrL ρ L) L2) : jSim ρ h.1 H b1 b2 (jaald pc L st h) (jaald pc L2 (jrS ρ st) (H, b1 + h.2.1, b2 + h.2.2)) := fun z q => by
  unfold jaald at q
  split at q
  · rename_i i a r
    refine jSim_cell E (fun n c _ _ _ => jSim_condT (b := Nat.ble 110 c.1 && (jaix c.1).isSome) rfl (fun hb => ?_)) z q
    rw [jrC_q (Bool.and_eq_true_iff.mp hb).1]
    cases jw i with
    | negSucc j => exact jSim_none
    | ofNat j =>
      dsimp only
      rw [List.getElem?_map]
      cases c.2.2[j]? with
      | none => exact jSim_none
      | some x => exact jSim_nx E hL rfl
  · cases q
theorem jSim_jaast {pc : Nat} {L : JL} {st : List JV} {L2 : JL} (E : jEm ρ h.1 H) (hL : jLe (jrL ρ L) L2) : jSim ρ h.1 H b1 b2 (jaast pc L st h) (jaast pc L2 (jrS ρ st) (H, b1 + h.2.1, b2 + h.2.2)) := fun z q => by
  unfold jaast at q
  split at q
  · rename_i x i a r
    refine jSim_cell E (fun n c ha hn hg => jSim_condT (b := Nat.ble 110 c.1 && (jaix c.1).isSome) rfl (fun hb => ?_)) z q
    subst ha
    have hk := (Bool.and_eq_true_iff.mp hb).1
    rw [jrC_q hk]
    have hset : ∀ (j : Nat) (w : Int), ((jrC ρ c).1, (jrC ρ c).2.1, (c.2.2.map (jrX ρ)).set j (jrX ρ w)) = jrC ρ (c.1, c.2.1, c.2.2.set j w) := by
      intro j w
      show _ = (c.1, c.2.1.map (jrV ρ), cond (Nat.ble 110 c.1) ((c.2.2.set j w).map (jrX ρ)) _)
      rw [hk, List.map_set]
      rfl
    cases jw i with
    | negSucc j => exact jSim_none
    | ofNat j =>
      dsimp only
      refine jSim_condT (by rw [List.length_map]) (fun _ => ?_)
      cases x with
      | negSucc k =>
        have hs1 := hset j (-1)
        rw [show jrX ρ (-1) = -1 from rfl] at hs1
        exact jSim_cond jSim_none (jSim_set E hn hg hs1 hL rfl)
      | ofNat b =>
        show jSim ρ h.1 H b1 b2 (match h.1[b]? with
          | some d => cond (cond (Nat.beq c.1 130) (Nat.beq d.1 100) (Nat.beq (110 + d.1) c.1)) (jnx (pc + 1) L r (h.1.set n (c.1, c.2.1, c.2.2.set j (.ofNat b)), h.2)) none
          | none => none) (match H[ρ b]? with
          | some d => cond (cond (Nat.beq c.1 130) (Nat.beq d.1 100) (Nat.beq (110 + d.1) c.1)) (jnx (pc + 1) L2 (jrS ρ r) (H.set (ρ n) ((jrC ρ c).1, (jrC ρ c).2.1, (c.2.2.map (jrX ρ)).set j (jrX ρ (.ofNat b))), b1 + h.2.1, b2 + h.2.2)) none
          | none => none)
        cases hb2 : h.1[b]? with
        | none => exact jSim_none
        | some d =>
          rcases (E.2.2 b d hb2).2 with hd | hd
          · have ed := jisG_is hd
            subst ed
            have e0 : cond (Nat.beq c.1 130) (Nat.beq jgh.1 100) (Nat.beq (110 + jgh.1) c.1) = false := by
              cases h130 : Nat.beq c.1 130 with
              | true => rfl
              | false =>
                show Nat.beq 1109 c.1 = false
                cases h9 : Nat.beq 1109 c.1 with
                | false => rfl
                | true =>
                  have h10 := (Bool.and_eq_true_iff.mp hb).2
                  rw [← Nat.eq_of_beq_eq_true h9] at h10
                  exact absurd h10 (by decide)
            intro z q
            dsimp only at q
            rw [e0] at q
            cases q
          · rw [hd]
            exact jSim_cond (jSim_set E hn hg (hset j (.ofNat b)) hL rfl) jSim_none
  · cases q
theorem jSim_jnull {w : Bool} {pc : Nat} {o : Int} {L : JL} {st : List JV} {L2 : JL} (E : jEm ρ h.1 H) (hL : jLe (jrL ρ L) L2) : jSim ρ h.1 H b1 b2 (jnull w pc o L st h) (jnull w pc o L2 (jrS ρ st) (H, b1 + h.2.1, b2 + h.2.2)) := fun z q => by
  unfold jnull at q
  split at q
  · rename_i x r
    cases x with
    | ofNat k => exact jSim_br E hL rfl z q
    | negSucc k => exact jSim_br E hL rfl z q
  · cases q
theorem jSim_jsw {df lo hi : Int} {offs : Array Int} {pc : Nat} {L : JL} {st : List JV} {L2 : JL} (E : jEm ρ h.1 H) (hL : jLe (jrL ρ L) L2) : jSim ρ h.1 H b1 b2 (jsw df lo hi offs pc L st h) (jsw df lo hi offs pc L2 (jrS ρ st) (H, b1 + h.2.1, b2 + h.2.2)) := by
  refine jSim_ji1 fun x r => jSim_cond (jSim_go E hL rfl) ?_
  cases offs[(jw x - lo).toNat]? with
  | none => exact jSim_none
  | some o => exact jSim_go E hL rfl
theorem jSim_jretv {rt : Nat} {st : List JV} (E : jEm ρ h.1 H) : jSim ρ h.1 H b1 b2 (jretv rt st h) (jretv rt (jrS ρ st) (H, b1 + h.2.1, b2 + h.2.2)) := fun z q => by
  unfold jretv at q
  split at q
  · rename_i v
    refine jSim_condT ?_ (fun _ => jSim_out E rfl) z q
    rw [jfit_rn, jrV_fst]
  · cases q
theorem jdf_rn (k : Nat) (hk : k < 15) : (jdf k).map (jrV ρ) = jdf k := by
  have h1 : (jdf k).all (fun v => !(Nat.beq v.1 4) || decide (v.2 = -1)) = true := by
    have h2 : (List.range 15).all (fun k => (jdf k).all (fun v => !(Nat.beq v.1 4) || decide (v.2 = -1))) = true := by decide +kernel
    exact List.all_eq_true.mp h2 k (List.mem_range.mpr hk)
  have h3 : (jdf k).map (jrV ρ) = (jdf k).map id := List.map_congr_left fun v hv => by
    have h4 := List.all_eq_true.mp h1 v hv
    obtain ⟨t, x⟩ := v
    by_cases ht : t = 4
    · subst ht
      have h5 : x = -1 := of_decide_eq_true (show decide (x = -1) = true from h4)
      subst h5
      rfl
    · exact jrV_t ht
  rw [h3, List.map_id]
theorem jSim_jnewo {e : Nat × Nat × Int} {m pc : Nat} {L : JL} {st : List JV} {L2 : JL} (E : jEm ρ h.1 H) (hL : jLe (jrL ρ L) L2) : jSim ρ h.1 H b1 b2 (jnewo e m pc L st h) (jnewo e m pc L2 (jrS ρ st) (H, b1 + h.2.1, b2 + h.2.2)) := by
  unfold jnewo
  split
  · refine jSim_condT rfl (fun hb => jSim_new E ?_ rfl hL rfl)
    show _ = (e.2.1, (jdf e.2.1).map (jrV ρ), cond (Nat.ble 110 e.2.1) ([] : List Int) [])
    rw [jdf_rn _ (show e.2.1 < 15 from Nat.le_of_ble_eq_true (Bool.and_eq_true_iff.mp hb).1)]
    cases Nat.ble 110 e.2.1 <;> rfl
  · rw [jwid_rn]
    refine jSim_cond ?_ jSim_none
    split
    · refine jSim_cond ?_ jSim_none
      split
      · intro z q
        cases q
        exact ⟨H, rfl, E, jFq_rf⟩
      · exact jSim_none
    · exact jSim_none
  · exact jSim_none
theorem jSim_jcalls {e : Nat × Nat × Int} {pc : Nat} {L : JL} {st : List JV} {L2 : JL} (E : jEm ρ h.1 H) (hL : jLe (jrL ρ L) L2) : jSim ρ h.1 H b1 b2 (jcalls e pc L st h) (jcalls e pc L2 (jrS ρ st) (H, b1 + h.2.1, b2 + h.2.2)) := by
  unfold jcalls
  split
  · refine jSim_cond ?_ jSim_none
    cases ht : jtake (jmN (jm e.2.1)) st [] with
    | none => exact jSim_none
    | some q =>
      obtain ⟨a, r⟩ := q
      rw [show jtake (jmN (jm e.2.1)) (jrS ρ st) [] = some (jrS ρ a, jrS ρ r) from jtake_rn _ _ _ _ _ ht]
      exact jSim_cl E rfl hL rfl
  · refine jSim_cond ?_ jSim_none
    cases ht : jtake (jmN (jm e.2.1)) st [] with
    | none => exact jSim_none
    | some q =>
      obtain ⟨a, r⟩ := q
      rw [show jtake (jmN (jm e.2.1)) (jrS ρ st) [] = some (jrS ρ a, jrS ρ r) from jtake_rn _ _ _ _ _ ht]
      exact jSim_cl E rfl hL rfl
  · rw [jwid_rn]
    exact jSim_cond (jSim_spc E hL) jSim_none
  · exact jSim_none
theorem jSim_jcallv {e : Nat × Nat × Int} {pc : Nat} {L : JL} {st : List JV} {L2 : JL} (E : jEm ρ h.1 H) (hL : jLe (jrL ρ L) L2) : jSim ρ h.1 H b1 b2 (jcallv e pc L st h) (jcallv e pc L2 (jrS ρ st) (H, b1 + h.2.1, b2 + h.2.2)) := by
  unfold jcallv
  split
  · refine jSim_cond (fun z q => ?_) jSim_none
    split at q
    · rename_i a b r ht
      rw [show jtake (jmN (jm e.2.1)) (jrS ρ st) [] = some (jrS ρ a, (4, jrX ρ b) :: jrS ρ r) from jtake_rn _ _ _ _ _ ht]
      exact jSim_cell E (fun n c _ _ _ => jSim_condT (b := Nat.beq c.1 (jmC (jm e.2.1))) rfl (fun _ => jSim_cl E rfl hL rfl)) z q
    · cases q
  · rw [jwid_rn]
    refine jSim_cond (fun z q => ?_) jSim_none
    split at q
    · rename_i a r
      refine jSim_cell E (fun n c _ _ _ => jSim_condT (b := (Nat.beq c.1 e.2.1 && (Nat.beq c.1 100 || Nat.beq c.1 114 || Nat.beq c.1 117))) rfl (fun _ => jSim_new E rfl ?_ hL rfl)) z q
      show (cond (Nat.ble 110 c.1) (c.2.2.map (jrX ρ)) c.2.2).length = _
      cases Nat.ble 110 c.1
      · rfl
      · exact List.length_map _
    · cases q
  · exact jSim_none
theorem jSim_jcalli {e : Nat × Nat × Int} {pc : Nat} {L : JL} {st : List JV} {L2 : JL} (E : jEm ρ h.1 H) (hL : jLe (jrL ρ L) L2) : jSim ρ h.1 H b1 b2 (jcalli e pc L st h) (jcalli e pc L2 (jrS ρ st) (H, b1 + h.2.1, b2 + h.2.2)) := by
  unfold jcalli
  split
  · rw [jwid_rn]
    refine jSim_cond (fun z q => ?_) jSim_none
    split at q
    · exact jSim_nx E hL rfl z q
    · cases q
  · refine jSim_cond (fun z q => ?_) jSim_none
    split at q
    · rename_i a b r ht
      rw [show jtake (jmN (jm e.2.1)) (jrS ρ st) [] = some (jrS ρ a, (4, .ofNat (ρ b)) :: jrS ρ r) from jtake_rn _ _ _ _ _ ht]
      exact jSim_cl (as := (4, Int.ofNat b) :: a) (g := (pc + 3, L, r)) E rfl hL rfl z q
    · cases q
  · refine jSim_cond (fun z q => ?_) jSim_none
    split at q
    · rename_i a b r ht
      rw [show jtake (jmN (jm e.2.1)) (jrS ρ st) [] = some (jrS ρ a, (4, .ofNat (ρ b)) :: jrS ρ r) from jtake_rn _ _ _ _ _ ht]
      exact jSim_cl (as := (4, Int.ofNat b) :: a) (g := (pc + 3, L, r)) E rfl hL rfl z q
    · cases q
  · exact jSim_none
end JSM
