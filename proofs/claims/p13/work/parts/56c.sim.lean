section JSM
variable {ρ : Nat → Nat} {h : JH} {H : List JC} {b1 b2 : Nat}
theorem jald_shape {kd t pc : Nat} {L : JL} {st : List JV} {h : JH} {z} (q : jald kd t pc L st h = some z) : ∃ i a r, st = (0, i) :: (4, a) :: r := by
  unfold jald at q
  split at q
  · exact ⟨_, _, _, rfl⟩
  · cases q
set_option maxHeartbeats 8000000 in
/-- one step -/
theorem jstep0_sim {xs : List Int} {m pc n : Nat} {ins : Instr} {L : JL} {st : List JV} {L2 : JL} (E : jEm ρ h.1 H) (hL : jLe (jrL ρ L) L2) : jSim ρ h.1 H b1 b2 (jstep0 xs m pc ins n L st h) (jstep0 xs m pc ins n L2 (jrS ρ st) (H, b1 + h.2.1, b2 + h.2.2)) := by
  intro z q
  unfold jstep0 at q ⊢
  split at q
  · exact jSim_jld (by decide) E hL z q
  · exact jSim_jldr E hL z q
  · exact jSim_jld (by decide) E hL z q
  · exact jSim_jld (by decide) E hL z q
  · exact jSim_jldr E hL z q
  · exact jSim_jld (by decide) E hL z q
  · exact jSim_jsv E hL z q
  · exact jSim_jsv2 E hL z q
  · exact jSim_jsvr E hL z q
  · exact jSim_jsv E hL z q
  · exact jSim_jsv2 E hL z q
  · exact jSim_jsvr E hL z q
  · exact jSim_nx E hL rfl z q
  · exact jSim_cond (jSim_nx E hL rfl) jSim_none z q
  · exact jSim_cond (jSim_nx E hL rfl) jSim_none z q
  · exact jSim_nx E hL rfl z q
  · exact jSim_nx E hL rfl z q
  · exact jSim_ji2 (fun x y r => jSim_nx E hL rfl) z q
  · exact jSim_ji2 (fun x y r => jSim_nx E hL rfl) z q
  · exact jSim_ji2 (fun x y r => jSim_nx E hL rfl) z q
  · exact jSim_ji1 (fun x r => jSim_nx E hL rfl) z q
  · exact jSim_ji2 (fun x y r => jSim_cond jSim_none (jSim_nx E hL rfl)) z q
  · exact jSim_ji2 (fun x y r => jSim_cond jSim_none (jSim_nx E hL rfl)) z q
  · exact jSim_ji2 (fun x y r => jSim_nx E hL rfl) z q
  · exact jSim_ji2 (fun x y r => jSim_nx E hL rfl) z q
  · exact jSim_ji2 (fun x y r => jSim_nx E hL rfl) z q
  · exact jSim_ji2 (fun x y r => jSim_nx E hL rfl) z q
  · exact jSim_jl2 (fun x y r => jSim_nx E hL rfl) z q
  · exact jSim_jl2 (fun x y r => jSim_nx E hL rfl) z q
  · exact jSim_jl2 (fun x y r => jSim_nx E hL rfl) z q
  · exact jSim_jl1 (fun x r => jSim_nx E hL rfl) z q
  · exact jSim_jl2 (fun x y r => jSim_cond jSim_none (jSim_nx E hL rfl)) z q
  · exact jSim_jl2 (fun x y r => jSim_cond jSim_none (jSim_nx E hL rfl)) z q
  · exact jSim_jl2 (fun x y r => jSim_nx E hL rfl) z q
  · exact jSim_jl2 (fun x y r => jSim_nx E hL rfl) z q
  · exact jSim_jls (fun x y r => jSim_nx E hL rfl) z q
  · exact jSim_jls (fun x y r => jSim_nx E hL rfl) z q
  · exact jSim_jl2 (fun x y r => jSim_nx E hL rfl) z q
  · exact jSim_ji1 (fun x r => jSim_nx E hL rfl) z q
  · exact jSim_jl1 (fun x r => jSim_nx E hL rfl) z q
  · exact jSim_jl1 (fun x r => jSim_nx E hL rfl) z q
  · exact jSim_jd1 (fun x r => jSim_nx E hL rfl) z q
  · exact jSim_jd2 (fun x y r => jSim_cond (jSim_nx E hL rfl) jSim_none) z q
  · exact jSim_jd2 (fun x y r => jSim_cond (jSim_nx E hL rfl) jSim_none) z q
  · exact jSim_jd2 (fun x y r => jSim_cond (jSim_nx E hL rfl) jSim_none) z q
  · rename_i i k
    obtain ⟨hb, q2⟩ := jcond_some q
    have h0 := Nat.eq_of_beq_eq_true (Bool.and_eq_true_iff.mp hb).1
    have h1 : jget L2 i = jget L i := by
      rcases jLe_get hL i with h9 | he
      · omega
      · rw [he]
        cases hg : jget L i with
        | mk t x =>
          rw [hg] at h0
          exact jrV_t (by rw [show t = 0 from h0]; decide)
    show jSimZ ρ h.1 H b1 b2 z (cond (Nat.beq (jget L2 i).1 0 && Nat.blt i (jmL (jm m))) (jnx (pc + 3) (jst1 L2 i (0, (jget L2 i).2 + k)) (jrS ρ st) (H, b1 + h.2.1, b2 + h.2.2)) none)
    rw [h1]
    exact jSim_cond (jSim_nx E (jLe_st1 (v := (0, (jget L i).2 + k)) hL) rfl) jSim_none z q
  · split at q
    · exact jSim_condT (by rw [jone_rn]) (fun _ => jSim_nx E hL rfl) z q
    · cases q
  · split at q
    · rename_i v r
      revert q
      revert z
      show jSim ρ h.1 H b1 b2 _ (cond (jone (jrV ρ v)) (match jrS ρ r with
        | w :: r' => cond (jone w) (jnx (pc + 1) L2 (jrV ρ v :: w :: jrV ρ v :: w :: r') (H, b1 + h.2.1, b2 + h.2.2)) none
        | [] => none) (jnx (pc + 1) L2 (jrV ρ v :: jrV ρ v :: jrS ρ r) (H, b1 + h.2.1, b2 + h.2.2)))
      rw [jone_rn]
      refine jSim_cond ?_ (jSim_nx E hL rfl)
      cases r with
      | nil => exact jSim_none
      | cons w r' =>
        exact jSim_condT (by rw [jone_rn]) (fun _ => jSim_nx E hL rfl)
    · cases q
  · split at q
    · rename_i v r
      revert q
      revert z
      show jSim ρ h.1 H b1 b2 _ (cond (jone (jrV ρ v)) none (jnx (pc + 1) L2 (jrS ρ r) (H, b1 + h.2.1, b2 + h.2.2)))
      rw [jone_rn]
      exact jSim_cond jSim_none (jSim_nx E hL rfl)
    · cases q
  · exact jSim_ji1 (fun x r => jSim_br E hL rfl) z q
  · exact jSim_ji2 (fun x y r => jSim_br E hL rfl) z q
  · exact jSim_jnull E hL z q
  · exact jSim_go E hL rfl z q
  · exact jSim_jsw E hL z q
  · rename_i i
    show jSimZ ρ h.1 H b1 b2 z (match jpool (jmC (jm m)) i with
      | (7, _, v) => jnx (pc + 2) L2 ((0, v) :: jrS ρ st) (H, b1 + h.2.1, b2 + h.2.2)
      | (14, k, _) => jnx (pc + 2) L2 ((7, (k : Int)) :: jrS ρ st) (H, b1 + h.2.1, b2 + h.2.2)
      | _ => none)
    generalize jpool (jmC (jm m)) i = e at q ⊢
    split at q
    · exact jSim_nx E hL rfl z q
    · exact jSim_nx E hL rfl z q
    · cases q
  · rename_i i
    show jSimZ ρ h.1 H b1 b2 z (match jpool (jmC (jm m)) i with
      | (7, _, v) => jnx (pc + 3) L2 ((0, v) :: jrS ρ st) (H, b1 + h.2.1, b2 + h.2.2)
      | (14, k, _) => jnx (pc + 3) L2 ((7, (k : Int)) :: jrS ρ st) (H, b1 + h.2.1, b2 + h.2.2)
      | _ => none)
    generalize jpool (jmC (jm m)) i = e at q ⊢
    split at q
    · exact jSim_nx E hL rfl z q
    · exact jSim_nx E hL rfl z q
    · cases q
  · rename_i i
    show jSimZ ρ h.1 H b1 b2 z (match jpool (jmC (jm m)) i with
      | (8, _, v) => jnx (pc + 3) L2 ((1, v) :: jrS ρ st) (H, b1 + h.2.1, b2 + h.2.2)
      | (9, _, v) => cond (decide (0 ≤ v) && decide (v < 18446744073709551616)) (jnx (pc + 3) L2 ((3, v) :: jrS ρ st) (H, b1 + h.2.1, b2 + h.2.2)) none
      | _ => none)
    generalize jpool (jmC (jm m)) i = e at q ⊢
    split at q
    · exact jSim_nx E hL rfl z q
    · exact jSim_cond (jSim_nx E hL rfl) jSim_none z q
    · cases q
  · split at q
    · rename_i i a r
      revert q
      revert z
      show jSim ρ h.1 H b1 b2 _ (match jw i with
        | .ofNat j => (match xs[j]? with
          | some x => jnx (pc + 1) L2 ((0, x) :: jrS ρ r) (H, b1 + h.2.1, b2 + h.2.2)
          | none => none)
        | .negSucc _ => none)
      cases jw i with
      | negSucc j => exact jSim_none
      | ofNat j =>
        dsimp only
        cases xs[j]? with
        | none => exact jSim_none
        | some x => exact jSim_nx E hL rfl
    · exact jSim_jtab E hL (by decide) z q
    · obtain ⟨i, a, r, rfl⟩ := jald_shape q
      exact jSim_jald E hL rfl (by decide) z q
  · split at q
    · exact jSim_jtab E hL (by decide) z q
    · obtain ⟨i, a, r, rfl⟩ := jald_shape q
      exact jSim_jald E hL rfl (by decide) z q
  · exact jSim_jaald E hL z q
  · exact jSim_jast E hL rfl (by decide) z q
  · exact jSim_jast E hL rfl (by decide) z q
  · exact jSim_jaast E hL z q
  · split at q
    · exact jSim_nx E hL rfl z q
    · refine jSim_cell E (fun n c _ _ _ => jSim_condT (b := (Nat.ble 100 c.1 && (jaix c.1).isSome)) rfl (fun _ => jSim_nx E hL ?_)) z q
      show ((0, (((cond (Nat.ble 110 c.1) (c.2.2.map (jrX ρ)) c.2.2).length : Nat) : Int)) : JV) :: _ = _
      have e : (cond (Nat.ble 110 c.1) (c.2.2.map (jrX ρ)) c.2.2).length = c.2.2.length := by
        cases Nat.ble 110 c.1
        · rfl
        · exact List.length_map _
      rw [e]
      rfl
    · cases q
  · exact jSim_jgetf E hL z q
  · exact jSim_jputf E hL z q
  · rename_i i
    show jSimZ ρ h.1 H b1 b2 z (match jpool (jmC (jm m)) i with
      | (3, k, _) => jnx (pc + 3) L2 ((5, (k : Int)) :: jrS ρ st) (H, b1 + h.2.1, b2 + h.2.2)
      | (16, k, _) => jnx (pc + 3) L2 ((5, (k : Int)) :: jrS ρ st) (H, b1 + h.2.1, b2 + h.2.2)
      | _ => none)
    generalize jpool (jmC (jm m)) i = e at q ⊢
    split at q
    · exact jSim_nx E hL rfl z q
    · exact jSim_nx E hL rfl z q
    · cases q
  · exact jSim_jnewo E hL z q
  · exact jSim_jnewa E hL z q
  · exact jSim_jnewq E hL z q
  · exact jSim_jnewm E hL z q
  · exact jSim_jcalls E hL z q
  · exact jSim_jcallv E hL z q
  · exact jSim_jcalli E hL z q
  · exact jSim_cond (jSim_jretv E) jSim_none z q
  · exact jSim_cond (jSim_jretv E) jSim_none z q
  · exact jSim_cond (jSim_jretv E) jSim_none z q
  · exact jSim_cond (jSim_jretv E) jSim_none z q
  · split at q
    · exact jSim_cond (jSim_out E rfl) jSim_none z q
    · cases q
  · cases q
theorem jstep_sim {xs : List Int} {m pc : Nat} {L : JL} {st : List JV} {L2 : JL} (E : jEm ρ h.1 H) (hL : jLe (jrL ρ L) L2) : jSim ρ h.1 H b1 b2 (jstep xs m pc L st h) (jstep xs m pc L2 (jrS ρ st) (H, b1 + h.2.1, b2 + h.2.2)) := jSim_cond (jstep0_sim E hL) jSim_none
end JSM
