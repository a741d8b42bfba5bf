section JO
variable {p : Program} {l : Launch} {e : Env} {R : Room} {s : State} {m : MethodId} {args : Array Value} {below : List Frame} {meth : Method} {c : Code} {H : Heap} {locs : List Loc} {cells slots : Nat} {Q : State → Prop} {cc : ByteArray}
variable {a : JA} {n nL : Nat} {L LN : JL} {st stN : List JV} {ls : Array Slot} {pc pcN : Nat} {h h' : JH}
set_option maxHeartbeats 200000 in
theorem jo_istore (hx : p.tables.exec = Jvm.exec) (hb : c.code = cc) {i : Nat} (hd : decode cc pc = .ok (.istore i, 2)) (hf : jFr a n nL L st ls) (hs : jsv 0 pc 2 nL i L st h = some (.inl ((pcN, LN, stN), h')))
    (k : h' = h → ∀ ls', jFr a n nL LN stN ls' → W p l e R s m args below meth c H locs cells slots Q (F0 m pcN ls' (stN.map (jc a)))) : W p l e R s m args below meth c H locs cells slots Q (F0 m pc ls (st.map (jc a))) := by
  unfold jsv at hs
  split at hs
  · rename_i v r
    obtain ⟨hc, hs⟩ := jcond_some hs
    obtain ⟨rfl, rfl, rfl, rfl⟩ := jnx_some hs
    obtain ⟨q1, q2⟩ := Bool.and_eq_true_iff.mp hc
    have q1 := Nat.eq_of_beq_eq_true q1
    obtain ⟨t, x⟩ := v
    dsimp only at q1
    subst q1
    exact lv_istore (rest := r.map (jc a)) hx hb hd hf.1 (Nat.le_of_ble_eq_true q2) (congrArg (List.cons _) (jk1_map L)) (fun ls' hl' => k rfl ls' ⟨hl', jL_st1 hf.2.1 (jwf_tag (by decide)), jS_tail hf.2.2⟩)
  · cases hs
set_option maxHeartbeats 200000 in
theorem jo_istore_n (hx : p.tables.exec = Jvm.exec) (hb : c.code = cc) {i : Fin 4} (hd : decode cc pc = .ok (.istore_n i, 1)) (hf : jFr a n nL L st ls) (hs : jsv 0 pc 1 nL (i : Nat) L st h = some (.inl ((pcN, LN, stN), h')))
    (k : h' = h → ∀ ls', jFr a n nL LN stN ls' → W p l e R s m args below meth c H locs cells slots Q (F0 m pcN ls' (stN.map (jc a)))) : W p l e R s m args below meth c H locs cells slots Q (F0 m pc ls (st.map (jc a))) := by
  unfold jsv at hs
  split at hs
  · rename_i v r
    obtain ⟨hc, hs⟩ := jcond_some hs
    obtain ⟨rfl, rfl, rfl, rfl⟩ := jnx_some hs
    obtain ⟨q1, q2⟩ := Bool.and_eq_true_iff.mp hc
    have q1 := Nat.eq_of_beq_eq_true q1
    obtain ⟨t, x⟩ := v
    dsimp only at q1
    subst q1
    exact lv_istore_n (rest := r.map (jc a)) hx hb hd rfl hf.1 (Nat.le_of_ble_eq_true q2) (congrArg (List.cons _) (jk1_map L)) (fun ls' hl' => k rfl ls' ⟨hl', jL_st1 hf.2.1 (jwf_tag (by decide)), jS_tail hf.2.2⟩)
  · cases hs
set_option maxHeartbeats 200000 in
theorem jo_lstore (hx : p.tables.exec = Jvm.exec) (hb : c.code = cc) {i : Nat} (hd : decode cc pc = .ok (.lstore i, 2)) (hf : jFr a n nL L st ls) (hs : jsv2 1 pc 2 nL i L st h = some (.inl ((pcN, LN, stN), h')))
    (k : h' = h → ∀ ls', jFr a n nL LN stN ls' → W p l e R s m args below meth c H locs cells slots Q (F0 m pcN ls' (stN.map (jc a)))) : W p l e R s m args below meth c H locs cells slots Q (F0 m pc ls (st.map (jc a))) := by
  unfold jsv2 at hs
  split at hs
  · rename_i v r
    obtain ⟨hc, hs⟩ := jcond_some hs
    obtain ⟨rfl, rfl, rfl, rfl⟩ := jnx_some hs
    obtain ⟨q1, q2⟩ := Bool.and_eq_true_iff.mp hc
    have q1 := Nat.eq_of_beq_eq_true q1
    obtain ⟨t, x⟩ := v
    dsimp only at q1
    subst q1
    exact lv_lstore (rest := r.map (jc a)) hx hb hd hf.1 (Nat.le_of_ble_eq_true q2) (congrArg (List.cons _) (jk2_map L)) (fun ls' hl' => k rfl ls' ⟨hl', jL_st2 hf.2.1 (jwf_tag (by decide)), jS_tail hf.2.2⟩)
  · cases hs
set_option maxHeartbeats 200000 in
theorem jo_lstore_n (hx : p.tables.exec = Jvm.exec) (hb : c.code = cc) {i : Fin 4} (hd : decode cc pc = .ok (.lstore_n i, 1)) (hf : jFr a n nL L st ls) (hs : jsv2 1 pc 1 nL (i : Nat) L st h = some (.inl ((pcN, LN, stN), h')))
    (k : h' = h → ∀ ls', jFr a n nL LN stN ls' → W p l e R s m args below meth c H locs cells slots Q (F0 m pcN ls' (stN.map (jc a)))) : W p l e R s m args below meth c H locs cells slots Q (F0 m pc ls (st.map (jc a))) := by
  unfold jsv2 at hs
  split at hs
  · rename_i v r
    obtain ⟨hc, hs⟩ := jcond_some hs
    obtain ⟨rfl, rfl, rfl, rfl⟩ := jnx_some hs
    obtain ⟨q1, q2⟩ := Bool.and_eq_true_iff.mp hc
    have q1 := Nat.eq_of_beq_eq_true q1
    obtain ⟨t, x⟩ := v
    dsimp only at q1
    subst q1
    exact lv_lstore_n (rest := r.map (jc a)) hx hb hd rfl hf.1 (Nat.le_of_ble_eq_true q2) (congrArg (List.cons _) (jk2_map L)) (fun ls' hl' => k rfl ls' ⟨hl', jL_st2 hf.2.1 (jwf_tag (by decide)), jS_tail hf.2.2⟩)
  · cases hs
set_option maxHeartbeats 200000 in
theorem jo_astore (hx : p.tables.exec = Jvm.exec) (hb : c.code = cc) {i : Nat} (hd : decode cc pc = .ok (.astore i, 2)) (hf : jFr a n nL L st ls) (hs : jsvr pc 2 nL i L st h = some (.inl ((pcN, LN, stN), h')))
    (k : h' = h → ∀ ls', jFr a n nL LN stN ls' → W p l e R s m args below meth c H locs cells slots Q (F0 m pcN ls' (stN.map (jc a)))) : W p l e R s m args below meth c H locs cells slots Q (F0 m pc ls (st.map (jc a))) := by
  unfold jsvr at hs
  split at hs
  · rename_i v r
    obtain ⟨hc, hs⟩ := jcond_some hs
    obtain ⟨rfl, rfl, rfl, rfl⟩ := jnx_some hs
    obtain ⟨hc, q3⟩ := Bool.and_eq_true_iff.mp hc
    obtain ⟨q1, q2⟩ := Bool.and_eq_true_iff.mp hc
    have h2 := fun ls' hl' => k rfl ls' ⟨hl', jL_st1 hf.2.1 (jS_head hf.2.2), jS_tail hf.2.2⟩
    have e1 : (jst1 L i v).map (jcv a) = (i, jc a v) :: (L.map (jcv a)).filter (fun q => !(q.1 == i) && !(q.1 + 1 == i && q.2.category == 2)) := by
      rw [jk1_map]; rfl
    rw [e1] at h2
    rw [List.map_cons]
    rcases jc_ref (a := a) q1 q2 with ⟨x, hx1⟩ | hx1
    · rw [hx1] at h2 ⊢
      exact lv_astore (rest := r.map (jc a)) hx hb hd hf.1 (Nat.le_of_ble_eq_true q3) rfl h2
    · rw [hx1] at h2 ⊢
      exact lv_astoreN (rest := r.map (jc a)) hx hb hd hf.1 (Nat.le_of_ble_eq_true q3) rfl h2
  · cases hs
set_option maxHeartbeats 200000 in
theorem jo_astore_n (hx : p.tables.exec = Jvm.exec) (hb : c.code = cc) {i : Fin 4} (hd : decode cc pc = .ok (.astore_n i, 1)) (hf : jFr a n nL L st ls) (hs : jsvr pc 1 nL (i : Nat) L st h = some (.inl ((pcN, LN, stN), h')))
    (k : h' = h → ∀ ls', jFr a n nL LN stN ls' → W p l e R s m args below meth c H locs cells slots Q (F0 m pcN ls' (stN.map (jc a)))) : W p l e R s m args below meth c H locs cells slots Q (F0 m pc ls (st.map (jc a))) := by
  unfold jsvr at hs
  split at hs
  · rename_i v r
    obtain ⟨hc, hs⟩ := jcond_some hs
    obtain ⟨rfl, rfl, rfl, rfl⟩ := jnx_some hs
    obtain ⟨hc, q3⟩ := Bool.and_eq_true_iff.mp hc
    obtain ⟨q1, q2⟩ := Bool.and_eq_true_iff.mp hc
    have h2 := fun ls' hl' => k rfl ls' ⟨hl', jL_st1 hf.2.1 (jS_head hf.2.2), jS_tail hf.2.2⟩
    have e1 : (jst1 L (i : Nat) v).map (jcv a) = ((i : Nat), jc a v) :: (L.map (jcv a)).filter (fun q => !(q.1 == (i : Nat)) && !(q.1 + 1 == (i : Nat) && q.2.category == 2)) := by
      rw [jk1_map]; rfl
    rw [e1] at h2
    rw [List.map_cons]
    rcases jc_ref (a := a) q1 q2 with ⟨x, hx1⟩ | hx1
    · rw [hx1] at h2 ⊢
      exact lv_astore_n (rest := r.map (jc a)) hx hb hd rfl hf.1 (Nat.le_of_ble_eq_true q3) rfl h2
    · rw [hx1] at h2 ⊢
      exact lv_astore_nN (rest := r.map (jc a)) hx hb hd rfl hf.1 (Nat.le_of_ble_eq_true q3) rfl h2
  · cases hs
set_option maxHeartbeats 200000 in
theorem jo_iinc (hx : p.tables.exec = Jvm.exec) (hb : c.code = cc) {i : Nat} {z : Int} (hd : decode cc pc = .ok (.iinc i z, 3)) (hf : jFr a n nL L st ls) (hs : cond (Nat.beq (jget L i).1 0 && Nat.blt i nL) (jnx (pc + 3) (jst1 L i (0, (jget L i).2 + z)) st h) none = some (.inl ((pcN, LN, stN), h')))
    (k : h' = h → ∀ ls', jFr a n nL LN stN ls' → W p l e R s m args below meth c H locs cells slots Q (F0 m pcN ls' (stN.map (jc a)))) : W p l e R s m args below meth c H locs cells slots Q (F0 m pc ls (st.map (jc a))) := by
  obtain ⟨hc, hs⟩ := jcond_some hs
  obtain ⟨rfl, rfl, rfl, rfl⟩ := jnx_some hs
  obtain ⟨q1, q2⟩ := Bool.and_eq_true_iff.mp hc
  have q1 := Nat.eq_of_beq_eq_true q1
  have h3 := jget_in (L := L) (i := i) (by rw [q1]; decide)
  have h4 : jget L i = (0, (jget L i).2) := by rw [← q1]
  obtain ⟨kk, hk⟩ := List.getElem?_of_mem h3
  have hk2 : (L.map (jcv a))[kk]? = some (i, .int (Int32.ofInt (jget L i).2)) := by
    rw [List.getElem?_map, hk, h4]; rfl
  exact lv_iinc (rest := st.map (jc a)) hx hb hd hf.1 hk2 (Int32.ofInt_add _ _).symm (Nat.le_of_ble_eq_true q2) (congrArg (List.cons _) (jk1_map L)) (fun ls' hl' => k rfl ls' ⟨hl', jL_st1 hf.2.1 (jwf_tag (by decide)), hf.2.2⟩)
end JO
