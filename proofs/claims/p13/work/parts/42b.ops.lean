section JO
variable {p : Program} {l : Launch} {e : Env} {R : Room} {s : State} {m : MethodId} {args : Array Value} {below : List Frame} {meth : Method} {c : Code} {H : Heap} {locs : List Loc} {cells slots : Nat} {Q : State → Prop} {cc : ByteArray}
variable {a : JA} {n nL : Nat} {L LN : JL} {st stN : List JV} {ls : Array Slot} {pc pcN : Nat} {h h' : JH}
set_option maxHeartbeats 200000 in
theorem jo_iconst (hx : p.tables.exec = Jvm.exec) (hb : c.code = cc) {z : Int} (hd : decode cc pc = .ok (.iconst z, 1)) (hf : jFr a n nL L st ls) (hs : jnx (pc + 1) L ((0, z) :: st) h = some (.inl ((pcN, LN, stN), h')))
    (k : h' = h → ∀ ls', jFr a n nL LN stN ls' → W p l e R s m args below meth c H locs cells slots Q (F0 m pcN ls' (stN.map (jc a)))) : W p l e R s m args below meth c H locs cells slots Q (F0 m pc ls (st.map (jc a))) := by
  obtain ⟨rfl, rfl, rfl, rfl⟩ := jnx_some hs
  have h2 := k rfl ls ⟨hf.1, hf.2.1, jS_cons (jwf_of (fun h4 => by first | trivial | exact absurd h4 (by simp))) hf.2.2⟩
  exact lv_iconst (rest := st.map (jc a)) hx hb hd rfl h2
set_option maxHeartbeats 200000 in
theorem jo_bipush (hx : p.tables.exec = Jvm.exec) (hb : c.code = cc) {z : Int} (hd : decode cc pc = .ok (.bipush z, 2)) (hf : jFr a n nL L st ls) (hs : cond (decide (-128 ≤ z) && decide (z < 128)) (jnx (pc + 2) L ((0, z) :: st) h) none = some (.inl ((pcN, LN, stN), h')))
    (k : h' = h → ∀ ls', jFr a n nL LN stN ls' → W p l e R s m args below meth c H locs cells slots Q (F0 m pcN ls' (stN.map (jc a)))) : W p l e R s m args below meth c H locs cells slots Q (F0 m pc ls (st.map (jc a))) := by
  obtain ⟨hc, hs⟩ := jcond_some hs
  obtain ⟨rfl, rfl, rfl, rfl⟩ := jnx_some hs
  have h2 := k rfl ls ⟨hf.1, hf.2.1, jS_cons (jwf_of (fun h4 => by first | trivial | exact absurd h4 (by simp))) hf.2.2⟩
  exact lv_bipush (rest := st.map (jc a)) hx hb hd (jb8 (of_decide_eq_true (Bool.and_eq_true_iff.mp hc).1) (of_decide_eq_true (Bool.and_eq_true_iff.mp hc).2)) h2
set_option maxHeartbeats 200000 in
theorem jo_sipush (hx : p.tables.exec = Jvm.exec) (hb : c.code = cc) {z : Int} (hd : decode cc pc = .ok (.sipush z, 3)) (hf : jFr a n nL L st ls) (hs : cond (decide (-32768 ≤ z) && decide (z < 32768)) (jnx (pc + 3) L ((0, z) :: st) h) none = some (.inl ((pcN, LN, stN), h')))
    (k : h' = h → ∀ ls', jFr a n nL LN stN ls' → W p l e R s m args below meth c H locs cells slots Q (F0 m pcN ls' (stN.map (jc a)))) : W p l e R s m args below meth c H locs cells slots Q (F0 m pc ls (st.map (jc a))) := by
  obtain ⟨hc, hs⟩ := jcond_some hs
  obtain ⟨rfl, rfl, rfl, rfl⟩ := jnx_some hs
  have h2 := k rfl ls ⟨hf.1, hf.2.1, jS_cons (jwf_of (fun h4 => by first | trivial | exact absurd h4 (by simp))) hf.2.2⟩
  exact lv_sipush (rest := st.map (jc a)) hx hb hd (js16 (of_decide_eq_true (Bool.and_eq_true_iff.mp hc).1) (of_decide_eq_true (Bool.and_eq_true_iff.mp hc).2)) h2
set_option maxHeartbeats 200000 in
theorem jo_lconst (hx : p.tables.exec = Jvm.exec) (hb : c.code = cc) {z : Fin 2} (hd : decode cc pc = .ok (.lconst z, 1)) (hf : jFr a n nL L st ls) (hs : jnx (pc + 1) L ((1, ((z : Nat) : Int)) :: st) h = some (.inl ((pcN, LN, stN), h')))
    (k : h' = h → ∀ ls', jFr a n nL LN stN ls' → W p l e R s m args below meth c H locs cells slots Q (F0 m pcN ls' (stN.map (jc a)))) : W p l e R s m args below meth c H locs cells slots Q (F0 m pc ls (st.map (jc a))) := by
  obtain ⟨rfl, rfl, rfl, rfl⟩ := jnx_some hs
  have h2 := k rfl ls ⟨hf.1, hf.2.1, jS_cons (jwf_of (fun h4 => by first | trivial | exact absurd h4 (by simp))) hf.2.2⟩
  exact lv_lconst (rest := st.map (jc a)) hx hb hd (jlc z) h2
set_option maxHeartbeats 200000 in
theorem jo_aconst_null (hx : p.tables.exec = Jvm.exec) (hb : c.code = cc) (hd : decode cc pc = .ok (.aconst_null, 1)) (hf : jFr a n nL L st ls) (hs : jnx (pc + 1) L ((4, -1) :: st) h = some (.inl ((pcN, LN, stN), h')))
    (k : h' = h → ∀ ls', jFr a n nL LN stN ls' → W p l e R s m args below meth c H locs cells slots Q (F0 m pcN ls' (stN.map (jc a)))) : W p l e R s m args below meth c H locs cells slots Q (F0 m pc ls (st.map (jc a))) := by
  obtain ⟨rfl, rfl, rfl, rfl⟩ := jnx_some hs
  have h2 := k rfl ls ⟨hf.1, hf.2.1, jS_cons (jwf_of (fun h4 => by first | trivial | exact absurd h4 (by simp))) hf.2.2⟩
  exact lv_null (rest := st.map (jc a)) hx hb hd h2
set_option maxHeartbeats 200000 in
theorem jo_iload (hx : p.tables.exec = Jvm.exec) (hb : c.code = cc) {i : Nat} (hd : decode cc pc = .ok (.iload i, 2)) (hf : jFr a n nL L st ls) (hs : jld 0 pc 2 i L st h = some (.inl ((pcN, LN, stN), h')))
    (k : h' = h → ∀ ls', jFr a n nL LN stN ls' → W p l e R s m args below meth c H locs cells slots Q (F0 m pcN ls' (stN.map (jc a)))) : W p l e R s m args below meth c H locs cells slots Q (F0 m pc ls (st.map (jc a))) := by
  unfold jld at hs
  obtain ⟨hc, hs⟩ := jcond_some hs
  obtain ⟨rfl, rfl, rfl, rfl⟩ := jnx_some hs
  have hc := Nat.eq_of_beq_eq_true hc
  have h2 := k rfl ls ⟨hf.1, hf.2.1, jS_cons (jL_get hf.2.1) hf.2.2⟩
  have h3 := jget_has (i := i) hf.1 (by rw [hc]; decide)
  have h4 : jget L i = (0, (jget L i).2) := by rw [← hc]
  rw [h4] at h2 h3
  exact lv_iload (rest := st.map (jc a)) hx hb hd h3 h2
set_option maxHeartbeats 200000 in
theorem jo_lload (hx : p.tables.exec = Jvm.exec) (hb : c.code = cc) {i : Nat} (hd : decode cc pc = .ok (.lload i, 2)) (hf : jFr a n nL L st ls) (hs : jld 1 pc 2 i L st h = some (.inl ((pcN, LN, stN), h')))
    (k : h' = h → ∀ ls', jFr a n nL LN stN ls' → W p l e R s m args below meth c H locs cells slots Q (F0 m pcN ls' (stN.map (jc a)))) : W p l e R s m args below meth c H locs cells slots Q (F0 m pc ls (st.map (jc a))) := by
  unfold jld at hs
  obtain ⟨hc, hs⟩ := jcond_some hs
  obtain ⟨rfl, rfl, rfl, rfl⟩ := jnx_some hs
  have hc := Nat.eq_of_beq_eq_true hc
  have h2 := k rfl ls ⟨hf.1, hf.2.1, jS_cons (jL_get hf.2.1) hf.2.2⟩
  have h3 := jget_has (i := i) hf.1 (by rw [hc]; decide)
  have h4 : jget L i = (1, (jget L i).2) := by rw [← hc]
  rw [h4] at h2 h3
  exact lv_lload (rest := st.map (jc a)) hx hb hd h3 h2
set_option maxHeartbeats 200000 in
theorem jo_iload_n (hx : p.tables.exec = Jvm.exec) (hb : c.code = cc) {i : Fin 4} (hd : decode cc pc = .ok (.iload_n i, 1)) (hf : jFr a n nL L st ls) (hs : jld 0 pc 1 (i : Nat) L st h = some (.inl ((pcN, LN, stN), h')))
    (k : h' = h → ∀ ls', jFr a n nL LN stN ls' → W p l e R s m args below meth c H locs cells slots Q (F0 m pcN ls' (stN.map (jc a)))) : W p l e R s m args below meth c H locs cells slots Q (F0 m pc ls (st.map (jc a))) := by
  unfold jld at hs
  obtain ⟨hc, hs⟩ := jcond_some hs
  obtain ⟨rfl, rfl, rfl, rfl⟩ := jnx_some hs
  have hc := Nat.eq_of_beq_eq_true hc
  have h2 := k rfl ls ⟨hf.1, hf.2.1, jS_cons (jL_get hf.2.1) hf.2.2⟩
  have h3 := jget_has (i := (i : Nat)) hf.1 (by rw [hc]; decide)
  have h4 : jget L (i : Nat) = (0, (jget L (i : Nat)).2) := by rw [← hc]
  rw [h4] at h2 h3
  exact lv_iload_n (rest := st.map (jc a)) hx hb hd rfl h3 h2
set_option maxHeartbeats 200000 in
theorem jo_lload_n (hx : p.tables.exec = Jvm.exec) (hb : c.code = cc) {i : Fin 4} (hd : decode cc pc = .ok (.lload_n i, 1)) (hf : jFr a n nL L st ls) (hs : jld 1 pc 1 (i : Nat) L st h = some (.inl ((pcN, LN, stN), h')))
    (k : h' = h → ∀ ls', jFr a n nL LN stN ls' → W p l e R s m args below meth c H locs cells slots Q (F0 m pcN ls' (stN.map (jc a)))) : W p l e R s m args below meth c H locs cells slots Q (F0 m pc ls (st.map (jc a))) := by
  unfold jld at hs
  obtain ⟨hc, hs⟩ := jcond_some hs
  obtain ⟨rfl, rfl, rfl, rfl⟩ := jnx_some hs
  have hc := Nat.eq_of_beq_eq_true hc
  have h2 := k rfl ls ⟨hf.1, hf.2.1, jS_cons (jL_get hf.2.1) hf.2.2⟩
  have h3 := jget_has (i := (i : Nat)) hf.1 (by rw [hc]; decide)
  have h4 : jget L (i : Nat) = (1, (jget L (i : Nat)).2) := by rw [← hc]
  rw [h4] at h2 h3
  exact lv_lload_n (rest := st.map (jc a)) hx hb hd rfl h3 h2
set_option maxHeartbeats 200000 in
theorem jo_aload (hx : p.tables.exec = Jvm.exec) (hb : c.code = cc) {i : Nat} (hd : decode cc pc = .ok (.aload i, 2)) (hf : jFr a n nL L st ls) (hs : jldr pc 2 i L st h = some (.inl ((pcN, LN, stN), h')))
    (k : h' = h → ∀ ls', jFr a n nL LN stN ls' → W p l e R s m args below meth c H locs cells slots Q (F0 m pcN ls' (stN.map (jc a)))) : W p l e R s m args below meth c H locs cells slots Q (F0 m pc ls (st.map (jc a))) := by
  unfold jldr at hs
  obtain ⟨hc, hs⟩ := jcond_some hs
  obtain ⟨rfl, rfl, rfl, rfl⟩ := jnx_some hs
  obtain ⟨q1, q2⟩ := Bool.and_eq_true_iff.mp hc
  have h2 := k rfl ls ⟨hf.1, hf.2.1, jS_cons (jL_get hf.2.1) hf.2.2⟩
  have h3 := jget_has (i := i) hf.1 (by have := Nat.le_of_ble_eq_true q2; omega)
  rw [List.map_cons] at h2
  rcases jc_ref (a := a) q1 q2 with ⟨x, hx1⟩ | hx1
  · rw [hx1] at h2 h3
    exact lv_aload (rest := st.map (jc a)) hx hb hd h3 h2
  · rw [hx1] at h2 h3
    exact lv_aloadN (rest := st.map (jc a)) hx hb hd h3 h2
set_option maxHeartbeats 200000 in
theorem jo_aload_n (hx : p.tables.exec = Jvm.exec) (hb : c.code = cc) {i : Fin 4} (hd : decode cc pc = .ok (.aload_n i, 1)) (hf : jFr a n nL L st ls) (hs : jldr pc 1 (i : Nat) L st h = some (.inl ((pcN, LN, stN), h')))
    (k : h' = h → ∀ ls', jFr a n nL LN stN ls' → W p l e R s m args below meth c H locs cells slots Q (F0 m pcN ls' (stN.map (jc a)))) : W p l e R s m args below meth c H locs cells slots Q (F0 m pc ls (st.map (jc a))) := by
  unfold jldr at hs
  obtain ⟨hc, hs⟩ := jcond_some hs
  obtain ⟨rfl, rfl, rfl, rfl⟩ := jnx_some hs
  obtain ⟨q1, q2⟩ := Bool.and_eq_true_iff.mp hc
  have h2 := k rfl ls ⟨hf.1, hf.2.1, jS_cons (jL_get hf.2.1) hf.2.2⟩
  have h3 := jget_has (i := (i : Nat)) hf.1 (by have := Nat.le_of_ble_eq_true q2; omega)
  rw [List.map_cons] at h2
  rcases jc_ref (a := a) q1 q2 with ⟨x, hx1⟩ | hx1
  · rw [hx1] at h2 h3
    exact lv_aload_n (rest := st.map (jc a)) hx hb hd rfl h3 h2
  · rw [hx1] at h2 h3
    exact lv_aload_nN (rest := st.map (jc a)) hx hb hd rfl h3 h2
end JO
