section JO
variable {p : Program} {l : Launch} {e : Env} {R : Room} {s : State} {m : MethodId} {args : Array Value} {below : List Frame} {meth : Method} {c : Code} {H : Heap} {locs : List Loc} {cells slots : Nat} {Q : State → Prop} {cc : ByteArray}
variable {a : JA} {n nL : Nat} {L LN : JL} {st stN : List JV} {ls : Array Slot} {pc pcN : Nat} {h h' : JH}
set_option maxHeartbeats 200000 in
theorem jo_dup (hx : p.tables.exec = Jvm.exec) (hb : c.code = cc) (hd : decode cc pc = .ok (.dup, 1)) (hf : jFr a n nL L st ls) (hs : (match st with
    | v :: r => cond (jone v) (jnx (pc + 1) L (v :: v :: r) h) none
    | [] => none) = some (.inl ((pcN, LN, stN), h')))
    (k : h' = h → ∀ ls', jFr a n nL LN stN ls' → W p l e R s m args below meth c H locs cells slots Q (F0 m pcN ls' (stN.map (jc a)))) : W p l e R s m args below meth c H locs cells slots Q (F0 m pc ls (st.map (jc a))) := by
  split at hs
  · rename_i v r
    obtain ⟨hc, hs⟩ := jcond_some hs
    obtain ⟨rfl, rfl, rfl, rfl⟩ := jnx_some hs
    exact lv_dup (rest := r.map (jc a)) hx hb hd (jc_cat1 hc) (k rfl ls ⟨hf.1, hf.2.1, jS_cons (jS_head hf.2.2) hf.2.2⟩)
  · cases hs
set_option maxHeartbeats 200000 in
theorem jo_pop2 (hx : p.tables.exec = Jvm.exec) (hb : c.code = cc) (hd : decode cc pc = .ok (.pop2, 1)) (hf : jFr a n nL L st ls) (hs : (match st with
    | v :: r => cond (jone v) none (jnx (pc + 1) L r h)
    | [] => none) = some (.inl ((pcN, LN, stN), h')))
    (k : h' = h → ∀ ls', jFr a n nL LN stN ls' → W p l e R s m args below meth c H locs cells slots Q (F0 m pcN ls' (stN.map (jc a)))) : W p l e R s m args below meth c H locs cells slots Q (F0 m pc ls (st.map (jc a))) := by
  split at hs
  · rename_i v r
    obtain ⟨hc, hs⟩ := jconn_some hs
    obtain ⟨rfl, rfl, rfl, rfl⟩ := jnx_some hs
    exact lv_pop2_2 (rest := r.map (jc a)) hx hb hd (jc_cat2 hc) (k rfl ls ⟨hf.1, hf.2.1, jS_tail hf.2.2⟩)
  · cases hs
set_option maxHeartbeats 200000 in
theorem jo_dup2 (hx : p.tables.exec = Jvm.exec) (hb : c.code = cc) (hd : decode cc pc = .ok (.dup2, 1)) (hf : jFr a n nL L st ls) (hs : (match st with
    | v :: r => cond (jone v) (match r with
      | w :: r' => cond (jone w) (jnx (pc + 1) L (v :: w :: v :: w :: r') h) none
      | [] => none) (jnx (pc + 1) L (v :: v :: r) h)
    | [] => none) = some (.inl ((pcN, LN, stN), h')))
    (k : h' = h → ∀ ls', jFr a n nL LN stN ls' → W p l e R s m args below meth c H locs cells slots Q (F0 m pcN ls' (stN.map (jc a)))) : W p l e R s m args below meth c H locs cells slots Q (F0 m pc ls (st.map (jc a))) := by
  split at hs
  · rename_i v r
    cases hv : jone v with
    | true =>
      rw [hv] at hs
      dsimp only [cond] at hs
      split at hs
      · rename_i w r'
        obtain ⟨hc, hs⟩ := jcond_some hs
        obtain ⟨rfl, rfl, rfl, rfl⟩ := jnx_some hs
        exact lv_dup2_11 (rest := r'.map (jc a)) hx hb hd (jc_cat1 hv) (jc_cat1 hc) (k rfl ls ⟨hf.1, hf.2.1, jS_cons (jS_head hf.2.2) (jS_cons (jS_head (jS_tail hf.2.2)) hf.2.2)⟩)
      · cases hs
    | false =>
      rw [hv] at hs
      dsimp only [cond] at hs
      obtain ⟨rfl, rfl, rfl, rfl⟩ := jnx_some hs
      exact lv_dup2_2 (rest := r.map (jc a)) hx hb hd (jc_cat2 hv) (k rfl ls ⟨hf.1, hf.2.1, jS_cons (jS_head hf.2.2) hf.2.2⟩)
  · cases hs
set_option maxHeartbeats 200000 in
theorem jo_goto (hx : p.tables.exec = Jvm.exec) (hb : c.code = cc) {z : Int} (hd : decode cc pc = .ok (.goto z, 3)) (hf : jFr a n nL L st ls) (hs : jgo pc z L st h = some (.inl ((pcN, LN, stN), h')))
    (k : h' = h → ∀ ls', jFr a n nL LN stN ls' → W p l e R s m args below meth c H locs cells slots Q (F0 m pcN ls' (stN.map (jc a)))) : W p l e R s m args below meth c H locs cells slots Q (F0 m pc ls (st.map (jc a))) := by
  obtain ⟨ht, rfl, rfl, rfl⟩ := jgo_some hs
  exact lv_goto hx hb hd ht (k rfl ls hf)
theorem jbr_some {b : Bool} {pc pcN : Nat} {off : Int} {L LN : JL} {st stN : List JV} {h h' : JH} (q : jbr b pc off L st h = some (.inl ((pcN, LN, stN), h'))) : L = LN ∧ st = stN ∧ h = h' ∧ ∃ t : Nat, (pc : Int) + off = (t : Int) ∧ ((b = true ∧ t = pcN) ∨ (b = false ∧ pc + 3 = pcN)) := by
  unfold jbr at q
  split at q
  · rename_i t ht
    cases b with
    | true =>
      obtain ⟨h1, h2, h3, h4⟩ := jnx_some q
      exact ⟨h2, h3, h4, t, ht, Or.inl ⟨rfl, h1⟩⟩
    | false =>
      obtain ⟨h1, h2, h3, h4⟩ := jnx_some q
      exact ⟨h2, h3, h4, t, ht, Or.inr ⟨rfl, h1⟩⟩
  · cases q
set_option maxHeartbeats 200000 in
theorem jo_icmp_eq (hx : p.tables.exec = Jvm.exec) (hb : c.code = cc) {z : Int} (hd : decode cc pc = .ok (.if_icmp .eq z, 3)) (hf : jFr a n nL L st ls) (hs : ji2 st (fun x y r => jbr (jcmp .eq x y) pc z L r h) = some (.inl ((pcN, LN, stN), h')))
    (k : h' = h → ∀ ls', jFr a n nL LN stN ls' → W p l e R s m args below meth c H locs cells slots Q (F0 m pcN ls' (stN.map (jc a)))) : W p l e R s m args below meth c H locs cells slots Q (F0 m pc ls (st.map (jc a))) := by
  obtain ⟨x, y, r, rfl, h1⟩ := ji2_some hs
  obtain ⟨rfl, rfl, rfl, t, ht, hc⟩ := jbr_some h1
  have h2 := k rfl ls ⟨hf.1, hf.2.1, (jS_tail (jS_tail hf.2.2))⟩
  have hiff : (Int32.ofInt x = Int32.ofInt y) ↔ (jw x = jw y) := jeq x y
  rcases hc with ⟨hc, rfl⟩ | ⟨hc, rfl⟩
  · have hc : jw x = jw y := of_decide_eq_true hc
    exact lv_icmp_eq (x := Int32.ofInt x) (y := Int32.ofInt y) (rest := r.map (jc a)) hx hb hd ht (fun _ => h2) (fun q => absurd (hiff.mpr hc) q)
  · have hc : ¬ (jw x = jw y) := of_decide_eq_false hc
    exact lv_icmp_eq (x := Int32.ofInt x) (y := Int32.ofInt y) (rest := r.map (jc a)) hx hb hd ht (fun q => absurd (hiff.mp q) hc) (fun _ => h2)
set_option maxHeartbeats 200000 in
theorem jo_if_eq (hx : p.tables.exec = Jvm.exec) (hb : c.code = cc) {z : Int} (hd : decode cc pc = .ok (.ifCond .eq z, 3)) (hf : jFr a n nL L st ls) (hs : ji1 st (fun x r => jbr (jcmp .eq x 0) pc z L r h) = some (.inl ((pcN, LN, stN), h')))
    (k : h' = h → ∀ ls', jFr a n nL LN stN ls' → W p l e R s m args below meth c H locs cells slots Q (F0 m pcN ls' (stN.map (jc a)))) : W p l e R s m args below meth c H locs cells slots Q (F0 m pc ls (st.map (jc a))) := by
  obtain ⟨x, r, rfl, h1⟩ := ji1_some hs
  obtain ⟨rfl, rfl, rfl, t, ht, hc⟩ := jbr_some h1
  have h2 := k rfl ls ⟨hf.1, hf.2.1, (jS_tail hf.2.2)⟩
  have hiff : (Int32.ofInt x = 0) ↔ (jw x = jw 0) := by rw [j0]; exact jeq x 0
  rcases hc with ⟨hc, rfl⟩ | ⟨hc, rfl⟩
  · have hc : jw x = jw 0 := of_decide_eq_true hc
    exact lv_if_eq (x := Int32.ofInt x) (rest := r.map (jc a)) hx hb hd ht (fun _ => h2) (fun q => absurd (hiff.mpr hc) q)
  · have hc : ¬ (jw x = jw 0) := of_decide_eq_false hc
    exact lv_if_eq (x := Int32.ofInt x) (rest := r.map (jc a)) hx hb hd ht (fun q => absurd (hiff.mp q) hc) (fun _ => h2)
set_option maxHeartbeats 200000 in
theorem jo_icmp_ne (hx : p.tables.exec = Jvm.exec) (hb : c.code = cc) {z : Int} (hd : decode cc pc = .ok (.if_icmp .ne z, 3)) (hf : jFr a n nL L st ls) (hs : ji2 st (fun x y r => jbr (jcmp .ne x y) pc z L r h) = some (.inl ((pcN, LN, stN), h')))
    (k : h' = h → ∀ ls', jFr a n nL LN stN ls' → W p l e R s m args below meth c H locs cells slots Q (F0 m pcN ls' (stN.map (jc a)))) : W p l e R s m args below meth c H locs cells slots Q (F0 m pc ls (st.map (jc a))) := by
  obtain ⟨x, y, r, rfl, h1⟩ := ji2_some hs
  obtain ⟨rfl, rfl, rfl, t, ht, hc⟩ := jbr_some h1
  have h2 := k rfl ls ⟨hf.1, hf.2.1, (jS_tail (jS_tail hf.2.2))⟩
  have hiff : (¬ Int32.ofInt x = Int32.ofInt y) ↔ (¬ jw x = jw y) := not_congr (jeq x y)
  rcases hc with ⟨hc, rfl⟩ | ⟨hc, rfl⟩
  · have hc : ¬ jw x = jw y := of_decide_eq_true hc
    exact lv_icmp_ne (x := Int32.ofInt x) (y := Int32.ofInt y) (rest := r.map (jc a)) hx hb hd ht (fun _ => h2) (fun q => absurd q (hiff.mpr hc))
  · have hc : ¬ (¬ jw x = jw y) := of_decide_eq_false hc
    exact lv_icmp_ne (x := Int32.ofInt x) (y := Int32.ofInt y) (rest := r.map (jc a)) hx hb hd ht (fun q => absurd (hiff.mp q) hc) (fun _ => h2)
set_option maxHeartbeats 200000 in
theorem jo_if_ne (hx : p.tables.exec = Jvm.exec) (hb : c.code = cc) {z : Int} (hd : decode cc pc = .ok (.ifCond .ne z, 3)) (hf : jFr a n nL L st ls) (hs : ji1 st (fun x r => jbr (jcmp .ne x 0) pc z L r h) = some (.inl ((pcN, LN, stN), h')))
    (k : h' = h → ∀ ls', jFr a n nL LN stN ls' → W p l e R s m args below meth c H locs cells slots Q (F0 m pcN ls' (stN.map (jc a)))) : W p l e R s m args below meth c H locs cells slots Q (F0 m pc ls (st.map (jc a))) := by
  obtain ⟨x, r, rfl, h1⟩ := ji1_some hs
  obtain ⟨rfl, rfl, rfl, t, ht, hc⟩ := jbr_some h1
  have h2 := k rfl ls ⟨hf.1, hf.2.1, (jS_tail hf.2.2)⟩
  have hiff : (¬ Int32.ofInt x = 0) ↔ (¬ jw x = jw 0) := by rw [j0]; exact not_congr (jeq x 0)
  rcases hc with ⟨hc, rfl⟩ | ⟨hc, rfl⟩
  · have hc : ¬ jw x = jw 0 := of_decide_eq_true hc
    exact lv_if_ne (x := Int32.ofInt x) (rest := r.map (jc a)) hx hb hd ht (fun _ => h2) (fun q => absurd q (hiff.mpr hc))
  · have hc : ¬ (¬ jw x = jw 0) := of_decide_eq_false hc
    exact lv_if_ne (x := Int32.ofInt x) (rest := r.map (jc a)) hx hb hd ht (fun q => absurd (hiff.mp q) hc) (fun _ => h2)
set_option maxHeartbeats 200000 in
theorem jo_icmp_lt (hx : p.tables.exec = Jvm.exec) (hb : c.code = cc) {z : Int} (hd : decode cc pc = .ok (.if_icmp .lt z, 3)) (hf : jFr a n nL L st ls) (hs : ji2 st (fun x y r => jbr (jcmp .lt x y) pc z L r h) = some (.inl ((pcN, LN, stN), h')))
    (k : h' = h → ∀ ls', jFr a n nL LN stN ls' → W p l e R s m args below meth c H locs cells slots Q (F0 m pcN ls' (stN.map (jc a)))) : W p l e R s m args below meth c H locs cells slots Q (F0 m pc ls (st.map (jc a))) := by
  obtain ⟨x, y, r, rfl, h1⟩ := ji2_some hs
  obtain ⟨rfl, rfl, rfl, t, ht, hc⟩ := jbr_some h1
  have h2 := k rfl ls ⟨hf.1, hf.2.1, (jS_tail (jS_tail hf.2.2))⟩
  have hiff : (Int32.ofInt x < Int32.ofInt y) ↔ (jw x < jw y) := jlt x y
  rcases hc with ⟨hc, rfl⟩ | ⟨hc, rfl⟩
  · have hc : jw x < jw y := of_decide_eq_true hc
    exact lv_icmp_lt (x := Int32.ofInt x) (y := Int32.ofInt y) (rest := r.map (jc a)) hx hb hd ht (fun _ => h2) (fun q => absurd (hiff.mpr hc) q)
  · have hc : ¬ (jw x < jw y) := of_decide_eq_false hc
    exact lv_icmp_lt (x := Int32.ofInt x) (y := Int32.ofInt y) (rest := r.map (jc a)) hx hb hd ht (fun q => absurd (hiff.mp q) hc) (fun _ => h2)
set_option maxHeartbeats 200000 in
theorem jo_if_lt (hx : p.tables.exec = Jvm.exec) (hb : c.code = cc) {z : Int} (hd : decode cc pc = .ok (.ifCond .lt z, 3)) (hf : jFr a n nL L st ls) (hs : ji1 st (fun x r => jbr (jcmp .lt x 0) pc z L r h) = some (.inl ((pcN, LN, stN), h')))
    (k : h' = h → ∀ ls', jFr a n nL LN stN ls' → W p l e R s m args below meth c H locs cells slots Q (F0 m pcN ls' (stN.map (jc a)))) : W p l e R s m args below meth c H locs cells slots Q (F0 m pc ls (st.map (jc a))) := by
  obtain ⟨x, r, rfl, h1⟩ := ji1_some hs
  obtain ⟨rfl, rfl, rfl, t, ht, hc⟩ := jbr_some h1
  have h2 := k rfl ls ⟨hf.1, hf.2.1, (jS_tail hf.2.2)⟩
  have hiff : (Int32.ofInt x < 0) ↔ (jw x < jw 0) := by rw [j0]; exact jlt x 0
  rcases hc with ⟨hc, rfl⟩ | ⟨hc, rfl⟩
  · have hc : jw x < jw 0 := of_decide_eq_true hc
    exact lv_if_lt (x := Int32.ofInt x) (rest := r.map (jc a)) hx hb hd ht (fun _ => h2) (fun q => absurd (hiff.mpr hc) q)
  · have hc : ¬ (jw x < jw 0) := of_decide_eq_false hc
    exact lv_if_lt (x := Int32.ofInt x) (rest := r.map (jc a)) hx hb hd ht (fun q => absurd (hiff.mp q) hc) (fun _ => h2)
set_option maxHeartbeats 200000 in
theorem jo_icmp_ge (hx : p.tables.exec = Jvm.exec) (hb : c.code = cc) {z : Int} (hd : decode cc pc = .ok (.if_icmp .ge z, 3)) (hf : jFr a n nL L st ls) (hs : ji2 st (fun x y r => jbr (jcmp .ge x y) pc z L r h) = some (.inl ((pcN, LN, stN), h')))
    (k : h' = h → ∀ ls', jFr a n nL LN stN ls' → W p l e R s m args below meth c H locs cells slots Q (F0 m pcN ls' (stN.map (jc a)))) : W p l e R s m args below meth c H locs cells slots Q (F0 m pc ls (st.map (jc a))) := by
  obtain ⟨x, y, r, rfl, h1⟩ := ji2_some hs
  obtain ⟨rfl, rfl, rfl, t, ht, hc⟩ := jbr_some h1
  have h2 := k rfl ls ⟨hf.1, hf.2.1, (jS_tail (jS_tail hf.2.2))⟩
  have hiff : (Int32.ofInt y ≤ Int32.ofInt x) ↔ (jw y ≤ jw x) := jle y x
  rcases hc with ⟨hc, rfl⟩ | ⟨hc, rfl⟩
  · have hc : jw y ≤ jw x := of_decide_eq_true hc
    exact lv_icmp_ge (x := Int32.ofInt x) (y := Int32.ofInt y) (rest := r.map (jc a)) hx hb hd ht (fun _ => h2) (fun q => absurd (hiff.mpr hc) q)
  · have hc : ¬ (jw y ≤ jw x) := of_decide_eq_false hc
    exact lv_icmp_ge (x := Int32.ofInt x) (y := Int32.ofInt y) (rest := r.map (jc a)) hx hb hd ht (fun q => absurd (hiff.mp q) hc) (fun _ => h2)
set_option maxHeartbeats 200000 in
theorem jo_if_ge (hx : p.tables.exec = Jvm.exec) (hb : c.code = cc) {z : Int} (hd : decode cc pc = .ok (.ifCond .ge z, 3)) (hf : jFr a n nL L st ls) (hs : ji1 st (fun x r => jbr (jcmp .ge x 0) pc z L r h) = some (.inl ((pcN, LN, stN), h')))
    (k : h' = h → ∀ ls', jFr a n nL LN stN ls' → W p l e R s m args below meth c H locs cells slots Q (F0 m pcN ls' (stN.map (jc a)))) : W p l e R s m args below meth c H locs cells slots Q (F0 m pc ls (st.map (jc a))) := by
  obtain ⟨x, r, rfl, h1⟩ := ji1_some hs
  obtain ⟨rfl, rfl, rfl, t, ht, hc⟩ := jbr_some h1
  have h2 := k rfl ls ⟨hf.1, hf.2.1, (jS_tail hf.2.2)⟩
  have hiff : (0 ≤ Int32.ofInt x) ↔ (jw 0 ≤ jw x) := by rw [j0]; exact jle 0 x
  rcases hc with ⟨hc, rfl⟩ | ⟨hc, rfl⟩
  · have hc : jw 0 ≤ jw x := of_decide_eq_true hc
    exact lv_if_ge (x := Int32.ofInt x) (rest := r.map (jc a)) hx hb hd ht (fun _ => h2) (fun q => absurd (hiff.mpr hc) q)
  · have hc : ¬ (jw 0 ≤ jw x) := of_decide_eq_false hc
    exact lv_if_ge (x := Int32.ofInt x) (rest := r.map (jc a)) hx hb hd ht (fun q => absurd (hiff.mp q) hc) (fun _ => h2)
set_option maxHeartbeats 200000 in
theorem jo_icmp_gt (hx : p.tables.exec = Jvm.exec) (hb : c.code = cc) {z : Int} (hd : decode cc pc = .ok (.if_icmp .gt z, 3)) (hf : jFr a n nL L st ls) (hs : ji2 st (fun x y r => jbr (jcmp .gt x y) pc z L r h) = some (.inl ((pcN, LN, stN), h')))
    (k : h' = h → ∀ ls', jFr a n nL LN stN ls' → W p l e R s m args below meth c H locs cells slots Q (F0 m pcN ls' (stN.map (jc a)))) : W p l e R s m args below meth c H locs cells slots Q (F0 m pc ls (st.map (jc a))) := by
  obtain ⟨x, y, r, rfl, h1⟩ := ji2_some hs
  obtain ⟨rfl, rfl, rfl, t, ht, hc⟩ := jbr_some h1
  have h2 := k rfl ls ⟨hf.1, hf.2.1, (jS_tail (jS_tail hf.2.2))⟩
  have hiff : (Int32.ofInt y < Int32.ofInt x) ↔ (jw y < jw x) := jlt y x
  rcases hc with ⟨hc, rfl⟩ | ⟨hc, rfl⟩
  · have hc : jw y < jw x := of_decide_eq_true hc
    exact lv_icmp_gt (x := Int32.ofInt x) (y := Int32.ofInt y) (rest := r.map (jc a)) hx hb hd ht (fun _ => h2) (fun q => absurd (hiff.mpr hc) q)
  · have hc : ¬ (jw y < jw x) := of_decide_eq_false hc
    exact lv_icmp_gt (x := Int32.ofInt x) (y := Int32.ofInt y) (rest := r.map (jc a)) hx hb hd ht (fun q => absurd (hiff.mp q) hc) (fun _ => h2)
set_option maxHeartbeats 200000 in
theorem jo_if_gt (hx : p.tables.exec = Jvm.exec) (hb : c.code = cc) {z : Int} (hd : decode cc pc = .ok (.ifCond .gt z, 3)) (hf : jFr a n nL L st ls) (hs : ji1 st (fun x r => jbr (jcmp .gt x 0) pc z L r h) = some (.inl ((pcN, LN, stN), h')))
    (k : h' = h → ∀ ls', jFr a n nL LN stN ls' → W p l e R s m args below meth c H locs cells slots Q (F0 m pcN ls' (stN.map (jc a)))) : W p l e R s m args below meth c H locs cells slots Q (F0 m pc ls (st.map (jc a))) := by
  obtain ⟨x, r, rfl, h1⟩ := ji1_some hs
  obtain ⟨rfl, rfl, rfl, t, ht, hc⟩ := jbr_some h1
  have h2 := k rfl ls ⟨hf.1, hf.2.1, (jS_tail hf.2.2)⟩
  have hiff : (0 < Int32.ofInt x) ↔ (jw 0 < jw x) := by rw [j0]; exact jlt 0 x
  rcases hc with ⟨hc, rfl⟩ | ⟨hc, rfl⟩
  · have hc : jw 0 < jw x := of_decide_eq_true hc
    exact lv_if_gt (x := Int32.ofInt x) (rest := r.map (jc a)) hx hb hd ht (fun _ => h2) (fun q => absurd (hiff.mpr hc) q)
  · have hc : ¬ (jw 0 < jw x) := of_decide_eq_false hc
    exact lv_if_gt (x := Int32.ofInt x) (rest := r.map (jc a)) hx hb hd ht (fun q => absurd (hiff.mp q) hc) (fun _ => h2)
set_option maxHeartbeats 200000 in
theorem jo_icmp_le (hx : p.tables.exec = Jvm.exec) (hb : c.code = cc) {z : Int} (hd : decode cc pc = .ok (.if_icmp .le z, 3)) (hf : jFr a n nL L st ls) (hs : ji2 st (fun x y r => jbr (jcmp .le x y) pc z L r h) = some (.inl ((pcN, LN, stN), h')))
    (k : h' = h → ∀ ls', jFr a n nL LN stN ls' → W p l e R s m args below meth c H locs cells slots Q (F0 m pcN ls' (stN.map (jc a)))) : W p l e R s m args below meth c H locs cells slots Q (F0 m pc ls (st.map (jc a))) := by
  obtain ⟨x, y, r, rfl, h1⟩ := ji2_some hs
  obtain ⟨rfl, rfl, rfl, t, ht, hc⟩ := jbr_some h1
  have h2 := k rfl ls ⟨hf.1, hf.2.1, (jS_tail (jS_tail hf.2.2))⟩
  have hiff : (Int32.ofInt x ≤ Int32.ofInt y) ↔ (jw x ≤ jw y) := jle x y
  rcases hc with ⟨hc, rfl⟩ | ⟨hc, rfl⟩
  · have hc : jw x ≤ jw y := of_decide_eq_true hc
    exact lv_icmp_le (x := Int32.ofInt x) (y := Int32.ofInt y) (rest := r.map (jc a)) hx hb hd ht (fun _ => h2) (fun q => absurd (hiff.mpr hc) q)
  · have hc : ¬ (jw x ≤ jw y) := of_decide_eq_false hc
    exact lv_icmp_le (x := Int32.ofInt x) (y := Int32.ofInt y) (rest := r.map (jc a)) hx hb hd ht (fun q => absurd (hiff.mp q) hc) (fun _ => h2)
set_option maxHeartbeats 200000 in
theorem jo_if_le (hx : p.tables.exec = Jvm.exec) (hb : c.code = cc) {z : Int} (hd : decode cc pc = .ok (.ifCond .le z, 3)) (hf : jFr a n nL L st ls) (hs : ji1 st (fun x r => jbr (jcmp .le x 0) pc z L r h) = some (.inl ((pcN, LN, stN), h')))
    (k : h' = h → ∀ ls', jFr a n nL LN stN ls' → W p l e R s m args below meth c H locs cells slots Q (F0 m pcN ls' (stN.map (jc a)))) : W p l e R s m args below meth c H locs cells slots Q (F0 m pc ls (st.map (jc a))) := by
  obtain ⟨x, r, rfl, h1⟩ := ji1_some hs
  obtain ⟨rfl, rfl, rfl, t, ht, hc⟩ := jbr_some h1
  have h2 := k rfl ls ⟨hf.1, hf.2.1, (jS_tail hf.2.2)⟩
  have hiff : (Int32.ofInt x ≤ 0) ↔ (jw x ≤ jw 0) := by rw [j0]; exact jle x 0
  rcases hc with ⟨hc, rfl⟩ | ⟨hc, rfl⟩
  · have hc : jw x ≤ jw 0 := of_decide_eq_true hc
    exact lv_if_le (x := Int32.ofInt x) (rest := r.map (jc a)) hx hb hd ht (fun _ => h2) (fun q => absurd (hiff.mpr hc) q)
  · have hc : ¬ (jw x ≤ jw 0) := of_decide_eq_false hc
    exact lv_if_le (x := Int32.ofInt x) (rest := r.map (jc a)) hx hb hd ht (fun q => absurd (hiff.mp q) hc) (fun _ => h2)
end JO
