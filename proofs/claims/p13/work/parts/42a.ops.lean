/-! the little machine, part 6: steps that move numbers only -/
def jFr (a : JA) (n nL : Nat) (L : JL) (st : List JV) (ls : Array Slot) : Prop := lv_has ls nL (L.map (jcv a)) ∧ jwL n L ∧ jwS n st
theorem jnx_some {pc pcN : Nat} {L LN : JL} {st stN : List JV} {h h' : JH} (q : jnx pc L st h = some (.inl ((pcN, LN, stN), h'))) : pc = pcN ∧ L = LN ∧ st = stN ∧ h = h' := by cases q; exact ⟨rfl, rfl, rfl, rfl⟩
theorem jcond_some {b : Bool} {x : JS} {z} (q : cond b x none = some z) : b = true ∧ x = some z := by
  cases b with
  | true => exact ⟨rfl, q⟩
  | false => cases q
theorem jconn_some {b : Bool} {x : JS} {z} (q : cond b none x = some z) : b = false ∧ x = some z := by
  cases b with
  | true => cases q
  | false => exact ⟨rfl, q⟩
theorem ji2_some {st : List JV} {k : Int → Int → List JV → JS} {z} (q : ji2 st k = some z) : ∃ x y r, st = (0, y) :: (0, x) :: r ∧ k x y r = some z := by
  unfold ji2 at q
  split at q
  · exact ⟨_, _, _, rfl, q⟩
  · cases q
theorem jl2_some {st : List JV} {k : Int → Int → List JV → JS} {z} (q : jl2 st k = some z) : ∃ x y r, st = (1, y) :: (1, x) :: r ∧ k x y r = some z := by
  unfold jl2 at q
  split at q
  · exact ⟨_, _, _, rfl, q⟩
  · cases q
theorem jd2_some {st : List JV} {k : Int → Int → List JV → JS} {z} (q : jd2 st k = some z) : ∃ x y r, st = (3, y) :: (3, x) :: r ∧ k x y r = some z := by
  unfold jd2 at q
  split at q
  · exact ⟨_, _, _, rfl, q⟩
  · cases q
theorem jls_some {st : List JV} {k : Int → Int → List JV → JS} {z} (q : jls st k = some z) : ∃ x y r, st = (0, y) :: (1, x) :: r ∧ k x y r = some z := by
  unfold jls at q
  split at q
  · exact ⟨_, _, _, rfl, q⟩
  · cases q
theorem ji1_some {st : List JV} {k : Int → List JV → JS} {z} (q : ji1 st k = some z) : ∃ x r, st = (0, x) :: r ∧ k x r = some z := by
  unfold ji1 at q
  split at q
  · exact ⟨_, _, rfl, q⟩
  · cases q
theorem jl1_some {st : List JV} {k : Int → List JV → JS} {z} (q : jl1 st k = some z) : ∃ x r, st = (1, x) :: r ∧ k x r = some z := by
  unfold jl1 at q
  split at q
  · exact ⟨_, _, rfl, q⟩
  · cases q
theorem jd1_some {st : List JV} {k : Int → List JV → JS} {z} (q : jd1 st k = some z) : ∃ x r, st = (3, x) :: r ∧ k x r = some z := by
  unfold jd1 at q
  split at q
  · exact ⟨_, _, rfl, q⟩
  · cases q
theorem jS_cons {n : Nat} {v : JV} {st : List JV} (h1 : jwf n v) (h2 : jwS n st) : jwS n (v :: st) := fun w hw => (List.mem_cons.mp hw).elim (fun e => by rw [e]; exact h1) (h2 w)
theorem jS_tail {n : Nat} {v : JV} {st : List JV} (h : jwS n (v :: st)) : jwS n st := fun w hw => h w (List.mem_cons_of_mem _ hw)
theorem jS_head {n : Nat} {v : JV} {st : List JV} (h : jwS n (v :: st)) : jwf n v := h v List.mem_cons_self
theorem jgo_some {pc pcN : Nat} {off : Int} {L LN : JL} {st stN : List JV} {h h' : JH} (q : jgo pc off L st h = some (.inl ((pcN, LN, stN), h'))) : (pc : Int) + off = (pcN : Int) ∧ L = LN ∧ st = stN ∧ h = h' := by
  unfold jgo at q
  split at q
  · rename_i t ht
    obtain ⟨rfl, h2, h3, h4⟩ := jnx_some q
    exact ⟨ht, h2, h3, h4⟩
  · cases q
theorem jget_in {L : JL} {i : Nat} (h : (jget L i).1 ≠ 9) : (i, jget L i) ∈ L := by
  induction L with
  | nil => exact absurd rfl h
  | cons q L ih =>
    obtain ⟨k, v⟩ := q
    unfold jget at h ⊢
    cases hb : Nat.beq k i with
    | true =>
      rw [Nat.eq_of_beq_eq_true hb]
      exact List.mem_cons_self
    | false =>
      rw [hb] at h
      exact List.mem_cons_of_mem _ (ih h)
theorem jget_has {a : JA} {nL : Nat} {L : JL} {ls : Array Slot} {i : Nat} (h : lv_has ls nL (L.map (jcv a))) (h9 : (jget L i).1 ≠ 9) : ls[i]? = some (.val (jc a (jget L i))) :=
  h.2.2 (i, jc a (jget L i)) (List.mem_map.mpr ⟨_, jget_in h9, rfl⟩)
theorem jbeq (x y : Nat) : (x == y) = Nat.beq x y := by
  cases hb : Nat.beq x y with
  | true => rw [Nat.eq_of_beq_eq_true hb]; simp
  | false =>
    rw [beq_eq_false_iff_ne]
    intro h9
    rw [h9, Nat.beq_refl] at hb
    cases hb
theorem jk1_map {a : JA} {i : Nat} (L : JL) : (L.map (jcv a)).filter (fun q => !(q.1 == i) && !(q.1 + 1 == i && q.2.category == 2)) = (L.filter (jk1 i)).map (jcv a) := by
  rw [List.filter_map]
  congr 1
  apply List.filter_congr
  intro q _
  show (!(q.1 == i) && !(q.1 + 1 == i && (jc a q.2).category == 2)) = jk1 i q
  rw [jc_one]
  unfold jk1
  rw [jbeq, jbeq]
  cases Nat.beq q.1 i <;> cases Nat.beq (q.1 + 1) i <;> cases jone q.2 <;> rfl

theorem jk2_map {a : JA} {i : Nat} (L : JL) : (L.map (jcv a)).filter (fun q => !(q.1 == i) && (!(q.1 == i + 1) && !(q.1 + 1 == i && q.2.category == 2))) = (L.filter (jk2 i)).map (jcv a) := by
  rw [List.filter_map]
  congr 1
  apply List.filter_congr
  intro q _
  show (!(q.1 == i) && (!(q.1 == i + 1) && !(q.1 + 1 == i && (jc a q.2).category == 2))) = jk2 i q
  rw [jc_one]
  unfold jk2
  rw [jbeq, jbeq, jbeq]
  cases Nat.beq q.1 i <;> cases Nat.beq q.1 (i + 1) <;> cases Nat.beq (q.1 + 1) i <;> cases jone q.2 <;> rfl
theorem jL_st1 {n : Nat} {L : JL} {i : Nat} {v : JV} (h : jwL n L) (hv : jwf n v) : jwL n (jst1 L i v) := fun q hq => (List.mem_cons.mp hq).elim (fun e => by rw [e]; exact hv) (fun hq => h q (List.mem_filter.mp hq).1)
theorem jL_st2 {n : Nat} {L : JL} {i : Nat} {v : JV} (h : jwL n L) (hv : jwf n v) : jwL n (jst2 L i v) := fun q hq => (List.mem_cons.mp hq).elim (fun e => by rw [e]; exact hv) (fun hq => h q (List.mem_filter.mp hq).1)
theorem jL_get {n : Nat} {L : JL} {i : Nat} (h : jwL n L) : jwf n (jget L i) := by
  by_cases h9 : (jget L i).1 = 9
  · intro h4; rw [h9] at h4; exact absurd h4 (by decide)
  · exact h _ (jget_in h9)
/-- a reference or null -/
theorem jc_ref {a : JA} {v : JV} (h1 : Nat.ble 4 v.1 = true) (h2 : Nat.ble v.1 7 = true) : (∃ x, jc a v = .ref x) ∨ jc a v = .null := by
  obtain ⟨t, x⟩ := v
  have h1 := Nat.le_of_ble_eq_true h1
  have h2 := Nat.le_of_ble_eq_true h2
  dsimp only at h1 h2
  rcases jtag t with h | h | h | h | h | h | h | h | h
  · omega
  · omega
  · omega
  · omega
  · subst h
    cases x with
    | ofNat k => exact Or.inl ⟨_, rfl⟩
    | negSucc k => exact Or.inr rfl
  · subst h; exact Or.inl ⟨_, rfl⟩
  · subst h; exact Or.inl ⟨_, rfl⟩
  · subst h; exact Or.inl ⟨_, rfl⟩
  · omega
theorem jlc : ∀ z : Fin 2, Int64.ofNat (z : Nat) = Int64.ofInt (((z : Nat) : Nat) : Int) := by decide +kernel
section JO
variable {p : Program} {l : Launch} {e : Env} {R : Room} {s : State} {m : MethodId} {args : Array Value} {below : List Frame} {meth : Method} {c : Code} {H : Heap} {locs : List Loc} {cells slots : Nat} {Q : State → Prop} {cc : ByteArray}
variable {a : JA} {n nL : Nat} {L LN : JL} {st stN : List JV} {ls : Array Slot} {pc pcN : Nat} {h h' : JH}

set_option maxHeartbeats 200000 in
theorem jo_iadd (hx : p.tables.exec = Jvm.exec) (hb : c.code = cc) (hd : decode cc pc = .ok (.iadd, 1)) (hf : jFr a n nL L st ls) (hs : ji2 st (fun x y r => jnx (pc + 1) L ((0, x + y) :: r) h) = some (.inl ((pcN, LN, stN), h')))
    (k : h' = h → ∀ ls', jFr a n nL LN stN ls' → W p l e R s m args below meth c H locs cells slots Q (F0 m pcN ls' (stN.map (jc a)))) : W p l e R s m args below meth c H locs cells slots Q (F0 m pc ls (st.map (jc a))) := by
  obtain ⟨x, y, r, rfl, h1⟩ := ji2_some hs
  obtain ⟨rfl, rfl, rfl, rfl⟩ := jnx_some h1
  have h2 := k rfl ls ⟨hf.1, hf.2.1, jS_cons (jwf_tag (by decide)) (jS_tail (jS_tail hf.2.2))⟩
  refine lv_iadd (x := Int32.ofInt x) (y := Int32.ofInt y) (rest := r.map (jc a)) hx hb hd ?_
  have e1 : Int32.ofInt (x + y) = Int32.ofInt x + Int32.ofInt y := Int32.ofInt_add x y
  rw [← e1]
  exact h2
set_option maxHeartbeats 200000 in
theorem jo_ladd (hx : p.tables.exec = Jvm.exec) (hb : c.code = cc) (hd : decode cc pc = .ok (.ladd, 1)) (hf : jFr a n nL L st ls) (hs : jl2 st (fun x y r => jnx (pc + 1) L ((1, x + y) :: r) h) = some (.inl ((pcN, LN, stN), h')))
    (k : h' = h → ∀ ls', jFr a n nL LN stN ls' → W p l e R s m args below meth c H locs cells slots Q (F0 m pcN ls' (stN.map (jc a)))) : W p l e R s m args below meth c H locs cells slots Q (F0 m pc ls (st.map (jc a))) := by
  obtain ⟨x, y, r, rfl, h1⟩ := jl2_some hs
  obtain ⟨rfl, rfl, rfl, rfl⟩ := jnx_some h1
  have h2 := k rfl ls ⟨hf.1, hf.2.1, jS_cons (jwf_tag (by decide)) (jS_tail (jS_tail hf.2.2))⟩
  refine lv_ladd (x := Int64.ofInt x) (y := Int64.ofInt y) (rest := r.map (jc a)) hx hb hd ?_
  have e1 : Int64.ofInt (x + y) = Int64.ofInt x + Int64.ofInt y := Int64.ofInt_add x y
  rw [← e1]
  exact h2
set_option maxHeartbeats 200000 in
theorem jo_isub (hx : p.tables.exec = Jvm.exec) (hb : c.code = cc) (hd : decode cc pc = .ok (.isub, 1)) (hf : jFr a n nL L st ls) (hs : ji2 st (fun x y r => jnx (pc + 1) L ((0, x - y) :: r) h) = some (.inl ((pcN, LN, stN), h')))
    (k : h' = h → ∀ ls', jFr a n nL LN stN ls' → W p l e R s m args below meth c H locs cells slots Q (F0 m pcN ls' (stN.map (jc a)))) : W p l e R s m args below meth c H locs cells slots Q (F0 m pc ls (st.map (jc a))) := by
  obtain ⟨x, y, r, rfl, h1⟩ := ji2_some hs
  obtain ⟨rfl, rfl, rfl, rfl⟩ := jnx_some h1
  have h2 := k rfl ls ⟨hf.1, hf.2.1, jS_cons (jwf_tag (by decide)) (jS_tail (jS_tail hf.2.2))⟩
  refine lv_isub (x := Int32.ofInt x) (y := Int32.ofInt y) (rest := r.map (jc a)) hx hb hd ?_
  have e1 : Int32.ofInt (x - y) = Int32.ofInt x - Int32.ofInt y := Int32.ofInt_sub x y
  rw [← e1]
  exact h2
set_option maxHeartbeats 200000 in
theorem jo_lsub (hx : p.tables.exec = Jvm.exec) (hb : c.code = cc) (hd : decode cc pc = .ok (.lsub, 1)) (hf : jFr a n nL L st ls) (hs : jl2 st (fun x y r => jnx (pc + 1) L ((1, x - y) :: r) h) = some (.inl ((pcN, LN, stN), h')))
    (k : h' = h → ∀ ls', jFr a n nL LN stN ls' → W p l e R s m args below meth c H locs cells slots Q (F0 m pcN ls' (stN.map (jc a)))) : W p l e R s m args below meth c H locs cells slots Q (F0 m pc ls (st.map (jc a))) := by
  obtain ⟨x, y, r, rfl, h1⟩ := jl2_some hs
  obtain ⟨rfl, rfl, rfl, rfl⟩ := jnx_some h1
  have h2 := k rfl ls ⟨hf.1, hf.2.1, jS_cons (jwf_tag (by decide)) (jS_tail (jS_tail hf.2.2))⟩
  refine lv_lsub (x := Int64.ofInt x) (y := Int64.ofInt y) (rest := r.map (jc a)) hx hb hd ?_
  have e1 : Int64.ofInt (x - y) = Int64.ofInt x - Int64.ofInt y := Int64.ofInt_sub x y
  rw [← e1]
  exact h2
set_option maxHeartbeats 200000 in
theorem jo_imul (hx : p.tables.exec = Jvm.exec) (hb : c.code = cc) (hd : decode cc pc = .ok (.imul, 1)) (hf : jFr a n nL L st ls) (hs : ji2 st (fun x y r => jnx (pc + 1) L ((0, x * y) :: r) h) = some (.inl ((pcN, LN, stN), h')))
    (k : h' = h → ∀ ls', jFr a n nL LN stN ls' → W p l e R s m args below meth c H locs cells slots Q (F0 m pcN ls' (stN.map (jc a)))) : W p l e R s m args below meth c H locs cells slots Q (F0 m pc ls (st.map (jc a))) := by
  obtain ⟨x, y, r, rfl, h1⟩ := ji2_some hs
  obtain ⟨rfl, rfl, rfl, rfl⟩ := jnx_some h1
  have h2 := k rfl ls ⟨hf.1, hf.2.1, jS_cons (jwf_tag (by decide)) (jS_tail (jS_tail hf.2.2))⟩
  refine lv_imul (x := Int32.ofInt x) (y := Int32.ofInt y) (rest := r.map (jc a)) hx hb hd ?_
  have e1 : Int32.ofInt (x * y) = Int32.ofInt x * Int32.ofInt y := Int32.ofInt_mul x y
  rw [← e1]
  exact h2
set_option maxHeartbeats 200000 in
theorem jo_lmul (hx : p.tables.exec = Jvm.exec) (hb : c.code = cc) (hd : decode cc pc = .ok (.lmul, 1)) (hf : jFr a n nL L st ls) (hs : jl2 st (fun x y r => jnx (pc + 1) L ((1, x * y) :: r) h) = some (.inl ((pcN, LN, stN), h')))
    (k : h' = h → ∀ ls', jFr a n nL LN stN ls' → W p l e R s m args below meth c H locs cells slots Q (F0 m pcN ls' (stN.map (jc a)))) : W p l e R s m args below meth c H locs cells slots Q (F0 m pc ls (st.map (jc a))) := by
  obtain ⟨x, y, r, rfl, h1⟩ := jl2_some hs
  obtain ⟨rfl, rfl, rfl, rfl⟩ := jnx_some h1
  have h2 := k rfl ls ⟨hf.1, hf.2.1, jS_cons (jwf_tag (by decide)) (jS_tail (jS_tail hf.2.2))⟩
  refine lv_lmul (x := Int64.ofInt x) (y := Int64.ofInt y) (rest := r.map (jc a)) hx hb hd ?_
  have e1 : Int64.ofInt (x * y) = Int64.ofInt x * Int64.ofInt y := Int64.ofInt_mul x y
  rw [← e1]
  exact h2
set_option maxHeartbeats 200000 in
theorem jo_iand (hx : p.tables.exec = Jvm.exec) (hb : c.code = cc) (hd : decode cc pc = .ok (.iand, 1)) (hf : jFr a n nL L st ls) (hs : ji2 st (fun x y r => jnx (pc + 1) L ((0, (Int32.ofInt x &&& Int32.ofInt y).toInt) :: r) h) = some (.inl ((pcN, LN, stN), h')))
    (k : h' = h → ∀ ls', jFr a n nL LN stN ls' → W p l e R s m args below meth c H locs cells slots Q (F0 m pcN ls' (stN.map (jc a)))) : W p l e R s m args below meth c H locs cells slots Q (F0 m pc ls (st.map (jc a))) := by
  obtain ⟨x, y, r, rfl, h1⟩ := ji2_some hs
  obtain ⟨rfl, rfl, rfl, rfl⟩ := jnx_some h1
  have h2 := k rfl ls ⟨hf.1, hf.2.1, jS_cons (jwf_tag (by decide)) (jS_tail (jS_tail hf.2.2))⟩
  refine lv_iand (x := Int32.ofInt x) (y := Int32.ofInt y) (rest := r.map (jc a)) hx hb hd ?_
  have e1 : Int32.ofInt (Int32.ofInt x &&& Int32.ofInt y).toInt = Int32.ofInt x &&& Int32.ofInt y := Int32.ofInt_toInt _
  rw [← e1]
  exact h2
set_option maxHeartbeats 200000 in
theorem jo_land (hx : p.tables.exec = Jvm.exec) (hb : c.code = cc) (hd : decode cc pc = .ok (.land, 1)) (hf : jFr a n nL L st ls) (hs : jl2 st (fun x y r => jnx (pc + 1) L ((1, (Int64.ofInt x &&& Int64.ofInt y).toInt) :: r) h) = some (.inl ((pcN, LN, stN), h')))
    (k : h' = h → ∀ ls', jFr a n nL LN stN ls' → W p l e R s m args below meth c H locs cells slots Q (F0 m pcN ls' (stN.map (jc a)))) : W p l e R s m args below meth c H locs cells slots Q (F0 m pc ls (st.map (jc a))) := by
  obtain ⟨x, y, r, rfl, h1⟩ := jl2_some hs
  obtain ⟨rfl, rfl, rfl, rfl⟩ := jnx_some h1
  have h2 := k rfl ls ⟨hf.1, hf.2.1, jS_cons (jwf_tag (by decide)) (jS_tail (jS_tail hf.2.2))⟩
  refine lv_land (x := Int64.ofInt x) (y := Int64.ofInt y) (rest := r.map (jc a)) hx hb hd ?_
  have e1 : Int64.ofInt (Int64.ofInt x &&& Int64.ofInt y).toInt = Int64.ofInt x &&& Int64.ofInt y := Int64.ofInt_toInt _
  rw [← e1]
  exact h2
set_option maxHeartbeats 200000 in
theorem jo_ior (hx : p.tables.exec = Jvm.exec) (hb : c.code = cc) (hd : decode cc pc = .ok (.ior, 1)) (hf : jFr a n nL L st ls) (hs : ji2 st (fun x y r => jnx (pc + 1) L ((0, (Int32.ofInt x ||| Int32.ofInt y).toInt) :: r) h) = some (.inl ((pcN, LN, stN), h')))
    (k : h' = h → ∀ ls', jFr a n nL LN stN ls' → W p l e R s m args below meth c H locs cells slots Q (F0 m pcN ls' (stN.map (jc a)))) : W p l e R s m args below meth c H locs cells slots Q (F0 m pc ls (st.map (jc a))) := by
  obtain ⟨x, y, r, rfl, h1⟩ := ji2_some hs
  obtain ⟨rfl, rfl, rfl, rfl⟩ := jnx_some h1
  have h2 := k rfl ls ⟨hf.1, hf.2.1, jS_cons (jwf_tag (by decide)) (jS_tail (jS_tail hf.2.2))⟩
  refine lv_ior (x := Int32.ofInt x) (y := Int32.ofInt y) (rest := r.map (jc a)) hx hb hd ?_
  have e1 : Int32.ofInt (Int32.ofInt x ||| Int32.ofInt y).toInt = Int32.ofInt x ||| Int32.ofInt y := Int32.ofInt_toInt _
  rw [← e1]
  exact h2
set_option maxHeartbeats 200000 in
theorem jo_lor (hx : p.tables.exec = Jvm.exec) (hb : c.code = cc) (hd : decode cc pc = .ok (.lor, 1)) (hf : jFr a n nL L st ls) (hs : jl2 st (fun x y r => jnx (pc + 1) L ((1, (Int64.ofInt x ||| Int64.ofInt y).toInt) :: r) h) = some (.inl ((pcN, LN, stN), h')))
    (k : h' = h → ∀ ls', jFr a n nL LN stN ls' → W p l e R s m args below meth c H locs cells slots Q (F0 m pcN ls' (stN.map (jc a)))) : W p l e R s m args below meth c H locs cells slots Q (F0 m pc ls (st.map (jc a))) := by
  obtain ⟨x, y, r, rfl, h1⟩ := jl2_some hs
  obtain ⟨rfl, rfl, rfl, rfl⟩ := jnx_some h1
  have h2 := k rfl ls ⟨hf.1, hf.2.1, jS_cons (jwf_tag (by decide)) (jS_tail (jS_tail hf.2.2))⟩
  refine lv_lor (x := Int64.ofInt x) (y := Int64.ofInt y) (rest := r.map (jc a)) hx hb hd ?_
  have e1 : Int64.ofInt (Int64.ofInt x ||| Int64.ofInt y).toInt = Int64.ofInt x ||| Int64.ofInt y := Int64.ofInt_toInt _
  rw [← e1]
  exact h2
set_option maxHeartbeats 200000 in
theorem jo_ishl (hx : p.tables.exec = Jvm.exec) (hb : c.code = cc) (hd : decode cc pc = .ok (.ishl, 1)) (hf : jFr a n nL L st ls) (hs : ji2 st (fun x y r => jnx (pc + 1) L ((0, (Int32.ofInt x <<< (Int32.ofInt y &&& 31)).toInt) :: r) h) = some (.inl ((pcN, LN, stN), h')))
    (k : h' = h → ∀ ls', jFr a n nL LN stN ls' → W p l e R s m args below meth c H locs cells slots Q (F0 m pcN ls' (stN.map (jc a)))) : W p l e R s m args below meth c H locs cells slots Q (F0 m pc ls (st.map (jc a))) := by
  obtain ⟨x, y, r, rfl, h1⟩ := ji2_some hs
  obtain ⟨rfl, rfl, rfl, rfl⟩ := jnx_some h1
  have h2 := k rfl ls ⟨hf.1, hf.2.1, jS_cons (jwf_tag (by decide)) (jS_tail (jS_tail hf.2.2))⟩
  refine lv_ishl (x := Int32.ofInt x) (y := Int32.ofInt y) (rest := r.map (jc a)) hx hb hd ?_
  have e1 : Int32.ofInt (Int32.ofInt x <<< (Int32.ofInt y &&& 31)).toInt = Int32.ofInt x <<< (Int32.ofInt y &&& 31) := Int32.ofInt_toInt _
  rw [← e1]
  exact h2
set_option maxHeartbeats 200000 in
theorem jo_ishr (hx : p.tables.exec = Jvm.exec) (hb : c.code = cc) (hd : decode cc pc = .ok (.ishr, 1)) (hf : jFr a n nL L st ls) (hs : ji2 st (fun x y r => jnx (pc + 1) L ((0, (Int32.ofInt x >>> (Int32.ofInt y &&& 31)).toInt) :: r) h) = some (.inl ((pcN, LN, stN), h')))
    (k : h' = h → ∀ ls', jFr a n nL LN stN ls' → W p l e R s m args below meth c H locs cells slots Q (F0 m pcN ls' (stN.map (jc a)))) : W p l e R s m args below meth c H locs cells slots Q (F0 m pc ls (st.map (jc a))) := by
  obtain ⟨x, y, r, rfl, h1⟩ := ji2_some hs
  obtain ⟨rfl, rfl, rfl, rfl⟩ := jnx_some h1
  have h2 := k rfl ls ⟨hf.1, hf.2.1, jS_cons (jwf_tag (by decide)) (jS_tail (jS_tail hf.2.2))⟩
  refine lv_ishr (x := Int32.ofInt x) (y := Int32.ofInt y) (rest := r.map (jc a)) hx hb hd ?_
  have e1 : Int32.ofInt (Int32.ofInt x >>> (Int32.ofInt y &&& 31)).toInt = Int32.ofInt x >>> (Int32.ofInt y &&& 31) := Int32.ofInt_toInt _
  rw [← e1]
  exact h2
set_option maxHeartbeats 200000 in
theorem jo_lshr (hx : p.tables.exec = Jvm.exec) (hb : c.code = cc) (hd : decode cc pc = .ok (.lshr, 1)) (hf : jFr a n nL L st ls) (hs : jls st (fun x y r => jnx (pc + 1) L ((1, jshr x y) :: r) h) = some (.inl ((pcN, LN, stN), h')))
    (k : h' = h → ∀ ls', jFr a n nL LN stN ls' → W p l e R s m args below meth c H locs cells slots Q (F0 m pcN ls' (stN.map (jc a)))) : W p l e R s m args below meth c H locs cells slots Q (F0 m pc ls (st.map (jc a))) := by
  obtain ⟨x, y, r, rfl, h1⟩ := jls_some hs
  obtain ⟨rfl, rfl, rfl, rfl⟩ := jnx_some h1
  have h2 := k rfl ls ⟨hf.1, hf.2.1, jS_cons (jwf_tag (by decide)) (jS_tail (jS_tail hf.2.2))⟩
  refine lv_lshr (v := Int64.ofInt (jshr x y)) (x := Int64.ofInt x) (y := Int32.ofInt y) (rest := r.map (jc a)) hx hb hd (Int64.ofInt_toInt _).symm ?_
  exact h2
set_option maxHeartbeats 200000 in
theorem jo_lushr (hx : p.tables.exec = Jvm.exec) (hb : c.code = cc) (hd : decode cc pc = .ok (.lushr, 1)) (hf : jFr a n nL L st ls) (hs : jls st (fun x y r => jnx (pc + 1) L ((1, jushr x y) :: r) h) = some (.inl ((pcN, LN, stN), h')))
    (k : h' = h → ∀ ls', jFr a n nL LN stN ls' → W p l e R s m args below meth c H locs cells slots Q (F0 m pcN ls' (stN.map (jc a)))) : W p l e R s m args below meth c H locs cells slots Q (F0 m pc ls (st.map (jc a))) := by
  obtain ⟨x, y, r, rfl, h1⟩ := jls_some hs
  obtain ⟨rfl, rfl, rfl, rfl⟩ := jnx_some h1
  have h2 := k rfl ls ⟨hf.1, hf.2.1, jS_cons (jwf_tag (by decide)) (jS_tail (jS_tail hf.2.2))⟩
  refine lv_lushr (v := Int64.ofInt (jushr x y)) (x := Int64.ofInt x) (y := Int32.ofInt y) (rest := r.map (jc a)) hx hb hd (Int64.ofInt_toInt _).symm ?_
  exact h2
set_option maxHeartbeats 200000 in
theorem jo_idiv (hx : p.tables.exec = Jvm.exec) (hb : c.code = cc) (hd : decode cc pc = .ok (.idiv, 1)) (hf : jFr a n nL L st ls) (hs : ji2 st (fun x y r => cond (decide (jw y = 0)) none (jnx (pc + 1) L ((0, (jw x).tdiv (jw y)) :: r) h)) = some (.inl ((pcN, LN, stN), h')))
    (k : h' = h → ∀ ls', jFr a n nL LN stN ls' → W p l e R s m args below meth c H locs cells slots Q (F0 m pcN ls' (stN.map (jc a)))) : W p l e R s m args below meth c H locs cells slots Q (F0 m pc ls (st.map (jc a))) := by
  obtain ⟨x, y, r, rfl, h1⟩ := ji2_some hs
  obtain ⟨hc, h1⟩ := jconn_some h1
  obtain ⟨rfl, rfl, rfl, rfl⟩ := jnx_some h1
  have h2 := k rfl ls ⟨hf.1, hf.2.1, jS_cons (jwf_tag (by decide)) (jS_tail (jS_tail hf.2.2))⟩
  refine lv_idiv (x := Int32.ofInt x) (y := Int32.ofInt y) (rest := r.map (jc a)) hx hb hd (fun q => of_decide_eq_false hc ((jeq y 0).mp q)) ?_
  have e1 : Int32.ofInt ((jw x).tdiv (jw y)) = Int32.ofInt x / Int32.ofInt y := jdiv
  rw [← e1]
  exact h2
set_option maxHeartbeats 200000 in
theorem jo_irem (hx : p.tables.exec = Jvm.exec) (hb : c.code = cc) (hd : decode cc pc = .ok (.irem, 1)) (hf : jFr a n nL L st ls) (hs : ji2 st (fun x y r => cond (decide (jw y = 0)) none (jnx (pc + 1) L ((0, (jw x).tmod (jw y)) :: r) h)) = some (.inl ((pcN, LN, stN), h')))
    (k : h' = h → ∀ ls', jFr a n nL LN stN ls' → W p l e R s m args below meth c H locs cells slots Q (F0 m pcN ls' (stN.map (jc a)))) : W p l e R s m args below meth c H locs cells slots Q (F0 m pc ls (st.map (jc a))) := by
  obtain ⟨x, y, r, rfl, h1⟩ := ji2_some hs
  obtain ⟨hc, h1⟩ := jconn_some h1
  obtain ⟨rfl, rfl, rfl, rfl⟩ := jnx_some h1
  have h2 := k rfl ls ⟨hf.1, hf.2.1, jS_cons (jwf_tag (by decide)) (jS_tail (jS_tail hf.2.2))⟩
  refine lv_irem (x := Int32.ofInt x) (y := Int32.ofInt y) (rest := r.map (jc a)) hx hb hd (fun q => of_decide_eq_false hc ((jeq y 0).mp q)) ?_
  have e1 : Int32.ofInt ((jw x).tmod (jw y)) = Int32.ofInt x - Int32.ofInt x / Int32.ofInt y * Int32.ofInt y := jmod
  rw [← e1]
  exact h2
set_option maxHeartbeats 200000 in
theorem jo_ldiv (hx : p.tables.exec = Jvm.exec) (hb : c.code = cc) (hd : decode cc pc = .ok (.ldiv, 1)) (hf : jFr a n nL L st ls) (hs : jl2 st (fun x y r => cond (decide (jwl y = 0)) none (jnx (pc + 1) L ((1, (jwl x).tdiv (jwl y)) :: r) h)) = some (.inl ((pcN, LN, stN), h')))
    (k : h' = h → ∀ ls', jFr a n nL LN stN ls' → W p l e R s m args below meth c H locs cells slots Q (F0 m pcN ls' (stN.map (jc a)))) : W p l e R s m args below meth c H locs cells slots Q (F0 m pc ls (st.map (jc a))) := by
  obtain ⟨x, y, r, rfl, h1⟩ := jl2_some hs
  obtain ⟨hc, h1⟩ := jconn_some h1
  obtain ⟨rfl, rfl, rfl, rfl⟩ := jnx_some h1
  have h2 := k rfl ls ⟨hf.1, hf.2.1, jS_cons (jwf_tag (by decide)) (jS_tail (jS_tail hf.2.2))⟩
  refine lv_ldiv (x := Int64.ofInt x) (y := Int64.ofInt y) (rest := r.map (jc a)) hx hb hd (fun q => of_decide_eq_false hc ((jleq y 0).mp q)) ?_
  have e1 : Int64.ofInt ((jwl x).tdiv (jwl y)) = Int64.ofInt x / Int64.ofInt y := jldiv
  rw [← e1]
  exact h2
set_option maxHeartbeats 200000 in
theorem jo_lrem (hx : p.tables.exec = Jvm.exec) (hb : c.code = cc) (hd : decode cc pc = .ok (.lrem, 1)) (hf : jFr a n nL L st ls) (hs : jl2 st (fun x y r => cond (decide (jwl y = 0)) none (jnx (pc + 1) L ((1, (jwl x).tmod (jwl y)) :: r) h)) = some (.inl ((pcN, LN, stN), h')))
    (k : h' = h → ∀ ls', jFr a n nL LN stN ls' → W p l e R s m args below meth c H locs cells slots Q (F0 m pcN ls' (stN.map (jc a)))) : W p l e R s m args below meth c H locs cells slots Q (F0 m pc ls (st.map (jc a))) := by
  obtain ⟨x, y, r, rfl, h1⟩ := jl2_some hs
  obtain ⟨hc, h1⟩ := jconn_some h1
  obtain ⟨rfl, rfl, rfl, rfl⟩ := jnx_some h1
  have h2 := k rfl ls ⟨hf.1, hf.2.1, jS_cons (jwf_tag (by decide)) (jS_tail (jS_tail hf.2.2))⟩
  refine lv_lrem (x := Int64.ofInt x) (y := Int64.ofInt y) (rest := r.map (jc a)) hx hb hd (fun q => of_decide_eq_false hc ((jleq y 0).mp q)) ?_
  have e1 : Int64.ofInt ((jwl x).tmod (jwl y)) = Int64.ofInt x - Int64.ofInt x / Int64.ofInt y * Int64.ofInt y := jlmod
  rw [← e1]
  exact h2
theorem jlcmp_eq {x y : Int} : Int32.ofInt (cond (decide (jwl y < jwl x)) 1 (cond (decide (jwl x = jwl y)) 0 (-1))) = lg_cmp (Int64.ofInt x) (Int64.ofInt y) := by
  unfold lg_cmp
  by_cases h1 : jwl y < jwl x
  · rw [decide_eq_true h1, if_pos ((jllt y x).mpr h1)]; rfl
  · rw [decide_eq_false h1, if_neg (fun q => h1 ((jllt y x).mp q))]
    by_cases h2 : jwl x = jwl y
    · rw [decide_eq_true h2, if_pos ((jleq x y).mpr h2)]; rfl
    · rw [decide_eq_false h2, if_neg (fun q => h2 ((jleq x y).mp q))]; rfl
set_option maxHeartbeats 200000 in
theorem jo_lcmp (hx : p.tables.exec = Jvm.exec) (hb : c.code = cc) (hd : decode cc pc = .ok (.lcmp, 1)) (hf : jFr a n nL L st ls) (hs : jl2 st (fun x y r => jnx (pc + 1) L ((0, cond (decide (jwl y < jwl x)) 1 (cond (decide (jwl x = jwl y)) 0 (-1))) :: r) h) = some (.inl ((pcN, LN, stN), h')))
    (k : h' = h → ∀ ls', jFr a n nL LN stN ls' → W p l e R s m args below meth c H locs cells slots Q (F0 m pcN ls' (stN.map (jc a)))) : W p l e R s m args below meth c H locs cells slots Q (F0 m pc ls (st.map (jc a))) := by
  obtain ⟨x, y, r, rfl, h1⟩ := jl2_some hs
  obtain ⟨rfl, rfl, rfl, rfl⟩ := jnx_some h1
  have h2 := k rfl ls ⟨hf.1, hf.2.1, jS_cons (jwf_tag (by decide)) (jS_tail (jS_tail hf.2.2))⟩
  refine W.lcmp (x := Int64.ofInt x) (y := Int64.ofInt y) (rest := r.map (jc a)) hx hb hd ?_
  have e1 : Int32.ofInt (cond (decide (jwl y < jwl x)) 1 (cond (decide (jwl x = jwl y)) 0 (-1))) = lg_cmp (Int64.ofInt x) (Int64.ofInt y) := jlcmp_eq
  rw [← e1]
  exact h2
set_option maxHeartbeats 200000 in
theorem jo_dadd (hx : p.tables.exec = Jvm.exec) (hb : c.code = cc) (hd : decode cc pc = .ok (.dadd, 1)) (hf : jFr a n nL L st ls) (hs : jd2 st (fun x y r => cond (jn64 (FP.dadd (ju64 x) (ju64 y))) (jnx (pc + 1) L (jd (FP.dadd (ju64 x) (ju64 y)) :: r) h) none) = some (.inl ((pcN, LN, stN), h')))
    (k : h' = h → ∀ ls', jFr a n nL LN stN ls' → W p l e R s m args below meth c H locs cells slots Q (F0 m pcN ls' (stN.map (jc a)))) : W p l e R s m args below meth c H locs cells slots Q (F0 m pc ls (st.map (jc a))) := by
  obtain ⟨x, y, r, rfl, h1⟩ := jd2_some hs
  obtain ⟨hc, h1⟩ := jcond_some h1
  obtain ⟨rfl, rfl, rfl, rfl⟩ := jnx_some h1
  have h2 := k rfl ls ⟨hf.1, hf.2.1, jS_cons (jwf_tag (by decide)) (jS_tail (jS_tail hf.2.2))⟩
  refine lv_dadd (x := ju64 x) (y := ju64 y) (rest := r.map (jc a)) hx hb hd (jn64_ok hc) ?_
  have e1 : ju64 (((FP.dadd (ju64 x) (ju64 y)).toNat : Nat) : Int) = FP.dadd (ju64 x) (ju64 y) := ju64_of _
  rw [← e1]
  exact h2
set_option maxHeartbeats 200000 in
theorem jo_dmul (hx : p.tables.exec = Jvm.exec) (hb : c.code = cc) (hd : decode cc pc = .ok (.dmul, 1)) (hf : jFr a n nL L st ls) (hs : jd2 st (fun x y r => cond (jn64 (FP.dmul (ju64 x) (ju64 y))) (jnx (pc + 1) L (jd (FP.dmul (ju64 x) (ju64 y)) :: r) h) none) = some (.inl ((pcN, LN, stN), h')))
    (k : h' = h → ∀ ls', jFr a n nL LN stN ls' → W p l e R s m args below meth c H locs cells slots Q (F0 m pcN ls' (stN.map (jc a)))) : W p l e R s m args below meth c H locs cells slots Q (F0 m pc ls (st.map (jc a))) := by
  obtain ⟨x, y, r, rfl, h1⟩ := jd2_some hs
  obtain ⟨hc, h1⟩ := jcond_some h1
  obtain ⟨rfl, rfl, rfl, rfl⟩ := jnx_some h1
  have h2 := k rfl ls ⟨hf.1, hf.2.1, jS_cons (jwf_tag (by decide)) (jS_tail (jS_tail hf.2.2))⟩
  refine lv_dmul (x := ju64 x) (y := ju64 y) (rest := r.map (jc a)) hx hb hd (jn64_ok hc) ?_
  have e1 : ju64 (((FP.dmul (ju64 x) (ju64 y)).toNat : Nat) : Int) = FP.dmul (ju64 x) (ju64 y) := ju64_of _
  rw [← e1]
  exact h2
set_option maxHeartbeats 200000 in
theorem jo_ddiv (hx : p.tables.exec = Jvm.exec) (hb : c.code = cc) (hd : decode cc pc = .ok (.ddiv, 1)) (hf : jFr a n nL L st ls) (hs : jd2 st (fun x y r => cond (jn64 (FP.ddiv (ju64 x) (ju64 y))) (jnx (pc + 1) L (jd (FP.ddiv (ju64 x) (ju64 y)) :: r) h) none) = some (.inl ((pcN, LN, stN), h')))
    (k : h' = h → ∀ ls', jFr a n nL LN stN ls' → W p l e R s m args below meth c H locs cells slots Q (F0 m pcN ls' (stN.map (jc a)))) : W p l e R s m args below meth c H locs cells slots Q (F0 m pc ls (st.map (jc a))) := by
  obtain ⟨x, y, r, rfl, h1⟩ := jd2_some hs
  obtain ⟨hc, h1⟩ := jcond_some h1
  obtain ⟨rfl, rfl, rfl, rfl⟩ := jnx_some h1
  have h2 := k rfl ls ⟨hf.1, hf.2.1, jS_cons (jwf_tag (by decide)) (jS_tail (jS_tail hf.2.2))⟩
  refine lv_ddiv (x := ju64 x) (y := ju64 y) (rest := r.map (jc a)) hx hb hd (jn64_ok hc) ?_
  have e1 : ju64 (((FP.ddiv (ju64 x) (ju64 y)).toNat : Nat) : Int) = FP.ddiv (ju64 x) (ju64 y) := ju64_of _
  rw [← e1]
  exact h2
set_option maxHeartbeats 200000 in
theorem jo_ineg (hx : p.tables.exec = Jvm.exec) (hb : c.code = cc) (hd : decode cc pc = .ok (.ineg, 1)) (hf : jFr a n nL L st ls) (hs : ji1 st (fun x r => jnx (pc + 1) L ((0, -x) :: r) h) = some (.inl ((pcN, LN, stN), h')))
    (k : h' = h → ∀ ls', jFr a n nL LN stN ls' → W p l e R s m args below meth c H locs cells slots Q (F0 m pcN ls' (stN.map (jc a)))) : W p l e R s m args below meth c H locs cells slots Q (F0 m pc ls (st.map (jc a))) := by
  obtain ⟨x, r, rfl, h1⟩ := ji1_some hs
  obtain ⟨rfl, rfl, rfl, rfl⟩ := jnx_some h1
  have h2 := k rfl ls ⟨hf.1, hf.2.1, jS_cons (jwf_tag (by decide)) (jS_tail hf.2.2)⟩
  refine lv_ineg (x := Int32.ofInt x) (rest := r.map (jc a)) hx hb hd ?_
  have e1 : Int32.ofInt (-x) = -Int32.ofInt x := Int32.ofInt_neg x
  rw [← e1]
  exact h2
set_option maxHeartbeats 200000 in
theorem jo_lneg (hx : p.tables.exec = Jvm.exec) (hb : c.code = cc) (hd : decode cc pc = .ok (.lneg, 1)) (hf : jFr a n nL L st ls) (hs : jl1 st (fun x r => jnx (pc + 1) L ((1, -x) :: r) h) = some (.inl ((pcN, LN, stN), h')))
    (k : h' = h → ∀ ls', jFr a n nL LN stN ls' → W p l e R s m args below meth c H locs cells slots Q (F0 m pcN ls' (stN.map (jc a)))) : W p l e R s m args below meth c H locs cells slots Q (F0 m pc ls (st.map (jc a))) := by
  obtain ⟨x, r, rfl, h1⟩ := jl1_some hs
  obtain ⟨rfl, rfl, rfl, rfl⟩ := jnx_some h1
  have h2 := k rfl ls ⟨hf.1, hf.2.1, jS_cons (jwf_tag (by decide)) (jS_tail hf.2.2)⟩
  refine lv_lneg (x := Int64.ofInt x) (rest := r.map (jc a)) hx hb hd ?_
  have e1 : Int64.ofInt (-x) = -Int64.ofInt x := Int64.ofInt_neg x
  rw [← e1]
  exact h2
set_option maxHeartbeats 200000 in
theorem jo_i2l (hx : p.tables.exec = Jvm.exec) (hb : c.code = cc) (hd : decode cc pc = .ok (.i2l, 1)) (hf : jFr a n nL L st ls) (hs : ji1 st (fun x r => jnx (pc + 1) L ((1, jw x) :: r) h) = some (.inl ((pcN, LN, stN), h')))
    (k : h' = h → ∀ ls', jFr a n nL LN stN ls' → W p l e R s m args below meth c H locs cells slots Q (F0 m pcN ls' (stN.map (jc a)))) : W p l e R s m args below meth c H locs cells slots Q (F0 m pc ls (st.map (jc a))) := by
  obtain ⟨x, r, rfl, h1⟩ := ji1_some hs
  obtain ⟨rfl, rfl, rfl, rfl⟩ := jnx_some h1
  have h2 := k rfl ls ⟨hf.1, hf.2.1, jS_cons (jwf_tag (by decide)) (jS_tail hf.2.2)⟩
  refine lv_i2l (x := Int32.ofInt x) (rest := r.map (jc a)) hx hb hd (ji2l x) ?_
  exact h2
set_option maxHeartbeats 200000 in
theorem jo_l2i (hx : p.tables.exec = Jvm.exec) (hb : c.code = cc) (hd : decode cc pc = .ok (.l2i, 1)) (hf : jFr a n nL L st ls) (hs : jl1 st (fun x r => jnx (pc + 1) L ((0, x) :: r) h) = some (.inl ((pcN, LN, stN), h')))
    (k : h' = h → ∀ ls', jFr a n nL LN stN ls' → W p l e R s m args below meth c H locs cells slots Q (F0 m pcN ls' (stN.map (jc a)))) : W p l e R s m args below meth c H locs cells slots Q (F0 m pc ls (st.map (jc a))) := by
  obtain ⟨x, r, rfl, h1⟩ := jl1_some hs
  obtain ⟨rfl, rfl, rfl, rfl⟩ := jnx_some h1
  have h2 := k rfl ls ⟨hf.1, hf.2.1, jS_cons (jwf_tag (by decide)) (jS_tail hf.2.2)⟩
  refine lv_l2i (x := Int64.ofInt x) (rest := r.map (jc a)) hx hb hd (jl2i x) ?_
  exact h2
set_option maxHeartbeats 200000 in
theorem jo_l2d (hx : p.tables.exec = Jvm.exec) (hb : c.code = cc) (hd : decode cc pc = .ok (.l2d, 1)) (hf : jFr a n nL L st ls) (hs : jl1 st (fun x r => jnx (pc + 1) L (jd (FP.l2d (Int64.ofInt x)) :: r) h) = some (.inl ((pcN, LN, stN), h')))
    (k : h' = h → ∀ ls', jFr a n nL LN stN ls' → W p l e R s m args below meth c H locs cells slots Q (F0 m pcN ls' (stN.map (jc a)))) : W p l e R s m args below meth c H locs cells slots Q (F0 m pc ls (st.map (jc a))) := by
  obtain ⟨x, r, rfl, h1⟩ := jl1_some hs
  obtain ⟨rfl, rfl, rfl, rfl⟩ := jnx_some h1
  have h2 := k rfl ls ⟨hf.1, hf.2.1, jS_cons (jwf_tag (by decide)) (jS_tail hf.2.2)⟩
  refine lv_l2d (x := Int64.ofInt x) (rest := r.map (jc a)) hx hb hd ?_
  have e1 : ju64 (((FP.l2d (Int64.ofInt x)).toNat : Nat) : Int) = FP.l2d (Int64.ofInt x) := ju64_of _
  rw [← e1]
  exact h2
set_option maxHeartbeats 200000 in
theorem jo_d2l (hx : p.tables.exec = Jvm.exec) (hb : c.code = cc) (hd : decode cc pc = .ok (.d2l, 1)) (hf : jFr a n nL L st ls) (hs : jd1 st (fun x r => jnx (pc + 1) L ((1, (FP.d2l (ju64 x)).toInt) :: r) h) = some (.inl ((pcN, LN, stN), h')))
    (k : h' = h → ∀ ls', jFr a n nL LN stN ls' → W p l e R s m args below meth c H locs cells slots Q (F0 m pcN ls' (stN.map (jc a)))) : W p l e R s m args below meth c H locs cells slots Q (F0 m pc ls (st.map (jc a))) := by
  obtain ⟨x, r, rfl, h1⟩ := jd1_some hs
  obtain ⟨rfl, rfl, rfl, rfl⟩ := jnx_some h1
  have h2 := k rfl ls ⟨hf.1, hf.2.1, jS_cons (jwf_tag (by decide)) (jS_tail hf.2.2)⟩
  refine lv_d2l (x := ju64 x) (rest := r.map (jc a)) hx hb hd ?_
  have e1 : Int64.ofInt (FP.d2l (ju64 x)).toInt = FP.d2l (ju64 x) := Int64.ofInt_toInt _
  rw [← e1]
  exact h2
end JO
