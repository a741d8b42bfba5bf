/-! the little machine, part 11: one step that is no call and no end -/
section JST
variable {p : Program} {l : Launch} {e : Env} {R : Room} {s : State} {m : MethodId} {args : Array Value} {below : List Frame} {meth : Method} {c : Code} {H : Heap} {locs : List Loc} {cells slots : Nat} {Q : State → Prop} {cc : ByteArray}
variable {D : va_G} {aC : Nat → ClassId} {A : Nat → Prop} {xs : List Int} {a : JA} {nL : Nat} {L LN : JL} {st stN : List JV} {ls : Array Slot} {pc pcN : Nat} {h h' : JH}
theorem jtake_cl {y pc9 : Nat} {L9 : JL} {z : Option (List JV × List JV)} {h9 : JH} (hs : (match z with
    | some (b, r) => jcl y b (pc9, L9, r) h9
    | none => none) = some (.inl ((pcN, LN, stN), h'))) : False := by
  split at hs
  · cases hs
  · cases hs
theorem jo_calls {w0 i : Nat} (hown : s.vm.findClass (jR w0) = some m.cls) (hml : c.maxLocals = ls.size) (hRf : 1 ≤ R.frames) (hRl : 200 ≤ R.locals) (hRc : cells ≤ R.cells) (hRs : slots ≤ R.slots) (hx : p.tables.exec = Jvm.exec) (hb : c.code = cc) (hd : decode cc pc = .ok (.invokestatic i, 3)) (hT : jTw a s) (hK : va_K D vwCl (jTys aC) s) (hP : jHp D aC a A s h.1 H locs) (hf : jFr a h.1.length nL L st ls) (hs : jcalls (jpool w0 i) pc L st h = some (.inl ((pcN, LN, stN), h')))
    (k : jKn p l e R s m args below meth c Q D aC A nL a h cells slots pcN LN stN h') : W p l e R s m args below meth c H locs cells slots Q (F0 m pc ls (st.map (jc a))) := by
  unfold jcalls at hs
  have hok := jpool_ok w0 i
  generalize jpool w0 i = E at hs hok
  obtain ⟨cd, ci, b⟩ := E
  dsimp only at hs
  split at hs
  · replace hs := jcond_some hs
    exact absurd (jtake_cl hs.2) id
  · replace hs := jcond_some hs
    exact absurd (jtake_cl hs.2) id
  · replace hs := jcond_some hs
    obtain ⟨hwd, hs⟩ := hs
    have hwd : jwid st ≤ 24 := Nat.le_of_ble_eq_true hwd
    have hok : jWd (.methodLink (jR w0) i (jSP ci)) := hok
    unfold jspc at hs
    split at hs
    · exact jo_sp0 hown hok.aw hwd hml hRf hRl hRc hRs hx hb hd hT hP hf hs k
    · exact jo_sp1 hown hok.aw hwd hml hRf hRl hRc hRs hx hb hd hT hP hf hs k
    · exact jo_sp2 hown hok.aw hwd hml hRf hRl hRc hRs hx hb hd hT hP hf hs k
    · exact jo_sp3 hown hok.aw hwd hml hRf hRl hRc hRs hx hb hd hT hP hf hs k
    · exact jo_sp4 hown hok.aw hwd hml hRf hRl hRc hRs hx hb hd hT hP hf hs k
    · exact jo_sp5 hown hok.aw hwd hml hRf hRl hRc hRs hx hb hd hT hP hf hs k
    · exact jo_copy hown hok.aw hwd hml hRf hRl hx hb hd hT hK hP hf hs k
    · cases hs
  · cases hs
theorem jo_callv {w0 i : Nat} (hown : s.vm.findClass (jR w0) = some m.cls) (hml : c.maxLocals = ls.size) (hRf : 1 ≤ R.frames) (hRl : 200 ≤ R.locals) (hA : ∀ q, s.heap.size ≤ q → A q) (hx : p.tables.exec = Jvm.exec) (hb : c.code = cc) (hd : decode cc pc = .ok (.invokevirtual i, 3)) (hT : jTw a s) (hK : va_K D vwCl (jTys aC) s) (hP : jHp D aC a A s h.1 H locs) (hf : jFr a h.1.length nL L st ls) (hr1 : h'.2.1 + cells ≤ h.2.1 + R.cells) (hr2 : h'.2.2 + slots ≤ h.2.2 + R.slots) (hs : jcallv (jpool w0 i) pc L st h = some (.inl ((pcN, LN, stN), h')))
    (k : jKn p l e R s m args below meth c Q D aC A nL a h cells slots pcN LN stN h') : W p l e R s m args below meth c H locs cells slots Q (F0 m pc ls (st.map (jc a))) := by
  unfold jcallv at hs
  have hok := jpool_ok w0 i
  generalize jpool w0 i = E at hs hok
  obtain ⟨cd, ci, b⟩ := E
  dsimp only at hs
  split at hs
  · replace hs := jcond_some hs
    obtain ⟨-, hs⟩ := hs
    split at hs
    · replace hs := jcell_some hs
      obtain ⟨n, c0, -, -, hs⟩ := hs
      replace hs := jcond_some hs
      cases hs.2
    · cases hs
  · replace hs := jcond_some hs
    obtain ⟨hwd, hs⟩ := hs
    have hwd : jwid st ≤ 24 := Nat.le_of_ble_eq_true hwd
    have hok : jWd (.methodLink (jR w0) i ⟨jKN ci, "clone", "()Ljava/lang/Object;"⟩) := hok
    exact jo_clone hown hok.aw hwd hml hRf hRl hA hx hb hd hT hK hP hf hr1 hr2 hs k
  · cases hs
theorem jo_calli {w0 i : Nat} (hown : s.vm.findClass (jR w0) = some m.cls) (hml : c.maxLocals = ls.size) (hRf : 1 ≤ R.frames) (hRl : 200 ≤ R.locals) (hRc : cells ≤ R.cells) (hRs : slots ≤ R.slots) (hx : p.tables.exec = Jvm.exec) (hb : c.code = cc) (hd : decode cc pc = .ok (.invokespecial i, 3)) (hT : jTw a s) (hP : jHp D aC a A s h.1 H locs) (hf : jFr a h.1.length nL L st ls) (hs : jcalli (jpool w0 i) pc L st h = some (.inl ((pcN, LN, stN), h')))
    (k : jKn p l e R s m args below meth c Q D aC A nL a h cells slots pcN LN stN h') : W p l e R s m args below meth c H locs cells slots Q (F0 m pc ls (st.map (jc a))) := by
  unfold jcalli at hs
  have hok := jpool_ok w0 i
  generalize jpool w0 i = E at hs hok
  obtain ⟨cd, ci, b⟩ := E
  dsimp only at hs
  split at hs
  · replace hs := jcond_some hs
    obtain ⟨hwd, hs⟩ := hs
    have hwd : jwid st ≤ 24 := Nat.le_of_ble_eq_true hwd
    have hok : jWd (.methodLink (jR w0) i Lib.objectInit) := hok
    exact jo_oinit hown hok.aw hwd hml hRf hRl hRc hRs hx hb hd hT hP hf hs k
  · replace hs := jcond_some hs
    obtain ⟨-, hs⟩ := hs
    split at hs
    · cases hs
    · cases hs
  · replace hs := jcond_some hs
    obtain ⟨-, hs⟩ := hs
    split at hs
    · cases hs
    · cases hs
  · cases hs
theorem jret_no {k : Nat} {v : JV} {h9 : JH} (hs : jout k v h9 = some (.inl ((pcN, LN, stN), h'))) : False := by cases hs
theorem jretv_no {rt : Nat} {st9 : List JV} {h9 : JH} (hs : jretv rt st9 h9 = some (.inl ((pcN, LN, stN), h'))) : False := by
  unfold jretv at hs
  split at hs
  · exact jret_no (jcond_some hs).2
  · cases hs
theorem jkdec {mm pc : Nat} {n : Nat} {ins : Instr} (hI : jmI (jm mm) pc = (ins, n)) (hl : jlen ins n = true) : decode (jmB (jm mm)) pc = .ok (ins, n) := by
  have hk : jkOk (jmB (jm mm)) (jmI (jm mm)) := by
    have h1 := jm_ok mm
    unfold jmOk at h1
    split at h1
    · exact h1.1
    · exact h1.1
  rcases hk pc with h1 | h1
  · rw [hI] at h1
    cases h1
    exact absurd (show Nat.beq 0 1 = true from hl) (by decide)
  · rw [hI] at h1
    exact h1
set_option maxHeartbeats 4000000 in
theorem jstep_ok {mm : Nat} (fx : jFx p s m meth c mm) (cx : jCx D aC xs a A s) (hP : jHp D aC a A s h.1 H locs) (hf : jFr a h.1.length (jmL (jm mm)) L st ls) (hRf : 1 ≤ R.frames) (hRl : 200 ≤ R.locals) (hRc : cells ≤ R.cells) (hRs : slots ≤ R.slots) (hr1 : h'.2.1 + cells ≤ h.2.1 + R.cells) (hr2 : h'.2.2 + slots ≤ h.2.2 + R.slots)
    (hs : jstep xs mm pc L st h = some (.inl ((pcN, LN, stN), h'))) (k : jKn p l e R s m args below meth c Q D aC A (jmL (jm mm)) a h cells slots pcN LN stN h') : W p l e R s m args below meth c H locs cells slots Q (F0 m pc ls (st.map (jc a))) := by
  obtain ⟨hx, hb, hml0, hown, -, hin⟩ := fx
  obtain ⟨hK, hT, hO, hA⟩ := cx
  have hml : c.maxLocals = ls.size := hml0.trans hf.1.1.symm
  unfold jstep at hs
  replace hs := jcond_some hs
  obtain ⟨hlen, hs⟩ := hs
  have hdec := fun (ins : Instr) (n : Nat) => jkdec (mm := mm) (pc := pc) (n := n) (ins := ins)
  generalize jmI (jm mm) pc = I at hs hlen hdec
  obtain ⟨ins, n⟩ := I
  have hd := hdec ins n rfl hlen
  clear hdec
  dsimp only at hs hlen
  unfold jstep0 at hs
  split at hs
  · obtain rfl : n = 1 := Nat.eq_of_beq_eq_true hlen
    exact jo_iload_n hx hb hd hf hs (k.num hP)
  · obtain rfl : n = 1 := Nat.eq_of_beq_eq_true hlen
    exact jo_aload_n hx hb hd hf hs (k.num hP)
  · obtain rfl : n = 1 := Nat.eq_of_beq_eq_true hlen
    exact jo_lload_n hx hb hd hf hs (k.num hP)
  · obtain rfl : n = 2 := Nat.eq_of_beq_eq_true hlen
    exact jo_iload hx hb hd hf hs (k.num hP)
  · obtain rfl : n = 2 := Nat.eq_of_beq_eq_true hlen
    exact jo_aload hx hb hd hf hs (k.num hP)
  · obtain rfl : n = 2 := Nat.eq_of_beq_eq_true hlen
    exact jo_lload hx hb hd hf hs (k.num hP)
  · obtain rfl : n = 1 := Nat.eq_of_beq_eq_true hlen
    exact jo_istore_n hx hb hd hf hs (k.num hP)
  · obtain rfl : n = 1 := Nat.eq_of_beq_eq_true hlen
    exact jo_lstore_n hx hb hd hf hs (k.num hP)
  · obtain rfl : n = 1 := Nat.eq_of_beq_eq_true hlen
    exact jo_astore_n hx hb hd hf hs (k.num hP)
  · obtain rfl : n = 2 := Nat.eq_of_beq_eq_true hlen
    exact jo_istore hx hb hd hf hs (k.num hP)
  · obtain rfl : n = 2 := Nat.eq_of_beq_eq_true hlen
    exact jo_lstore hx hb hd hf hs (k.num hP)
  · obtain rfl : n = 2 := Nat.eq_of_beq_eq_true hlen
    exact jo_astore hx hb hd hf hs (k.num hP)
  · obtain rfl : n = 1 := Nat.eq_of_beq_eq_true hlen
    exact jo_iconst hx hb hd hf hs (k.num hP)
  · obtain rfl : n = 2 := Nat.eq_of_beq_eq_true hlen
    exact jo_bipush hx hb hd hf hs (k.num hP)
  · obtain rfl : n = 3 := Nat.eq_of_beq_eq_true hlen
    exact jo_sipush hx hb hd hf hs (k.num hP)
  · obtain rfl : n = 1 := Nat.eq_of_beq_eq_true hlen
    exact jo_lconst hx hb hd hf hs (k.num hP)
  · obtain rfl : n = 1 := Nat.eq_of_beq_eq_true hlen
    exact jo_aconst_null hx hb hd hf hs (k.num hP)
  · obtain rfl : n = 1 := Nat.eq_of_beq_eq_true hlen
    exact jo_iadd hx hb hd hf hs (k.num hP)
  · obtain rfl : n = 1 := Nat.eq_of_beq_eq_true hlen
    exact jo_isub hx hb hd hf hs (k.num hP)
  · obtain rfl : n = 1 := Nat.eq_of_beq_eq_true hlen
    exact jo_imul hx hb hd hf hs (k.num hP)
  · obtain rfl : n = 1 := Nat.eq_of_beq_eq_true hlen
    exact jo_ineg hx hb hd hf hs (k.num hP)
  · obtain rfl : n = 1 := Nat.eq_of_beq_eq_true hlen
    exact jo_idiv hx hb hd hf hs (k.num hP)
  · obtain rfl : n = 1 := Nat.eq_of_beq_eq_true hlen
    exact jo_irem hx hb hd hf hs (k.num hP)
  · obtain rfl : n = 1 := Nat.eq_of_beq_eq_true hlen
    exact jo_iand hx hb hd hf hs (k.num hP)
  · obtain rfl : n = 1 := Nat.eq_of_beq_eq_true hlen
    exact jo_ior hx hb hd hf hs (k.num hP)
  · obtain rfl : n = 1 := Nat.eq_of_beq_eq_true hlen
    exact jo_ishl hx hb hd hf hs (k.num hP)
  · obtain rfl : n = 1 := Nat.eq_of_beq_eq_true hlen
    exact jo_ishr hx hb hd hf hs (k.num hP)
  · obtain rfl : n = 1 := Nat.eq_of_beq_eq_true hlen
    exact jo_ladd hx hb hd hf hs (k.num hP)
  · obtain rfl : n = 1 := Nat.eq_of_beq_eq_true hlen
    exact jo_lsub hx hb hd hf hs (k.num hP)
  · obtain rfl : n = 1 := Nat.eq_of_beq_eq_true hlen
    exact jo_lmul hx hb hd hf hs (k.num hP)
  · obtain rfl : n = 1 := Nat.eq_of_beq_eq_true hlen
    exact jo_lneg hx hb hd hf hs (k.num hP)
  · obtain rfl : n = 1 := Nat.eq_of_beq_eq_true hlen
    exact jo_ldiv hx hb hd hf hs (k.num hP)
  · obtain rfl : n = 1 := Nat.eq_of_beq_eq_true hlen
    exact jo_lrem hx hb hd hf hs (k.num hP)
  · obtain rfl : n = 1 := Nat.eq_of_beq_eq_true hlen
    exact jo_land hx hb hd hf hs (k.num hP)
  · obtain rfl : n = 1 := Nat.eq_of_beq_eq_true hlen
    exact jo_lor hx hb hd hf hs (k.num hP)
  · obtain rfl : n = 1 := Nat.eq_of_beq_eq_true hlen
    exact jo_lshr hx hb hd hf hs (k.num hP)
  · obtain rfl : n = 1 := Nat.eq_of_beq_eq_true hlen
    exact jo_lushr hx hb hd hf hs (k.num hP)
  · obtain rfl : n = 1 := Nat.eq_of_beq_eq_true hlen
    exact jo_lcmp hx hb hd hf hs (k.num hP)
  · obtain rfl : n = 1 := Nat.eq_of_beq_eq_true hlen
    exact jo_i2l hx hb hd hf hs (k.num hP)
  · obtain rfl : n = 1 := Nat.eq_of_beq_eq_true hlen
    exact jo_l2i hx hb hd hf hs (k.num hP)
  · obtain rfl : n = 1 := Nat.eq_of_beq_eq_true hlen
    exact jo_l2d hx hb hd hf hs (k.num hP)
  · obtain rfl : n = 1 := Nat.eq_of_beq_eq_true hlen
    exact jo_d2l hx hb hd hf hs (k.num hP)
  · obtain rfl : n = 1 := Nat.eq_of_beq_eq_true hlen
    exact jo_dadd hx hb hd hf hs (k.num hP)
  · obtain rfl : n = 1 := Nat.eq_of_beq_eq_true hlen
    exact jo_dmul hx hb hd hf hs (k.num hP)
  · obtain rfl : n = 1 := Nat.eq_of_beq_eq_true hlen
    exact jo_ddiv hx hb hd hf hs (k.num hP)
  · obtain rfl : n = 3 := Nat.eq_of_beq_eq_true hlen
    exact jo_iinc hx hb hd hf hs (k.num hP)
  · obtain rfl : n = 1 := Nat.eq_of_beq_eq_true hlen
    exact jo_dup hx hb hd hf hs (k.num hP)
  · obtain rfl : n = 1 := Nat.eq_of_beq_eq_true hlen
    exact jo_dup2 hx hb hd hf hs (k.num hP)
  · obtain rfl : n = 1 := Nat.eq_of_beq_eq_true hlen
    exact jo_pop2 hx hb hd hf hs (k.num hP)
  · obtain rfl : n = 3 := Nat.eq_of_beq_eq_true hlen
    rename_i cm off
    cases cm with
    | eq => exact jo_if_eq hx hb hd hf hs (k.num hP)
    | ne => exact jo_if_ne hx hb hd hf hs (k.num hP)
    | lt => exact jo_if_lt hx hb hd hf hs (k.num hP)
    | ge => exact jo_if_ge hx hb hd hf hs (k.num hP)
    | gt => exact jo_if_gt hx hb hd hf hs (k.num hP)
    | le => exact jo_if_le hx hb hd hf hs (k.num hP)
  · obtain rfl : n = 3 := Nat.eq_of_beq_eq_true hlen
    rename_i cm off
    cases cm with
    | eq => exact jo_icmp_eq hx hb hd hf hs (k.num hP)
    | ne => exact jo_icmp_ne hx hb hd hf hs (k.num hP)
    | lt => exact jo_icmp_lt hx hb hd hf hs (k.num hP)
    | ge => exact jo_icmp_ge hx hb hd hf hs (k.num hP)
    | gt => exact jo_icmp_gt hx hb hd hf hs (k.num hP)
    | le => exact jo_icmp_le hx hb hd hf hs (k.num hP)
  · obtain rfl : n = 3 := Nat.eq_of_beq_eq_true hlen
    exact jo_ifnull hx hb hd hP hf hs k
  · obtain rfl : n = 3 := Nat.eq_of_beq_eq_true hlen
    exact jo_goto hx hb hd hf hs (k.num hP)
  · exact jo_sw hx hb hd hP hf hs k
  · obtain rfl : n = 2 := Nat.eq_of_beq_eq_true hlen
    exact jo_ldc hown hx hb hd hT hP hf hs k
  · obtain rfl : n = 3 := Nat.eq_of_beq_eq_true hlen
    exact jo_ldc_w hown hx hb hd hT hP hf hs k
  · obtain rfl : n = 3 := Nat.eq_of_beq_eq_true hlen
    exact jo_ldc2 hown hx hb hd hT hP hf hs k
  · obtain rfl : n = 1 := Nat.eq_of_beq_eq_true hlen
    split at hs
    · rename_i i9 z9 r9
      exact jo_iscr (st := (0, i9) :: (6, z9) :: r9) hx hb hd hO hP hf hs k
    · exact jo_itab hx hb hd hO hP hf hs k
    · exact jo_iald hx hb hd hK hP hf hs k
  · obtain rfl : n = 1 := Nat.eq_of_beq_eq_true hlen
    split at hs
    · exact jo_ltab hx hb hd hO hP hf hs k
    · exact jo_lald hx hb hd hK hP hf hs k
  · obtain rfl : n = 1 := Nat.eq_of_beq_eq_true hlen
    exact jo_aald hx hb hd hK hP hf hs k
  · obtain rfl : n = 1 := Nat.eq_of_beq_eq_true hlen
    exact jo_iast hx hb hd hK hP hf hs k
  · obtain rfl : n = 1 := Nat.eq_of_beq_eq_true hlen
    exact jo_last hx hb hd hK hP hf hs k
  · obtain rfl : n = 1 := Nat.eq_of_beq_eq_true hlen
    exact jo_aast hx hb hd hT hK hP hf hs k
  · obtain rfl : n = 1 := Nat.eq_of_beq_eq_true hlen
    exact jo_alen hx hb hd hO hK hP hf hs k
  · obtain rfl : n = 3 := Nat.eq_of_beq_eq_true hlen
    exact jo_getf hown hx hb hd hT hK hP hf hs k
  · obtain rfl : n = 3 := Nat.eq_of_beq_eq_true hlen
    exact jo_putf (fl := jmF (jm mm)) hown hin hx hb hd hT hK hP hf hs k
  · obtain rfl : n = 3 := Nat.eq_of_beq_eq_true hlen
    exact jo_gets hown hx hb hd hT hO hP hf hs k
  · obtain rfl : n = 3 := Nat.eq_of_beq_eq_true hlen
    exact jo_new (mm := mm) hown hA hx hb hd hT hK hP hf hr1 hr2 hs k
  · obtain rfl : n = 2 := Nat.eq_of_beq_eq_true hlen
    exact jo_newa hA hx hb hd hT hK hP hf hr1 hr2 hs k
  · obtain rfl : n = 3 := Nat.eq_of_beq_eq_true hlen
    exact jo_newq hown hA hx hb hd hT hK hP hf hr1 hr2 hs k
  · obtain rfl : n = 4 := Nat.eq_of_beq_eq_true hlen
    exact jo_newm hown hA hx hb hd hT hK hP hf hr1 hr2 hs k
  · obtain rfl : n = 3 := Nat.eq_of_beq_eq_true hlen
    exact jo_calls hown hml hRf hRl hRc hRs hx hb hd hT hK hP hf hs k
  · obtain rfl : n = 3 := Nat.eq_of_beq_eq_true hlen
    exact jo_callv hown hml hRf hRl hA hx hb hd hT hK hP hf hr1 hr2 hs k
  · obtain rfl : n = 3 := Nat.eq_of_beq_eq_true hlen
    exact jo_calli hown hml hRf hRl hRc hRs hx hb hd hT hP hf hs k
  · exact absurd (jretv_no (jcond_some hs).2) id
  · exact absurd (jretv_no (jcond_some hs).2) id
  · exact absurd (jretv_no (jcond_some hs).2) id
  · exact absurd (jretv_no (jcond_some hs).2) id
  · split at hs
    · exact absurd (jret_no (jcond_some hs).2) id
    · cases hs
  · cases hs
end JST
