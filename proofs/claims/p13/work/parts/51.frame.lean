/-! the little machine, part 15: the frame of a run -/
/-- what the end of a method asks -/
def jRet (p : Program) (l : Launch) (e : Env) (R : Room) (s : State) (mid : MethodId) (args : Array Value) (below : List Frame) (meth : Method) (c : Code) (Q : State → Prop) (D : va_G) (aC : Nat → ClassId) (A : Nat → Prop) (mm : Nat) (a : JA) (h : JH) (v : JV) (h' : JH) (cells slots : Nat) : Prop :=
  ∀ (a' : JA) (H' : Heap) (locs' : List Loc) (ls' : Array Slot) (pcN : Nat) (stN : List JV) (cells' slots' : Nat), jEnd0 mm pcN stN v → jagr h.1.length a a' → h.1.length ≤ h'.1.length → jHp D aC a' A s h'.1 H' locs' → jwf h'.1.length v → h'.2.1 + cells = h.2.1 + cells' → h'.2.2 + slots = h.2.2 + slots' → W p l e R s mid args below meth c H' locs' cells' slots' Q (F0 mid pcN ls' (stN.map (jc a')))
/-- what a throw asks -/
def jTh1 (p : Program) (l : Launch) (e : Env) (R : Room) (s : State) (mid : MethodId) (args : Array Value) (below : List Frame) (meth : Method) (c : Code) (Q : State → Prop) (D : va_G) (aC : Nat → ClassId) (A : Nat → Prop) (mm : Nat) (a : JA) (h : JH) (v : JV) (h' : JH) (cells slots : Nat) : Prop :=
  ∀ (a' : JA) (H' : Heap) (locs' : List Loc) (ls' : Array Slot) (pcN : Nat) (LN : JL) (stN : List JV) (h9 : JH) (cells' slots' : Nat), jThr mm pcN stN h9 v h' → jagr h.1.length a a' → h.1.length ≤ h9.1.length → jHp D aC a' A s h9.1 H' locs' → jFr a' h9.1.length (jmL (jm mm)) LN stN ls' → h9.2.1 + cells = h.2.1 + cells' → h9.2.2 + slots = h.2.2 + slots' → W p l e R s mid args below meth c H' locs' cells' slots' Q (F0 mid pcN ls' (stN.map (jc a')))
def jTh2 (p : Program) (l : Launch) (e : Env) (R : Room) (s : State) (mid : MethodId) (args : Array Value) (below : List Frame) (meth : Method) (c : Code) (Q : State → Prop) (D : va_G) (aC : Nat → ClassId) (A : Nat → Prop) (a : JA) (h : JH) (v : JV) (h' : JH) (cells slots : Nat) : Prop :=
  ∀ (a' : JA) (H' : Heap) (locs' : List Loc) (ls' : Array Slot) (pcN : Nat) (rest : List Value) (cells' slots' : Nat) (q : Addr) (ce : Cell), jagr h.1.length a a' → h.1.length ≤ h'.1.length → jHp D aC a' A s h'.1 H' locs' → H'[q]? = some ce → ce.vm = .none → s.vm.findClass (jEX v.2.toNat) = some ce.cls → h'.2.1 + cells = h.2.1 + cells' → h'.2.2 + slots = h.2.2 + slots' → vx_W p l e R s mid args below meth c H' locs' cells' slots' Q (F0 mid pcN ls' rest) q
/-- the theorem of a frame, at so many steps -/
def jFrm (l : Launch) (D : va_G) (aC : Nat → ClassId) (xs : List Int) (f : Nat) : Prop :=
  ∀ (d mm pc : Nat) (L : JL) (st : List JV) (h : JH) (k : Nat) (v : JV) (h' : JH), jrun xs f d mm pc L st h = (k, v, h') → k < 2 →
  ∀ (p : Program) (e : Env) (R : Room) (s : State) (mid : MethodId) (args : Array Value) (below : List Frame) (meth : Method) (c : Code) (Q : State → Prop) (A : Nat → Prop) (a : JA) (H : Heap) (locs : List Loc) (ls : Array Slot) (cells slots : Nat),
  jFx p s mid meth c mm → (jmF (jm mm) = 4 → c.exceptionTable.toList = tableOf (jmH (jm mm))) → jCx D aC xs a A s → jHp D aC a A s h.1 H locs → jFr a h.1.length (jmL (jm mm)) L st ls →
  d + 8 ≤ R.frames → 72 * d + 200 ≤ R.locals → h'.2.1 + cells ≤ h.2.1 + R.cells → h'.2.2 + slots ≤ h.2.2 + R.slots →
  (k = 0 → jRet p l e R s mid args below meth c Q D aC A mm a h v h' cells slots) → (k = 1 → jTh1 p l e R s mid args below meth c Q D aC A mm a h v h' cells slots ∧ jTh2 p l e R s mid args below meth c Q D aC A a h v h' cells slots) →
  W p l e R s mid args below meth c H locs cells slots Q (F0 mid pc ls (st.map (jc a)))
section JFM
variable {p : Program} {l : Launch} {e : Env} {R : Room} {s : State} {m : MethodId} {args : Array Value} {below : List Frame} {meth : Method} {c : Code} {H : Heap} {locs : List Loc} {cells slots : Nat} {Q : State → Prop}
variable {D : va_G} {aC : Nat → ClassId} {A : Nat → Prop} {xs : List Int} {a : JA} {L : JL} {st : List JV} {ls : Array Slot} {pc : Nat} {h h' : JH}
theorem jRet.go {mm : Nat} {v : JV} {a1 : JA} {h1 : JH} {cells1 slots1 : Nat} (K : jRet p l e R s m args below meth c Q D aC A mm a h v h' cells slots) (hag : jagr h.1.length a a1) (hl : h.1.length ≤ h1.1.length) (e1 : h1.2.1 + cells = h.2.1 + cells1) (e2 : h1.2.2 + slots = h.2.2 + slots1) : jRet p l e R s m args below meth c Q D aC A mm a1 h1 v h' cells1 slots1 :=
  fun a' H' locs' ls' pcN stN cells' slots' he hag' hl' hP' hwf c1 c2 => K a' H' locs' ls' pcN stN cells' slots' he (hag.trans hag' hl) (Nat.le_trans hl hl') hP' hwf (by omega) (by omega)
theorem jTh1.go {mm : Nat} {v : JV} {a1 : JA} {h1 : JH} {cells1 slots1 : Nat} (K : jTh1 p l e R s m args below meth c Q D aC A mm a h v h' cells slots) (hag : jagr h.1.length a a1) (hl : h.1.length ≤ h1.1.length) (e1 : h1.2.1 + cells = h.2.1 + cells1) (e2 : h1.2.2 + slots = h.2.2 + slots1) : jTh1 p l e R s m args below meth c Q D aC A mm a1 h1 v h' cells1 slots1 :=
  fun a' H' locs' ls' pcN LN stN h9 cells' slots' ht hag' hl' hP' hf' c1 c2 => K a' H' locs' ls' pcN LN stN h9 cells' slots' ht (hag.trans hag' hl) (Nat.le_trans hl hl') hP' hf' (by omega) (by omega)
theorem jTh2.go {v : JV} {a1 : JA} {h1 : JH} {cells1 slots1 : Nat} (K : jTh2 p l e R s m args below meth c Q D aC A a h v h' cells slots) (hag : jagr h.1.length a a1) (hl : h.1.length ≤ h1.1.length) (e1 : h1.2.1 + cells = h.2.1 + cells1) (e2 : h1.2.2 + slots = h.2.2 + slots1) : jTh2 p l e R s m args below meth c Q D aC A a1 h1 v h' cells1 slots1 :=
  fun a' H' locs' ls' pcN rest cells' slots' q ce hag' hl' hP' q1 q2 q3 c1 c2 => K a' H' locs' ls' pcN rest cells' slots' q ce (hag.trans hag' hl) (Nat.le_trans hl hl') hP' q1 q2 q3 (by omega) (by omega)
/-- a contract out of the frame theorem: the method returns -/
theorem jmet0_of {f d y : Nat} {as : List JV} {v : JV} {sz : Nat} (IH : jFrm l D aC xs f) (hr : jrun xs f d y 0 (jent 0 as) [] h = (0, v, h')) (hw : jwh h.1) (hwa : jwS h.1.length as) (hN : jwid as ≤ jmL (jm y)) (h5 : jmF (jm y) ≠ 5) : jMet0 l D aC xs d y a as h sz v h' := by
  have hmono := jrun_mono _ _ _ _ _ _ _ _ _ _ hr (by decide)
  obtain ⟨hpf, hpn, hd1, hd2, hd3, hd4, hd5⟩ := jmD_ok y
  obtain ⟨hw1, hw2, hw3⟩ := jmW_ok h5
  have body : ∀ (ws : List Cond) p e s m args below meth c s₁, BodyLoose p l (jmY (jm y)) (headSpec ws (jRm d h h')) (jmB (jm y)) (jmL (jm y)) (jmT (jm y)) e s m args below meth c s₁ → c.maxLocals = jmL (jm y) → (jmF (jm y) = 4 → c.exceptionTable.toList = tableOf (jmH (jm y))) → jPc D aC xs a as h.1 sz args s →
      W p l e (headSpec ws (jRm d h h')).room s m args below meth c s.heap [] 0 0 (MQ below (jQ (fun o u => o = jVal u v) (jAft D aC (va_A (jws a aC h.1) sz) a h.1 h'.1 v) (va_A (jws a aC h.1) sz)) args s (h'.2.1 - h.2.1) (h'.2.2 - h.2.2) (va_A (jws a aC h.1) sz)) (entryFrame m args (jmL (jm y))) := by
    intro ws p e s m args below meth c s₁ B hml htab hv
    obtain ⟨rfl, hsz, hP, hD0, hK, hT, hO⟩ := hv
    subst hsz
    have hown : s.vm.findClass (jR (jmC (jm y))) = some m.cls := by rw [← hd4]; exact findClass_of_methodNamed B.named
    have hnm : jmF (jm y) = 2 → meth.name = "<init>" := by
      intro h2
      have h3 := (name_of_methodNamed B.named B.method).1
      unfold jmRest at hw3
      rw [h2] at hw3
      rw [h3]
      exact hw3.2
    have fx : jFx p s m meth c y := ⟨B.exec, B.bytes, hml, hown, B.notSynchronized, hnm⟩
    have cx : jCx D aC xs a (va_A (jws a aC h.1) s.heap.size) s := ⟨hK, hT, hO, fun q h => Or.inr h⟩
    have hHp : jHp D aC a (va_A (jws a aC h.1) s.heap.size) s h.1 s.heap [] := ⟨hP, hD0.self, va_S.rf, hw⟩
    have hl := lv_entry (as.map (jc a)) (n := jmL (jm y)) (by rw [jent_len]; exact hN)
    rw [lg_entry_eq]
    rw [jent_args] at hl
    refine IH d y 0 (jent 0 as) [] h 0 v h' hr (by decide) p e _ s m _ below meth c _ _ a s.heap [] _ 0 0 fx htab cx hHp ⟨hl, jent_wf as 0 hwa, fun q hq => nomatch hq⟩ (Nat.le_refl _) (Nat.le_refl _) (by show h'.2.1 + 0 ≤ h.2.1 + (h'.2.1 - h.2.1); have := hmono.1; omega) (by show h'.2.2 + 0 ≤ h.2.2 + (h'.2.2 - h.2.2); have := hmono.2; omega) (fun _ => ?_) (fun q => by cases q)
    intro a' H' locs' ls' pcN stN cells' slots' he hag hlen hP' hwf e1 e2
    obtain rfl : cells' = h'.2.1 - h.2.1 := by omega
    obtain rfl : slots' = h'.2.2 - h.2.2 := by omega
    exact jend_ok fx B.returns he (fun t ht hW => ⟨⟨jVal a' v, a', rfl, rfl, hag, hlen, hP'.2.2.2, hwf, by rw [ht]; exact hP'.1, hP'.2.1⟩, hP'.2.2.1.F ht⟩) hP'.2.2.1.2.2
  by_cases h4 : jmF (jm y) = 4
  · have hcode : jmCode (jm y) = .codeWith (jmY (jm y)) (jmB (jm y)) (jmL (jm y)) (jmT (jm y)) (jmH (jm y)) := by
      unfold jmCode
      split
      · rfl
      · rename_i q; exact absurd h4 q
    unfold jMet0
    refine jMetWH (cc := jmB (jm y)) (maxL := jmL (jm y)) (ret := jmT (jm y)) (hh := jmH (jm y)) (ws' := []) (jmN_4 h4) (by rw [hcode]) (fun p e s m args below meth c s₁ B hml hv => ?_)
    refine body _ p e s m args below meth c s₁ B hml (fun _ => ?_) hv
    exact vx_table (x := jmY (jm y)) B (y := jmY (jm y)) (bytes := jmB (jm y)) (maxL' := jmL (jm y)) (ret' := jmT (jm y)) (atoms_spec (ws := [jmCode (jm y)]) B.pre _ (by rw [hcode]; exact List.mem_cons_self))
  · have hcode : jmCode (jm y) = .code (jmY (jm y)) (jmB (jm y)) (jmL (jm y)) (jmT (jm y)) := by
      unfold jmCode
      split
      · rename_i q; exact absurd q h4
      · rfl
    unfold jMet0
    exact va_MetF (cc := jmB (jm y)) (maxL := jmL (jm y)) (ret := jmT (jm y)) (ws' := []) hpf (by rw [hcode]) (fun p e s m args below meth c s₁ B hml hv => body _ p e s m args below meth c s₁ B hml (fun q => absurd q h4) hv)
/-- a throw's constructor: its place and what stands around it -/
theorem jthw_ok {mm pc k ic : Nat} {w : Bool} (h : jthw mm pc = some (k, ic, w)) : jmI (jm mm) (pc + 3) = (.dup, 1) ∧ ((w = false ∧ jmI (jm mm) (pc + 4) = (.ldc k, 2) ∧ jmI (jm mm) (pc + 6) = (.invokespecial ic, 3) ∧ jmI (jm mm) (pc + 9) = (.athrow, 1)) ∨ (w = true ∧ jmI (jm mm) (pc + 4) = (.ldc_w k, 3) ∧ jmI (jm mm) (pc + 7) = (.invokespecial ic, 3) ∧ jmI (jm mm) (pc + 10) = (.athrow, 1))) := by
  unfold jthw at h
  split at h
  · rename_i h3
    refine ⟨h3, ?_⟩
    split at h
    · rename_i k1 h4
      split at h
      · rename_i i1 h6 h9
        cases h
        exact Or.inl ⟨rfl, h4, h6, h9⟩
      · cases h
    · rename_i k1 h4
      split at h
      · rename_i i1 h6 h9
        cases h
        exact Or.inr ⟨rfl, h4, h6, h9⟩
      · cases h
    · cases h
  · cases h
theorem jth_use {e : Nat} (h : jthC e = true) {w : Cond} (hw : w ∈ jthL e) : w ∈ jAW ∧ vx_ot w = true := by
  have h1 := List.all_eq_true.mp h w hw
  obtain ⟨h2, h3⟩ := Bool.and_eq_true_iff.mp h1
  obtain ⟨h3, h4⟩ := Bool.and_eq_true_iff.mp h3
  obtain ⟨z, hz, hzw⟩ := List.any_eq_true.mp h4
  have hzw := of_decide_eq_true hzw
  subst hzw
  exact ⟨jAW_of (jSl_in hz) h2, h3⟩
theorem jnms : ∀ n ∈ ["java/lang/RuntimeException", "java/lang/Exception"], Bundle.fit n = true := by decide +kernel
theorem jfit_ex : ∀ e, e < 5 → Bundle.fit (jEX e) = true := by decide +kernel
/-- a throw, by the text's sort -/
theorem jthr_row {own cls text : String} {ik is ic mc ms sa : Nat} {w : Bool} {cc : ByteArray} {rest : List Value} {XC : String → State → State → Prop} {Qc : Array Value → State → Outcome → State → Prop} {free : Addr → Prop} (hexec : p.tables.exec = Jvm.exec) (hb : c.code = cc) (hl : l.stackTraces = false)
    (hown : s.vm.findClass own = some m.cls) (hcls : Bundle.fit cls = true) (hk : (Cond.classLink own ik cls).before args s = true) (hini : (Cond.initialized cls).before args s = true) (hstr : vk_R own is text sa s) (hat : ∀ w ∈ vx_atS own ic cls ["java/lang/RuntimeException", "java/lang/Exception"], w.before args s = true)
    (hgood : ∀ w ∈ Cond.classLink own ik cls :: Cond.initialized cls :: vx_atS own ic cls ["java/lang/RuntimeException", "java/lang/Exception"], vx_ot w = true)
    (hU : vx_Zq Bundle.tN "UNASSIGNED_STACK" Bundle.steD A s s.heap) (hN : vx_Zq Bundle.tN "SUPPRESSED_SENTINEL" Bundle.listD A s s.heap) (hS : va_S A s.heap H locs) (hsize : ls.size = c.maxLocals)
    (d0 : decode cc pc = .ok (.new ik, 3)) (d3 : decode cc (pc + 3) = .ok (.dup, 1)) (dw : (w = false ∧ decode cc (pc + 4) = .ok (.ldc is, 2) ∧ decode cc (pc + 6) = .ok (.invokespecial ic, 3) ∧ decode cc (pc + 9) = .ok (.athrow, 1)) ∨ (w = true ∧ decode cc (pc + 4) = .ok (.ldc_w is, 3) ∧ decode cc (pc + 7) = .ok (.invokespecial ic, 3) ∧ decode cc (pc + 10) = .ok (.athrow, 1)))
    (hout : ∀ x ∈ c.exceptionTable.toList, False) (hRf : 8 ≤ R.frames) (hRl : (rest.map fun v => v.category).sum + 90 ≤ R.locals) (hRcells : cells + 1 ≤ R.cells) (hRslots : slots + 6 ≤ R.slots) (hlocks : meth.locks = false)
    (hx : ∀ t : State, s.vm.Alike t.vm → H.size ≤ t.heap.size → (∀ q : Nat, q < H.size → t.heap[q]? = H[q]?) → XC cls s t)
    (hf : ∀ z ∈ locs, free z.base) (hc : cells + 1 ≤ mc) (hs : slots + 6 ≤ ms) : W p l e R s m args below meth c H locs cells slots (vx_MQ below Qc XC args s mc ms free) (F0 m pc ls rest) := by
  rcases dw with ⟨-, d4, d6, d9⟩ | ⟨-, d4, d6, d9⟩
  · exact vx_throwS hexec hb hl hown hcls jnms hk hini hstr hat hgood hU hN hS hsize d0 d3 d4 d6 d9 (fun x hx => absurd (hout x hx) id) (by show 2 + 3 < R.frames; omega) (by show _ + (13 * (2 + 1) + 43) ≤ R.locals; omega) hRcells hRslots hlocks hx hf hc hs
  · exact vx_throwSW hexec hb hl hown hcls jnms hk hini hstr hat hgood hU hN hS hsize d0 d3 d4 d6 d9 (fun x hx => absurd (hout x hx) id) (by show 2 + 3 < R.frames; omega) (by show _ + (13 * (2 + 1) + 43) ≤ R.locals; omega) hRcells hRslots hlocks hx hf hc hs
/-- what a throw leaves -/
theorem jXc_of {a0 a' : JA} {h0 : List JC} {h9 : JH} {sz e : Nat} (hA : A = va_A (jws a0 aC h0) sz) (hag : jagr h0.length a0 a') (hlen : h0.length ≤ h9.1.length) (hP : jHp D aC a' A s h9.1 H locs) : ∀ t : State, H.size ≤ t.heap.size → (∀ q : Nat, q < H.size → t.heap[q]? = H[q]?) → jXc D aC a0 h0 h9.1 sz e (jEX e) s t := by
  intro t h1 h2
  subst hA
  refine ⟨a', trivial, ⟨rfl, hag, hlen, hP.2.2.2, (fun h4 => by cases h4), hP.1.kept (fun k q hk => h2 q.1 (hP.1 k q hk).lt), hP.2.1⟩, Nat.le_trans hP.2.2.1.1 h1, fun q hq hA => ?_⟩
  rw [h2 q (Nat.lt_of_lt_of_le hq hP.2.2.1.1)]
  exact hP.2.2.1.2.1 q hq hA
theorem jns_use {w : Cond} (hw : w ∈ jnsA.filter vx_no) : w ∈ jAW ∧ vx_ot w = true := by
  have h1 := List.all_eq_true.mp jth_4 w hw
  obtain ⟨h2, h3⟩ := Bool.and_eq_true_iff.mp h1
  obtain ⟨h3, h4⟩ := Bool.and_eq_true_iff.mp h3
  obtain ⟨z, hz, hzw⟩ := List.any_eq_true.mp h4
  have hzw := of_decide_eq_true hzw
  subst hzw
  exact ⟨jAW_of (jSl_in hz) h2, h3⟩
theorem jthr_ok {mm : Nat} {v : JV} {mc ms : Nat} {Qc : Array Value → State → Outcome → State → Prop} {XC : String → State → State → Prop} {free : Addr → Prop} (hl : l.stackTraces = false) (fx : jFx p s m meth c mm) (cx : jCx D aC xs a A s) (hout : ∀ x ∈ c.exceptionTable.toList, False) (ht : jThr mm pc st h v h') (hP : jHp D aC a A s h.1 H locs) (hf : jFr a h.1.length (jmL (jm mm)) L st ls) (hRf : 8 ≤ R.frames) (hRl : 200 ≤ R.locals) (hc : cells + 1 ≤ mc) (hs : slots + 6 ≤ ms) (hRc : mc ≤ R.cells) (hRs : ms ≤ R.slots)
    (hx : ∀ t : State, s.vm.Alike t.vm → H.size ≤ t.heap.size → (∀ q : Nat, q < H.size → t.heap[q]? = H[q]?) → XC (jEX v.2.toNat) s t) (hfr : ∀ z ∈ locs, free z.base) : W p l e R s m args below meth c H locs cells slots (vx_MQ below Qc XC args s mc ms free) (F0 m pc ls (st.map (jc a))) := by
  obtain ⟨hx0, hb, hml, hown, hlocks, -⟩ := fx
  obtain ⟨hK, hT, hO, hA⟩ := cx
  obtain ⟨i, ex, k, ic, t, w, z1, z2, hI, hp, h3, hC, h5, hwd, hthw, hic, hpk, rfl, rfl⟩ := ht
  obtain ⟨hI3, hdw⟩ := jthw_ok hthw
  rw [hC] at hown
  have hw1 : jWd (.classLink (jR 13) i (jEX ex)) := by
    have := jpool_ok 13 i
    rw [hp] at this
    exact this
  have hw2 : (jSR t).1 = 13 ∧ (jSR t).2.1 = k ∧ t < jSRn := by
    have := jpool_ok 13 k
    rw [hpk] at this
    exact this
  have hstr := hT.2.1 t hw2.2.2
  rw [hw2.1, hw2.2.1] at hstr
  have hq := jwid_sum (a := a) st
  have dw : (w = false ∧ decode (jmB (jm mm)) (pc + 4) = .ok (.ldc k, 2) ∧ decode (jmB (jm mm)) (pc + 6) = .ok (.invokespecial ic, 3) ∧ decode (jmB (jm mm)) (pc + 9) = .ok (.athrow, 1)) ∨ (w = true ∧ decode (jmB (jm mm)) (pc + 4) = .ok (.ldc_w k, 3) ∧ decode (jmB (jm mm)) (pc + 7) = .ok (.invokespecial ic, 3) ∧ decode (jmB (jm mm)) (pc + 10) = .ok (.athrow, 1)) := by
    rcases hdw with ⟨q0, q1, q2, q3⟩ | ⟨q0, q1, q2, q3⟩
    · exact Or.inl ⟨q0, jkdec q1 rfl, jkdec q2 rfl, jkdec q3 rfl⟩
    · exact Or.inr ⟨q0, jkdec q1 rfl, jkdec q2 rfl, jkdec q3 rfl⟩
  have fin : ∀ (e9 : Nat), e9 = ex → jthC e9 = true → Cond.initialized (jEX e9) ∈ jAW → jthL e9 = vx_atS (jR 13) (jxi e9) (jEX e9) ["java/lang/RuntimeException", "java/lang/Exception"] → W p l e R s m args below meth c H locs cells slots (vx_MQ below Qc XC args s mc ms free) (F0 m pc ls (st.map (jc a))) := by
    intro e9 he hC9 hi9 hL9
    subst he
    subst hic
    refine jthr_row (w := w) hx0 hb hl hown (jfit_ex _ h5) (hT.w hw1.aw _) (hT.w hi9 _) hstr (fun w hw => hT.w (jth_use hC9 (by rw [hL9]; exact hw)).1 _) ?_ hO.2.2.2.2.1 hO.2.2.2.2.2 hP.2.2.1 (hf.1.1.trans hml.symm) (jkdec hI rfl) (jkdec hI3 rfl) dw hout hRf (by rw [hq]; omega) (by omega) (by omega) hlocks hx hfr hc hs
    intro w hw
    rcases List.mem_cons.mp hw with hw | hw
    · rw [hw]; rfl
    · rcases List.mem_cons.mp hw with hw | hw
      · rw [hw]; rfl
      · exact (jth_use hC9 (by rw [hL9]; exact hw)).2
  match ex, h5 with
  | 0, _ => exact fin 0 rfl jth_0 jex_i0 rfl
  | 1, _ => exact fin 1 rfl jth_1 jex_i1 rfl
  | 2, _ => exact fin 2 rfl jth_2 jex_i2 rfl
  | 3, _ => exact fin 3 rfl jth_3 jex_i3 rfl
  | 4, _ => 
    subst hic
    have e13 : jR 13 = "Tuninghouse" := by decide +kernel
    have e4 : jEX 4 = jnsX := by decide +kernel
    rw [e13, e4] at hw1
    rw [e13] at hown hstr
    have hx4 : ∀ t : State, s.vm.Alike t.vm → H.size ≤ t.heap.size → (∀ q : Nat, q < H.size → t.heap[q]? = H[q]?) → XC jnsX s t := fun t a1 a2 a3 => by
      have h7 : XC (jEX 4) s t := hx t a1 a2 a3
      rw [e4] at h7
      exact h7
    refine jns_row (w := w) hx0 hb hl hown (hT.w hw1.aw _) (hT.w (show Cond.initialized jnsX ∈ jAW from e4 ▸ jex_i4) _) hstr (fun w hw => hT.w (jns_use hw).1 _) ?_ hO.2.2.2.2.1 hO.2.2.2.2.2 hP.2.2.1 (hf.1.1.trans hml.symm) (jkdec hI rfl) (jkdec hI3 rfl) dw hout hRf (by rw [hq]; omega) (by omega) (by omega) hlocks hx4 hfr hc hs
    intro w hw
    rcases List.mem_cons.mp hw with hw | hw
    · rw [hw]; rfl
    · rcases List.mem_cons.mp hw with hw | hw
      · rw [hw]; rfl
      · exact (jns_use hw).2
  | k + 5, h5 => omega
/-- a contract out of the frame theorem: the method throws -/
theorem jmet1_of {f d y : Nat} {as : List JV} {v : JV} {sz : Nat} (hl : l.stackTraces = false) (IH : jFrm l D aC xs f) (hr : jrun xs f d y 0 (jent 0 as) [] h = (1, v, h')) (hw : jwh h.1) (hwa : jwS h.1.length as) (hN : jwid as ≤ jmL (jm y)) : jMet1 l D aC xs d y a as h sz v.2.toNat h' := by
  have hmono := jrun_mono _ _ _ _ _ _ _ _ _ _ hr (by decide)
  have h3 := (jrun_thr _ _ _ _ _ _ _ _ _ hr).1
  obtain ⟨hpf, hpn, hd1, hd2, hd3, hd4, hd5⟩ := jmD_ok y
  have hcode : jmCode (jm y) = .code (jmY (jm y)) (jmB (jm y)) (jmL (jm y)) (jmT (jm y)) := by
    unfold jmCode
    split
    · rename_i q; rw [h3] at q; cases q
    · rfl
  unfold jMet1
  refine vx_ofW (cc := jmB (jm y)) (maxL := jmL (jm y)) (ret := jmT (jm y)) (ws' := []) (hpn h3) (by rw [hcode]) (fun p e s m args below meth c s₁ B hml hout hv => ?_)
  obtain ⟨rfl, hsz, hP, hD0, hK, hT, hO⟩ := hv
  subst hsz
  have hown : s.vm.findClass (jR (jmC (jm y))) = some m.cls := by rw [← hd4]; exact findClass_of_methodNamed B.named
  have fx : jFx p s m meth c y := ⟨B.exec, B.bytes, hml, hown, B.notSynchronized, fun h2 => by rw [h3] at h2; cases h2⟩
  have cx : jCx D aC xs a (va_A (jws a aC h.1) s.heap.size) s := ⟨hK, hT, hO, fun q h => Or.inr h⟩
  have hHp : jHp D aC a (va_A (jws a aC h.1) s.heap.size) s h.1 s.heap [] := ⟨hP, hD0.self, va_S.rf, hw⟩
  have hle := lv_entry (as.map (jc a)) (n := jmL (jm y)) (by rw [jent_len]; exact hN)
  rw [lg_entry_eq]
  rw [jent_args] at hle
  refine IH d y 0 (jent 0 as) [] h 1 v h' hr (by decide) p e _ s m _ below meth c _ _ a s.heap [] _ 0 0 fx (fun q => by rw [h3] at q; cases q) cx hHp ⟨hle, jent_wf as 0 hwa, fun q hq => nomatch hq⟩ (Nat.le_refl _) (Nat.le_refl _) (by show h'.2.1 + 0 ≤ h.2.1 + (h'.2.1 - h.2.1); have := hmono.1; omega) (by show h'.2.2 + 0 ≤ h.2.2 + (h'.2.2 - h.2.2); have := hmono.2; omega) (fun q => by cases q) (fun _ => ⟨?_, ?_⟩)
  · intro a' H' locs' ls' pcN LN stN h9 cells' slots' ht hag hlen hP' hf' e1 e2
    have h99 : h' = (h9.1, h9.2.1 + 1, h9.2.2 + 6) := by
      obtain ⟨i, ex, k, ic, t, w, z1, z2, -, -, -, -, -, -, -, -, -, -, q⟩ := ht
      exact q
    have q1 : h'.2.1 = h9.2.1 + 1 := by rw [h99]
    have q2 : h'.2.2 = h9.2.2 + 6 := by rw [h99]
    have q3 : h'.1 = h9.1 := by rw [h99]
    refine jthr_ok hl fx (cx.agr hag.1) hout ht hP' hf' (by show 8 ≤ d + 8; omega) (by show 200 ≤ 72 * d + 200; omega) (by omega) (by omega) (Nat.le_refl _) (Nat.le_refl _) (fun t _ g1 g2 => ?_) hP'.2.2.1.2.2
    rw [q3]
    exact jXc_of rfl hag hlen hP' t g1 g2
  · intro a' H' locs' ls' pcN rest cells' slots' q ce hag hlen hP' g1 g2 g3 e1 e2
    obtain rfl : cells' = h'.2.1 - h.2.1 := by omega
    obtain rfl : slots' = h'.2.2 - h.2.2 := by omega
    exact vx_out (fun x hx => absurd (hout x hx) id) B.notSynchronized g1 g2 g3 (fun t ht _ => jXc_of rfl hag hlen hP' t (by rw [ht]; exact Nat.le_refl _) (fun q _ => by rw [ht])) hP'.2.2.1.2.2 (Nat.le_refl _) (Nat.le_refl _)
end JFM
