/-! the little machine, part 14: contracts out of runs -/
def jRm (d : Nat) (h h' : JH) : Room := { frames := d + 8, cells := h'.2.1 - h.2.1, slots := h'.2.2 - h.2.2, locals := 72 * d + 200 }
def jVal (a : JA) (v : JV) : Option Value := cond (Nat.beq v.1 9) none (some (jc a v))
/-- what holds where a method is called -/
def jPre (D : va_G) (aC : Nat → ClassId) (xs : List Int) (a : JA) (h : List JC) (sz : Nat) (U : State) : Prop :=
  U.heap.size = sz ∧ va_P D vwCl (jws a aC h) U.heap ∧ va_D (fun _ => True) (jws a aC h) ∧ va_K D vwCl (jTys aC) U ∧ jTw a U ∧ jOld xs a (va_A (jws a aC h) sz) U U.heap
/-- what holds behind it -/
def jAft (D : va_G) (aC : Nat → ClassId) (A : Nat → Prop) (a : JA) (h h' : List JC) (v : JV) (u : JA) (t : State) : Prop :=
  jagr h.length a u ∧ h.length ≤ h'.length ∧ jwh h' ∧ jwf h'.length v ∧ va_P D vwCl (jws u aC h') t.heap ∧ va_D A (jws u aC h')
def jQ {S : Type} (post : Option Value → S → Prop) (B : S → State → Prop) (A : Nat → Prop) : Array Value → State → Outcome → State → Prop := fun _ st oc t => (∃ (v : Option Value) (u : S), oc = .returned v ∧ post v u ∧ B u t) ∧ va_F A st t
def jPc (D : va_G) (aC : Nat → ClassId) (xs : List Int) (a : JA) (as : List JV) (h : List JC) (sz : Nat) : Array Value → State → Prop := va_Pc (as.map (jc a)) (jPre D aC xs a h sz)
def jMet0 (l : Launch) (D : va_G) (aC : Nat → ClassId) (xs : List Int) (d y : Nat) (a : JA) (as : List JV) (h : JH) (sz : Nat) (v : JV) (h' : JH) : Prop :=
  Met l (jmY (jm y)) [jmCode (jm y)] (jRm d h h') (jPc D aC xs a as h.1 sz) (jQ (fun o u => o = jVal u v) (jAft D aC (va_A (jws a aC h.1) sz) a h.1 h'.1 v) (va_A (jws a aC h.1) sz)) (h'.2.1 - h.2.1) (h'.2.2 - h.2.2) (va_A (jws a aC h.1) sz)
def jXc (D : va_G) (aC : Nat → ClassId) (a : JA) (h h' : List JC) (sz e : Nat) : String → State → State → Prop :=
  vx_X (fun _ : JA => True) (fun E u t => E = jEX e ∧ jAft D aC (va_A (jws a aC h) sz) a h h' (9, 0) u t) (va_A (jws a aC h) sz)
def jMet1 (l : Launch) (D : va_G) (aC : Nat → ClassId) (xs : List Int) (d y : Nat) (a : JA) (as : List JV) (h : JH) (sz e : Nat) (h' : JH) : Prop :=
  vx_Met l (jmY (jm y)) [jmCode (jm y)] (jRm d h h') (jPc D aC xs a as h.1 sz) (fun _ _ _ _ => False) (jXc D aC a h.1 h'.1 sz e) (h'.2.1 - h.2.1) (h'.2.2 - h.2.2) (va_A (jws a aC h.1) sz)
theorem jPc_blind {D : va_G} {aC : Nat → ClassId} {xs : List Int} {a : JA} {as : List JV} {h : List JC} {sz : Nat} : FrameBlind (jPc D aC xs a as h sz) := fun v U g mk q => by
  obtain ⟨q0, q1, q2, q3, q4, q5, q6⟩ := q
  exact ⟨q0, q1, q2, q3, va_K.moved (u := U) (U := U.calling g mk v) (Vm.Alike.refl U.vm) q4, jTw.warm (s := U) (U := U.calling g mk v) (State.WarmedH.refl U) q5, jOld.moved (u := U) (U := U.calling g mk v) (Vm.Alike.refl U.vm) q6⟩
/-- the facts of a method's row -/
theorem jmD_of (x : JM) (h : jmOk x) : jmD x = true := by
  unfold jmOk at h
  split at h
  · exact h.2
  · exact h.2.1
theorem jmD_ok (m : Nat) : plainFor (jmY (jm m)) = true ∧ (jmF (jm m) = 3 → plainName (jmY (jm m)).cls = true) ∧ (jmY (jm m)).cls ≠ "java/lang/invoke/MethodHandle" ∧ (jmY (jm m)).cls ≠ "java/lang/invoke/VarHandle" ∧ (parseMethodDescriptor (jmY (jm m)).desc).map (fun d => d.parameters.length) = some (jmN (jm m)) ∧ (jmY (jm m)).cls = jR (jmC (jm m)) ∧ jmL (jm m) ≤ 40 := by
  have h := jmD_of _ (jm_ok m)
  unfold jmD at h
  obtain ⟨h, -⟩ := Bool.and_eq_true_iff.mp h
  obtain ⟨h, h7⟩ := Bool.and_eq_true_iff.mp h
  obtain ⟨h, h6⟩ := Bool.and_eq_true_iff.mp h
  obtain ⟨h, h5⟩ := Bool.and_eq_true_iff.mp h
  obtain ⟨h, h4⟩ := Bool.and_eq_true_iff.mp h
  obtain ⟨h, h3⟩ := Bool.and_eq_true_iff.mp h
  obtain ⟨h1, h2⟩ := Bool.and_eq_true_iff.mp h
  refine ⟨h1, fun h9 => ?_, of_decide_eq_true h3, of_decide_eq_true h4, of_decide_eq_true h5, of_decide_eq_true h6, Nat.le_of_ble_eq_true h7⟩
  rw [h9] at h2
  rcases Bool.or_eq_true_iff.mp h2 with h2 | h2
  · exact h2
  · cases h2
theorem jmW_ok {m : Nat} (h5 : jmF (jm m) ≠ 5) : jWd (jmCode (jm m)) ∧ jWd (.initialized (jmY (jm m)).cls) ∧ jmRest (jm m) := by
  have h := jm_ok m
  unfold jmOk at h
  split at h
  · rename_i q; exact absurd q h5
  · exact h.2.2
section JRW
variable {p : Program} {l : Launch} {e : Env} {R : Room} {s : State} {m : MethodId} {args : Array Value} {below : List Frame} {meth : Method} {c : Code} {H : Heap} {locs : List Loc} {cells slots : Nat} {Q : State → Prop} {cc : ByteArray}
variable {D : va_G} {aC : Nat → ClassId} {A A0 A1 : Nat → Prop} {xs : List Int} {a : JA} {nL mc ms : Nat} {L : JL} {st : List JV} {ls : Array Slot} {pc : Nat} {h h' : JH} {H0 : Heap} {free : Addr → Prop} {st0 rest : List Value} {av : Array Value}
theorem jcall_go {S : Type} {post : Option Value → S → Prop} {B : S → State → Prop} (hr : va_Run p l e R s m args below meth c H locs cells slots mc ms (F0 m pc ls st0) rest (jQ post B A1 av) free) (hS : va_S A0 H0 H locs) (hA : ∀ q, q < H.size → A1 q → A0 q) (hf : ∀ q, free q → A0 q)
    (kk : ∀ (v : Option Value) (u : S) (t : State) (H1 : Heap) (locs1 : List Loc), t.heap = H1 → post v u → B u t → va_S A0 H0 H1 locs1 → W p l e R s m args below meth c H1 locs1 (cells + mc) (slots + ms) Q (F0 m (pc + 3) ls (v.toList ++ rest))) : W p l e R s m args below meth c H locs cells slots Q (F0 m pc ls st0) := by
  intro T hT X
  obtain ⟨v, st₀, t, T', L, h0, X', hL, e1, e2, ⟨⟨r, u, hv, hp, hb⟩, hz, hk⟩, st⟩ := hr T hT X
  cases hv
  rw [h0] at hz hk
  obtain ⟨t2, a1, b1⟩ := kk v u t T'.heap (locs ++ L) e1.symm hp hb
    ⟨Nat.le_trans hS.1 (by rw [e1]; exact hz), fun q h1 h2 => by rw [e1, hk q (Nat.lt_of_lt_of_le h1 hS.1) (fun z => h2 (hA q (Nat.lt_of_lt_of_le h1 hS.1) z))]; exact hS.2.1 q h1 h2, fun q hq => by
      rcases List.mem_append.mp hq with h | h
      · exact hS.2.2 q h
      · exact hf _ (hL q h)⟩ T' rfl X'
  exact ⟨t2, st t2 a1, b1⟩
theorem jthr_go {SX : Type} {px : SX → Prop} {BX : String → SX → State → Prop} {AX : Nat → Prop} (hr : vx_Run p l e R s m args below meth c H locs cells slots mc ms (F0 m pc ls st0) rest (fun _ _ _ => False) (vx_X px BX AX) free) (hS : va_S A0 H0 H locs) (hf : ∀ q, free q → A0 q) (hAX : ∀ q, q < H.size → AX q → A0 q)
    (kx : ∀ (E : String) (ce : Cell) (q9 : Addr) (u : SX) (t : State) (H1 : Heap) (locs1 : List Loc), t.heap = H1 → px u → BX E u t → va_S A0 H0 H1 locs1 → H1[q9]? = some ce → ce.vm = .none → s.vm.findClass E = some ce.cls → vx_W p l e R s m args below meth c H1 locs1 (cells + mc) (slots + ms) Q (F0 m pc ls rest) q9) : W p l e R s m args below meth c H locs cells slots Q (F0 m pc ls st0) := by
  intro T hT X
  rcases hr T hT X with ⟨v, st₀, t, T', L, h0, X', hL, e1, e2, hz, st⟩ | ⟨q, st₀, t, T', L, E, ce, h0, X', hL, e1, e2, ⟨u, hp, hb, hF⟩, hce, hcv, hcl, st⟩
  · exact absurd hz id
  · obtain ⟨k1, k2, k3⟩ := vx_keep h0 e1 hS hAX hf hL hF
    obtain ⟨t2, a1, b1⟩ := kx E ce q u t T'.heap (locs ++ L) e1.symm hp hb k3 (by rw [e1]; exact hce) hcv hcl T' rfl X'
    exact ⟨t2, st.trans a1, b1⟩
/-- what the caller hands over -/
theorem jPre_of (cx : jCx D aC xs a A s) (hP : jHp D aC a A s h.1 H locs) (as : List JV) : ∀ U : State, U.heap = H → s.WarmedH U.vm → jPc D aC xs a as h.1 H.size (as.map (jc a)).toArray U := by
  intro U hU hW
  refine ⟨rfl, by rw [hU], by rw [hU]; exact hP.1, hP.2.1.weaken (fun _ _ _ _ => trivial), va_K.moved hW.alike cx.1, jTw.warm hW cx.2.1, ?_⟩
  rw [hU]
  refine ((cx.2.2.1.kept (H1 := H) hP.2.2.1.2.1).moved hW.alike).narrow (fun q hq => ?_)
  rcases hq with ⟨k, e, hk⟩ | hq
  · exact hP.2.1.2 k _ hk
  · exact cx.2.2.2 q (Nat.le_trans hP.2.2.1.1 hq)
theorem jfree_of (cx : jCx D aC xs a A s) (hP : jHp D aC a A s h.1 H locs) : ∀ q, va_A (jws a aC h.1) H.size q → A q := by
  intro q hq
  rcases hq with ⟨k, e, hk⟩ | hq
  · exact hP.2.1.2 k _ hk
  · exact cx.2.2.2 q (Nat.le_trans hP.2.2.1.1 hq)
theorem jaft_hp {a' : JA} {v : JV} {H1 : Heap} {locs1 : List Loc} {t : State} (cx : jCx D aC xs a A s) (hP : jHp D aC a A s h.1 H locs) (ht : t.heap = H1) (hB : jAft D aC (va_A (jws a aC h.1) H.size) a h.1 h'.1 v a' t) (hS : va_S A s.heap H1 locs1) : jHp D aC a' A s h'.1 H1 locs1 := by
  obtain ⟨-, -, hw, -, q1, q2⟩ := hB
  rw [ht] at q1
  exact ⟨q1, q2.weaken (fun k q hk hA => jfree_of cx hP q.1 hA), hS, hw⟩
/-- the end of a method's frame -/
theorem jend_ok {mm : Nat} {Qc : Array Value → State → Outcome → State → Prop} {v : JV} (fx : jFx p s m meth c mm) (hr : meth.sig.returnType = jmT (jm mm)) (he : jEnd0 mm pc st v) (hq : ∀ t : State, t.heap = H → s.WarmedH t.vm → Qc args s (.returned (jVal a v)) t) (hf : ∀ q ∈ locs, free q.base) : W p l e R s m args below meth c H locs cells slots (MQ below Qc args s cells slots free) (F0 m pc ls (st.map (jc a))) := by
  obtain ⟨hx, hb, -, -, hlocks, -⟩ := fx
  obtain ⟨ins, hI, he⟩ := he
  have hty := jmT_ok mm
  obtain ⟨t, x⟩ := v
  rcases he with ⟨rfl, rfl, h1, h2⟩ | ⟨rfl, rfl, h1, h2⟩ | ⟨rfl, rfl, h1, h2⟩ | ⟨rfl, rfl, h1, h2⟩ | ⟨rfl, rfl, h1, h2⟩ | ⟨rfl, rfl, h1, h2⟩
  · obtain rfl : t = 0 := h1
    rcases h2 with h2 | ⟨h2, h3⟩
    · rw [h2] at hty
      exact W.iret (v := Int32.ofInt x) hx hb (hr.trans (jty_0 hty)) hq hf (jkdec hI rfl) hlocks
    · rw [h2] at hty
      refine W.zret (v := Int32.ofInt x) (ty := .boolean) hx hb (hr.trans (jty_8 hty)) ?_ hq hf (jkdec hI rfl) hlocks
      rcases h3 with h3 | h3
      · have h3 : x = 0 := h3
        subst h3
        rfl
      · have h3 : x = 1 := h3
        subst h3
        rfl
  · obtain rfl : t = 1 := h1
    rw [h2] at hty
    exact W.lret (v := Int64.ofInt x) hx hb (hr.trans (jty_1 hty)) hq hf (jkdec hI rfl) hlocks
  · obtain rfl : t = 2 := h1
    rw [h2] at hty
    exact W.fret (v := ju32 x) hx hb (hr.trans (jty_2 hty)) hq hf (jkdec hI rfl) hlocks
  · obtain rfl : t = 3 := h1
    rw [h2] at hty
    exact W.dret (v := ju64 x) hx hb (hr.trans (jty_3 hty)) hq hf (jkdec hI rfl) hlocks
  · obtain rfl : t = 4 := h1
    rw [h2] at hty
    obtain ⟨rt, ht, hrt⟩ := jty_4 hty
    refine W.aret (v := jref a x) (rt := rt) hx hb (hr.trans ht) hrt ?_ hq hf (jkdec hI rfl) hlocks
    cases x with
    | ofNat n => exact Or.inr ⟨_, rfl⟩
    | negSucc n => exact Or.inl rfl
  · cases h1
    rw [h2] at hty
    exact W.vret hx hb (hr.trans (jty_9 hty)) hq hf (jkdec hI rfl) hlocks
end JRW
/-- a body with a table, that returns -/
theorem jMetWH {l : Launch} {y : MethodName} {ws ws' : List Cond} {rm : Room} {Pc : Array Value → State → Prop} {Qc : Array Value → State → Outcome → State → Prop} {mc ms : Nat} {free : Addr → Prop} {cc : ByteArray} {maxL : Nat} {ret : Option FieldType} {hh : List (Nat × Nat × Nat × Nat)}
    (hy : plainName y.cls = true) (hw : ws = Cond.codeWith y cc maxL ret hh :: ws')
    (body : ∀ p e s m args below meth c s₁, BodyLoose p l y (headSpec ws rm) cc maxL ret e s m args below meth c s₁ → c.maxLocals = maxL → Pc args s →
      W p l e (headSpec ws rm).room s m args below meth c s.heap [] 0 0 (MQ below Qc args s mc ms free) (entryFrame m args maxL)) : Met l y ws rm Pc Qc mc ms free := by
  refine MetFree.of_bodyS (code := cc) (maxLocals := maxL) (ret := ret) hy ?_ ?_
  · intro args s m h hn
    obtain ⟨m9, meth, c, hn9, h1, h2, h3, h4, -, h5, h6, -⟩ := Cond.codeWith_spec (atoms_spec (ws := ws) h _ (by rw [hw]; exact List.mem_cons_self))
    cases hn.symm.trans hn9
    exact ⟨meth, c, h1, h2, h3, h4, h5, h6⟩
  · intro p e s m args below meth c s₁ B hml hP _
    have hh0 : s₁.heap = s.heap := by rw [B.state]; rfl
    obtain ⟨t, a1, o, b1, b2, b3⟩ := body p e s m args below meth c s₁ B hml hP s₁ hh0 (Stand.of_body B)
    exact ⟨t, o, a1, b1, b2, ⟨b3.1, b3.2⟩⟩
