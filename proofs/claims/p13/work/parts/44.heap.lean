/-! the little machine, part 8: steps on cells -/
theorem jcell_some {h : JH} {x : Int} {k : JC → JS} {z} (q : jcell h x k = some z) : ∃ (n : Nat) (c : JC), x = .ofNat n ∧ h.1[n]? = some c ∧ k c = some z := by
  unfold jcell at q
  split at q
  · rename_i n
    split at q
    · rename_i c hc
      cases hb : Nat.beq c.1 999 with
      | true => rw [hb] at q; cases q
      | false => rw [hb] at q; exact ⟨n, c, rfl, hc, q⟩
    · cases q
  · cases q
theorem jcell_some2 {h : JH} {x : Int} {k : JC → JS} {z} (q : jcell h x k = some z) : ∃ (n : Nat) (c : JC), x = .ofNat n ∧ h.1[n]? = some c ∧ Nat.beq c.1 999 = false ∧ k c = some z := by
  unfold jcell at q
  split at q
  · rename_i n
    split at q
    · rename_i c hc
      cases hb : Nat.beq c.1 999 with
      | true => rw [hb] at q; cases q
      | false => rw [hb] at q; exact ⟨n, c, rfl, hc, hb, q⟩
    · cases q
  · cases q
theorem jgetD {cs : List Int} {i v d : Int} {j : Nat} (hj : jw i = .ofNat j) (hv : cs[j]? = some v) : cs.getD (Int32.ofInt i).toNatClampNeg d = v := by
  rw [jclamp hj, List.getD_eq_getElem?_getD, hv]
  rfl
theorem jgetD_set {cs : List Int} {j k : Nat} {x d : Int} (hj : j < cs.length) : (cs.set j x).getD k d = if k = j then x else cs.getD k d := by
  rw [List.getD_eq_getElem?_getD, List.getElem?_set]
  by_cases hk : k = j
  · subst hk
    rw [if_pos rfl, if_pos rfl, if_pos hj]
    rfl
  · rw [if_neg (fun q => hk q.symm), if_neg hk, List.getD_eq_getElem?_getD]
theorem jwc_set {n k : Nat} {fs : List JV} {cs : List Int} {j : Nat} {x : Int} (h : jwc n (k, fs, cs)) (hx : k = 100 ∨ k = 101 ∨ k = 103 ∨ jwx n x) : jwc n (k, fs, cs.set j x) := by
  refine ⟨h.1, fun h1 h2 h3 y hy => ?_⟩
  rcases List.mem_or_eq_of_mem_set hy with hy | hy
  · exact h.2 h1 h2 h3 y hy
  · rw [hy]
    rcases hx with hx | hx | hx | hx
    · exact absurd hx h1
    · exact absurd hx h2
    · exact absurd hx h3
    · exact hx
theorem jwh_at {h : List JC} {n : Nat} {c : JC} (hw : jwh h) (hn : h[n]? = some c) : jwc h.length c := hw c (List.mem_of_getElem? hn)
section JHS
variable {p : Program} {l : Launch} {e : Env} {R : Room} {s : State} {m : MethodId} {args : Array Value} {below : List Frame} {meth : Method} {c : Code} {H : Heap} {locs : List Loc} {cells slots : Nat} {Q : State → Prop} {cc : ByteArray}
variable {D : va_G} {aC : Nat → ClassId} {A : Nat → Prop} {xs : List Int} {a : JA} {nL : Nat} {L LN : JL} {st stN : List JV} {ls : Array Slot} {pc pcN : Nat} {h h' : JH}
theorem jKn.same (K : jKn p l e R s m args below meth c Q D aC A nL a h cells slots pcN LN stN h) (hP : jHp D aC a A s h.1 H locs) (hf : jFr a h.1.length nL LN stN ls) : W p l e R s m args below meth c H locs cells slots Q (F0 m pcN ls (stN.map (jc a))) :=
  K a H locs ls cells slots jagr.rf (Nat.le_refl _) hP hf rfl rfl
theorem jKn.put {hl : List JC} (K : jKn p l e R s m args below meth c Q D aC A nL a h cells slots pcN LN stN (hl, h.2)) (hn : hl.length = h.1.length) (hP : jHp D aC a A s hl H locs) (hf : jFr a h.1.length nL LN stN ls) : W p l e R s m args below meth c H locs cells slots Q (F0 m pcN ls (stN.map (jc a))) :=
  K a H locs ls cells slots jagr.rf (Nat.le_of_eq hn.symm) hP (by show jFr a hl.length nL LN stN ls; rw [hn]; exact hf) rfl rfl
theorem jKn.num (K : jKn p l e R s m args below meth c Q D aC A nL a h cells slots pcN LN stN h') (hP : jHp D aC a A s h.1 H locs) : h' = h → ∀ ls', jFr a h.1.length nL LN stN ls' → W p l e R s m args below meth c H locs cells slots Q (F0 m pcN ls' (stN.map (jc a))) := by
  rintro rfl ls' hf
  exact K.same hP hf
theorem jo_iald (hx : p.tables.exec = Jvm.exec) (hb : c.code = cc) (hd : decode cc pc = .ok (.iaload, 1)) (hK : va_K D vwCl (jTys aC) s) (hP : jHp D aC a A s h.1 H locs) (hf : jFr a h.1.length nL L st ls) (hs : jald 100 0 pc L st h = some (.inl ((pcN, LN, stN), h')))
    (k : jKn p l e R s m args below meth c Q D aC A nL a h cells slots pcN LN stN h') : W p l e R s m args below meth c H locs cells slots Q (F0 m pc ls (st.map (jc a))) := by
  unfold jald at hs
  split at hs
  · rename_i i x r
    obtain ⟨n, c0, rfl, hc, hs⟩ := jcell_some hs
    obtain ⟨kd, fs, cs⟩ := c0
    obtain ⟨hk, hs⟩ := jcond_some hs
    have hk : kd = 100 := Nat.eq_of_beq_eq_true hk
    subst hk
    split at hs
    · rename_i j hj
      split at hs
      · rename_i v hv
        obtain ⟨rfl, rfl, rfl, rfl⟩ := jnx_some hs
        have h1 : (jws a aC h.1)[n]? = some (a.1 n, .inl (aC 100, cs.length, .inl (fun j => Int32.ofInt (cs.getD j 0)))) := (jws_at hc).trans (by rw [je_arr (by decide)]; rfl)
        refine va_iald (a := a.1 n) (rest := r.map (jc a)) hx hb hK hP.1 n 0 h1 (jTys_get (r := 0) rfl) (jin hj (List.getElem?_eq_some_iff.mp hv).1) hd ?_
        have h2 := k.same hP ⟨hf.1, hf.2.1, jS_cons (jwf_tag (by decide)) (jS_tail (jS_tail hf.2.2))⟩
        show W p l e R s m args below meth c H locs cells slots Q (F0 m (pc + 1) ls (.int (Int32.ofInt (cs.getD (Int32.ofInt i).toNatClampNeg 0)) :: r.map (jc a)))
        rw [jgetD hj hv]
        exact h2
      · cases hs
    · cases hs
  · cases hs
theorem jo_iast (hx : p.tables.exec = Jvm.exec) (hb : c.code = cc) (hd : decode cc pc = .ok (.iastore, 1)) (hK : va_K D vwCl (jTys aC) s) (hP : jHp D aC a A s h.1 H locs) (hf : jFr a h.1.length nL L st ls) (hs : jast 100 0 pc L st h = some (.inl ((pcN, LN, stN), h')))
    (k : jKn p l e R s m args below meth c Q D aC A nL a h cells slots pcN LN stN h') : W p l e R s m args below meth c H locs cells slots Q (F0 m pc ls (st.map (jc a))) := by
  unfold jast at hs
  split at hs
  · rename_i t v i x r
    obtain ⟨ht, hs⟩ := jcond_some hs
    have ht : t = 0 := Nat.eq_of_beq_eq_true ht
    subst ht
    obtain ⟨n, c0, rfl, hc, hs⟩ := jcell_some hs
    obtain ⟨kd, fs, cs⟩ := c0
    obtain ⟨hk, hs⟩ := jcond_some hs
    have hk : kd = 100 := Nat.eq_of_beq_eq_true hk
    subst hk
    split at hs
    · rename_i j hj
      obtain ⟨hl, hs⟩ := jcond_some hs
      have hl : j < cs.length := Nat.le_of_ble_eq_true hl
      obtain ⟨rfl, rfl, rfl, rfl⟩ := jnx_some hs
      have h1 : (jws a aC h.1)[n]? = some (a.1 n, .inl (aC 100, cs.length, .inl (fun j => Int32.ofInt (cs.getD j 0)))) := (jws_at hc).trans (by rw [je_arr (by decide)]; rfl)
      refine va_iast (a := a.1 n) (rest := r.map (jc a)) hx hb hK hP.1 hP.2.1 hP.2.2.1 n 0 h1 (jTys_get (r := 0) rfl) (jin hj hl) hd (fun H1 locs1 q1 q2 q3 => ?_)
      have ef : upd (fun j => Int32.ofInt (cs.getD j 0)) (Int32.ofInt i).toNatClampNeg (Int32.ofInt v) = (fun z => Int32.ofInt ((cs.set j v).getD z 0)) := by
        funext z
        rw [jgetD_set hl, jclamp hj]
        unfold upd
        split <;> rfl
      have el : (cs.set j v).length = cs.length := List.length_set ..
      have e2 : (jws a aC h.1).set n (a.1 n, .inl (aC 100, cs.length, .inl (fun z => Int32.ofInt ((cs.set j v).getD z 0)))) = jws a aC (h.1.set n (100, fs, cs.set j v)) := by
        rw [jws_set, je_arr (by decide), el]
        rfl
      rw [ef] at q1 q2
      rw [e2] at q1 q2
      exact k.put (List.length_set ..) ⟨q1, q2, q3, jwh_set hP.2.2.2 (jwc_set (jwh_at hP.2.2.2 hc) (Or.inl rfl))⟩ ⟨hf.1, hf.2.1, jS_tail (jS_tail (jS_tail hf.2.2))⟩
    · cases hs
  · cases hs
theorem jo_lald (hx : p.tables.exec = Jvm.exec) (hb : c.code = cc) (hd : decode cc pc = .ok (.laload, 1)) (hK : va_K D vwCl (jTys aC) s) (hP : jHp D aC a A s h.1 H locs) (hf : jFr a h.1.length nL L st ls) (hs : jald 101 1 pc L st h = some (.inl ((pcN, LN, stN), h')))
    (k : jKn p l e R s m args below meth c Q D aC A nL a h cells slots pcN LN stN h') : W p l e R s m args below meth c H locs cells slots Q (F0 m pc ls (st.map (jc a))) := by
  unfold jald at hs
  split at hs
  · rename_i i x r
    obtain ⟨n, c0, rfl, hc, hs⟩ := jcell_some hs
    obtain ⟨kd, fs, cs⟩ := c0
    obtain ⟨hk, hs⟩ := jcond_some hs
    have hk : kd = 101 := Nat.eq_of_beq_eq_true hk
    subst hk
    split at hs
    · rename_i j hj
      split at hs
      · rename_i v hv
        obtain ⟨rfl, rfl, rfl, rfl⟩ := jnx_some hs
        have h1 : (jws a aC h.1)[n]? = some (a.1 n, .inl (aC 101, cs.length, .inr (.inl (fun j => Int64.ofInt (cs.getD j 0))))) := (jws_at hc).trans (by rw [je_arr (by decide)]; rfl)
        refine va_lald (a := a.1 n) (rest := r.map (jc a)) hx hb hK hP.1 n 1 h1 (jTys_get (r := 1) rfl) (jin hj (List.getElem?_eq_some_iff.mp hv).1) hd ?_
        have h2 := k.same hP ⟨hf.1, hf.2.1, jS_cons (jwf_tag (by decide)) (jS_tail (jS_tail hf.2.2))⟩
        show W p l e R s m args below meth c H locs cells slots Q (F0 m (pc + 1) ls (.long (Int64.ofInt (cs.getD (Int32.ofInt i).toNatClampNeg 0)) :: r.map (jc a)))
        rw [jgetD hj hv]
        exact h2
      · cases hs
    · cases hs
  · cases hs
theorem jo_last (hx : p.tables.exec = Jvm.exec) (hb : c.code = cc) (hd : decode cc pc = .ok (.lastore, 1)) (hK : va_K D vwCl (jTys aC) s) (hP : jHp D aC a A s h.1 H locs) (hf : jFr a h.1.length nL L st ls) (hs : jast 101 1 pc L st h = some (.inl ((pcN, LN, stN), h')))
    (k : jKn p l e R s m args below meth c Q D aC A nL a h cells slots pcN LN stN h') : W p l e R s m args below meth c H locs cells slots Q (F0 m pc ls (st.map (jc a))) := by
  unfold jast at hs
  split at hs
  · rename_i t v i x r
    obtain ⟨ht, hs⟩ := jcond_some hs
    have ht : t = 1 := Nat.eq_of_beq_eq_true ht
    subst ht
    obtain ⟨n, c0, rfl, hc, hs⟩ := jcell_some hs
    obtain ⟨kd, fs, cs⟩ := c0
    obtain ⟨hk, hs⟩ := jcond_some hs
    have hk : kd = 101 := Nat.eq_of_beq_eq_true hk
    subst hk
    split at hs
    · rename_i j hj
      obtain ⟨hl, hs⟩ := jcond_some hs
      have hl : j < cs.length := Nat.le_of_ble_eq_true hl
      obtain ⟨rfl, rfl, rfl, rfl⟩ := jnx_some hs
      have h1 : (jws a aC h.1)[n]? = some (a.1 n, .inl (aC 101, cs.length, .inr (.inl (fun j => Int64.ofInt (cs.getD j 0))))) := (jws_at hc).trans (by rw [je_arr (by decide)]; rfl)
      refine va_last (a := a.1 n) (rest := r.map (jc a)) hx hb hK hP.1 hP.2.1 hP.2.2.1 n 1 h1 (jTys_get (r := 1) rfl) (jin hj hl) hd (fun H1 locs1 q1 q2 q3 => ?_)
      have ef : vp_updL (fun j => Int64.ofInt (cs.getD j 0)) (Int32.ofInt i).toNatClampNeg (Int64.ofInt v) = (fun z => Int64.ofInt ((cs.set j v).getD z 0)) := by
        funext z
        rw [jgetD_set hl, jclamp hj]
        unfold vp_updL
        split <;> rfl
      have el : (cs.set j v).length = cs.length := List.length_set ..
      have e2 : (jws a aC h.1).set n (a.1 n, .inl (aC 101, cs.length, .inr (.inl (fun z => Int64.ofInt ((cs.set j v).getD z 0))))) = jws a aC (h.1.set n (101, fs, cs.set j v)) := by
        rw [jws_set, je_arr (by decide), el]
        rfl
      rw [ef] at q1 q2
      rw [e2] at q1 q2
      exact k.put (List.length_set ..) ⟨q1, q2, q3, jwh_set hP.2.2.2 (jwc_set (jwh_at hP.2.2.2 hc) (Or.inr (Or.inl rfl)))⟩ ⟨hf.1, hf.2.1, jS_tail (jS_tail (jS_tail hf.2.2))⟩
    · cases hs
  · cases hs
theorem jo_itab (hx : p.tables.exec = Jvm.exec) (hb : c.code = cc) (hd : decode cc pc = .ok (.iaload, 1)) (hO : jOld xs a A s s.heap) (hP : jHp D aC a A s h.1 H locs) (hf : jFr a h.1.length nL L st ls) (hs : jtab 100 0 pc L st h jtb = some (.inl ((pcN, LN, stN), h')))
    (k : jKn p l e R s m args below meth c Q D aC A nL a h cells slots pcN LN stN h') : W p l e R s m args below meth c H locs cells slots Q (F0 m pc ls (st.map (jc a))) := by
  unfold jtab at hs
  split at hs
  · rename_i i x r
    split at hs
    · rename_i n
      obtain ⟨hk, hs⟩ := jcond_some hs
      obtain ⟨h6, hk⟩ := Bool.and_eq_true_iff.mp hk
      have h6 : n < 6 := Nat.le_of_ble_eq_true h6
      have hk : (jtb n).1 = 100 := Nat.eq_of_beq_eq_true hk
      split at hs
      · rename_i j hj
        split at hs
        · rename_i v hv
          obtain ⟨rfl, rfl, rfl, rfl⟩ := jnx_some hs
          have h2 := k.same hP ⟨hf.1, hf.2.1, jS_cons (jwf_tag (by decide)) (jS_tail (jS_tail hf.2.2))⟩
          refine va_ti (t := a.2.1 n) (rest := r.map (jc a)) hx hb (hO.2.1 n h6 hk) hP.2.2.1 (jin hj (List.getElem?_eq_some_iff.mp hv).1) (v := .int (Int32.ofInt v)) ?_ hd h2
          show Value.int (Int32.ofInt ((jtb n).2.getD (Int32.ofInt i).toNatClampNeg 0)) = Value.int (Int32.ofInt v)
          rw [jgetD hj hv]
        · cases hs
      · cases hs
    · cases hs
  · cases hs
theorem jo_ltab (hx : p.tables.exec = Jvm.exec) (hb : c.code = cc) (hd : decode cc pc = .ok (.laload, 1)) (hO : jOld xs a A s s.heap) (hP : jHp D aC a A s h.1 H locs) (hf : jFr a h.1.length nL L st ls) (hs : jtab 101 1 pc L st h jtb = some (.inl ((pcN, LN, stN), h')))
    (k : jKn p l e R s m args below meth c Q D aC A nL a h cells slots pcN LN stN h') : W p l e R s m args below meth c H locs cells slots Q (F0 m pc ls (st.map (jc a))) := by
  unfold jtab at hs
  split at hs
  · rename_i i x r
    split at hs
    · rename_i n
      obtain ⟨hk, hs⟩ := jcond_some hs
      obtain ⟨h6, hk⟩ := Bool.and_eq_true_iff.mp hk
      have h6 : n < 6 := Nat.le_of_ble_eq_true h6
      have hk : (jtb n).1 = 101 := Nat.eq_of_beq_eq_true hk
      split at hs
      · rename_i j hj
        split at hs
        · rename_i v hv
          obtain ⟨rfl, rfl, rfl, rfl⟩ := jnx_some hs
          have h2 := k.same hP ⟨hf.1, hf.2.1, jS_cons (jwf_tag (by decide)) (jS_tail (jS_tail hf.2.2))⟩
          refine va_tl (t := a.2.1 n) (rest := r.map (jc a)) hx hb (hO.2.2.1 n h6 hk) hP.2.2.1 (jin hj (List.getElem?_eq_some_iff.mp hv).1) (v := .long (Int64.ofInt v)) ?_ hd h2
          show Value.long (Int64.ofInt ((jtb n).2.getD (Int32.ofInt i).toNatClampNeg 0)) = Value.long (Int64.ofInt v)
          rw [jgetD hj hv]
        · cases hs
      · cases hs
    · cases hs
  · cases hs
theorem jo_iscr (hx : p.tables.exec = Jvm.exec) (hb : c.code = cc) (hd : decode cc pc = .ok (.iaload, 1)) (hO : jOld xs a A s s.heap) (hP : jHp D aC a A s h.1 H locs) (hf : jFr a h.1.length nL L st ls) (hs : (match st with
    | (0, i) :: (6, _) :: r => (match jw i with
      | .ofNat j => (match xs[j]? with
        | some x => jnx (pc + 1) L ((0, x) :: r) h
        | none => none)
      | .negSucc _ => none)
    | _ => none) = some (.inl ((pcN, LN, stN), h')))
    (k : jKn p l e R s m args below meth c Q D aC A nL a h cells slots pcN LN stN h') : W p l e R s m args below meth c H locs cells slots Q (F0 m pc ls (st.map (jc a))) := by
  split at hs
  · rename_i i x r
    split at hs
    · rename_i j hj
      split at hs
      · rename_i v hv
        obtain ⟨rfl, rfl, rfl, rfl⟩ := jnx_some hs
        have h2 := k.same hP ⟨hf.1, hf.2.1, jS_cons (jwf_tag (by decide)) (jS_tail (jS_tail hf.2.2))⟩
        refine va_ti (t := a.2.2.2) (rest := r.map (jc a)) hx hb hO.2.2.2.1 hP.2.2.1 (jin hj (List.getElem?_eq_some_iff.mp hv).1) (v := .int (Int32.ofInt v)) ?_ hd h2
        show Value.int (Int32.ofInt (xs.getD (Int32.ofInt i).toNatClampNeg 0)) = .int (Int32.ofInt v)
        rw [jgetD hj hv]
      · cases hs
    · cases hs
  · cases hs
theorem jo_alen (hx : p.tables.exec = Jvm.exec) (hb : c.code = cc) (hd : decode cc pc = .ok (.arraylength, 1)) (hO : jOld xs a A s s.heap) (hK : va_K D vwCl (jTys aC) s) (hP : jHp D aC a A s h.1 H locs) (hf : jFr a h.1.length nL L st ls) (hs : (match st with
    | (6, _) :: r => jnx (pc + 1) L ((0, (xs.length : Int)) :: r) h
    | (4, a) :: r => jcell h a (fun c => cond (Nat.ble 100 c.1 && (jaix c.1).isSome) (jnx (pc + 1) L ((0, (c.2.2.length : Int)) :: r) h) none)
    | _ => none) = some (.inl ((pcN, LN, stN), h')))
    (k : jKn p l e R s m args below meth c Q D aC A nL a h cells slots pcN LN stN h') : W p l e R s m args below meth c H locs cells slots Q (F0 m pc ls (st.map (jc a))) := by
  split at hs
  · rename_i x r
    obtain ⟨rfl, rfl, rfl, rfl⟩ := jnx_some hs
    have h2 := k.same hP ⟨hf.1, hf.2.1, jS_cons (jwf_tag (by decide)) (jS_tail hf.2.2)⟩
    refine va_tlen (t := a.2.2.2) (rest := r.map (jc a)) hx hb hO.2.2.2.1 hP.2.2.1 (v := Int32.ofInt (xs.length : Int)) ?_ hd h2
    exact (Int32.ofInt_eq_ofNat).symm
  · rename_i x r
    obtain ⟨n, c0, rfl, hc, hs⟩ := jcell_some hs
    obtain ⟨kd, fs, cs⟩ := c0
    obtain ⟨hk, hs⟩ := jcond_some hs
    obtain ⟨hk1, hk2⟩ := Bool.and_eq_true_iff.mp hk
    have hk1 : 100 ≤ kd := Nat.le_of_ble_eq_true hk1
    obtain ⟨r9, hr9⟩ := Option.isSome_iff_exists.mp hk2
    obtain ⟨t9, ht9⟩ := jaix_ok _ _ hr9
    obtain ⟨rfl, rfl, rfl, rfl⟩ := jnx_some hs
    have h2 := k.same hP ⟨hf.1, hf.2.1, jS_cons (jwf_tag (by decide)) (jS_tail hf.2.2)⟩
    have h1 : (jws a aC h.1)[n]? = some (a.1 n, .inl (aC kd, cs.length, jcont a (kd, fs, cs))) := (jws_at hc).trans (by rw [je_arr hk1])
    refine va_alen (a := a.1 n) (rest := r.map (jc a)) hx hb hK hP.1 n r9 h1 (jTys_get ht9) (v := Int32.ofInt (cs.length : Int)) ?_ hd h2
    exact (Int32.ofInt_eq_ofNat).symm
  · cases hs
end JHS
