/-! the little machine, part 10: steps that make cells, copies, the JDK's own methods, switches -/
section JHS
variable {p : Program} {l : Launch} {e : Env} {R : Room} {s : State} {m : MethodId} {args : Array Value} {below : List Frame} {meth : Method} {c : Code} {H : Heap} {locs : List Loc} {cells slots : Nat} {Q : State → Prop} {cc : ByteArray}
variable {D : va_G} {aC : Nat → ClassId} {A : Nat → Prop} {xs : List Int} {a : JA} {nL : Nat} {L LN : JL} {st stN : List JV} {ls : Array Slot} {pc pcN : Nat} {h h' : JH}
theorem jKn.new {c0 : JC} {q : Nat} {e0 : va_E} {r : List JV} {sz : Nat} (K : jKn p l e R s m args below meth c Q D aC A nL a h cells slots pcN L ((4, (h.1.length : Int)) :: r) (h.1 ++ [c0], h.2.1 + 1, h.2.2 + sz)) (hw : jwh h.1) (hc : jwc h.1.length c0) (he : e0 = je a aC c0)
    (q1 : va_P D vwCl (jws a aC h.1 ++ [(q, e0)]) H) (q2 : va_D A (jws a aC h.1 ++ [(q, e0)])) (q3 : va_S A s.heap H locs) (hf : jFr a h.1.length nL L r ls) : W p l e R s m args below meth c H locs (cells + 1) (slots + sz) Q (F0 m pcN ls (.ref q :: r.map (jc a))) := by
  have hag : jagr h.1.length a (jadd a h.1.length q) := jadd_agr
  have hn : h.1.length ≤ (h.1 ++ [c0]).length := by rw [List.length_append]; exact Nat.le_add_right _ _
  have e1 : jws a aC h.1 ++ [(q, e0)] = jws (jadd a h.1.length q) aC (h.1 ++ [c0]) := by
    rw [jws_push hw, he, je_ext hag hc]
  rw [e1] at q1 q2
  have hf2 := jFr_ext hf hag hn
  have h4 : jwf (h.1 ++ [c0]).length (4, (h.1.length : Int)) := fun _ => by
    show h.1.length < (h.1 ++ [c0]).length
    rw [List.length_append]
    exact Nat.lt_succ_self _
  have h2 := K (jadd a h.1.length q) H locs ls (cells + 1) (slots + sz) hag hn ⟨q1, q2, q3, jwh_push hw (jwc_mono hc (Nat.le_add_right _ _))⟩ ⟨hf2.1, hf2.2.1, jS_cons h4 hf2.2.2⟩ (by show h.2.1 + 1 + cells = _; omega) (by show h.2.2 + sz + slots = _; omega)
  have e2 : ((4, (h.1.length : Int)) :: r).map (jc (jadd a h.1.length q)) = .ref q :: r.map (jc a) := by
    rw [List.map_cons, ← jcs_ext hag hf.2.2]
    show Value.ref ((jadd a h.1.length q).1 h.1.length) :: _ = _
    rw [jadd_at]
  rw [e2] at h2
  exact h2
theorem jnew_some {n sz : Nat} {r : List JV} {c0 : JC} (q : jnew pc n L r h c0 sz = some (.inl ((pcN, LN, stN), h'))) : pc + n = pcN ∧ L = LN ∧ (4, (h.1.length : Int)) :: r = stN ∧ (h.1 ++ [c0], h.2.1 + 1, h.2.2 + sz) = h' := by
  cases q
  exact ⟨rfl, rfl, rfl, rfl⟩
theorem jo_new {w0 i mm : Nat} (hown : s.vm.findClass (jR w0) = some m.cls) (hA : ∀ q, s.heap.size ≤ q → A q) (hx : p.tables.exec = Jvm.exec) (hb : c.code = cc) (hd : decode cc pc = .ok (.new i, 3)) (hT : jTw a s) (hK : va_K D vwCl (jTys aC) s) (hP : jHp D aC a A s h.1 H locs) (hf : jFr a h.1.length nL L st ls) (hr1 : h'.2.1 + cells ≤ h.2.1 + R.cells) (hr2 : h'.2.2 + slots ≤ h.2.2 + R.slots) (hs : jnewo (jpool w0 i) mm pc L st h = some (.inl ((pcN, LN, stN), h')))
    (k : jKn p l e R s m args below meth c Q D aC A nL a h cells slots pcN LN stN h') : W p l e R s m args below meth c H locs cells slots Q (F0 m pc ls (st.map (jc a))) := by
  unfold jnewo at hs
  have hok := jpool_ok w0 i
  generalize jpool w0 i = E at hs hok
  obtain ⟨cd, ci, b⟩ := E
  dsimp only at hs
  split at hs
  · replace hs := jcond_some hs
    obtain ⟨hc, hs⟩ := hs
    obtain ⟨h15, h2⟩ := Bool.and_eq_true_iff.mp hc
    have h15 : ci < 15 := Nat.le_of_ble_eq_true h15
    have h2 : 2 ≤ ci := Nat.le_of_ble_eq_true h2
    obtain ⟨rfl, rfl, rfl, rfl⟩ := jnew_some hs
    obtain ⟨q, hq⟩ : ∃ q, vwCl[ci]? = some q := ⟨_, List.getElem?_eq_getElem (show ci < vwCl.length from h15)⟩
    obtain ⟨C, T, N⟩ := q
    obtain ⟨h0, h1, hinst, hini, hCR, hCK, hlen, ty, hty, htt, hdf⟩ := jcl_ok ci C T N hq h2
    have hok : jWd (.classLink (jR w0) i (jKN ci)) := hok
    rw [← hCK] at hok
    have hfs : ∀ j, j < N → defaultValue (ty j) = vp_V ((jdf ci).map (jc a)) j := by
      intro j hj
      have h15 := (htt j hj).2.2.2
      show _ = ((jdf ci).map (jc a)).getD j .null
      rw [List.getD_eq_getElem?_getD, List.getElem?_map, hdf j hj]
      cases hz : ty j with
      | object n => rfl
      | array n => rfl
      | int => rfl
      | long => rfl
      | float => rfl
      | double => rfl
      | boolean => rfl
      | _ => rw [hz] at h15; exact absurd rfl h15
    rw [hlen] at hr2 k
    refine va_new (D := D) (rest := st.map (jc a)) (ci := ci) (C := C) (T := T) (N := N) (Ts := jAW) hx hb (fun w hw => hT.w hw _) (fun w hw => jGW_aw (h0 w hw)) ty hty hown (hT.w hok.aw _) (hT.w hinst.aw _) (hT.w hini.aw _) hK hP.1 hP.2.1 hP.2.2.1 hA hq hfs (by dsimp only at hr1; omega) (by dsimp only at hr2; omega) hd (fun q H1 q1 q2 q3 => ?_)
    exact k.new hP.2.2.2 ⟨jdf_wf h15, fun _ _ _ x hx => nomatch hx⟩ (je_fld (by omega)).symm q1 q2 q3 hf
  · replace hs := jcond_some hs
    obtain ⟨hc, hs⟩ := hs
    split at hs
    · replace hs := jcond_some hs
      obtain ⟨hc, hs⟩ := hs
      split at hs
      · cases hs
      · cases hs
    · cases hs
  · cases hs
theorem jo_newa {t : ArrayType} (hA : ∀ q, s.heap.size ≤ q → A q) (hx : p.tables.exec = Jvm.exec) (hb : c.code = cc) (hd : decode cc pc = .ok (.newarray t, 2)) (hT : jTw a s) (hK : va_K D vwCl (jTys aC) s) (hP : jHp D aC a A s h.1 H locs) (hf : jFr a h.1.length nL L st ls) (hr1 : h'.2.1 + cells ≤ h.2.1 + R.cells) (hr2 : h'.2.2 + slots ≤ h.2.2 + R.slots) (hs : jnewa t pc L st h = some (.inl ((pcN, LN, stN), h')))
    (k : jKn p l e R s m args below meth c Q D aC A nL a h cells slots pcN LN stN h') : W p l e R s m args below meth c H locs cells slots Q (F0 m pc ls (st.map (jc a))) := by
  unfold jnewa at hs
  replace hs := ji1_some hs
  obtain ⟨x, r, rfl, hs⟩ := hs
  split at hs
  · rename_i n hn
    replace hs := jcond_some hs
    obtain ⟨hc, hs⟩ := hs
    have hc : n ≤ 100000 := Nat.le_of_ble_eq_true hc
    split at hs
    · obtain ⟨rfl, rfl, rfl, rfl⟩ := jnew_some hs
      have hlt : (Int32.ofInt x).toNatClampNeg = n := jclamp hn
      refine va_newa (rest := r.map (jc a)) (atype := .int) (ty := .int) (N' := n) (a0 := (n, .inl (fun _ => Int32.ofInt 0))) hx hb (hT.w jaw_int _) rfl hK hP.1 hP.2.1 hP.2.2.1 hA (fun cA => rfl) (jnneg hn) hlt (by show n * 4 ≤ 536870912; omega) (by dsimp only at hr1; omega) (by dsimp only at hr2; omega) hd (fun q cA H1 hK1 q1 q2 q3 => ?_)
      obtain rfl := jK_new hK (r := 0) rfl hK1
      refine k.new hP.2.2.2 ⟨(fun v hv => nomatch hv), fun h1 h2 h3 => absurd rfl (by assumption)⟩ ?_ q1 q2 q3 ⟨hf.1, hf.2.1, jS_tail hf.2.2⟩
      have e3 : jcont a (100, [], List.replicate n (0 : Int)) = .inl (fun _ => Int32.ofInt 0) := by
        unfold jcont
        simp only [jrepl]
      rw [je_arr (by decide), e3, List.length_replicate]
    · obtain ⟨rfl, rfl, rfl, rfl⟩ := jnew_some hs
      have hlt : (Int32.ofInt x).toNatClampNeg = n := jclamp hn
      refine va_newa (rest := r.map (jc a)) (atype := .long) (ty := .long) (N' := n) (a0 := (n, .inr (.inl (fun _ => Int64.ofInt 0)))) hx hb (hT.w jaw_long _) rfl hK hP.1 hP.2.1 hP.2.2.1 hA (fun cA => rfl) (jnneg hn) hlt (by show n * 8 ≤ 536870912; omega) (by dsimp only at hr1; omega) (by dsimp only at hr2; omega) hd (fun q cA H1 hK1 q1 q2 q3 => ?_)
      obtain rfl := jK_new hK (r := 1) rfl hK1
      refine k.new hP.2.2.2 ⟨(fun v hv => nomatch hv), fun h1 h2 h3 => absurd rfl (by assumption)⟩ ?_ q1 q2 q3 ⟨hf.1, hf.2.1, jS_tail hf.2.2⟩
      have e3 : jcont a (101, [], List.replicate n (0 : Int)) = .inr (.inl (fun _ => Int64.ofInt 0)) := by
        unfold jcont
        simp only [jrepl]
      rw [je_arr (by decide), e3, List.length_replicate]
    · obtain ⟨rfl, rfl, rfl, rfl⟩ := jnew_some hs
      have hlt : (Int32.ofInt x).toNatClampNeg = n := jclamp hn
      refine va_newa (rest := r.map (jc a)) (atype := .double) (ty := .double) (N' := n) (a0 := (n, .inr (.inr (.inr (.inl (fun _ => ju64 0)))))) hx hb (hT.w jaw_double _) rfl hK hP.1 hP.2.1 hP.2.2.1 hA (fun cA => rfl) (jnneg hn) hlt (by show n * 8 ≤ 536870912; omega) (by dsimp only at hr1; omega) (by dsimp only at hr2; omega) hd (fun q cA H1 hK1 q1 q2 q3 => ?_)
      obtain rfl := jK_new hK (r := 2) rfl hK1
      refine k.new hP.2.2.2 ⟨(fun v hv => nomatch hv), fun h1 h2 h3 => absurd rfl (by assumption)⟩ ?_ q1 q2 q3 ⟨hf.1, hf.2.1, jS_tail hf.2.2⟩
      have e3 : jcont a (103, [], List.replicate n (0 : Int)) = .inr (.inr (.inr (.inl (fun _ => ju64 0)))) := by
        unfold jcont
        simp only [jrepl]
      rw [je_arr (by decide), e3, List.length_replicate]
    · cases hs
  · cases hs
theorem jo_newq {w0 i : Nat} (hown : s.vm.findClass (jR w0) = some m.cls) (hA : ∀ q, s.heap.size ≤ q → A q) (hx : p.tables.exec = Jvm.exec) (hb : c.code = cc) (hd : decode cc pc = .ok (.anewarray i, 3)) (hT : jTw a s) (hK : va_K D vwCl (jTys aC) s) (hP : jHp D aC a A s h.1 H locs) (hf : jFr a h.1.length nL L st ls) (hr1 : h'.2.1 + cells ≤ h.2.1 + R.cells) (hr2 : h'.2.2 + slots ≤ h.2.2 + R.slots) (hs : jnewq (jpool w0 i) pc L st h = some (.inl ((pcN, LN, stN), h')))
    (k : jKn p l e R s m args below meth c Q D aC A nL a h cells slots pcN LN stN h') : W p l e R s m args below meth c H locs cells slots Q (F0 m pc ls (st.map (jc a))) := by
  unfold jnewq at hs
  have hok := jpool_ok w0 i
  generalize jpool w0 i = E at hs hok
  obtain ⟨cd, ci, b⟩ := E
  replace hs := ji1_some hs
  obtain ⟨x, r, rfl, hs⟩ := hs
  split at hs
  · rename_i n hn
    replace hs := jcond_some hs
    obtain ⟨hc, hs⟩ := hs
    obtain ⟨h6, hc⟩ := Bool.and_eq_true_iff.mp hc
    have hc : n ≤ 100000 := Nat.le_of_ble_eq_true hc
    obtain rfl : cd = 6 := Nat.eq_of_beq_eq_true h6
    have hok : jWd (.classLink (jR w0) i (jKN ci)) := hok
    have hlt : (Int32.ofInt x).toNatClampNeg = n := jclamp hn
    have hnil : jwc h.1.length (110 + ci, [], List.replicate n (-1)) := ⟨(fun v hv => nomatch hv), fun _ _ _ y hy => by rw [(List.mem_replicate.mp hy).2]; trivial⟩
    have hnil2 : jwc h.1.length (130, [], List.replicate n (-1)) := ⟨(fun v hv => nomatch hv), fun _ _ _ y hy => by rw [(List.mem_replicate.mp hy).2]; trivial⟩
    have hcont : (fun z => jopt a ((List.replicate n (-1 : Int)).getD z (-1))) = fun _ => none := by
      funext z
      rw [jrepl]
      rfl
    cases h1 : (Nat.blt ci 20 && (jaix (110 + ci)).isSome) with
    | true =>
      dsimp only at hs
      rw [h1] at hs
      obtain ⟨hlt2, hix⟩ := Bool.and_eq_true_iff.mp h1
      have hlt2 : ci < 20 := Nat.le_of_ble_eq_true hlt2
      obtain ⟨rfl, rfl, rfl, rfl⟩ := jnew_some hs
      obtain ⟨r9, hr9⟩ := Option.isSome_iff_exists.mp hix
      obtain ⟨t9, ht9⟩ := jaix_ok _ _ hr9
      have ho := jao_ok ci hlt2 _ _ ht9
      obtain ⟨ho, rfl⟩ := ho
      refine va_newq (rest := r.map (jc a)) (C := jKN ci) (N' := n) hx hb hown (hT.w hok.aw _) (va_AO.of (hT.w ho args)) hK hP.1 hP.2.1 hP.2.2.1 hA (jnneg hn) hlt (by omega) (by dsimp only at hr1; omega) (by dsimp only at hr2; omega) hd (fun q cA H1 hK1 q1 q2 q3 => ?_)
      obtain rfl := jK_new hK ht9 hK1
      refine k.new hP.2.2.2 hnil ?_ q1 q2 q3 ⟨hf.1, hf.2.1, jS_tail hf.2.2⟩
      rw [je_arr (by omega), jcont_q (by omega), hcont, List.length_replicate]
    | false =>
      dsimp only at hs
      rw [h1] at hs
      replace hs := jcond_some hs
      obtain ⟨h100, hs⟩ := hs
      obtain rfl : ci = 100 := Nat.eq_of_beq_eq_true h100
      obtain ⟨rfl, rfl, rfl, rfl⟩ := jnew_some hs
      refine W.anewA (t := .int) (rest := r.map (jc a)) (n := Int32.ofInt x) hx hb hown (hT.w hok.aw _) (hT.w jao_int args) rfl hd rfl (jnneg hn) (by rw [hlt]; omega) (by dsimp only at hr1; omega) (by rw [hlt]; dsimp only at hr2; omega) (fun cA kA comp f1 f2 f3 f4 => ?_)
      have hcA : cA = aC 130 := Option.some.inj (f1.symm.trans (jK_nm hK (r := 7) rfl))
      subst hcA
      rw [hlt]
      generalize hH1 : H.push ({ cls := aC 130, slots := Array.replicate n .null, vm := .none } : Cell) = H1
      have e1 : H1[H.size]? = some (arrV (aC 130) n (fun _ => .null)) := by rw [← hH1, Array.getElem?_push_size, ← arrV_new]
      have o1 : ∀ q : Nat, q < H.size → H1[q]? = H[q]? := fun q hq => by rw [← hH1, Array.getElem?_push, if_neg (Nat.ne_of_lt hq)]
      have z1 : H1.size = H.size + 1 := by rw [← hH1, Array.size_push]
      refine k.new (e0 := .inl (aC 130, n, .inr (.inr (.inr (.inr (fun _ => none)))))) hP.2.2.2 hnil2 ?_ ((hP.1.kept (fun k x hx => o1 x.1 ((hP.1 k x hx).lt))).app (fun k x hx => ?_)) (hP.2.1.push hP.1 rfl (hA _ hP.2.2.1.1)) ⟨Nat.le_trans hP.2.2.1.1 (by omega), fun x h1 h2 => (o1 x (Nat.lt_of_lt_of_le h1 hP.2.2.1.1)).trans (hP.2.2.1.2.1 x h1 h2), hP.2.2.1.2.2⟩ ⟨hf.1, hf.2.1, jS_tail hf.2.2⟩
      · rw [je_arr (by decide), jcont_q (by decide), hcont, List.length_replicate]
      · have hz : k < 1 := (List.getElem?_eq_some_iff.mp hx).1
        rw [show k = 0 by omega] at hx
        cases hx
        show H1[H.size]? = some (vp_cell _ _)
        rw [vp_cell_q]
        exact e1
  · cases hs
theorem jwid_sum : ∀ st : List JV, ((st.map (jc a)).map fun v => v.category).sum = jwid st
  | [] => rfl
  | v :: r => by
    rw [List.map_cons, List.map_cons, List.sum_cons, jwid_sum r]
    show (jc a v).category + jwid r = cond (jone v) 1 2 + jwid r
    cases hv : jone v with
    | true => rw [jc_cat1 hv]; rfl
    | false => rw [jc_cat2 hv]; rfl
theorem jwx_null {n : Nat} : jwx n (-1) := by trivial
theorem jassign {c0 : ClassId} : s.vm.assignable c0 c0 = true := by
  show Vm.assignableAux s.vm 256 c0 c0 = true
  unfold Vm.assignableAux
  simp
theorem jo_ifnull {z : Int} (hx : p.tables.exec = Jvm.exec) (hb : c.code = cc) (hd : decode cc pc = .ok (.ifnull z, 3)) (hP : jHp D aC a A s h.1 H locs) (hf : jFr a h.1.length nL L st ls) (hs : jnull true pc z L st h = some (.inl ((pcN, LN, stN), h')))
    (k : jKn p l e R s m args below meth c Q D aC A nL a h cells slots pcN LN stN h') : W p l e R s m args below meth c H locs cells slots Q (F0 m pc ls (st.map (jc a))) := by
  unfold jnull at hs
  split at hs
  · rename_i x r
    obtain ⟨rfl, rfl, rfl, t, ht, hc⟩ := jbr_some hs
    have h2 := k.same hP ⟨hf.1, hf.2.1, jS_tail hf.2.2⟩
    cases x with
    | ofNat n =>
      rcases hc with ⟨hz, -⟩ | ⟨-, rfl⟩
      · cases hz
      · exact lv_ifnull (x := a.1 n) (rest := r.map (jc a)) hx hb hd h2
    | negSucc n =>
      rcases hc with ⟨-, rfl⟩ | ⟨hz, -⟩
      · exact lv_ifnullN (rest := r.map (jc a)) hx hb hd ht h2
      · cases hz
  · cases hs
theorem jo_sw {df lo hi : Int} {offs : Array Int} {len : Nat} (hx : p.tables.exec = Jvm.exec) (hb : c.code = cc) (hd : decode cc pc = .ok (.tableswitch df lo hi offs, len)) (hP : jHp D aC a A s h.1 H locs) (hf : jFr a h.1.length nL L st ls) (hs : jsw df lo hi offs pc L st h = some (.inl ((pcN, LN, stN), h')))
    (k : jKn p l e R s m args below meth c Q D aC A nL a h cells slots pcN LN stN h') : W p l e R s m args below meth c H locs cells slots Q (F0 m pc ls (st.map (jc a))) := by
  unfold jsw at hs
  replace hs := ji1_some hs
  obtain ⟨x, r, rfl, hs⟩ := hs
  cases hc : (decide (jw x < lo) || decide (hi < jw x)) with
  | true =>
    rw [hc] at hs
    obtain ⟨ht, rfl, rfl, rfl⟩ := jgo_some (show jgo pc df L r h = _ from hs)
    have h2 := k.same hP ⟨hf.1, hf.2.1, jS_tail hf.2.2⟩
    refine lv_tableOut (rest := r.map (jc a)) hx hb hd ?_ ht h2
    rw [jw_toInt]
    rcases Bool.or_eq_true_iff.mp hc with hc | hc
    · exact Or.inl (of_decide_eq_true hc)
    · exact Or.inr (of_decide_eq_true hc)
  | false =>
    rw [hc] at hs
    obtain ⟨hc1, hc2⟩ := Bool.or_eq_false_iff.mp hc
    dsimp only [cond] at hs
    split at hs
    · rename_i off ho
      obtain ⟨ht, rfl, rfl, rfl⟩ := jgo_some hs
      have h2 := k.same hP ⟨hf.1, hf.2.1, jS_tail hf.2.2⟩
      exact lv_tableIn (rest := r.map (jc a)) hx hb hd (by rw [jw_toInt]; exact of_decide_eq_false hc1) (by rw [jw_toInt]; exact of_decide_eq_false hc2) (by rw [jw_toInt]; exact ho) ht h2
    · cases hs
theorem jo_oinit {w0 i : Nat} (hown : s.vm.findClass (jR w0) = some m.cls) (hlk : Cond.methodLink (jR w0) i Lib.objectInit ∈ jAW) (hwd : jwid st ≤ 24) (hml : c.maxLocals = ls.size) (hRf : 1 ≤ R.frames) (hRl : 200 ≤ R.locals) (hRc : cells ≤ R.cells) (hRs : slots ≤ R.slots) (hx : p.tables.exec = Jvm.exec) (hb : c.code = cc) (hd : decode cc pc = .ok (.invokespecial i, 3)) (hT : jTw a s) (hP : jHp D aC a A s h.1 H locs) (hf : jFr a h.1.length nL L st ls) (hs : (match st with
    | (4, .ofNat a) :: r => jnx (pc + 3) L r h
    | _ => none) = some (.inl ((pcN, LN, stN), h')))
    (k : jKn p l e R s m args below meth c Q D aC A nL a h cells slots pcN LN stN h') : W p l e R s m args below meth c H locs cells slots Q (F0 m pc ls (st.map (jc a))) := by
  split at hs
  · rename_i n r
    obtain ⟨rfl, rfl, rfl, rfl⟩ := jnx_some hs
    have h2 := k.same hP ⟨hf.1, hf.2.1, jS_tail hf.2.2⟩
    have hq := jwid_sum (a := a) ((4, Int.ofNat n) :: r)
    rw [List.map_cons, List.map_cons, List.sum_cons] at hq
    exact W.objInit (a := a.1 n) (rest := r.map (jc a)) hx hb hown (hT.w hlk _) (hT.w jsp_oi _) (hT.w jsp_oc _) rfl hml.symm rfl hd hRf (by show 2 * 0 + _ + 12 ≤ _; omega) h2
  · cases hs
theorem jo_sp0 {w0 i : Nat} (hown : s.vm.findClass (jR w0) = some m.cls) (hlk : Cond.methodLink (jR w0) i Lib.Math.max.name ∈ jAW) (hwd : jwid st ≤ 24) (hml : c.maxLocals = ls.size) (hRf : 1 ≤ R.frames) (hRl : 200 ≤ R.locals) (hRc : cells ≤ R.cells) (hRs : slots ≤ R.slots) (hx : p.tables.exec = Jvm.exec) (hb : c.code = cc) (hd : decode cc pc = .ok (.invokestatic i, 3)) (hT : jTw a s) (hP : jHp D aC a A s h.1 H locs) (hf : jFr a h.1.length nL L st ls) (hs : ji2 st (fun x y r => jnx (pc + 3) L ((0, cond (decide (jw x < jw y)) y x) :: r) h) = some (.inl ((pcN, LN, stN), h')))
    (k : jKn p l e R s m args below meth c Q D aC A nL a h cells slots pcN LN stN h') : W p l e R s m args below meth c H locs cells slots Q (F0 m pc ls (st.map (jc a))) := by
  obtain ⟨x, y, r, rfl, h1⟩ := ji2_some hs
  obtain ⟨rfl, rfl, rfl, rfl⟩ := jnx_some h1
  have h2 := k.same hP ⟨hf.1, hf.2.1, jS_cons (jwf_tag (by decide)) (jS_tail (jS_tail hf.2.2))⟩
  have hq := jwid_sum (a := a) ((0, y) :: (0, x) :: r)
  simp only [List.map_cons, List.sum_cons] at hq
  refine va_mmax (rest := r.map (jc a)) (x := Int32.ofInt x) (y := Int32.ofInt y) hx hb hml hown (hT.w hlk _) (hT.w jsp_s0 _) (hT.w jsp_i _) (hT.w jsp_c0 _) hRf (by omega) hRc hRs hd ?_
  have e1 : (if Int32.ofInt x < Int32.ofInt y then Int32.ofInt y else Int32.ofInt x) = Int32.ofInt (cond (decide (jw x < jw y)) y x) := by
    by_cases hq : jw x < jw y
    · rw [if_pos ((jlt x y).mpr hq), decide_eq_true hq]; rfl
    · rw [if_neg (fun z => hq ((jlt x y).mp z)), decide_eq_false hq]; rfl
  rw [e1]
  exact h2
theorem jo_sp1 {w0 i : Nat} (hown : s.vm.findClass (jR w0) = some m.cls) (hlk : Cond.methodLink (jR w0) i Lib.Math.min.name ∈ jAW) (hwd : jwid st ≤ 24) (hml : c.maxLocals = ls.size) (hRf : 1 ≤ R.frames) (hRl : 200 ≤ R.locals) (hRc : cells ≤ R.cells) (hRs : slots ≤ R.slots) (hx : p.tables.exec = Jvm.exec) (hb : c.code = cc) (hd : decode cc pc = .ok (.invokestatic i, 3)) (hT : jTw a s) (hP : jHp D aC a A s h.1 H locs) (hf : jFr a h.1.length nL L st ls) (hs : ji2 st (fun x y r => jnx (pc + 3) L ((0, cond (decide (jw x < jw y)) x y) :: r) h) = some (.inl ((pcN, LN, stN), h')))
    (k : jKn p l e R s m args below meth c Q D aC A nL a h cells slots pcN LN stN h') : W p l e R s m args below meth c H locs cells slots Q (F0 m pc ls (st.map (jc a))) := by
  obtain ⟨x, y, r, rfl, h1⟩ := ji2_some hs
  obtain ⟨rfl, rfl, rfl, rfl⟩ := jnx_some h1
  have h2 := k.same hP ⟨hf.1, hf.2.1, jS_cons (jwf_tag (by decide)) (jS_tail (jS_tail hf.2.2))⟩
  have hq := jwid_sum (a := a) ((0, y) :: (0, x) :: r)
  simp only [List.map_cons, List.sum_cons] at hq
  refine va_mmin (rest := r.map (jc a)) (x := Int32.ofInt x) (y := Int32.ofInt y) hx hb hml hown (hT.w hlk _) (hT.w jsp_s1 _) (hT.w jsp_i _) (hT.w jsp_c1 _) hRf (by omega) hRc hRs hd ?_
  have e1 : (if Int32.ofInt y < Int32.ofInt x then Int32.ofInt y else Int32.ofInt x) = Int32.ofInt (cond (decide (jw x < jw y)) x y) := by
    by_cases hq : jw y < jw x
    · rw [if_pos ((jlt y x).mpr hq), decide_eq_false (by omega)]; rfl
    · rw [if_neg (fun z => hq ((jlt y x).mp z))]
      by_cases hq2 : jw x < jw y
      · rw [decide_eq_true hq2]; rfl
      · rw [decide_eq_false hq2]
        exact (jeq x y).mpr (by omega)
  rw [e1]
  exact h2
theorem jo_sp2 {w0 i : Nat} (hown : s.vm.findClass (jR w0) = some m.cls) (hlk : Cond.methodLink (jR w0) i Lib.Math.abs.name ∈ jAW) (hwd : jwid st ≤ 24) (hml : c.maxLocals = ls.size) (hRf : 1 ≤ R.frames) (hRl : 200 ≤ R.locals) (hRc : cells ≤ R.cells) (hRs : slots ≤ R.slots) (hx : p.tables.exec = Jvm.exec) (hb : c.code = cc) (hd : decode cc pc = .ok (.invokestatic i, 3)) (hT : jTw a s) (hP : jHp D aC a A s h.1 H locs) (hf : jFr a h.1.length nL L st ls) (hs : ji1 st (fun x r => jnx (pc + 3) L ((0, cond (decide (jw x < 0)) (-x) x) :: r) h) = some (.inl ((pcN, LN, stN), h')))
    (k : jKn p l e R s m args below meth c Q D aC A nL a h cells slots pcN LN stN h') : W p l e R s m args below meth c H locs cells slots Q (F0 m pc ls (st.map (jc a))) := by
  obtain ⟨x, r, rfl, h1⟩ := ji1_some hs
  obtain ⟨rfl, rfl, rfl, rfl⟩ := jnx_some h1
  have h2 := k.same hP ⟨hf.1, hf.2.1, jS_cons (jwf_tag (by decide)) (jS_tail hf.2.2)⟩
  have hq := jwid_sum (a := a) ((0, x) :: r)
  simp only [List.map_cons, List.sum_cons] at hq
  refine va_mabs (rest := r.map (jc a)) (x := Int32.ofInt x) hx hb hml hown (hT.w hlk _) (hT.w jsp_s2 _) (hT.w jsp_i _) (hT.w jsp_c2 _) hRf (by omega) hRc hRs hd ?_
  have e1 : (if 0 ≤ Int32.ofInt x then Int32.ofInt x else 0 - Int32.ofInt x) = Int32.ofInt (cond (decide (jw x < 0)) (-x) x) := by
    by_cases hq : jw x < 0
    · rw [if_neg (fun z => by rw [j0, jle, jw_0] at z; omega), decide_eq_true hq]
      show 0 - Int32.ofInt x = Int32.ofInt (-x)
      rw [Int32.ofInt_neg, Int32.zero_sub]
    · rw [if_pos (by rw [j0, jle, jw_0]; omega), decide_eq_false hq]; rfl
  rw [e1]
  exact h2
theorem jo_sp3 {w0 i : Nat} (hown : s.vm.findClass (jR w0) = some m.cls) (hlk : Cond.methodLink (jR w0) i Lib.MathLoose.max_long.x ∈ jAW) (hwd : jwid st ≤ 24) (hml : c.maxLocals = ls.size) (hRf : 1 ≤ R.frames) (hRl : 200 ≤ R.locals) (hRc : cells ≤ R.cells) (hRs : slots ≤ R.slots) (hx : p.tables.exec = Jvm.exec) (hb : c.code = cc) (hd : decode cc pc = .ok (.invokestatic i, 3)) (hT : jTw a s) (hP : jHp D aC a A s h.1 H locs) (hf : jFr a h.1.length nL L st ls) (hs : jl2 st (fun x y r => jnx (pc + 3) L ((1, cond (decide (jwl y < jwl x)) x y) :: r) h) = some (.inl ((pcN, LN, stN), h')))
    (k : jKn p l e R s m args below meth c Q D aC A nL a h cells slots pcN LN stN h') : W p l e R s m args below meth c H locs cells slots Q (F0 m pc ls (st.map (jc a))) := by
  obtain ⟨x, y, r, rfl, h1⟩ := jl2_some hs
  obtain ⟨rfl, rfl, rfl, rfl⟩ := jnx_some h1
  have h2 := k.same hP ⟨hf.1, hf.2.1, jS_cons (jwf_tag (by decide)) (jS_tail (jS_tail hf.2.2))⟩
  have hq := jwid_sum (a := a) ((1, y) :: (1, x) :: r)
  simp only [List.map_cons, List.sum_cons] at hq
  refine va_mmax_long (rest := r.map (jc a)) (x := Int64.ofInt x) (y := Int64.ofInt y) hx hb hml hown (hT.w hlk _) (hT.w jsp_s3 _) (hT.w jsp_i _) (hT.w jsp_c3 _) hRf (by omega) hRc hRs hd ?_
  have e1 : (if Int64.ofInt y < Int64.ofInt x then Int64.ofInt x else Int64.ofInt y) = Int64.ofInt (cond (decide (jwl y < jwl x)) x y) := by
    by_cases hq : jwl y < jwl x
    · rw [if_pos ((jllt y x).mpr hq), decide_eq_true hq]; rfl
    · rw [if_neg (fun z => hq ((jllt y x).mp z)), decide_eq_false hq]; rfl
  rw [e1]
  exact h2
theorem jo_sp4 {w0 i : Nat} (hown : s.vm.findClass (jR w0) = some m.cls) (hlk : Cond.methodLink (jR w0) i Lib.MathLoose.min_long.x ∈ jAW) (hwd : jwid st ≤ 24) (hml : c.maxLocals = ls.size) (hRf : 1 ≤ R.frames) (hRl : 200 ≤ R.locals) (hRc : cells ≤ R.cells) (hRs : slots ≤ R.slots) (hx : p.tables.exec = Jvm.exec) (hb : c.code = cc) (hd : decode cc pc = .ok (.invokestatic i, 3)) (hT : jTw a s) (hP : jHp D aC a A s h.1 H locs) (hf : jFr a h.1.length nL L st ls) (hs : jl2 st (fun x y r => jnx (pc + 3) L ((1, cond (decide (jwl x < jwl y)) x y) :: r) h) = some (.inl ((pcN, LN, stN), h')))
    (k : jKn p l e R s m args below meth c Q D aC A nL a h cells slots pcN LN stN h') : W p l e R s m args below meth c H locs cells slots Q (F0 m pc ls (st.map (jc a))) := by
  obtain ⟨x, y, r, rfl, h1⟩ := jl2_some hs
  obtain ⟨rfl, rfl, rfl, rfl⟩ := jnx_some h1
  have h2 := k.same hP ⟨hf.1, hf.2.1, jS_cons (jwf_tag (by decide)) (jS_tail (jS_tail hf.2.2))⟩
  have hq := jwid_sum (a := a) ((1, y) :: (1, x) :: r)
  simp only [List.map_cons, List.sum_cons] at hq
  refine va_mmin_long (rest := r.map (jc a)) (x := Int64.ofInt x) (y := Int64.ofInt y) hx hb hml hown (hT.w hlk _) (hT.w jsp_s4 _) (hT.w jsp_i _) (hT.w jsp_c4 _) hRf (by omega) hRc hRs hd ?_
  have e1 : (if Int64.ofInt y < Int64.ofInt x then Int64.ofInt y else Int64.ofInt x) = Int64.ofInt (cond (decide (jwl x < jwl y)) x y) := by
    by_cases hq : jwl y < jwl x
    · rw [if_pos ((jllt y x).mpr hq), decide_eq_false (by omega)]; rfl
    · rw [if_neg (fun z => hq ((jllt y x).mp z))]
      by_cases hq2 : jwl x < jwl y
      · rw [decide_eq_true hq2]; rfl
      · rw [decide_eq_false hq2]
        exact (jleq x y).mpr (by omega)
  rw [e1]
  exact h2
theorem jo_sp5 {w0 i : Nat} (hown : s.vm.findClass (jR w0) = some m.cls) (hlk : Cond.methodLink (jR w0) i Lib.MathLoose.abs_long.x ∈ jAW) (hwd : jwid st ≤ 24) (hml : c.maxLocals = ls.size) (hRf : 1 ≤ R.frames) (hRl : 200 ≤ R.locals) (hRc : cells ≤ R.cells) (hRs : slots ≤ R.slots) (hx : p.tables.exec = Jvm.exec) (hb : c.code = cc) (hd : decode cc pc = .ok (.invokestatic i, 3)) (hT : jTw a s) (hP : jHp D aC a A s h.1 H locs) (hf : jFr a h.1.length nL L st ls) (hs : jl1 st (fun x r => jnx (pc + 3) L ((1, cond (decide (jwl x < 0)) (-x) x) :: r) h) = some (.inl ((pcN, LN, stN), h')))
    (k : jKn p l e R s m args below meth c Q D aC A nL a h cells slots pcN LN stN h') : W p l e R s m args below meth c H locs cells slots Q (F0 m pc ls (st.map (jc a))) := by
  obtain ⟨x, r, rfl, h1⟩ := jl1_some hs
  obtain ⟨rfl, rfl, rfl, rfl⟩ := jnx_some h1
  have h2 := k.same hP ⟨hf.1, hf.2.1, jS_cons (jwf_tag (by decide)) (jS_tail hf.2.2)⟩
  have hq := jwid_sum (a := a) ((1, x) :: r)
  simp only [List.map_cons, List.sum_cons] at hq
  refine va_mabs_long (rest := r.map (jc a)) (x := Int64.ofInt x) hx hb hml hown (hT.w hlk _) (hT.w jsp_s5 _) (hT.w jsp_i _) (hT.w jsp_c5 _) hRf (by omega) hRc hRs hd ?_
  have e1 : (if 0 < Int64.ofInt x then Int64.ofInt x else -Int64.ofInt x) = Int64.ofInt (cond (decide (jwl x < 0)) (-x) x) := by
    by_cases hq : jwl x < 0
    · rw [if_neg (fun z => by rw [j0l, jllt, jwl_0] at z; omega), decide_eq_true hq]
      exact (Int64.ofInt_neg x).symm
    · rw [decide_eq_false hq]
      show _ = Int64.ofInt x
      by_cases hq2 : 0 < jwl x
      · rw [if_pos (by rw [j0l, jllt, jwl_0]; exact hq2)]
      · rw [if_neg (fun z => by rw [j0l, jllt, jwl_0] at z; omega), ← Int64.ofInt_neg]
        have h0 : jwl x = 0 := by omega
        have h1 : Int64.ofInt x = Int64.ofInt 0 := (jleq x 0).mpr (by rw [h0, jwl_0])
        rw [Int64.ofInt_neg, h1]
        rfl
  rw [e1]
  exact h2
theorem jo_aast (hx : p.tables.exec = Jvm.exec) (hb : c.code = cc) (hd : decode cc pc = .ok (.aastore, 1)) (hT : jTw a s) (hK : va_K D vwCl (jTys aC) s) (hP : jHp D aC a A s h.1 H locs) (hf : jFr a h.1.length nL L st ls) (hs : jaast pc L st h = some (.inl ((pcN, LN, stN), h')))
    (k : jKn p l e R s m args below meth c Q D aC A nL a h cells slots pcN LN stN h') : W p l e R s m args below meth c H locs cells slots Q (F0 m pc ls (st.map (jc a))) := by
  unfold jaast at hs
  split at hs
  · rename_i x i z0 r
    replace hs := jcell_some hs
    obtain ⟨n, c0, rfl, hcell, hs⟩ := hs
    obtain ⟨kd, fs, cs⟩ := c0
    replace hs := jcond_some hs
    obtain ⟨hk, hs⟩ := hs
    obtain ⟨hk1, hk2⟩ := Bool.and_eq_true_iff.mp hk
    have hk1 : 110 ≤ kd := Nat.le_of_ble_eq_true hk1
    obtain ⟨r9, hr9⟩ := Option.isSome_iff_exists.mp hk2
    obtain ⟨t9, ht9⟩ := jaix_ok _ _ hr9
    split at hs
    · rename_i j hj
      replace hs := jcond_some hs
      obtain ⟨hl, hs⟩ := hs
      have hl2 : j < cs.length := Nat.le_of_ble_eq_true hl
      have h1 : (jws a aC h.1)[n]? = some (a.1 n, .inl (aC kd, cs.length, .inr (.inr (.inr (.inr (fun z => jopt a (cs.getD z (-1)))))))) := (jws_at hcell).trans (by rw [je_arr (by omega), jcont_q (by omega)])
      have fin : ∀ (y : Int), jwx h.1.length y → jKn p l e R s m args below meth c Q D aC A nL a h cells slots (pc + 1) L r (h.1.set n (kd, fs, cs.set j y), h.2) → ∀ (H1 : Heap) (locs1 : List Loc), va_P D vwCl ((jws a aC h.1).set n (a.1 n, .inl (aC kd, cs.length, .inr (.inr (.inr (.inr (va_up (fun z => jopt a (cs.getD z (-1))) (Int32.ofInt i).toNatClampNeg (jopt a y)))))))) H1 → va_D A ((jws a aC h.1).set n (a.1 n, .inl (aC kd, cs.length, .inr (.inr (.inr (.inr (va_up (fun z => jopt a (cs.getD z (-1))) (Int32.ofInt i).toNatClampNeg (jopt a y)))))))) → va_S A s.heap H1 locs1 → W p l e R s m args below meth c H1 locs1 cells slots Q (F0 m (pc + 1) ls (r.map (jc a))) := by
        intro y hy k H1 locs1 q1 q2 q3
        have ef : va_up (fun z => jopt a (cs.getD z (-1))) (Int32.ofInt i).toNatClampNeg (jopt a y) = (fun z => jopt a ((cs.set j y).getD z (-1))) := by
          funext z
          rw [jgetD_set hl2, jclamp hj]
          unfold va_up
          split <;> rfl
        have el : (cs.set j y).length = cs.length := List.length_set ..
        have e2 : (jws a aC h.1).set n (a.1 n, .inl (aC kd, cs.length, .inr (.inr (.inr (.inr (fun z => jopt a ((cs.set j y).getD z (-1)))))))) = jws a aC (h.1.set n (kd, fs, cs.set j y)) := by
          rw [jws_set, je_arr (by omega), jcont_q (by omega), el]
        rw [ef] at q1 q2
        rw [e2] at q1 q2
        exact k.put (List.length_set ..) ⟨q1, q2, q3, jwh_set hP.2.2.2 (jwc_set (jwh_at hP.2.2.2 hcell) (Or.inr (Or.inr (Or.inr hy))))⟩ ⟨hf.1, hf.2.1, jS_tail (jS_tail (jS_tail hf.2.2))⟩
      have hx4 : jwx h.1.length x := jS_head hf.2.2 rfl
      cases h130 : Nat.beq kd 130 with
      | true =>
        obtain rfl : kd = 130 := Nat.eq_of_beq_eq_true h130
        split at hs
        · obtain ⟨hz, -⟩ := jconn_some hs
          cases hz
        · rename_i b
          split at hs
          · rename_i d hd9
            replace hs := jcond_some hs
            obtain ⟨hz, hs⟩ := hs
            obtain ⟨kb, fsb, csb⟩ := d
            obtain rfl : kb = 100 := Nat.eq_of_beq_eq_true hz
            obtain ⟨rfl, rfl, rfl, rfl⟩ := jnx_some hs
            have hb1 : (jws a aC h.1)[b]? = some (a.1 b, .inl (aC 100, csb.length, .inl (fun z => Int32.ofInt (csb.getD z 0)))) := (jws_at hd9).trans (by rw [je_arr (by decide)]; rfl)
            obtain ⟨comp, cA, kA, f1, -, f2, f3, f4⟩ := arrayOverA_spec (hT.w jao_int args)
            have hcA : cA = aC 130 := Option.some.inj (f4.symm.trans (jK_nm hK (r := 7) rfl))
            have hcm : comp = aC 100 := Option.some.inj (f1.symm.trans (jK_nm hK (r := 0) rfl))
            subst hcA
            subst hcm
            obtain ⟨-, kv, hkv, -⟩ := (hK.2 0 _ (jTys_get (r := 0) rfl)).1 csb.length (fun z => .int (Int32.ofInt (csb.getD z 0)))
            refine W.aast (a := a.1 n) (v := a.1 b) (j := Int32.ofInt i) (rest := r.map (jc a)) hx hb (hP.1 n _ h1) (fun q h => by cases h) (fun h => by cases h) f2 f3 rfl hkv ⟨jnneg hj, by show _ < (arrV _ _ _).slots.size; rw [arrV_size, jclamp hj]; exact hl2⟩ (hP.1 b _ hb1) (fun q h => by cases h) hkv jassign rfl rfl hd (fun H1 e z oq => ?_)
            refine fin (Int.ofNat b) hx4 k H1 _ (hP.1.set hP.2.1 h1 ?_ oq) (hP.2.1.set h1) (hP.2.2.1.put z oq (hP.2.1.2 n _ h1))
            show H1[a.1 n]? = some (vp_cell _ _)
            rw [e]
            rw [vp_cell_q, vp_cell_q, arrV_store]
            congr 2
            funext q
            by_cases hq : q = (Int32.ofInt i).toNatClampNeg
            · subst hq
              simp [updV, va_up, va_rf, jopt]
            · simp [updV, va_up, hq]
          · cases hs
      | false =>
        have hne : kd ≠ 130 := fun h9 => by rw [h9] at h130; cases h130
        have hob := jAK_ob _ (List.mem_of_getElem? ht9) hk1 hne
        obtain ⟨q9, hq9, he9⟩ := Option.map_eq_some_iff.mp hob
        dsimp only at hq9 he9
        subst he9
        split at hs
        · rename_i b
          replace hs := jconn_some hs
          obtain ⟨-, hs⟩ := hs
          obtain ⟨rfl, rfl, rfl, rfl⟩ := jnx_some hs
          exact va_astqN (a := a.1 n) (C := q9.1) (rest := r.map (jc a)) hx hb hK hP.1 hP.2.1 hP.2.2.1 n r9 h1 (jTys_get ht9) (jin hj hl2) hd (fin (-1) jwx_null k)
        · rename_i b
          split at hs
          · rename_i d hd9
            replace hs := jcond_some hs
            obtain ⟨hz, hs⟩ := hs
            obtain ⟨kb, fsb, csb⟩ := d
            rw [show Nat.beq (kd, fs, cs).1 130 = false from h130] at hz
            have hz : 110 + kb = kd := Nat.eq_of_beq_eq_true hz
            have hkb : kd - 110 = kb := by omega
            rw [hkb] at hq9
            obtain ⟨rfl, rfl, rfl, rfl⟩ := jnx_some hs
            exact va_astq (a := a.1 n) (r := q9) (v := a.1 b) (vs := fsb.map (jc a)) (rest := r.map (jc a)) hx hb hK hP.1 hP.2.1 hP.2.2.1 n r9 b kb h1 (jTys_get ht9) ((jws_at hd9).trans (by rw [je_fld (jcl_lt hq9)])) hq9 (jin hj hl2) hd (fin (Int.ofNat b) hx4 k)
          · cases hs
    · cases hs
  · cases hs
theorem jarr_at {cA : ClassId} {n : Nat} {f : Nat → Value} {i : Nat} {v : Value} (h : (arrV cA n f).slots[i]? = some v) : ∃ j : Nat, j = i ∧ v = f i := by
  unfold arrV at h
  dsimp only at h
  rw [Array.getElem?_ofFn] at h
  split at h
  · exact ⟨i, rfl, (Option.some.inj h).symm⟩
  · cases h
theorem jcpy_len {f g : List Int} {sp dp n : Nat} (h1 : sp + n ≤ f.length) (h2 : dp + n ≤ g.length) : (jcpy f g sp dp n).length = g.length := by
  unfold jcpy
  simp only [List.length_append, List.length_take, List.length_drop]
  omega
theorem jcpy_at {f g : List Int} {sp dp n : Nat} (h1 : sp + n ≤ f.length) (h2 : dp + n ≤ g.length) (z : Nat) : (jcpy f g sp dp n).getD z 0 = if dp ≤ z ∧ z < dp + n then f.getD (sp + (z - dp)) 0 else g.getD z 0 := by
  unfold jcpy
  simp only [List.getD_eq_getElem?_getD]
  by_cases hz : z < dp
  · rw [List.getElem?_append_left (by rw [List.length_take]; omega), if_neg (by omega), List.getElem?_take_of_lt hz]
  · rw [List.getElem?_append_right (by rw [List.length_take]; omega), List.length_take, Nat.min_eq_left (by omega)]
    by_cases hz2 : z < dp + n
    · rw [if_pos ⟨by omega, hz2⟩, List.getElem?_append_left (by rw [List.length_take, List.length_drop]; omega), List.getElem?_take_of_lt (by omega), List.getElem?_drop]
    · rw [if_neg (by omega), List.getElem?_append_right (by rw [List.length_take, List.length_drop]; omega), List.length_take, List.length_drop, List.getElem?_drop]
      congr 2
      omega
theorem jo_clone {k9 : Nat} {w0 i : Nat} (hown : s.vm.findClass (jR w0) = some m.cls) (hlk : Cond.methodLink (jR w0) i ⟨jKN k9, "clone", "()Ljava/lang/Object;"⟩ ∈ jAW) (hwd : jwid st ≤ 24) (hml : c.maxLocals = ls.size) (hRf : 1 ≤ R.frames) (hRl : 200 ≤ R.locals) (hA : ∀ q, s.heap.size ≤ q → A q) (hx : p.tables.exec = Jvm.exec) (hb : c.code = cc) (hd : decode cc pc = .ok (.invokevirtual i, 3)) (hT : jTw a s) (hK : va_K D vwCl (jTys aC) s) (hP : jHp D aC a A s h.1 H locs) (hf : jFr a h.1.length nL L st ls) (hr1 : h'.2.1 + cells ≤ h.2.1 + R.cells) (hr2 : h'.2.2 + slots ≤ h.2.2 + R.slots) (hs : (match st with
    | (4, a) :: r => jcell h a (fun c => cond (Nat.beq c.1 k9 && (Nat.beq c.1 100 || Nat.beq c.1 114 || Nat.beq c.1 117)) (jnew pc 3 L r h c c.2.2.length) none)
    | _ => none) = some (.inl ((pcN, LN, stN), h')))
    (k : jKn p l e R s m args below meth c Q D aC A nL a h cells slots pcN LN stN h') : W p l e R s m args below meth c H locs cells slots Q (F0 m pc ls (st.map (jc a))) := by
  split at hs
  · rename_i x r
    replace hs := jcell_some hs
    obtain ⟨n, c0, rfl, hcell, hs⟩ := hs
    obtain ⟨kd, fs, cs⟩ := c0
    replace hs := jcond_some hs
    obtain ⟨hk, hs⟩ := hs
    obtain ⟨hk, hk3⟩ := Bool.and_eq_true_iff.mp hk
    obtain rfl : kd = k9 := Nat.eq_of_beq_eq_true hk
    obtain ⟨rfl, rfl, rfl, rfl⟩ := jnew_some hs
    have hq := jwid_sum (a := a) ((4, Int.ofNat n) :: r)
    rw [List.map_cons, List.map_cons, List.sum_cons] at hq
    have key : ∃ (r9 : Nat) (t9 : FieldType), jAK[r9]? = some (kd, t9) ∧ 100 ≤ kd ∧ Cond.sameMethod (jKN kd) "java/lang/Object" "clone" "()Ljava/lang/Object;" ∈ jAW ∧ Cond.selects (jKN kd) ⟨jKN kd, "clone", "()Ljava/lang/Object;"⟩ ⟨"java/lang/Object", "clone", "()Ljava/lang/Object;"⟩ ∈ jAW ∧ Cond.castable (jKN kd) "java/lang/Cloneable" ∈ jAW ∧ ∀ (i : Nat) (v : Value), (vp_cell (aC kd) (cs.length, jcont a (kd, fs, cs))).slots[i]? = some v → fits t9 v = true := by
      rcases Bool.or_eq_true_iff.mp hk3 with h9 | h9
      · rcases Bool.or_eq_true_iff.mp h9 with h9 | h9
        · obtain rfl : kd = 100 := Nat.eq_of_beq_eq_true h9
          refine ⟨0, .int, rfl, by decide, jcn_100.1, jcn_100.2.1, jcn_100.2.2, fun i v hv => ?_⟩
          obtain ⟨j, -, rfl⟩ := jarr_at hv
          rfl
        · obtain rfl : kd = 114 := Nat.eq_of_beq_eq_true h9
          refine ⟨3, _, rfl, by decide, jcn_114.1, jcn_114.2.1, jcn_114.2.2, fun i v hv => ?_⟩
          obtain ⟨j, -, rfl⟩ := jarr_at hv
          show fits _ (va_rf (jopt a (cs.getD i (-1)))) = true
          cases jopt a (cs.getD i (-1)) <;> rfl
      · obtain rfl : kd = 117 := Nat.eq_of_beq_eq_true h9
        refine ⟨4, _, rfl, by decide, jcn_117.1, jcn_117.2.1, jcn_117.2.2, fun i v hv => ?_⟩
        obtain ⟨j, -, rfl⟩ := jarr_at hv
        show fits _ (va_rf (jopt a (cs.getD i (-1)))) = true
        cases jopt a (cs.getD i (-1)) <;> rfl
    obtain ⟨r9, t9, ht9, h100, w1, w2, w3, hfit⟩ := key
    have hnm := jK_nm hK ht9
    rw [← jAK_nm _ (List.mem_of_getElem? ht9)] at hnm
    have h1 : (jws a aC h.1)[n]? = some (a.1 n, .inl (aC kd, cs.length, jcont a (kd, fs, cs))) := (jws_at hcell).trans (by rw [je_arr h100])
    refine va_clone (a := a.1 n) (rest := r.map (jc a)) (ad := jKN kd) hx hb hml hown (hT.w hlk _) (hT.w w1 _) (hT.w jcn_n _) (hT.w jcn_i _) (hT.w w2 _) (hT.w w3 _) hK hP.1 hP.2.1 hP.2.2.1 hA n r9 h1 (jTys_get ht9) hnm hfit hRf (by omega) (by dsimp only at hr1; omega) (by dsimp only at hr2 ⊢; omega) hd (fun q H1 hK1 q1 q2 q3 => ?_)
    exact k.new hP.2.2.2 (jwh_at hP.2.2.2 hcell) (je_arr h100).symm q1 q2 q3 ⟨hf.1, hf.2.1, jS_tail hf.2.2⟩
  · cases hs
theorem jnfw : nativeFrameWords "java/lang/System" "arraycopy" 5 ≤ 100 := by decide +kernel
theorem jo_copy {w0 i : Nat} (hown : s.vm.findClass (jR w0) = some m.cls) (hlk : Cond.methodLink (jR w0) i arraycopyName ∈ jAW) (hwd : jwid st ≤ 24) (hml : c.maxLocals = ls.size) (hRf : 1 ≤ R.frames) (hRl : 200 ≤ R.locals) (hx : p.tables.exec = Jvm.exec) (hb : c.code = cc) (hd : decode cc pc = .ok (.invokestatic i, 3)) (hT : jTw a s) (hK : va_K D vwCl (jTys aC) s) (hP : jHp D aC a A s h.1 H locs) (hf : jFr a h.1.length nL L st ls) (hs : jcopy pc L st h = some (.inl ((pcN, LN, stN), h')))
    (k : jKn p l e R s m args below meth c Q D aC A nL a h cells slots pcN LN stN h') : W p l e R s m args below meth c H locs cells slots Q (F0 m pc ls (st.map (jc a))) := by
  unfold jcopy at hs
  split at hs
  · rename_i nn dp x2 sp x1 r
    replace hs := jcell_some hs
    obtain ⟨n1, c1, rfl, hc1, hs⟩ := hs
    replace hs := jcell_some hs
    obtain ⟨n2, c2, rfl, hc2, hs⟩ := hs
    obtain ⟨kd, fs, cs⟩ := c1
    obtain ⟨kd2, fs2, ds⟩ := c2
    replace hs := jcond_some hs
    obtain ⟨hk, hs⟩ := hs
    obtain ⟨hk, hk2⟩ := Bool.and_eq_true_iff.mp hk
    obtain rfl : kd = kd2 := Nat.eq_of_beq_eq_true hk
    have hq := jwid_sum (a := a) ((0, nn) :: (0, dp) :: (4, Int.ofNat n2) :: (0, sp) :: (4, Int.ofNat n1) :: r)
    simp only [List.map_cons, List.sum_cons] at hq
    split at hs
    · rename_i s0 d0 m0 hsp hdp hnn
      replace hs := jcond_some hs
      obtain ⟨hl, hs⟩ := hs
      obtain ⟨hl1, hl2⟩ := Bool.and_eq_true_iff.mp hl
      have hm1 : s0 + m0 ≤ cs.length := Nat.le_of_ble_eq_true hl1
      have hm2 : d0 + m0 ≤ ds.length := Nat.le_of_ble_eq_true hl2
      obtain ⟨rfl, rfl, rfl, rfl⟩ := jnx_some hs
      rcases Bool.or_eq_true_iff.mp hk2 with h9 | h9
      · obtain rfl : kd = 100 := Nat.eq_of_beq_eq_true h9
        have h1 : (jws a aC h.1)[n1]? = some (a.1 n1, .inl (aC 100, cs.length, .inl (fun z => Int32.ofInt (cs.getD z 0)))) := (jws_at hc1).trans (by rw [je_arr (by decide)]; rfl)
        have h2 : (jws a aC h.1)[n2]? = some (a.1 n2, .inl (aC 100, ds.length, .inl (fun z => Int32.ofInt (ds.getD z 0)))) := (jws_at hc2).trans (by rw [je_arr (by decide)]; rfl)
        refine va_copyi (a := a.1 n2) (a0 := a.1 n1) (rest := r.map (jc a)) hx hb hml hown (hT.w hlk _) (hT.w jsp_an _) (hT.w jsp_as _) (hT.w jsp_ai _) hK hP.1 hP.2.1 hP.2.2.1 n1 n2 0 0 h1 h2 (jTys_get (r := 0) rfl) (jTys_get (r := 0) rfl) rfl (jnneg hsp) (jnneg hdp) (jnneg hnn) (by rw [jclamp hsp, jclamp hnn]; exact hm1) (by rw [jclamp hdp, jclamp hnn]; exact hm2) (fun _ _ => rfl) hRf (by have := jnfw; omega) hd (fun H1 locs1 q1 q2 q3 => ?_)
        rw [jclamp hsp, jclamp hdp, jclamp hnn] at q1 q2
        have ef : va_cpy (fun z => Int32.ofInt (cs.getD z 0)) (fun z => Int32.ofInt (ds.getD z 0)) s0 d0 m0 = (fun z => Int32.ofInt ((jcpy cs ds s0 d0 m0).getD z 0)) := by
          funext z
          rw [jcpy_at hm1 hm2]
          unfold va_cpy
          split <;> rfl
        have el : (jcpy cs ds s0 d0 m0).length = ds.length := jcpy_len hm1 hm2
        have e2 : (jws a aC h.1).set n2 (a.1 n2, .inl (aC 100, ds.length, .inl (fun z => Int32.ofInt ((jcpy cs ds s0 d0 m0).getD z 0)))) = jws a aC (h.1.set n2 (100, fs2, jcpy cs ds s0 d0 m0)) := by
          rw [jws_set, je_arr (by decide), el]
          rfl
        rw [ef] at q1 q2
        rw [e2] at q1 q2
        exact k.put (List.length_set ..) ⟨q1, q2, q3, jwh_set hP.2.2.2 ⟨(jwh_at hP.2.2.2 hc2).1, fun w1 w2 w3 => absurd rfl (by assumption)⟩⟩ ⟨hf.1, hf.2.1, jS_tail (jS_tail (jS_tail (jS_tail (jS_tail hf.2.2))))⟩
      · obtain rfl : kd = 101 := Nat.eq_of_beq_eq_true h9
        have h1 : (jws a aC h.1)[n1]? = some (a.1 n1, .inl (aC 101, cs.length, .inr (.inl (fun z => Int64.ofInt (cs.getD z 0))))) := (jws_at hc1).trans (by rw [je_arr (by decide)]; rfl)
        have h2 : (jws a aC h.1)[n2]? = some (a.1 n2, .inl (aC 101, ds.length, .inr (.inl (fun z => Int64.ofInt (ds.getD z 0))))) := (jws_at hc2).trans (by rw [je_arr (by decide)]; rfl)
        refine va_copyl (a := a.1 n2) (a0 := a.1 n1) (rest := r.map (jc a)) hx hb hml hown (hT.w hlk _) (hT.w jsp_an _) (hT.w jsp_as _) (hT.w jsp_ai _) hK hP.1 hP.2.1 hP.2.2.1 n1 n2 1 1 h1 h2 (jTys_get (r := 1) rfl) (jTys_get (r := 1) rfl) rfl (jnneg hsp) (jnneg hdp) (jnneg hnn) (by rw [jclamp hsp, jclamp hnn]; exact hm1) (by rw [jclamp hdp, jclamp hnn]; exact hm2) (fun _ _ => rfl) hRf (by have := jnfw; omega) hd (fun H1 locs1 q1 q2 q3 => ?_)
        rw [jclamp hsp, jclamp hdp, jclamp hnn] at q1 q2
        have ef : va_cpy (fun z => Int64.ofInt (cs.getD z 0)) (fun z => Int64.ofInt (ds.getD z 0)) s0 d0 m0 = (fun z => Int64.ofInt ((jcpy cs ds s0 d0 m0).getD z 0)) := by
          funext z
          rw [jcpy_at hm1 hm2]
          unfold va_cpy
          split <;> rfl
        have el : (jcpy cs ds s0 d0 m0).length = ds.length := jcpy_len hm1 hm2
        have e2 : (jws a aC h.1).set n2 (a.1 n2, .inl (aC 101, ds.length, .inr (.inl (fun z => Int64.ofInt ((jcpy cs ds s0 d0 m0).getD z 0))))) = jws a aC (h.1.set n2 (101, fs2, jcpy cs ds s0 d0 m0)) := by
          rw [jws_set, je_arr (by decide), el]
          rfl
        rw [ef] at q1 q2
        rw [e2] at q1 q2
        exact k.put (List.length_set ..) ⟨q1, q2, q3, jwh_set hP.2.2.2 ⟨(jwh_at hP.2.2.2 hc2).1, fun w1 w2 w3 => absurd rfl (by assumption)⟩⟩ ⟨hf.1, hf.2.1, jS_tail (jS_tail (jS_tail (jS_tail (jS_tail hf.2.2))))⟩
    · cases hs
  · cases hs
theorem vr_inner {c : ClassId} {k : Nat} {v : Value} : Jvm.Free.Multi.innerC c k v = arrV c k (fun _ => v) := by
  rw [← arrV_new]
  rfl
theorem jws_cat {a : JA} {aC : Nat → ClassId} {h g : List JC} : jws a aC (h ++ g) = jws a aC h ++ g.mapIdx (fun k c => (a.1 (h.length + k), je a aC c)) := by
  unfold jws
  rw [List.mapIdx_append]
  congr 2
  funext k c
  rw [Nat.add_comm]
theorem jo_newm {dd : Nat} {w0 i : Nat} (hown : s.vm.findClass (jR w0) = some m.cls) (hA : ∀ q, s.heap.size ≤ q → A q) (hx : p.tables.exec = Jvm.exec) (hb : c.code = cc) (hd : decode cc pc = .ok (.multianewarray i dd, 4)) (hT : jTw a s) (hK : va_K D vwCl (jTys aC) s) (hP : jHp D aC a A s h.1 H locs) (hf : jFr a h.1.length nL L st ls) (hr1 : h'.2.1 + cells ≤ h.2.1 + R.cells) (hr2 : h'.2.2 + slots ≤ h.2.2 + R.slots) (hs : jnewm (jpool w0 i) dd pc L st h = some (.inl ((pcN, LN, stN), h')))
    (k : jKn p l e R s m args below meth c Q D aC A nL a h cells slots pcN LN stN h') : W p l e R s m args below meth c H locs cells slots Q (F0 m pc ls (st.map (jc a))) := by
  unfold jnewm at hs
  have hok := jpool_ok w0 i
  generalize jpool w0 i = E at hs hok
  obtain ⟨cd, ci, b⟩ := E
  replace hs := ji2_some hs
  obtain ⟨x, y, r, rfl, hs⟩ := hs
  split at hs
  · rename_i n z hn hz
    replace hs := jcond_some hs
    obtain ⟨hc, hs⟩ := hs
    obtain ⟨hc, hz2⟩ := Bool.and_eq_true_iff.mp hc
    obtain ⟨hc, hn2⟩ := Bool.and_eq_true_iff.mp hc
    obtain ⟨hc, hd2⟩ := Bool.and_eq_true_iff.mp hc
    obtain ⟨hc6, hc130⟩ := Bool.and_eq_true_iff.mp hc
    have hn2 : n ≤ 1000 := Nat.le_of_ble_eq_true hn2
    have hz2 : z ≤ 100000 := Nat.le_of_ble_eq_true hz2
    obtain rfl : cd = 6 := Nat.eq_of_beq_eq_true hc6
    obtain rfl : ci = 130 := Nat.eq_of_beq_eq_true hc130
    obtain rfl : dd = 2 := Nat.eq_of_beq_eq_true hd2
    have hok : jWd (.classLink (jR w0) i (jKN 130)) := hok
    obtain ⟨rfl, rfl, rfl, rfl⟩ := jnx_some hs
    have hlx : (Int32.ofInt x).toNatClampNeg = n := jclamp hn
    have hly : (Int32.ofInt y).toNatClampNeg = z := jclamp hz
    have hmul : n * 4 ≤ 536870912 := by omega
    have hP1 : va_P D vwCl (jws a aC h.1 ++ va_pl [] (fun _ => .inr (0, []))) H := by
      show va_P D vwCl (jws a aC h.1 ++ []) H
      rw [List.append_nil]
      exact hP.1
    have hD1 : va_D A (jws a aC h.1 ++ va_pl [] (fun _ => .inr (0, []))) := by
      show va_D A (jws a aC h.1 ++ [])
      rw [List.append_nil]
      exact hP.2.1
    refine va_mna (X := jws a aC h.1) (L := []) (f := fun _ => .inr (0, [])) (rest := r.map (jc a)) (ty := .int) (cy := aC 100) (N' := n) (K' := z) (z := (z, .inl (fun _ => Int32.ofInt 0))) hx hb hown (hT.w hok.aw _) (va_AOA.of (hT.w jao_int args)) (hT.w jaw_int _) (jK_nm hK (r := 0) rfl) hK hP1 hD1 hP.2.2.1 hA (jnneg hn) (jnneg hz) hlx hly (by omega) (by show z * 4 ≤ 536870912; omega) (by omega) rfl rfl (by dsimp only at hr1; omega) (by dsimp only at hr2; omega) (fun c => by rw [vr_inner]; rfl) hd (fun q rr cA H1 hinj hnin hK1 q1 q2 q3 => ?_)
    obtain rfl := jK_new hK (r := 7) rfl hK1
    obtain ⟨a9, ha9⟩ : ∃ a9 : JA, a9 = (fun k => if k = h.1.length then q else if h.1.length < k then rr (k - h.1.length - 1) else a.1 k, a.2) := ⟨_, rfl⟩
    have hag : jagr h.1.length a a9 := by
      rw [ha9]
      exact ⟨rfl, fun k hk => by show a.1 k = if k = h.1.length then q else if h.1.length < k then rr (k - h.1.length - 1) else a.1 k; rw [if_neg (by omega), if_neg (by omega)]⟩
    have h9q : a9.1 h.1.length = q := by rw [ha9]; exact if_pos rfl
    have h9r : ∀ j, a9.1 (h.1.length + 1 + j) = rr j := fun j => by
      rw [ha9]
      show (if h.1.length + 1 + j = h.1.length then q else if h.1.length < h.1.length + 1 + j then rr (h.1.length + 1 + j - h.1.length - 1) else _) = _
      rw [if_neg (by omega), if_pos (by omega)]
      congr 1
      omega
    have hlen : (h.1 ++ ((130, [], (List.range n).map (fun j => ((h.1.length + 1 + j : Nat) : Int))) :: List.replicate n ((100, [], List.replicate z 0) : JC))).length = h.1.length + (n + 1) := by
      simp
    have e1 : ((jws a aC h.1 ++ [(q, .inl (aC 130, n, .inr (.inr (.inr (.inr (fun i => if i < n then some (rr i) else none))))))]) ++ va_pl ([] ++ (List.range n).map rr) (vr_up (fun _ => .inr (0, [])) ((List.range n).map rr) (.inl (aC 100, (z, .inl (fun _ => Int32.ofInt 0)))))) = jws a9 aC (h.1 ++ ((130, [], (List.range n).map (fun j => ((h.1.length + 1 + j : Nat) : Int))) :: List.replicate n (100, [], List.replicate z 0))) := by
      rw [jws_cat, ← jws_ext hag hP.2.2.2, List.append_assoc]
      congr 1
      apply List.ext_getElem?
      intro k
      rw [List.getElem?_mapIdx]
      cases k with
      | zero =>
        show some (q, _) = some (a9.1 h.1.length, je a9 aC (130, [], _))
        rw [h9q, je_arr (by decide), jcont_q (by decide)]
        show some (q, Sum.inl (aC 130, n, _)) = some (q, Sum.inl (aC 130, ((List.range n).map _).length, _))
        rw [List.length_map, List.length_range]
        have ef : (fun i => if i < n then some (rr i) else none) = (fun j => jopt a9 (((List.range n).map (fun j => ((h.1.length + 1 + j : Nat) : Int))).getD j (-1))) := by
          funext j
          rw [List.getD_eq_getElem?_getD, List.getElem?_map]
          by_cases hj : j < n
          · rw [if_pos hj, List.getElem?_range hj]
            show some (rr j) = some (a9.1 (h.1.length + 1 + j))
            rw [h9r]
          · rw [if_neg hj, List.getElem?_eq_none (by rw [List.length_range]; omega)]
            rfl
        rw [ef]
      | succ k =>
        show (va_pl ((List.range n).map rr) _)[k]? = Option.map _ (List.replicate n _)[k]?
        unfold va_pl
        rw [List.getElem?_map, List.getElem?_map]
        by_cases hk : k < n
        · rw [List.getElem?_range hk, List.getElem?_replicate, if_pos hk]
          show some (rr k, vr_up _ _ _ (rr k)) = some (a9.1 (h.1.length + (k + 1)), je a9 aC (100, [], List.replicate z 0))
          rw [vr_up_in (List.mem_map.mpr ⟨k, List.mem_range.mpr hk, rfl⟩), show h.1.length + (k + 1) = h.1.length + 1 + k by omega, h9r, je_arr (by decide)]
          have e3 : jcont a9 (100, [], List.replicate z (0 : Int)) = .inl (fun _ => Int32.ofInt 0) := by
            unfold jcont
            simp only [jrepl]
          rw [e3, List.length_replicate]
        · rw [List.getElem?_eq_none (by rw [List.length_range]; omega), List.getElem?_replicate, if_neg hk]
          rfl
    rw [e1] at q1 q2
    have hn9 : h.1.length ≤ (h.1 ++ ((130, [], (List.range n).map (fun j => ((h.1.length + 1 + j : Nat) : Int))) :: List.replicate n ((100, [], List.replicate z 0) : JC))).length := by rw [hlen]; omega
    have hf2 := jFr_ext (⟨hf.1, hf.2.1, jS_tail (jS_tail hf.2.2)⟩ : jFr a h.1.length nL L r ls) hag hn9
    have hwh : jwh (h.1 ++ ((130, [], (List.range n).map (fun j => ((h.1.length + 1 + j : Nat) : Int))) :: List.replicate n ((100, [], List.replicate z 0) : JC))) := by
      intro c9 hc9
      rw [hlen]
      rcases List.mem_append.mp hc9 with hc9 | hc9
      · exact jwc_mono (hP.2.2.2 c9 hc9) (by omega)
      · rcases List.mem_cons.mp hc9 with hc9 | hc9
        · rw [hc9]
          refine ⟨(fun v hv => nomatch hv), fun _ _ _ y hy => ?_⟩
          obtain ⟨j, hj, rfl⟩ := List.mem_map.mp hy
          have := List.mem_range.mp hj
          show h.1.length + 1 + j < h.1.length + (n + 1)
          omega
        · rw [(List.mem_replicate.mp hc9).2]
          exact ⟨(fun v hv => nomatch hv), fun h1 => absurd rfl h1⟩
    have h2 := k a9 H1 locs ls (cells + 1 + n) (slots + n + n * z) hag hn9 ⟨q1, q2, q3, hwh⟩ ⟨hf2.1, hf2.2.1, jS_cons (fun _ => by show h.1.length < _; rw [hlen]; omega) hf2.2.2⟩ (by show h.2.1 + (n + 1) + cells = _; omega) (by show h.2.2 + (n + n * z) + slots = _; omega)
    have e2 : ((4, (h.1.length : Int)) :: r).map (jc a9) = .ref q :: r.map (jc a) := by
      rw [List.map_cons, ← jcs_ext hag (jS_tail (jS_tail hf.2.2))]
      show Value.ref (a9.1 h.1.length) :: _ = _
      rw [h9q]
    rw [e2] at h2
    exact h2
  · cases hs
end JHS
