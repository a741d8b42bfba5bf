/-! the little machine, part 10: steps that make cells, copies, the JDK's own methods, switches -/
section JHS
variable {p : Program} {l : Launch} {e : Env} {R : Room} {s : State} {m : MethodId} {args : Array Value} {below : List Frame} {meth : Method} {c : Code} {H : Heap} {locs : List Loc} {cells slots : Nat} {Q : State → Prop} {cc : ByteArray}
variable {D : va_G} {aC : Nat → ClassId} {A : Nat → Prop} {xs : List Int} {a : JA} {nL : Nat} {L L' : JL} {st st' : List JV} {ls : Array Slot} {pc pc' : Nat} {h h' : JH}
theorem jKn.new {c0 : JC} {q : Nat} {e0 : va_E} {r : List JV} {sz : Nat} (K : jKn p l e R s m args below meth c Q D aC A nL a h cells slots pc' L ((4, (h.1.length : Int)) :: r) (h.1 ++ [c0], h.2.1 + 1, h.2.2 + sz)) (hw : jwh h.1) (hc : jwc h.1.length c0) (he : e0 = je a aC c0)
    (q1 : va_P D vwCl (jws a aC h.1 ++ [(q, e0)]) H) (q2 : va_D A (jws a aC h.1 ++ [(q, e0)])) (q3 : va_S A s.heap H locs) (hf : jFr a h.1.length nL L r ls) : W p l e R s m args below meth c H locs (cells + 1) (slots + sz) Q (F0 m pc' ls (.ref q :: r.map (jc a))) := by
  have hag : jagr h.1.length a (jadd a h.1.length q) := jadd_agr
  have hn : h.1.length ≤ (h.1 ++ [c0]).length := by rw [List.length_append]; exact Nat.le_add_right _ _
  have e1 : jws a aC h.1 ++ [(q, e0)] = jws (jadd a h.1.length q) aC (h.1 ++ [c0]) := by
    rw [jws_push hw, he, je_ext hag hc]
  rw [e1] at q1 q2
  have hf2 := jFr_ext hf hag hn
  have h4 : jwf (h.1 ++ [c0]).length (4, (h.1.length : Int)) := fun _ => by
    show h.1.length < (h.1 ++ [c0]).length
    rw [List.length_append]
    exact Nat.lt_succ_self _
  have h2 := K (jadd a h.1.length q) H locs ls (cells + 1) (slots + sz) hag hn ⟨q1, q2, q3, jwh_push hw (jwc_mono hc (Nat.le_add_right _ _))⟩ ⟨hf2.1, hf2.2.1, jS_cons h4 hf2.2.2⟩ (by show h.2.1 + 1 + cells = _; omega) (by show h.2.2 + sz + slots = _; omega)
  have e2 : ((4, (h.1.length : Int)) :: r).map (jc (jadd a h.1.length q)) = .ref q :: r.map (jc a) := by
    rw [List.map_cons, ← jcs_ext hag hf.2.2]
    show Value.ref ((jadd a h.1.length q).1 h.1.length) :: _ = _
    rw [jadd_at]
  rw [e2] at h2
  exact h2
theorem jnew_some {n sz : Nat} {r : List JV} {c0 : JC} (q : jnew pc n L r h c0 sz = some (.inl ((pc', L', st'), h'))) : pc + n = pc' ∧ L = L' ∧ (4, (h.1.length : Int)) :: r = st' ∧ (h.1 ++ [c0], h.2.1 + 1, h.2.2 + sz) = h' := by
  cases q
  exact ⟨rfl, rfl, rfl, rfl⟩
theorem jo_new {w0 i mm : Nat} (hown : s.vm.findClass (jR w0) = some m.cls) (hA : ∀ q, s.heap.size ≤ q → A q) (hx : p.tables.exec = Jvm.exec) (hb : c.code = cc) (hd : decode cc pc = .ok (.new i, 3)) (hT : jTw a s) (hK : va_K D vwCl (jTys aC) s) (hP : jHp D aC a A s h.1 H locs) (hf : jFr a h.1.length nL L st ls) (hr1 : h'.2.1 + cells ≤ h.2.1 + R.cells) (hr2 : h'.2.2 + slots ≤ h.2.2 + R.slots) (hs : jnewo (jpool w0 i) mm pc L st h = some (.inl ((pc', L', st'), h')))
    (k : jKn p l e R s m args below meth c Q D aC A nL a h cells slots pc' L' st' h') : W p l e R s m args below meth c H locs cells slots Q (F0 m pc ls (st.map (jc a))) := by
  unfold jnewo at hs
  have hok := jpool_ok w0 i
  generalize jpool w0 i = E at hs hok
  obtain ⟨cd, ci, b⟩ := E
  dsimp only at hs
  split at hs
  · obtain ⟨hc, hs⟩ := jcond_some hs
    obtain ⟨h15, h2⟩ := Bool.and_eq_true_iff.mp hc
    have h15 : ci < 15 := Nat.le_of_ble_eq_true h15
    have h2 : 2 ≤ ci := Nat.le_of_ble_eq_true h2
    obtain ⟨rfl, rfl, rfl, rfl⟩ := jnew_some hs
    obtain ⟨q, hq⟩ : ∃ q, vwCl[ci]? = some q := ⟨_, List.getElem?_eq_getElem (show ci < vwCl.length from h15)⟩
    obtain ⟨C, T, N⟩ := q
    obtain ⟨h0, h1, hinst, hini, hCR, hCK, hlen, ty, hty, htt, hdf⟩ := jcl_ok ci C T N hq h2
    have hok : jWd (.classLink (jR w0) i (jKN ci)) := hok
    rw [← hCK] at hok
    have hfs : ∀ j, j < N → defaultValue (ty j) = vp_V ((jdf ci).map (jc a)) j := by
      intro j hj
      have h15 := (htt j hj).2.2.2
      show _ = ((jdf ci).map (jc a)).getD j .null
      rw [List.getD_eq_getElem?_getD, List.getElem?_map, hdf j hj]
      cases hz : ty j with
      | object n => rfl
      | array n => rfl
      | int => rfl
      | long => rfl
      | float => rfl
      | double => rfl
      | boolean => rfl
      | _ => rw [hz] at h15; exact absurd rfl h15
    rw [hlen] at hr2 k
    refine va_new (D := D) (rest := st.map (jc a)) (ci := ci) (C := C) (T := T) (N := N) (Ts := jAW) hx hb (fun w hw => hT.w hw _) (fun w hw => jGW_aw (h0 w hw)) ty hty hown (hT.w hok.aw _) (hT.w hinst.aw _) (hT.w hini.aw _) hK hP.1 hP.2.1 hP.2.2.1 hA hq hfs (by dsimp only at hr1; omega) (by dsimp only at hr2; omega) hd (fun q H1 q1 q2 q3 => ?_)
    exact k.new hP.2.2.2 ⟨jdf_wf h15, fun _ _ _ x hx => nomatch hx⟩ (je_fld (by omega)).symm q1 q2 q3 hf
  · obtain ⟨hc, hs⟩ := jcond_some hs
    split at hs
    · obtain ⟨hc, hs⟩ := jcond_some hs
      split at hs
      · cases hs
      · cases hs
    · cases hs
  · cases hs
theorem jo_newa {t : ArrayType} (hA : ∀ q, s.heap.size ≤ q → A q) (hx : p.tables.exec = Jvm.exec) (hb : c.code = cc) (hd : decode cc pc = .ok (.newarray t, 2)) (hT : jTw a s) (hK : va_K D vwCl (jTys aC) s) (hP : jHp D aC a A s h.1 H locs) (hf : jFr a h.1.length nL L st ls) (hr1 : h'.2.1 + cells ≤ h.2.1 + R.cells) (hr2 : h'.2.2 + slots ≤ h.2.2 + R.slots) (hs : jnewa t pc L st h = some (.inl ((pc', L', st'), h')))
    (k : jKn p l e R s m args below meth c Q D aC A nL a h cells slots pc' L' st' h') : W p l e R s m args below meth c H locs cells slots Q (F0 m pc ls (st.map (jc a))) := by
  unfold jnewa at hs
  obtain ⟨x, r, rfl, hs⟩ := ji1_some hs
  split at hs
  · rename_i n hn
    obtain ⟨hc, hs⟩ := jcond_some hs
    have hc : n ≤ 100000 := Nat.le_of_ble_eq_true hc
    split at hs
    · obtain ⟨rfl, rfl, rfl, rfl⟩ := jnew_some hs
      have hlt : (Int32.ofInt x).toNatClampNeg = n := jclamp hn
      refine va_newa (rest := r.map (jc a)) (atype := .int) (ty := .int) (N' := n) (a0 := (n, .inl (fun _ => Int32.ofInt 0))) hx hb (hT.w jaw_int _) rfl hK hP.1 hP.2.1 hP.2.2.1 hA (fun cA => rfl) (jnneg hn) hlt (by show n * _ ≤ _; unfold componentBytes; omega) (by dsimp only at hr1; omega) (by dsimp only at hr2; omega) hd (fun q cA H1 hK1 q1 q2 q3 => ?_)
      obtain rfl := jK_new hK (r := 0) rfl hK1
      refine k.new hP.2.2.2 ⟨fun v hv => nomatch hv, fun h1 h2 h3 => absurd rfl (by assumption)⟩ ?_ q1 q2 q3 ⟨hf.1, hf.2.1, jS_tail hf.2.2⟩
      rw [je_arr (by decide)]
      show Sum.inl (aC 100, n, _) = Sum.inl (aC 100, (List.replicate n (0 : Int)).length, .inl (fun z => Int32.ofInt ((List.replicate n (0 : Int)).getD z 0)))
      rw [List.length_replicate]
      simp only [jrepl]
    · obtain ⟨rfl, rfl, rfl, rfl⟩ := jnew_some hs
      have hlt : (Int32.ofInt x).toNatClampNeg = n := jclamp hn
      refine va_newa (rest := r.map (jc a)) (atype := .long) (ty := .long) (N' := n) (a0 := (n, .inr (.inl (fun _ => Int64.ofInt 0)))) hx hb (hT.w jaw_long _) rfl hK hP.1 hP.2.1 hP.2.2.1 hA (fun cA => rfl) (jnneg hn) hlt (by show n * _ ≤ _; unfold componentBytes; omega) (by dsimp only at hr1; omega) (by dsimp only at hr2; omega) hd (fun q cA H1 hK1 q1 q2 q3 => ?_)
      obtain rfl := jK_new hK (r := 1) rfl hK1
      refine k.new hP.2.2.2 ⟨fun v hv => nomatch hv, fun h1 h2 h3 => absurd rfl (by assumption)⟩ ?_ q1 q2 q3 ⟨hf.1, hf.2.1, jS_tail hf.2.2⟩
      rw [je_arr (by decide)]
      show Sum.inl (aC 101, n, _) = Sum.inl (aC 101, (List.replicate n (0 : Int)).length, .inr (.inl (fun z => Int64.ofInt ((List.replicate n (0 : Int)).getD z 0))))
      rw [List.length_replicate]
      simp only [jrepl]
    · obtain ⟨rfl, rfl, rfl, rfl⟩ := jnew_some hs
      have hlt : (Int32.ofInt x).toNatClampNeg = n := jclamp hn
      refine va_newa (rest := r.map (jc a)) (atype := .double) (ty := .double) (N' := n) (a0 := (n, .inr (.inr (.inr (.inl (fun _ => ju64 0)))))) hx hb (hT.w jaw_double _) rfl hK hP.1 hP.2.1 hP.2.2.1 hA (fun cA => rfl) (jnneg hn) hlt (by show n * _ ≤ _; unfold componentBytes; omega) (by dsimp only at hr1; omega) (by dsimp only at hr2; omega) hd (fun q cA H1 hK1 q1 q2 q3 => ?_)
      obtain rfl := jK_new hK (r := 2) rfl hK1
      refine k.new hP.2.2.2 ⟨fun v hv => nomatch hv, fun h1 h2 h3 => absurd rfl (by assumption)⟩ ?_ q1 q2 q3 ⟨hf.1, hf.2.1, jS_tail hf.2.2⟩
      rw [je_arr (by decide)]
      show Sum.inl (aC 103, n, _) = Sum.inl (aC 103, (List.replicate n (0 : Int)).length, .inr (.inr (.inr (.inl (fun z => ju64 ((List.replicate n (0 : Int)).getD z 0))))))
      rw [List.length_replicate]
      simp only [jrepl]
    · cases hs
  · cases hs
theorem jo_newq {w0 i : Nat} (hown : s.vm.findClass (jR w0) = some m.cls) (hA : ∀ q, s.heap.size ≤ q → A q) (hx : p.tables.exec = Jvm.exec) (hb : c.code = cc) (hd : decode cc pc = .ok (.anewarray i, 3)) (hT : jTw a s) (hK : va_K D vwCl (jTys aC) s) (hP : jHp D aC a A s h.1 H locs) (hf : jFr a h.1.length nL L st ls) (hr1 : h'.2.1 + cells ≤ h.2.1 + R.cells) (hr2 : h'.2.2 + slots ≤ h.2.2 + R.slots) (hs : jnewq (jpool w0 i) pc L st h = some (.inl ((pc', L', st'), h')))
    (k : jKn p l e R s m args below meth c Q D aC A nL a h cells slots pc' L' st' h') : W p l e R s m args below meth c H locs cells slots Q (F0 m pc ls (st.map (jc a))) := by
  unfold jnewq at hs
  have hok := jpool_ok w0 i
  generalize jpool w0 i = E at hs hok
  obtain ⟨cd, ci, b⟩ := E
  obtain ⟨x, r, rfl, hs⟩ := ji1_some hs
  split at hs
  · rename_i n hn
    obtain ⟨hc, hs⟩ := jcond_some hs
    obtain ⟨h6, hc⟩ := Bool.and_eq_true_iff.mp hc
    have hc : n ≤ 100000 := Nat.le_of_ble_eq_true hc
    obtain rfl : cd = 6 := Nat.eq_of_beq_eq_true h6
    have hok : jWd (.classLink (jR w0) i (jKN ci)) := hok
    have hlt : (Int32.ofInt x).toNatClampNeg = n := jclamp hn
    have hnil : jwc h.1.length (110 + ci, [], List.replicate n (-1)) := ⟨fun v hv => nomatch hv, fun _ _ _ y hy => by rw [(List.mem_replicate.mp hy).2]; trivial⟩
    have hnil2 : jwc h.1.length (130, [], List.replicate n (-1)) := ⟨fun v hv => nomatch hv, fun _ _ _ y hy => by rw [(List.mem_replicate.mp hy).2]; trivial⟩
    have hcont : (fun z => jopt a ((List.replicate n (-1 : Int)).getD z (-1))) = fun _ => none := by
      funext z
      rw [jrepl]
      rfl
    cases h1 : (Nat.blt ci 20 && (jaix (110 + ci)).isSome) with
    | true =>
      dsimp only at hs
      rw [h1] at hs
      obtain ⟨hlt2, hix⟩ := Bool.and_eq_true_iff.mp h1
      have hlt2 : ci < 20 := Nat.le_of_ble_eq_true hlt2
      obtain ⟨rfl, rfl, rfl, rfl⟩ := jnew_some hs
      obtain ⟨r9, hr9⟩ := Option.isSome_iff_exists.mp hix
      obtain ⟨t9, ht9⟩ := jaix_ok _ _ hr9
      have ho := jao_ok ci hlt2 _ _ ht9
      obtain ⟨ho, rfl⟩ := ho
      refine va_newq (rest := r.map (jc a)) (C := jKN ci) (N' := n) hx hb hown (hT.w hok.aw _) (va_AO.of (hT.w ho args)) hK hP.1 hP.2.1 hP.2.2.1 hA (jnneg hn) hlt (by omega) (by dsimp only at hr1; omega) (by dsimp only at hr2; omega) hd (fun q cA H1 hK1 q1 q2 q3 => ?_)
      obtain rfl := jK_new hK ht9 hK1
      refine k.new hP.2.2.2 hnil ?_ q1 q2 q3 ⟨hf.1, hf.2.1, jS_tail hf.2.2⟩
      rw [je_arr (by omega), jcont_q (by omega), hcont, List.length_replicate]
    | false =>
      dsimp only at hs
      rw [h1] at hs
      obtain ⟨h100, hs⟩ := jcond_some hs
      obtain rfl : ci = 100 := Nat.eq_of_beq_eq_true h100
      obtain ⟨rfl, rfl, rfl, rfl⟩ := jnew_some hs
      refine W.anewA (t := .int) (rest := r.map (jc a)) (n := Int32.ofInt x) hx hb hown (hT.w hok.aw _) (hT.w jao_int args) rfl hd rfl (jnneg hn) (by rw [hlt]; omega) (by dsimp only at hr1; omega) (by rw [hlt]; dsimp only at hr2; omega) (fun cA kA comp f1 f2 f3 f4 => ?_)
      have hcA : cA = aC 130 := Option.some.inj (f1.symm.trans (jK_nm hK (r := 7) rfl))
      subst hcA
      rw [hlt]
      generalize hH1 : H.push ({ cls := aC 130, slots := Array.replicate n .null, vm := .none } : Cell) = H1
      have e1 : H1[H.size]? = some (arrV (aC 130) n (fun _ => .null)) := by rw [← hH1, Array.getElem?_push_size, ← arrV_new]
      have o1 : ∀ q : Nat, q < H.size → H1[q]? = H[q]? := fun q hq => by rw [← hH1, Array.getElem?_push, if_neg (Nat.ne_of_lt hq)]
      have z1 : H1.size = H.size + 1 := by rw [← hH1, Array.size_push]
      refine k.new (e0 := .inl (aC 130, n, .inr (.inr (.inr (.inr (fun _ => none)))))) hP.2.2.2 hnil2 ?_ ((hP.1.kept (fun k x hx => o1 x.1 ((hP.1 k x hx).lt))).app (fun k x hx => ?_)) (hP.2.1.push hP.1 rfl (hA _ hP.2.2.1.1)) ⟨Nat.le_trans hP.2.2.1.1 (by omega), fun x h1 h2 => (o1 x (Nat.lt_of_lt_of_le h1 hP.2.2.1.1)).trans (hP.2.2.1.2.1 x h1 h2), hP.2.2.1.2.2⟩ ⟨hf.1, hf.2.1, jS_tail hf.2.2⟩
      · rw [je_arr (by decide), jcont_q (by decide), hcont, List.length_replicate]
      · have hz : k < 1 := (List.getElem?_eq_some_iff.mp hx).1
        rw [show k = 0 by omega] at hx
        cases hx
        show H1[H.size]? = some (vp_cell _ _)
        rw [vp_cell_q]
        exact e1
  · cases hs
theorem jwid_sum : ∀ st : List JV, ((st.map (jc a)).map fun v => v.category).sum = jwid st
  | [] => rfl
  | v :: r => by
    rw [List.map_cons, List.map_cons, List.sum_cons, jwid_sum r]
    show (jc a v).category + jwid r = cond (jone v) 1 2 + jwid r
    cases hv : jone v with
    | true => rw [jc_cat1 hv]; rfl
    | false => rw [jc_cat2 hv]; rfl
theorem jassign {c0 : ClassId} : s.vm.assignable c0 c0 = true := by
  show Vm.assignableAux s.vm 256 c0 c0 = true
  unfold Vm.assignableAux
  simp
theorem jo_ifnull {z : Int} (hx : p.tables.exec = Jvm.exec) (hb : c.code = cc) (hd : decode cc pc = .ok (.ifnull z, 3)) (hP : jHp D aC a A s h.1 H locs) (hf : jFr a h.1.length nL L st ls) (hs : jnull true pc z L st h = some (.inl ((pc', L', st'), h')))
    (k : jKn p l e R s m args below meth c Q D aC A nL a h cells slots pc' L' st' h') : W p l e R s m args below meth c H locs cells slots Q (F0 m pc ls (st.map (jc a))) := by
  unfold jnull at hs
  split at hs
  · rename_i x r
    obtain ⟨rfl, rfl, rfl, t, ht, hc⟩ := jbr_some hs
    have h2 := k.same hP ⟨hf.1, hf.2.1, jS_tail hf.2.2⟩
    cases x with
    | ofNat n =>
      rcases hc with ⟨hz, -⟩ | ⟨-, rfl⟩
      · cases hz
      · exact lv_ifnull (x := a.1 n) (rest := r.map (jc a)) hx hb hd h2
    | negSucc n =>
      rcases hc with ⟨-, rfl⟩ | ⟨hz, -⟩
      · exact lv_ifnullN (rest := r.map (jc a)) hx hb hd ht h2
      · cases hz
  · cases hs
theorem jo_ifnonnull {z : Int} (hx : p.tables.exec = Jvm.exec) (hb : c.code = cc) (hd : decode cc pc = .ok (.ifnonnull z, 3)) (hP : jHp D aC a A s h.1 H locs) (hf : jFr a h.1.length nL L st ls) (hs : jnull false pc z L st h = some (.inl ((pc', L', st'), h')))
    (k : jKn p l e R s m args below meth c Q D aC A nL a h cells slots pc' L' st' h') : W p l e R s m args below meth c H locs cells slots Q (F0 m pc ls (st.map (jc a))) := by
  unfold jnull at hs
  split at hs
  · rename_i x r
    obtain ⟨rfl, rfl, rfl, t, ht, hc⟩ := jbr_some hs
    have h2 := k.same hP ⟨hf.1, hf.2.1, jS_tail hf.2.2⟩
    cases x with
    | ofNat n =>
      rcases hc with ⟨-, rfl⟩ | ⟨hz, -⟩
      · exact lv_ifnonnull (x := a.1 n) (rest := r.map (jc a)) hx hb hd ht h2
      · cases hz
    | negSucc n =>
      rcases hc with ⟨hz, -⟩ | ⟨-, rfl⟩
      · cases hz
      · exact lv_ifnonnullN (rest := r.map (jc a)) hx hb hd h2
  · cases hs
theorem jo_sw {df lo hi : Int} {offs : Array Int} {len : Nat} (hx : p.tables.exec = Jvm.exec) (hb : c.code = cc) (hd : decode cc pc = .ok (.tableswitch df lo hi offs, len)) (hP : jHp D aC a A s h.1 H locs) (hf : jFr a h.1.length nL L st ls) (hs : jsw df lo hi offs pc L st h = some (.inl ((pc', L', st'), h')))
    (k : jKn p l e R s m args below meth c Q D aC A nL a h cells slots pc' L' st' h') : W p l e R s m args below meth c H locs cells slots Q (F0 m pc ls (st.map (jc a))) := by
  unfold jsw at hs
  obtain ⟨x, r, rfl, hs⟩ := ji1_some hs
  cases hc : (decide (jw x < lo) || decide (hi < jw x)) with
  | true =>
    rw [hc] at hs
    obtain ⟨ht, rfl, rfl, rfl⟩ := jgo_some (show jgo pc df L r h = _ from hs)
    have h2 := k.same hP ⟨hf.1, hf.2.1, jS_tail hf.2.2⟩
    refine lv_tableOut (rest := r.map (jc a)) hx hb hd ?_ ht h2
    rw [jw_toInt]
    rcases Bool.or_eq_true_iff.mp hc with hc | hc
    · exact Or.inl (of_decide_eq_true hc)
    · exact Or.inr (of_decide_eq_true hc)
  | false =>
    rw [hc] at hs
    obtain ⟨hc1, hc2⟩ := Bool.or_eq_false_iff.mp hc
    dsimp only [cond] at hs
    split at hs
    · rename_i off ho
      obtain ⟨ht, rfl, rfl, rfl⟩ := jgo_some hs
      have h2 := k.same hP ⟨hf.1, hf.2.1, jS_tail hf.2.2⟩
      exact lv_tableIn (rest := r.map (jc a)) hx hb hd (by rw [jw_toInt]; exact of_decide_eq_false hc1) (by rw [jw_toInt]; exact of_decide_eq_false hc2) (by rw [jw_toInt]; exact ho) ht h2
    · cases hs
theorem jo_oinit {w0 i : Nat} (hown : s.vm.findClass (jR w0) = some m.cls) (hlk : Cond.methodLink (jR w0) i Lib.objectInit ∈ jAW) (hwd : jwid st ≤ 24) (hml : c.maxLocals = ls.size) (hRf : 1 ≤ R.frames) (hRl : 200 ≤ R.locals) (hRc : cells ≤ R.cells) (hRs : slots ≤ R.slots) (hx : p.tables.exec = Jvm.exec) (hb : c.code = cc) (hd : decode cc pc = .ok (.invokespecial i, 3)) (hT : jTw a s) (hP : jHp D aC a A s h.1 H locs) (hf : jFr a h.1.length nL L st ls) (hs : (match st with
    | (4, .ofNat a) :: r => jnx (pc + 3) L r h
    | _ => none) = some (.inl ((pc', L', st'), h')))
    (k : jKn p l e R s m args below meth c Q D aC A nL a h cells slots pc' L' st' h') : W p l e R s m args below meth c H locs cells slots Q (F0 m pc ls (st.map (jc a))) := by
  split at hs
  · rename_i n r
    obtain ⟨rfl, rfl, rfl, rfl⟩ := jnx_some hs
    have h2 := k.same hP ⟨hf.1, hf.2.1, jS_tail hf.2.2⟩
    have hq := jwid_sum (a := a) ((4, Int.ofNat n) :: r)
    rw [List.map_cons, List.map_cons, List.sum_cons] at hq
    exact W.objInit (a := a.1 n) (rest := r.map (jc a)) hx hb hown (hT.w hlk _) (hT.w jsp_oi _) (hT.w jsp_oc _) rfl hml.symm rfl hd hRf (by show 2 * 0 + _ + 12 ≤ _; omega) h2
  · cases hs
theorem jo_sp0 {w0 i : Nat} (hown : s.vm.findClass (jR w0) = some m.cls) (hlk : Cond.methodLink (jR w0) i Lib.Math.max.name ∈ jAW) (hwd : jwid st ≤ 24) (hml : c.maxLocals = ls.size) (hRf : 1 ≤ R.frames) (hRl : 200 ≤ R.locals) (hRc : cells ≤ R.cells) (hRs : slots ≤ R.slots) (hx : p.tables.exec = Jvm.exec) (hb : c.code = cc) (hd : decode cc pc = .ok (.invokestatic i, 3)) (hT : jTw a s) (hP : jHp D aC a A s h.1 H locs) (hf : jFr a h.1.length nL L st ls) (hs : ji2 st (fun x y r => jnx (pc + 3) L ((0, cond (decide (jw x < jw y)) y x) :: r) h) = some (.inl ((pc', L', st'), h')))
    (k : jKn p l e R s m args below meth c Q D aC A nL a h cells slots pc' L' st' h') : W p l e R s m args below meth c H locs cells slots Q (F0 m pc ls (st.map (jc a))) := by
  obtain ⟨x, y, r, rfl, h1⟩ := ji2_some hs
  obtain ⟨rfl, rfl, rfl, rfl⟩ := jnx_some h1
  have h2 := k.same hP ⟨hf.1, hf.2.1, jS_cons (jwf_tag (by decide)) (jS_tail (jS_tail hf.2.2))⟩
  have hq := jwid_sum (a := a) ((0, y) :: (0, x) :: r)
  simp only [List.map_cons, List.sum_cons] at hq
  refine va_mmax (rest := r.map (jc a)) (x := Int32.ofInt x) (y := Int32.ofInt y) hx hb hml hown (hT.w hlk _) (hT.w jsp_s0 _) (hT.w jsp_i _) (hT.w jsp_c0 _) hRf (by omega) hRc hRs hd ?_
  have e1 : (if Int32.ofInt x < Int32.ofInt y then Int32.ofInt y else Int32.ofInt x) = Int32.ofInt (cond (decide (jw x < jw y)) y x) := by
    by_cases hq : jw x < jw y
    · rw [if_pos ((jlt x y).mpr hq), decide_eq_true hq]; rfl
    · rw [if_neg (fun z => hq ((jlt x y).mp z)), decide_eq_false hq]; rfl
  rw [e1]
  exact h2
theorem jo_sp1 {w0 i : Nat} (hown : s.vm.findClass (jR w0) = some m.cls) (hlk : Cond.methodLink (jR w0) i Lib.Math.min.name ∈ jAW) (hwd : jwid st ≤ 24) (hml : c.maxLocals = ls.size) (hRf : 1 ≤ R.frames) (hRl : 200 ≤ R.locals) (hRc : cells ≤ R.cells) (hRs : slots ≤ R.slots) (hx : p.tables.exec = Jvm.exec) (hb : c.code = cc) (hd : decode cc pc = .ok (.invokestatic i, 3)) (hT : jTw a s) (hP : jHp D aC a A s h.1 H locs) (hf : jFr a h.1.length nL L st ls) (hs : ji2 st (fun x y r => jnx (pc + 3) L ((0, cond (decide (jw x < jw y)) x y) :: r) h) = some (.inl ((pc', L', st'), h')))
    (k : jKn p l e R s m args below meth c Q D aC A nL a h cells slots pc' L' st' h') : W p l e R s m args below meth c H locs cells slots Q (F0 m pc ls (st.map (jc a))) := by
  obtain ⟨x, y, r, rfl, h1⟩ := ji2_some hs
  obtain ⟨rfl, rfl, rfl, rfl⟩ := jnx_some h1
  have h2 := k.same hP ⟨hf.1, hf.2.1, jS_cons (jwf_tag (by decide)) (jS_tail (jS_tail hf.2.2))⟩
  have hq := jwid_sum (a := a) ((0, y) :: (0, x) :: r)
  simp only [List.map_cons, List.sum_cons] at hq
  refine va_mmin (rest := r.map (jc a)) (x := Int32.ofInt x) (y := Int32.ofInt y) hx hb hml hown (hT.w hlk _) (hT.w jsp_s1 _) (hT.w jsp_i _) (hT.w jsp_c1 _) hRf (by omega) hRc hRs hd ?_
  have e1 : (if Int32.ofInt y < Int32.ofInt x then Int32.ofInt y else Int32.ofInt x) = Int32.ofInt (cond (decide (jw x < jw y)) x y) := by
    by_cases hq : jw y < jw x
    · rw [if_pos ((jlt y x).mpr hq), decide_eq_false (by omega)]; rfl
    · rw [if_neg (fun z => hq ((jlt y x).mp z))]
      by_cases hq2 : jw x < jw y
      · rw [decide_eq_true hq2]; rfl
      · rw [decide_eq_false hq2]
        exact (jeq x y).mpr (by omega)
  rw [e1]
  exact h2
theorem jo_sp2 {w0 i : Nat} (hown : s.vm.findClass (jR w0) = some m.cls) (hlk : Cond.methodLink (jR w0) i Lib.Math.abs.name ∈ jAW) (hwd : jwid st ≤ 24) (hml : c.maxLocals = ls.size) (hRf : 1 ≤ R.frames) (hRl : 200 ≤ R.locals) (hRc : cells ≤ R.cells) (hRs : slots ≤ R.slots) (hx : p.tables.exec = Jvm.exec) (hb : c.code = cc) (hd : decode cc pc = .ok (.invokestatic i, 3)) (hT : jTw a s) (hP : jHp D aC a A s h.1 H locs) (hf : jFr a h.1.length nL L st ls) (hs : ji1 st (fun x r => jnx (pc + 3) L ((0, cond (decide (jw x < 0)) (-x) x) :: r) h) = some (.inl ((pc', L', st'), h')))
    (k : jKn p l e R s m args below meth c Q D aC A nL a h cells slots pc' L' st' h') : W p l e R s m args below meth c H locs cells slots Q (F0 m pc ls (st.map (jc a))) := by
  obtain ⟨x, r, rfl, h1⟩ := ji1_some hs
  obtain ⟨rfl, rfl, rfl, rfl⟩ := jnx_some h1
  have h2 := k.same hP ⟨hf.1, hf.2.1, jS_cons (jwf_tag (by decide)) (jS_tail hf.2.2)⟩
  have hq := jwid_sum (a := a) ((0, x) :: r)
  simp only [List.map_cons, List.sum_cons] at hq
  refine va_mabs (rest := r.map (jc a)) (x := Int32.ofInt x) hx hb hml hown (hT.w hlk _) (hT.w jsp_s2 _) (hT.w jsp_i _) (hT.w jsp_c2 _) hRf (by omega) hRc hRs hd ?_
  have e1 : (if 0 ≤ Int32.ofInt x then Int32.ofInt x else 0 - Int32.ofInt x) = Int32.ofInt (cond (decide (jw x < 0)) (-x) x) := by
    by_cases hq : jw x < 0
    · rw [if_neg (fun z => by rw [j0, jle, jw_0] at z; omega), decide_eq_true hq]
      show 0 - Int32.ofInt x = Int32.ofInt (-x)
      rw [Int32.ofInt_neg, Int32.zero_sub]
    · rw [if_pos (by rw [j0, jle, jw_0]; omega), decide_eq_false hq]; rfl
  rw [e1]
  exact h2
theorem jo_sp3 {w0 i : Nat} (hown : s.vm.findClass (jR w0) = some m.cls) (hlk : Cond.methodLink (jR w0) i Lib.MathLoose.max_long.x ∈ jAW) (hwd : jwid st ≤ 24) (hml : c.maxLocals = ls.size) (hRf : 1 ≤ R.frames) (hRl : 200 ≤ R.locals) (hRc : cells ≤ R.cells) (hRs : slots ≤ R.slots) (hx : p.tables.exec = Jvm.exec) (hb : c.code = cc) (hd : decode cc pc = .ok (.invokestatic i, 3)) (hT : jTw a s) (hP : jHp D aC a A s h.1 H locs) (hf : jFr a h.1.length nL L st ls) (hs : jl2 st (fun x y r => jnx (pc + 3) L ((1, cond (decide (jwl y < jwl x)) x y) :: r) h) = some (.inl ((pc', L', st'), h')))
    (k : jKn p l e R s m args below meth c Q D aC A nL a h cells slots pc' L' st' h') : W p l e R s m args below meth c H locs cells slots Q (F0 m pc ls (st.map (jc a))) := by
  obtain ⟨x, y, r, rfl, h1⟩ := jl2_some hs
  obtain ⟨rfl, rfl, rfl, rfl⟩ := jnx_some h1
  have h2 := k.same hP ⟨hf.1, hf.2.1, jS_cons (jwf_tag (by decide)) (jS_tail (jS_tail hf.2.2))⟩
  have hq := jwid_sum (a := a) ((1, y) :: (1, x) :: r)
  simp only [List.map_cons, List.sum_cons] at hq
  refine va_mmax_long (rest := r.map (jc a)) (x := Int64.ofInt x) (y := Int64.ofInt y) hx hb hml hown (hT.w hlk _) (hT.w jsp_s3 _) (hT.w jsp_i _) (hT.w jsp_c3 _) hRf (by omega) hRc hRs hd ?_
  have e1 : (if Int64.ofInt y < Int64.ofInt x then Int64.ofInt x else Int64.ofInt y) = Int64.ofInt (cond (decide (jwl y < jwl x)) x y) := by
    by_cases hq : jwl y < jwl x
    · rw [if_pos ((jllt y x).mpr hq), decide_eq_true hq]; rfl
    · rw [if_neg (fun z => hq ((jllt y x).mp z)), decide_eq_false hq]; rfl
  rw [e1]
  exact h2
theorem jo_sp4 {w0 i : Nat} (hown : s.vm.findClass (jR w0) = some m.cls) (hlk : Cond.methodLink (jR w0) i Lib.MathLoose.min_long.x ∈ jAW) (hwd : jwid st ≤ 24) (hml : c.maxLocals = ls.size) (hRf : 1 ≤ R.frames) (hRl : 200 ≤ R.locals) (hRc : cells ≤ R.cells) (hRs : slots ≤ R.slots) (hx : p.tables.exec = Jvm.exec) (hb : c.code = cc) (hd : decode cc pc = .ok (.invokestatic i, 3)) (hT : jTw a s) (hP : jHp D aC a A s h.1 H locs) (hf : jFr a h.1.length nL L st ls) (hs : jl2 st (fun x y r => jnx (pc + 3) L ((1, cond (decide (jwl x < jwl y)) x y) :: r) h) = some (.inl ((pc', L', st'), h')))
    (k : jKn p l e R s m args below meth c Q D aC A nL a h cells slots pc' L' st' h') : W p l e R s m args below meth c H locs cells slots Q (F0 m pc ls (st.map (jc a))) := by
  obtain ⟨x, y, r, rfl, h1⟩ := jl2_some hs
  obtain ⟨rfl, rfl, rfl, rfl⟩ := jnx_some h1
  have h2 := k.same hP ⟨hf.1, hf.2.1, jS_cons (jwf_tag (by decide)) (jS_tail (jS_tail hf.2.2))⟩
  have hq := jwid_sum (a := a) ((1, y) :: (1, x) :: r)
  simp only [List.map_cons, List.sum_cons] at hq
  refine va_mmin_long (rest := r.map (jc a)) (x := Int64.ofInt x) (y := Int64.ofInt y) hx hb hml hown (hT.w hlk _) (hT.w jsp_s4 _) (hT.w jsp_i _) (hT.w jsp_c4 _) hRf (by omega) hRc hRs hd ?_
  have e1 : (if Int64.ofInt y < Int64.ofInt x then Int64.ofInt y else Int64.ofInt x) = Int64.ofInt (cond (decide (jwl x < jwl y)) x y) := by
    by_cases hq : jwl y < jwl x
    · rw [if_pos ((jllt y x).mpr hq), decide_eq_false (by omega)]; rfl
    · rw [if_neg (fun z => hq ((jllt y x).mp z))]
      by_cases hq2 : jwl x < jwl y
      · rw [decide_eq_true hq2]; rfl
      · rw [decide_eq_false hq2]
        exact (jleq x y).mpr (by omega)
  rw [e1]
  exact h2
theorem jo_sp5 {w0 i : Nat} (hown : s.vm.findClass (jR w0) = some m.cls) (hlk : Cond.methodLink (jR w0) i Lib.MathLoose.abs_long.x ∈ jAW) (hwd : jwid st ≤ 24) (hml : c.maxLocals = ls.size) (hRf : 1 ≤ R.frames) (hRl : 200 ≤ R.locals) (hRc : cells ≤ R.cells) (hRs : slots ≤ R.slots) (hx : p.tables.exec = Jvm.exec) (hb : c.code = cc) (hd : decode cc pc = .ok (.invokestatic i, 3)) (hT : jTw a s) (hP : jHp D aC a A s h.1 H locs) (hf : jFr a h.1.length nL L st ls) (hs : jl1 st (fun x r => jnx (pc + 3) L ((1, cond (decide (jwl x < 0)) (-x) x) :: r) h) = some (.inl ((pc', L', st'), h')))
    (k : jKn p l e R s m args below meth c Q D aC A nL a h cells slots pc' L' st' h') : W p l e R s m args below meth c H locs cells slots Q (F0 m pc ls (st.map (jc a))) := by
  obtain ⟨x, r, rfl, h1⟩ := jl1_some hs
  obtain ⟨rfl, rfl, rfl, rfl⟩ := jnx_some h1
  have h2 := k.same hP ⟨hf.1, hf.2.1, jS_cons (jwf_tag (by decide)) (jS_tail hf.2.2)⟩
  have hq := jwid_sum (a := a) ((1, x) :: r)
  simp only [List.map_cons, List.sum_cons] at hq
  refine va_mabs_long (rest := r.map (jc a)) (x := Int64.ofInt x) hx hb hml hown (hT.w hlk _) (hT.w jsp_s5 _) (hT.w jsp_i _) (hT.w jsp_c5 _) hRf (by omega) hRc hRs hd ?_
  have e1 : (if 0 < Int64.ofInt x then Int64.ofInt x else -Int64.ofInt x) = Int64.ofInt (cond (decide (jwl x < 0)) (-x) x) := by
    by_cases hq : jwl x < 0
    · rw [if_neg (fun z => by rw [j0l, jllt, jwl_0] at z; omega), decide_eq_true hq]
      exact (Int64.ofInt_neg x).symm
    · rw [decide_eq_false hq]
      show _ = Int64.ofInt x
      by_cases hq2 : 0 < jwl x
      · rw [if_pos (by rw [j0l, jllt, jwl_0]; exact hq2)]
      · rw [if_neg (fun z => by rw [j0l, jllt, jwl_0] at z; omega), ← Int64.ofInt_neg]
        have h0 : jwl x = 0 := by omega
        have h1 : Int64.ofInt x = Int64.ofInt 0 := (jleq x 0).mpr (by rw [h0, jwl_0])
        rw [Int64.ofInt_neg, h1]
        rfl
  rw [e1]
  exact h2
end JHS
