/-! the little machine, part 9: steps on objects, static rows, constants -/
theorem jGW_aw {w : Cond} (h : w ∈ jGW) : w ∈ jAW := jAW_of (jGW_in w h) (jMovb_good (jGW_good w h))
theorem jNW_tbl {w : Cond} (h : w ∈ jNW) : w ∈ lw_tbl := by
  obtain ⟨i, -, hi⟩ := List.mem_filterMap.mp h
  exact List.mem_of_getElem? hi
theorem jNW_all : jNW.all jMovb = true := by decide +kernel
theorem jNW_aw {w : Cond} (h : w ∈ jNW) : w ∈ jAW := jAW_of (jNW_tbl h) (List.all_eq_true.mp jNW_all w h)
theorem jcl_lt {ci : Nat} {q : vw_C} (h : vwCl[ci]? = some q) : ci < 100 := Nat.lt_of_lt_of_le (List.getElem?_eq_some_iff.mp h).1 (by decide)
theorem jref_rf {a : JA} {x : Int} : jref a x = va_rf (jopt a x) := by cases x <;> rfl
/-- a value that fits a field's type keeps there what it is -/
theorem jfit_ok {t : FieldType} {v : JV} {a : JA} (h : jfit (jtyc t) v = true) (h15 : jtyc t ≠ 15) : narrow t (jc a v) = jc a v ∧ fits t (jc a v) = true := by
  obtain ⟨k, x⟩ := v
  have plain : ∀ z : Nat, Nat.beq z 8 = false → Nat.beq z 4 = false → jfit z (k, x) = true → k = z := by
    intro z h1 h2 h3
    unfold jfit at h3
    rw [h1, h2] at h3
    exact Nat.eq_of_beq_eq_true (Bool.and_eq_true_iff.mp h3).1
  have ref : jfit 4 (k, x) = true → k = 4 := fun h => Nat.eq_of_beq_eq_true h
  cases t with
  | int => obtain rfl := plain 0 rfl rfl h; exact ⟨rfl, rfl⟩
  | long => obtain rfl := plain 1 rfl rfl h; exact ⟨rfl, rfl⟩
  | float => obtain rfl := plain 2 rfl rfl h; exact ⟨rfl, rfl⟩
  | double => obtain rfl := plain 3 rfl rfl h; exact ⟨rfl, rfl⟩
  | boolean =>
    obtain ⟨h1, h2⟩ := Bool.and_eq_true_iff.mp (show (Nat.beq k 0 && (decide (x = 0) || decide (x = 1))) = true from h)
    obtain rfl : k = 0 := Nat.eq_of_beq_eq_true h1
    rcases Bool.or_eq_true_iff.mp h2 with h3 | h3
    · obtain rfl : x = 0 := of_decide_eq_true h3
      exact ⟨by rfl, by rfl⟩
    · obtain rfl : x = 1 := of_decide_eq_true h3
      exact ⟨by rfl, by rfl⟩
  | object C =>
    obtain rfl := ref h
    cases x <;> exact ⟨rfl, rfl⟩
  | array C =>
    obtain rfl := ref h
    cases x <;> exact ⟨rfl, rfl⟩
  | _ => exact absurd rfl h15
/-- the first values of a class's fields -/
theorem jdf_ref : ∀ ci, ci < 15 → (jdf ci).all (fun v => !(Nat.beq v.1 4) || decide (v.2 = -1)) = true := by decide +kernel
theorem jdf_wf {ci n : Nat} (h : ci < 15) : jwS n (jdf ci) := by
  intro v hv h4
  have h1 := List.all_eq_true.mp (jdf_ref ci h) v hv
  rcases Bool.or_eq_true_iff.mp h1 with h2 | h2
  · rw [h4] at h2
    cases h2
  · rw [of_decide_eq_true h2]
    trivial
theorem jAK_q : ∀ q ∈ jAK, 110 ≤ q.1 → q.2.isReference = true := by decide +kernel
theorem jAK_nm : ∀ q ∈ jAK, jKN q.1 = "[" ++ q.2.toString := by decide +kernel
theorem jAK_ob : ∀ q ∈ jAK, 110 ≤ q.1 → q.1 ≠ 130 → (vwCl[q.1 - 110]?).map (fun z => FieldType.object z.1) = some q.2 := by decide +kernel
theorem jK_nm {D : va_G} {aC : Nat → ClassId} {s : State} (hK : va_K D vwCl (jTys aC) s) {r k : Nat} {t : FieldType} (h : jAK[r]? = some (k, t)) : s.vm.findClass ("[" ++ t.toString) = some (aC k) := by
  have h2 := (hK.2 r _ (jTys_get h)).2
  cases t with
  | object C => obtain ⟨kA, comp, -, -, -, h4⟩ := h2; exact h4
  | _ => exact h2
theorem jK_new {D : va_G} {aC : Nat → ClassId} {s : State} (hK : va_K D vwCl (jTys aC) s) {r k : Nat} {t : FieldType} (h : jAK[r]? = some (k, t)) {cA : ClassId} {tys : List (ClassId × FieldType)} (h2 : va_K D vwCl (tys ++ [(cA, t)]) s) : cA = aC k := by
  have h3 := (h2.2 tys.length (cA, t) (by simp)).2
  have h4 := jK_nm hK h
  cases t with
  | object C =>
    obtain ⟨kA, comp, -, -, -, h5⟩ := h3
    exact Option.some.inj (h5.symm.trans h4)
  | _ => exact Option.some.inj ((show s.vm.findClass _ = some cA from h3).symm.trans h4)
theorem jrepl {n j : Nat} {x : Int} : (List.replicate n x).getD j x = x := by
  rw [List.getD_eq_getElem?_getD, List.getElem?_replicate]
  split <;> rfl
section JHS
variable {p : Program} {l : Launch} {e : Env} {R : Room} {s : State} {m : MethodId} {args : Array Value} {below : List Frame} {meth : Method} {c : Code} {H : Heap} {locs : List Loc} {cells slots : Nat} {Q : State → Prop} {cc : ByteArray}
variable {D : va_G} {aC : Nat → ClassId} {A : Nat → Prop} {xs : List Int} {a : JA} {nL : Nat} {L LN : JL} {st stN : List JV} {ls : Array Slot} {pc pcN : Nat} {h h' : JH}
theorem jo_getf {w0 i : Nat} (hown : s.vm.findClass (jR w0) = some m.cls) (hx : p.tables.exec = Jvm.exec) (hb : c.code = cc) (hd : decode cc pc = .ok (.getfield i, 3)) (hT : jTw a s) (hK : va_K D vwCl (jTys aC) s) (hP : jHp D aC a A s h.1 H locs) (hf : jFr a h.1.length nL L st ls) (hs : jgetf (jpool w0 i) pc L st h = some (.inl ((pcN, LN, stN), h')))
    (k : jKn p l e R s m args below meth c Q D aC A nL a h cells slots pcN LN stN h') : W p l e R s m args below meth c H locs cells slots Q (F0 m pc ls (st.map (jc a))) := by
  unfold jgetf at hs
  have hok := jpool_ok w0 i
  generalize jpool w0 i = E at hs hok
  obtain ⟨cd, ci, b⟩ := E
  replace hs := jcond_some hs
  obtain ⟨hc, hs⟩ := hs
  split at hs
  · rename_i x r
    replace hs := jcell_some hs
    obtain ⟨n, c0, rfl, hcell, hs⟩ := hs
    obtain ⟨kd, fs, cs⟩ := c0
    replace hs := jcond_some hs
    obtain ⟨hk, hs⟩ := hs
    have hk : kd = ci := Nat.eq_of_beq_eq_true hk
    subst hk
    split at hs
    · rename_i v hv
      obtain ⟨rfl, rfl, rfl, rfl⟩ := jnx_some hs
      rcases Bool.or_eq_true_iff.mp hc with hc | hc
      · obtain rfl : cd = 1 := Nat.eq_of_beq_eq_true hc
        obtain ⟨h2, C, T, N, hcl, hb1, hw⟩ := hok
        refine va_get (D := D) (a := a.1 n) (rest := r.map (jc a)) (ci := kd) (v := jc a v) (C := C) (T := T) (N := N) (Ts := jAW) hx hb (fun w hw => hT.w hw _) (fun w hw => jGW_aw ((jcl_ok kd C T N hcl h2).1 w hw)) hown hK hP.1 n (fs := fs.map (jc a)) ((jws_at hcell).trans (by rw [je_fld (jcl_lt hcl)])) hcl b.toNat hb1 (hT.w hw.aw _) (fun _ q => q) (by rw [List.getElem?_map, hv]; rfl) hd ?_
        exact k.same hP ⟨hf.1, hf.2.1, jS_cons ((jwh_at hP.2.2.2 hcell).1 v (List.mem_of_getElem? hv)) (jS_tail hf.2.2)⟩
      · obtain rfl : cd = 2 := Nat.eq_of_beq_eq_true hc
        obtain ⟨h2, C, T, N, host, hcl, hb1, hw⟩ := hok
        refine va_getN (D := D) (a := a.1 n) (rest := r.map (jc a)) (ci := kd) (v := jc a v) (C := C) (T := T) (N := N) (Ts := jAW) hx hb (fun w hw => hT.w hw _) (fun w hw => jGW_aw ((jcl_ok kd C T N hcl h2).1 w hw)) hown hK hP.1 n (fs := fs.map (jc a)) ((jws_at hcell).trans (by rw [je_fld (jcl_lt hcl)])) hcl b.toNat hb1 (hT.w (jNW_aw hw) _) (fun _ q => q) (by rw [List.getElem?_map, hv]; rfl) hd ?_
        exact k.same hP ⟨hf.1, hf.2.1, jS_cons ((jwh_at hP.2.2.2 hcell).1 v (List.mem_of_getElem? hv)) (jS_tail hf.2.2)⟩
    · cases hs
  · cases hs
theorem jo_putf {w0 i fl : Nat} (hown : s.vm.findClass (jR w0) = some m.cls) (hin : fl = 2 → meth.name = "<init>") (hx : p.tables.exec = Jvm.exec) (hb : c.code = cc) (hd : decode cc pc = .ok (.putfield i, 3)) (hT : jTw a s) (hK : va_K D vwCl (jTys aC) s) (hP : jHp D aC a A s h.1 H locs) (hf : jFr a h.1.length nL L st ls) (hs : jputf (jpool w0 i) (fun ci => Nat.beq fl 2 && Nat.beq ci w0) pc L st h = some (.inl ((pcN, LN, stN), h')))
    (k : jKn p l e R s m args below meth c Q D aC A nL a h cells slots pcN LN stN h') : W p l e R s m args below meth c H locs cells slots Q (F0 m pc ls (st.map (jc a))) := by
  unfold jputf at hs
  have hok := jpool_ok w0 i
  generalize jpool w0 i = E at hs hok
  obtain ⟨cd, ci, b⟩ := E
  replace hs := jcond_some hs
  obtain ⟨hc, hs⟩ := hs
  split at hs
  · rename_i v x r
    replace hs := jcell_some hs
    obtain ⟨n, c0, rfl, hcell, hs⟩ := hs
    obtain ⟨kd, fs, cs⟩ := c0
    replace hs := jcond_some hs
    obtain ⟨hk, hs⟩ := hs
    obtain ⟨hk, hfn⟩ := Bool.and_eq_true_iff.mp hk
    obtain ⟨hk, hjf⟩ := Bool.and_eq_true_iff.mp hk
    obtain ⟨hk, hlen⟩ := Bool.and_eq_true_iff.mp hk
    have hk : kd = ci := Nat.eq_of_beq_eq_true hk
    have hlen2 : b.toNat < fs.length := Nat.le_of_ble_eq_true hlen
    subst hk
    obtain ⟨rfl, rfl, rfl, rfl⟩ := jnx_some hs
    have hvw : jwf h.1.length v := jS_head hf.2.2
    have fin : ∀ (H1 : Heap) (locs1 : List Loc), va_P D vwCl ((jws a aC h.1).set n (a.1 n, .inr (kd, (fs.map (jc a)).set b.toNat (jc a v)))) H1 → va_D A ((jws a aC h.1).set n (a.1 n, .inr (kd, (fs.map (jc a)).set b.toNat (jc a v)))) → va_S A s.heap H1 locs1 → kd < 100 → W p l e R s m args below meth c H1 locs1 cells slots Q (F0 m (pc + 3) ls (r.map (jc a))) := by
      intro H1 locs1 q1 q2 q3 hlt
      have e2 : (jws a aC h.1).set n (a.1 n, .inr (kd, (fs.map (jc a)).set b.toNat (jc a v))) = jws a aC (h.1.set n (kd, fs.set b.toNat v, cs)) := by
        rw [jws_set, je_fld hlt, List.map_set]
      rw [e2] at q1 q2
      refine k.put (List.length_set ..) ⟨q1, q2, q3, jwh_set hP.2.2.2 ⟨fun y hy => ?_, (jwh_at hP.2.2.2 hcell).2⟩⟩ ⟨hf.1, hf.2.1, jS_tail (jS_tail hf.2.2)⟩
      rcases List.mem_or_eq_of_mem_set hy with hy | hy
      · exact (jwh_at hP.2.2.2 hcell).1 y hy
      · rw [hy]; exact hvw
    rcases Bool.or_eq_true_iff.mp hc with hc | hc
    · obtain rfl : cd = 1 := Nat.eq_of_beq_eq_true hc
      obtain ⟨h2, C, T, N, hcl, hb1, hw⟩ := hok
      obtain ⟨h0, h1, -, -, hCR, -, -, ty, hty, htt, -⟩ := jcl_ok kd C T N hcl h2
      obtain ⟨ht1, hfin2, hdec, h15⟩ := htt b.toNat hb1
      have hfit := jfit_ok (a := a) (v := v) (t := ty b.toNat) (by rw [ht1]; exact hjf) h15
      have fin := fun H1 locs1 q1 q2 q3 => fin H1 locs1 q1 q2 q3 (jcl_lt hcl)
      cases hj2 : (jft kd b.toNat).2 with
      | false => refine va_put (D := D) (a := a.1 n) (rest := r.map (jc a)) (ci := kd) (v := jc a v) (ty := ty b.toNat) (C := C) (T := T) (N := N) (Ts := jAW) hx hb (fun w hw => hT.w hw _) (fun w hw => jGW_aw (h0 w hw)) ty hty h1 hown hK hP.1 hP.2.1 hP.2.2.1 n (fs := fs.map (jc a)) ((jws_at hcell).trans (by rw [je_fld (jcl_lt hcl)])) hcl b.toNat hb1 (hT.w hw.aw _) (fun _ q => q) (by rw [hfin2]; exact hj2) (hty _ hb1) hfit.1 hfit.2 (by rw [List.length_map]; exact hlen2) hd fin
      | true =>
        rw [hj2] at hfn
        have hfn3 : (Nat.beq fl 2 && Nat.beq kd w0) = true := hfn
        obtain ⟨hq1, hq2⟩ := Bool.and_eq_true_iff.mp hfn3
        refine va_putF (D := D) (a := a.1 n) (rest := r.map (jc a)) (ci := kd) (v := jc a v) (ty := ty b.toNat) (C := C) (T := T) (N := N) (Ts := jAW) hx hb (fun w hw => hT.w hw _) (fun w hw => jGW_aw (h0 w hw)) ty hty h1 hown hK hP.1 hP.2.1 hP.2.2.1 n (fs := fs.map (jc a)) ((jws_at hcell).trans (by rw [je_fld (jcl_lt hcl)])) hcl b.toNat hb1 (hT.w hw.aw _) (fun _ q => q) (by rw [hfin2]; exact hj2) (hin (Nat.eq_of_beq_eq_true hq1)) (by rw [hdec, hCR]; exact congrArg jR (Nat.eq_of_beq_eq_true hq2)) (hty _ hb1) hfit.1 hfit.2 (by rw [List.length_map]; exact hlen2) hd fin
    · obtain rfl : cd = 2 := Nat.eq_of_beq_eq_true hc
      obtain ⟨h2, C, T, N, host, hcl, hb1, hw⟩ := hok
      obtain ⟨h0, h1, -, -, hCR, -, -, ty, hty, htt, -⟩ := jcl_ok kd C T N hcl h2
      obtain ⟨ht1, hfin2, hdec, h15⟩ := htt b.toNat hb1
      have hfit := jfit_ok (a := a) (v := v) (t := ty b.toNat) (by rw [ht1]; exact hjf) h15
      have fin := fun H1 locs1 q1 q2 q3 => fin H1 locs1 q1 q2 q3 (jcl_lt hcl)
      cases hj2 : (jft kd b.toNat).2 with
      | false => refine va_putN (D := D) (a := a.1 n) (rest := r.map (jc a)) (ci := kd) (v := jc a v) (ty := ty b.toNat) (C := C) (T := T) (N := N) (Ts := jAW) hx hb (fun w hw => hT.w hw _) (fun w hw => jGW_aw (h0 w hw)) ty hty h1 hown hK hP.1 hP.2.1 hP.2.2.1 n (fs := fs.map (jc a)) ((jws_at hcell).trans (by rw [je_fld (jcl_lt hcl)])) hcl b.toNat hb1 (hT.w (jNW_aw hw) _) (fun _ q => q) (by rw [hfin2]; exact hj2) (hty _ hb1) hfit.1 hfit.2 (by rw [List.length_map]; exact hlen2) hd fin
      | true =>
        rw [hj2] at hfn
        exact absurd (show false = true from hfn) (by decide)
  · cases hs
theorem jo_gets {w0 i : Nat} (hown : s.vm.findClass (jR w0) = some m.cls) (hx : p.tables.exec = Jvm.exec) (hb : c.code = cc) (hd : decode cc pc = .ok (.getstatic i, 3)) (hT : jTw a s) (hO : jOld xs a A s s.heap) (hP : jHp D aC a A s h.1 H locs) (hf : jFr a h.1.length nL L st ls) (hs : (match jpool w0 i with
    | (3, k, _) => jnx (pc + 3) L ((5, (k : Int)) :: st) h
    | (16, k, _) => jnx (pc + 3) L ((5, (k : Int)) :: st) h
    | _ => none) = some (.inl ((pcN, LN, stN), h')))
    (k : jKn p l e R s m args below meth c Q D aC A nL a h cells slots pcN LN stN h') : W p l e R s m args below meth c H locs cells slots Q (F0 m pc ls (st.map (jc a))) := by
  have hok := jpool_ok w0 i
  split at hs
  · rename_i z x hE
    rw [hE] at hok
    obtain ⟨h6, hw⟩ := hok
    obtain ⟨rfl, rfl, rfl, rfl⟩ := jnx_some hs
    have h2 := k.same hP ⟨hf.1, hf.2.1, jS_cons (jwf_tag (by decide)) hf.2.2⟩
    exact va_gets (rest := st.map (jc a)) hx hb (hO.1 _ h6) hP.2.2.1 hown (hT.w hw.aw _) (fun _ q => q) hd h2
  · rename_i z x hE
    rw [hE] at hok
    obtain ⟨h6, host, hw⟩ := hok
    obtain ⟨rfl, rfl, rfl, rfl⟩ := jnx_some hs
    have h2 := k.same hP ⟨hf.1, hf.2.1, jS_cons (jwf_tag (by decide)) hf.2.2⟩
    exact va_getsN (rest := st.map (jc a)) hx hb (hO.1 _ h6) hP.2.2.1 hown (hT.w (jNW_aw hw) _) (fun _ q => q) hd h2
  · cases hs
theorem jo_ldcsW {own tx : String} {q i : Nat} {rest : List Value} (hx : p.tables.exec = Jvm.exec) (hb : c.code = cc) (hown : s.vm.findClass own = some m.cls) (hZ : vk_R own i tx q s) (hdg : decode cc pc = .ok (.ldc_w i, 3))
    (k : W p l e R s m args below meth c H locs cells slots Q (F0 m (pc + 3) ls (.ref q :: rest))) : W p l e R s m args below meth c H locs cells slots Q (F0 m pc ls rest) := by
  intro T hT X
  obtain ⟨t, a1, b1⟩ := k T hT X
  exact ⟨t, X.ldcStringW hx hown (text := tx) (a := q) hZ.1 hZ.2 (g := F0 m pc ls rest) rfl (by rw [hb]; exact hdg) t a1, b1⟩
theorem jo_ldc {w0 i : Nat} (hown : s.vm.findClass (jR w0) = some m.cls) (hx : p.tables.exec = Jvm.exec) (hb : c.code = cc) (hd : decode cc pc = .ok (.ldc i, 2)) (hT : jTw a s) (hP : jHp D aC a A s h.1 H locs) (hf : jFr a h.1.length nL L st ls) (hs : (match jpool w0 i with
    | (7, _, v) => jnx (pc + 2) L ((0, v) :: st) h
    | (14, k, _) => jnx (pc + 2) L ((7, (k : Int)) :: st) h
    | _ => none) = some (.inl ((pcN, LN, stN), h')))
    (k : jKn p l e R s m args below meth c Q D aC A nL a h cells slots pcN LN stN h') : W p l e R s m args below meth c H locs cells slots Q (F0 m pc ls (st.map (jc a))) := by
  have hok := jpool_ok w0 i
  split at hs
  · rename_i z v hE
    rw [hE] at hok
    obtain ⟨rfl, rfl, rfl, rfl⟩ := jnx_some hs
    have h2 := k.same hP ⟨hf.1, hf.2.1, jS_cons (jwf_tag (by decide)) hf.2.2⟩
    exact lv_ldc (v := Int32.ofInt v) (rest := st.map (jc a)) hx hb hown (hT.w (jWd.aw hok) _) hd h2
  · rename_i z v hE
    rw [hE] at hok
    obtain ⟨e1, e2, e3⟩ := hok
    dsimp only at e1 e2 e3
    obtain ⟨rfl, rfl, rfl, rfl⟩ := jnx_some hs
    have h2 := k.same hP ⟨hf.1, hf.2.1, jS_cons (jwf_tag (by decide)) hf.2.2⟩
    have h3 := hT.2.1 z e3
    rw [e1, e2] at h3
    exact va_ldcS (q := a.2.2.1 z) (rest := st.map (jc a)) hx hb hown h3 hd h2
  · cases hs
theorem jo_ldc_w {w0 i : Nat} (hown : s.vm.findClass (jR w0) = some m.cls) (hx : p.tables.exec = Jvm.exec) (hb : c.code = cc) (hd : decode cc pc = .ok (.ldc_w i, 3)) (hT : jTw a s) (hP : jHp D aC a A s h.1 H locs) (hf : jFr a h.1.length nL L st ls) (hs : (match jpool w0 i with
    | (7, _, v) => jnx (pc + 3) L ((0, v) :: st) h
    | (14, k, _) => jnx (pc + 3) L ((7, (k : Int)) :: st) h
    | _ => none) = some (.inl ((pcN, LN, stN), h')))
    (k : jKn p l e R s m args below meth c Q D aC A nL a h cells slots pcN LN stN h') : W p l e R s m args below meth c H locs cells slots Q (F0 m pc ls (st.map (jc a))) := by
  have hok := jpool_ok w0 i
  split at hs
  · rename_i z v hE
    rw [hE] at hok
    obtain ⟨rfl, rfl, rfl, rfl⟩ := jnx_some hs
    have h2 := k.same hP ⟨hf.1, hf.2.1, jS_cons (jwf_tag (by decide)) hf.2.2⟩
    exact lv_ldcw (v := Int32.ofInt v) (rest := st.map (jc a)) hx hb hown (hT.w (jWd.aw hok) _) hd h2
  · rename_i z v hE
    rw [hE] at hok
    obtain ⟨e1, e2, e3⟩ := hok
    dsimp only at e1 e2 e3
    obtain ⟨rfl, rfl, rfl, rfl⟩ := jnx_some hs
    have h2 := k.same hP ⟨hf.1, hf.2.1, jS_cons (jwf_tag (by decide)) hf.2.2⟩
    have h3 := hT.2.1 z e3
    rw [e1, e2] at h3
    exact jo_ldcsW (q := a.2.2.1 z) (rest := st.map (jc a)) hx hb hown h3 hd h2
  · cases hs
theorem jo_ldc2 {w0 i : Nat} (hown : s.vm.findClass (jR w0) = some m.cls) (hx : p.tables.exec = Jvm.exec) (hb : c.code = cc) (hd : decode cc pc = .ok (.ldc2_w i, 3)) (hT : jTw a s) (hP : jHp D aC a A s h.1 H locs) (hf : jFr a h.1.length nL L st ls) (hs : (match jpool w0 i with
    | (8, _, v) => jnx (pc + 3) L ((1, v) :: st) h
    | (9, _, v) => cond (decide (0 ≤ v) && decide (v < 18446744073709551616)) (jnx (pc + 3) L ((3, v) :: st) h) none
    | _ => none) = some (.inl ((pcN, LN, stN), h')))
    (k : jKn p l e R s m args below meth c Q D aC A nL a h cells slots pcN LN stN h') : W p l e R s m args below meth c H locs cells slots Q (F0 m pc ls (st.map (jc a))) := by
  have hok := jpool_ok w0 i
  split at hs
  · rename_i z v hE
    rw [hE] at hok
    obtain ⟨rfl, rfl, rfl, rfl⟩ := jnx_some hs
    have h2 := k.same hP ⟨hf.1, hf.2.1, jS_cons (jwf_tag (by decide)) hf.2.2⟩
    exact lv_ldc2 (v := Int64.ofInt v) (rest := st.map (jc a)) hx hb hown (hT.w (jWd.aw hok) _) hd h2
  · rename_i z v hE
    rw [hE] at hok
    replace hs := jcond_some hs
    obtain ⟨hc, hs⟩ := hs
    obtain ⟨rfl, rfl, rfl, rfl⟩ := jnx_some hs
    have h2 := k.same hP ⟨hf.1, hf.2.1, jS_cons (jwf_tag (by decide)) hf.2.2⟩
    exact lv_ldc2d (v := ju64 v) (rest := st.map (jc a)) hx hb hown (hT.w (jWd.aw hok) _) hd h2
  · cases hs
theorem jo_aald (hx : p.tables.exec = Jvm.exec) (hb : c.code = cc) (hd : decode cc pc = .ok (.aaload, 1)) (hK : va_K D vwCl (jTys aC) s) (hP : jHp D aC a A s h.1 H locs) (hf : jFr a h.1.length nL L st ls) (hs : jaald pc L st h = some (.inl ((pcN, LN, stN), h')))
    (k : jKn p l e R s m args below meth c Q D aC A nL a h cells slots pcN LN stN h') : W p l e R s m args below meth c H locs cells slots Q (F0 m pc ls (st.map (jc a))) := by
  unfold jaald at hs
  split at hs
  · rename_i i x r
    replace hs := jcell_some hs
    obtain ⟨n, c0, rfl, hcell, hs⟩ := hs
    obtain ⟨kd, fs, cs⟩ := c0
    replace hs := jcond_some hs
    obtain ⟨hk, hs⟩ := hs
    obtain ⟨hk1, hk2⟩ := Bool.and_eq_true_iff.mp hk
    have hk1 : 110 ≤ kd := Nat.le_of_ble_eq_true hk1
    obtain ⟨r9, hr9⟩ := Option.isSome_iff_exists.mp hk2
    obtain ⟨t9, ht9⟩ := jaix_ok _ _ hr9
    split at hs
    · rename_i j hj
      split at hs
      · rename_i v hv
        obtain ⟨rfl, rfl, rfl, rfl⟩ := jnx_some hs
        have hlt := (List.getElem?_eq_some_iff.mp hv).1
        have h1 : (jws a aC h.1)[n]? = some (a.1 n, .inl (aC kd, cs.length, .inr (.inr (.inr (.inr (fun z => jopt a (cs.getD z (-1)))))))) := (jws_at hcell).trans (by rw [je_arr (by omega), jcont_q (by omega)])
        have h2 := k.same hP ⟨hf.1, hf.2.1, jS_cons (fun _ => (jwh_at hP.2.2.2 hcell).2 (by show kd ≠ 100; omega) (by show kd ≠ 101; omega) (by show kd ≠ 103; omega) v (List.mem_of_getElem? hv)) (jS_tail (jS_tail hf.2.2))⟩
        refine W.aald (v := jref a v) (ty := t9) (rest := r.map (jc a)) (a := a.1 n) (j := Int32.ofInt i) hx hb (hP.1 n _ h1) ((hK.2 r9 _ (jTys_get ht9)).1 cs.length (fun z => va_rf (jopt a (cs.getD z (-1))))) (jAK_q _ (List.mem_of_getElem? ht9) hk1) (fun q => by cases q) (by show ¬ (_ ∨ (arrV _ _ _).slots.size ≤ _); rw [arrV_size]; exact jin hj hlt) ?_ rfl rfl hd h2
        show (arrV _ _ _).slots[(Int32.ofInt i).toNatClampNeg]? = some (jref a v)
        have hv2 : cs[j]? = some v := hv
        rw [jclamp hj, arrV_read _ _ hlt, jref_rf]
        show some (va_rf (jopt a (cs.getD j (-1)))) = _
        rw [List.getD_eq_getElem?_getD, hv2]
        rfl
      · cases hs
    · cases hs
  · cases hs
end JHS
