/-! the refutation: both constructors, the whole run, the walk of the law -/
set_option maxRecDepth 100000 in
theorem jMain1 {xs : List Int} {d : Nat} {Q : Nat → JV → List JC → Prop} (h : jT xs (d + 5) 379 0 28 [(5, (0, 0)), (4, (4, 155)), (3, (4, 154)), (2, (4, 106)), (1, (4, 0)), (0, (6, 0))] [] jFULL 220010 7320060 Q) : jT xs (d + 5) 379 0 0 [(0, (6, 0))] [] [] 230360 7910455 Q := by
  refine jT_adv 2 (pcN := 4) (LN := [(0, (6, 0))]) (stN := [(4, 0), (4, 0)]) (hsN := [jzB_157]) (c1 := 1) (s1 := 13) (c2 := 230359) (s2 := 7910442) (by exact rfl) ?_ (by omega) (by omega)
  refine jT_fB [0] 1 (y := 96) (pcN := 7) (dC := 4) (bc1 := 105) (bc2 := 965) (c1 := 230254) (c2 := 7909477) (as := [(4, 0)]) (asC := [(4, 0)]) (LN := [(0, (6, 0))]) (stN := [(4, 0)]) (hsC := [jzB_157]) (hsD := jpB_187) (v := (9, 0)) (st2 := [(4, 0)]) (hs2 := jpB_187) (jB_96_35 (d := 0)) (jst_call (by rfl)) (by rfl) (by decide +kernel) (by rfl) (by rfl) (by omega) (by omega) (by omega) (by omega) rfl (by decide +kernel) ?_
  refine jT_xastore_n (v := (4, 0)) (LN := [(1, (4, 0)), (0, (6, 0))]) (pcN := 8) jIB_379_7 rfl rfl rfl rfl ?_
  refine jT_adv 2 (pcN := 12) (LN := [(1, (4, 0)), (0, (6, 0))]) (stN := [(4, 106), (4, 106)]) (hsN := jpB_284) (c1 := 1) (s1 := 28) (c2 := 230253) (s2 := 7909449) (by exact rfl) ?_ (by omega) (by omega)
  refine jT_fB [106] 107 (y := 175) (pcN := 15) (dC := 3) (bc1 := 10241) (bc2 := 589387) (c1 := 220012) (c2 := 7320062) (as := [(4, 106)]) (asC := [(4, 0)]) (LN := [(1, (4, 0)), (0, (6, 0))]) (stN := [(4, 106)]) (hsC := [jzB_279]) (hsD := jpB_282) (v := (9, 0)) (st2 := [(4, 106)]) (hs2 := jpB_288) (jB_175_36 (d := 0)) (jst_call (by rfl)) (by rfl) (by decide +kernel) (by rfl) (by rfl) (by omega) (by omega) (by omega) (by omega) rfl (by decide +kernel) ?_
  refine jT_xastore_n (v := (4, 106)) (LN := [(2, (4, 106)), (1, (4, 0)), (0, (6, 0))]) (pcN := 16) jIB_379_15 rfl rfl rfl rfl ?_
  refine jT_xiconst (k := 1) (pcN := 17) jIB_379_16 rfl ?_
  refine jT_adv 1 (pcN := 19) (LN := [(2, (4, 106)), (1, (4, 0)), (0, (6, 0))]) (stN := [(4, 154)]) (hsN := jpB_291) (c1 := 1) (s1 := 1) (c2 := 220011) (s2 := 7320061) (by exact rfl) ?_ (by omega) (by omega)
  refine jT_xastore_n (v := (4, 154)) (LN := [(3, (4, 154)), (2, (4, 106)), (1, (4, 0)), (0, (6, 0))]) (pcN := 20) jIB_379_19 rfl rfl rfl rfl ?_
  refine jT_xiconst (k := 1) (pcN := 21) jIB_379_20 rfl ?_
  refine jT_adv 1 (pcN := 23) (LN := [(3, (4, 154)), (2, (4, 106)), (1, (4, 0)), (0, (6, 0))]) (stN := [(4, 155)]) (hsN := jpB_294) (c1 := 1) (s1 := 1) (c2 := 220010) (s2 := 7320060) (by exact rfl) ?_ (by omega) (by omega)
  refine jT_xastore (v := (4, 155)) (LN := [(4, (4, 155)), (3, (4, 154)), (2, (4, 106)), (1, (4, 0)), (0, (6, 0))]) (pcN := 25) jIB_379_23 rfl rfl rfl rfl ?_
  refine jT_xiconst (k := 0) (pcN := 26) jIB_379_25 rfl ?_
  refine jT_xistore (v := (0, 0)) (LN := [(5, (0, 0)), (4, (4, 155)), (3, (4, 154)), (2, (4, 106)), (1, (4, 0)), (0, (6, 0))]) (pcN := 28) jIB_379_26 rfl rfl rfl rfl ?_
  exact h
set_option maxRecDepth 100000 in
theorem jMain2 {xs : List Int} {d : Nat} {Q : Nat → JV → List JC → Prop} (h : jU xs (d + 5) 379 0 28 [(5, (0, 0)), (4, (4, 155)), (3, (4, 154)), (2, (4, 106)), (1, (4, 0)), (0, (6, 0))] [] jFULL 220000 Q) : jU xs (d + 5) 379 0 0 [(0, (6, 0))] [] [] 220000 Q := by
  refine jU_adv 2 (pcN := 4) (LN := [(0, (6, 0))]) (stN := [(4, 0), (4, 0)]) (hsN := [jzB_157]) (c1 := 1) (s1 := 13) (c2 := 220000) (by exact rfl) ?_ (by omega) (by decide +kernel)
  refine jU_fB [0] 1 (y := 96) (pcN := 7) (dC := 4) (bc1 := 105) (bc2 := 965) (e := 0) (c1 := 220000) (as := [(4, 0)]) (asC := [(4, 0)]) (LN := [(0, (6, 0))]) (stN := [(4, 0)]) (hsC := [jzB_157]) (hsD := jpB_187) (v := (9, 0)) (st2 := [(4, 0)]) (hs2 := jpB_187) (jB_96_35 (d := 0)) (jst_call (by rfl)) (by rfl) (by decide +kernel) (by rfl) (by rfl) (by omega) (by omega) (by omega) (by decide +kernel) rfl (by decide +kernel) ?_
  refine jU_xastore_n (v := (4, 0)) (LN := [(1, (4, 0)), (0, (6, 0))]) (pcN := 8) jIB_379_7 rfl rfl rfl rfl ?_
  refine jU_adv 2 (pcN := 12) (LN := [(1, (4, 0)), (0, (6, 0))]) (stN := [(4, 106), (4, 106)]) (hsN := jpB_284) (c1 := 1) (s1 := 28) (c2 := 220000) (by exact rfl) ?_ (by omega) (by decide +kernel)
  refine jU_fB [106] 107 (y := 175) (pcN := 15) (dC := 3) (bc1 := 10241) (bc2 := 589387) (e := 0) (c1 := 220000) (as := [(4, 106)]) (asC := [(4, 0)]) (LN := [(1, (4, 0)), (0, (6, 0))]) (stN := [(4, 106)]) (hsC := [jzB_279]) (hsD := jpB_282) (v := (9, 0)) (st2 := [(4, 106)]) (hs2 := jpB_288) (jB_175_36 (d := 0)) (jst_call (by rfl)) (by rfl) (by decide +kernel) (by rfl) (by rfl) (by omega) (by omega) (by omega) (by decide +kernel) rfl (by decide +kernel) ?_
  refine jU_xastore_n (v := (4, 106)) (LN := [(2, (4, 106)), (1, (4, 0)), (0, (6, 0))]) (pcN := 16) jIB_379_15 rfl rfl rfl rfl ?_
  refine jU_xiconst (k := 1) (pcN := 17) jIB_379_16 rfl ?_
  refine jU_adv 1 (pcN := 19) (LN := [(2, (4, 106)), (1, (4, 0)), (0, (6, 0))]) (stN := [(4, 154)]) (hsN := jpB_291) (c1 := 1) (s1 := 1) (c2 := 220000) (by exact rfl) ?_ (by omega) (by decide +kernel)
  refine jU_xastore_n (v := (4, 154)) (LN := [(3, (4, 154)), (2, (4, 106)), (1, (4, 0)), (0, (6, 0))]) (pcN := 20) jIB_379_19 rfl rfl rfl rfl ?_
  refine jU_xiconst (k := 1) (pcN := 21) jIB_379_20 rfl ?_
  refine jU_adv 1 (pcN := 23) (LN := [(3, (4, 154)), (2, (4, 106)), (1, (4, 0)), (0, (6, 0))]) (stN := [(4, 155)]) (hsN := jpB_294) (c1 := 1) (s1 := 1) (c2 := 220000) (by exact rfl) ?_ (by omega) (by decide +kernel)
  refine jU_xastore (v := (4, 155)) (LN := [(4, (4, 155)), (3, (4, 154)), (2, (4, 106)), (1, (4, 0)), (0, (6, 0))]) (pcN := 25) jIB_379_23 rfl rfl rfl rfl ?_
  refine jU_xiconst (k := 0) (pcN := 26) jIB_379_25 rfl ?_
  refine jU_xistore (v := (0, 0)) (LN := [(5, (0, 0)), (4, (4, 155)), (3, (4, 154)), (2, (4, 106)), (1, (4, 0)), (0, (6, 0))]) (pcN := 28) jIB_379_26 rfl rfl rfl rfl ?_
  exact h
set_option maxRecDepth 100000 in
theorem jref_T : jT jXS 80 379 0 0 [(0, (6, 0))] [] [] 230360 7910455 (fun k v _ => k = 0 ∧ v = (0, 1)) := by
  refine jMain1 (d := 75) ?_
  exact jT_leaf [0, 106, 154, 155, 1, 5, 10, 16, 79, 81, 83, 85, 86, 87, 100, 107, 108, 109, 118, 119, 120, 121, 122, 123, 124, 125, 126, 127, 128, 129, 2, 4, 6, 8, 90, 91, 101, 104, 105, 131, 134, 138, 144, 150, 153, 3, 7, 9, 89, 88] (L0 := [(5, (0, 0)), (4, (4, 3)), (3, (4, 2)), (2, (4, 1)), (1, (4, 0)), (0, (6, 0))]) (jZ_run (d := 71)) (by decide +kernel) rfl (by decide) (by decide)
set_option maxRecDepth 100000 in
theorem jref_U : jU jXS 80 379 0 0 [(0, (6, 0))] [] [] 220000 (fun k v _ => k = 0 ∧ v = (0, 1)) := by
  refine jMain2 (d := 75) ?_
  exact jU_leaf [0, 106, 154, 155, 1, 5, 10, 16, 79, 81, 83, 85, 86, 87, 100, 107, 108, 109, 118, 119, 120, 121, 122, 123, 124, 125, 126, 127, 128, 129, 2, 4, 6, 8, 90, 91, 101, 104, 105, 131, 134, 138, 144, 150, 153, 3, 7, 9, 89, 88] 156 (L0 := [(5, (0, 0)), (4, (4, 3)), (3, (4, 2)), (2, (4, 1)), (1, (4, 0)), (0, (6, 0))]) (jW_run (d := 71)) (by decide +kernel) rfl
/-- the run: how much it makes -/
theorem jref_run : ∃ (f : Nat) (h' : JH), jrun jXS f 80 379 0 [(0, (6, 0))] [] ([], 0, 0) = (0, (0, 1), h') ∧ h'.2.1 ≤ 230360 ∧ h'.2.2 ≤ 7910455 ∧ 220000 ≤ h'.1.length := by
  have hE : jEm (fun i => i) [] [] := ⟨fun _ _ h => h, fun _ => rfl, fun k c h => by cases h⟩
  have hL : jLe (jrL (fun i => i) [(0, (6, 0))]) [(0, (6, 0))] := (show jLe [(0, (6, 0))] [(0, (6, 0))] from jLe_rf (by decide))
  obtain ⟨f, ρ, k, v, hs, H, c, s, ⟨hk, hv⟩, q2, q3, q4, q5, q6, q7, q8, q11, ⟨q9, q10⟩, q12⟩ := jref_T (fun i => i) [] 0 0 [(0, (6, 0))] hE hL
  obtain ⟨f2, ρ2, k2, v2, hs2, H2, c2, s2, ⟨hk2, hv2⟩, r2, r3, r4, r5, r6, r7, r8, r11, r9, r12⟩ := jref_U (fun i => i) [] 0 0 [(0, (6, 0))] hE hL
  subst hk
  subst hv
  subst hk2
  subst hv2
  have e1 := jrun_up _ _ _ _ _ _ _ _ _ _ q3 (by decide) (max f f2) 80 (Nat.le_max_left _ _) (Nat.le_refl _)
  have e2 := jrun_up _ _ _ _ _ _ _ _ _ _ r3 (by decide) (max f f2) 80 (Nat.le_max_right _ _) (Nat.le_refl _)
  rw [e1] at e2
  have e3 : H = H2 := congrArg (fun z : JO => z.2.2.1) e2
  subst e3
  have r9 : 0 + 220000 ≤ H.length := r9
  exact ⟨f, (H, c, s), q3, by show c ≤ _; omega, by show s ≤ _; omega, by show _ ≤ H.length; omega⟩
/-- a picture's cells are that many cells of the heap -/
theorem jheap_big {D : va_G} {aC : Nat → ClassId} {a : JA} {s : State} {h : List JC} {H : Heap} {locs : List Loc} (hP : jHp D aC a (fun q => s.heap.size ≤ q) s h H locs) {n : Nat} (hn : n ≤ h.length) (h0 : 0 < n) : s.heap.size + n ≤ H.size := by
  obtain ⟨h1, h2, -, -⟩ := hP
  have get : ∀ i, i < n → (jws a aC h)[i]? = some (a.1 i, je a aC (h.getD i jgh)) := fun i hi => by
    have hlt : i < h.length := by omega
    rw [List.getD_eq_getElem?_getD, List.getElem?_eq_getElem hlt]
    exact jws_at (k := h[i].1) (fs := h[i].2.1) (cs := h[i].2.2) (List.getElem?_eq_getElem hlt)
  have lo : ∀ i, i < n → s.heap.size ≤ a.1 i := fun i hi => h2.2 i _ (get i hi)
  have hi : ∀ i, i < n → a.1 i < H.size := fun i hi => (h1 i _ (get i hi)).lt
  have hp := ju_pig (H.size - s.heap.size) n (fun i => a.1 i - s.heap.size) (fun i h9 => by
    show a.1 i - s.heap.size < _
    have a1 := lo i h9
    have a2 := hi i h9
    omega) (fun i j h8 h9 he => by
    have he : a.1 i - s.heap.size = a.1 j - s.heap.size := he
    have a1 := lo i h8
    have a2 := lo j h9
    exact h2.1 i j _ _ (get i h8) (get j h9) (show a.1 i = a.1 j by omega))
  have a1 := lo 0 h0
  have a2 := hi 0 h0
  omega
def jR9 : Room := { frames := 2048, cells := 230360, slots := 7910455, locals := 94400 }
def jrZ (below : List Frame) (s : State) : State → Prop := fun t => ∃ o, t.status = .running ∧ Ended t below o ∧ s.heap.size + 220000 ≤ t.heap.size
/-- the law's end, with so many cells made -/
theorem jref_ret {p : Program} {l : Launch} {e : Env} {s : State} {m : MethodId} {below : List Frame} {meth : Method} {c : Code} {b : Nat} {locs : List Loc} {cells slots : Nat} (hx : p.tables.exec = Jvm.exec) (hb : c.code = code) (hr : meth.sig.returnType = ret) (hlocks : meth.locks = false) {pc : Nat} {H : Heap} {ls : Array Slot} (hdg : decode code pc = .ok (.ireturn, 1)) (hbig : s.heap.size + 220000 ≤ H.size) : W p l e jR9 s m #[Value.ref b] below meth c H locs cells slots (jrZ below s) (F0 m pc ls [.int 1]) := by
  intro T hT X
  obtain ⟨fs, hret, hrun, hended, hW, hframe⟩ := X.leave (v := some (.int 1)) (hlocks := hlocks) (fun h => by rw [hr] at h; cases h)
  have hmeth' : T.vm.method? m = some meth := X.method'
  have hbg : s.heap.size + 220000 ≤ (T.setFrames fs).heap.size := by show _ ≤ T.heap.size; rw [hT]; exact hbig
  refine ⟨T.setFrames fs, ?_, .returned (some (.int 1)), hrun, hended, hbg⟩
  jvm_step X.here [X.here.top, hx, hb, hdg, hmeth', hr, ret, narrow_b1]
  (try refine ⟨rfl, ?_⟩); (try refine ⟨rfl, ?_⟩)
  first | (intro acts; rw [hret _ acts rfl rfl rfl]) | rw [hret _ _ rfl rfl rfl]
  exact Steps.refl _
theorem jref_start {p : Program} {e : Env} {s : State} {m : MethodId} {below : List Frame} {meth : Method} {c : Code} (l : Launch) (hflags : l.flags = flags0) {b L : Nat} {xs : Nat → Int32} (hxs : (List.range L).map (fun j => (xs j).toInt) = jXS) (C0 : lw_At p s m meth c b L xs) : W p l e jR9 s m #[Value.ref b] below meth c s.heap [] 0 0 (jrZ below s) (entryFrame m ([Value.ref b] : List Value).toArray 10) := by
  obtain ⟨hx, hb, hr, hml, hown, hts0, hX, hbl, hlocks, hgv⟩ := id C0
  have hstk : l.stackTraces = false := by
    show (!l.flags.contains noTraceFlag) = false
    rw [hflags]
    decide +kernel
  obtain ⟨D, aC, a, cx, hab⟩ := jbase C0
  rw [hxs] at cx
  obtain ⟨f, h', hrun, hc, hs, hlow⟩ := jref_run
  obtain ⟨n, pcN, LN, stN, hadv, hend⟩ := jrun_top (d := 79) (f0 := f) (by decide +kernel) f 0 _ _ _ _ _ hrun (Nat.le_refl _)
  have hlv := lv_entry ([.ref b]) (n := 10) (Nat.le_of_ble_eq_true rfl)
  rw [lg_entry_eq]
  generalize (lg_sl ([.ref b]) ++ List.replicate (10 - (lg_sl ([.ref b])).length) Slot.unset).toArray = ls at hlv ⊢
  have hlv : lv_has ls 10 [(0, .ref b)] := hlv
  have hB : jmB (jm 379) = code := by rfl
  have hR : jR (jmC (jm 379)) = R_law := by decide +kernel
  have fx : jFx p s m meth c 379 := ⟨hx, hb.trans hB.symm, hml.trans (show 10 = jmL (jm 379) from by decide +kernel), by rw [hR]; exact hown, hlocks, fun h => absurd h (by decide +kernel)⟩
  have hnil : ∀ (k : Nat) (q : Nat × va_E), (jws a aC [])[k]? = some q → False := fun k q hk => by
    have h9 : ([] : List (Nat × va_E))[k]? = some q := hk
    rw [List.getElem?_nil] at h9
    cases h9
  have hP : jHp D aC a (fun q => s.heap.size ≤ q) s [] s.heap [] :=
    ⟨fun k q hk => (hnil k q hk).elim, ⟨fun i j q r hi => (hnil i q hi).elim, fun k q hk => (hnil k q hk).elim⟩, va_S.rf, fun c9 h9 => absurd h9 List.not_mem_nil⟩
  have hf : jFr a 0 (jmL (jm 379)) [(0, (6, 0))] [] ls := by
    refine ⟨?_, fun q hq => ?_, fun v hv => by cases hv⟩
    · rw [show jmL (jm 379) = 10 from by decide +kernel]
      show lv_has ls 10 [(0, .ref a.2.2.2)]
      rw [hab]
      exact hlv
    · rcases List.mem_cons.mp hq with rfl | hq
      · exact fun h => absurd h (by decide)
      · cases hq
  refine jadv_ok hstk n 0 _ _ _ pcN LN stN h' hadv a s.heap [] ls 0 0 fx cx hP hf (by show 88 ≤ 2048; decide) (by show 72 * 80 + 200 ≤ 94400; decide) (by show h'.2.1 + 0 ≤ 0 + 230360; omega) (by show h'.2.2 + 0 ≤ 0 + 7910455; omega) ?_
  intro a' H' locs' ls' cells' slots' hag hlen2 hP' hf' e1 e2
  have hbig := jheap_big hP' hlow (by decide)
  obtain ⟨ins, hI, hcases⟩ := hend
  rcases hcases with ⟨hi, hst, -⟩ | ⟨-, -, h9, -⟩ | ⟨-, -, h9, -⟩ | ⟨-, -, h9, -⟩ | ⟨-, -, h9, -⟩ | ⟨-, -, h9, -⟩
  · subst hi
    subst hst
    have hdg : decode code pcN = .ok (.ireturn, 1) := by rw [← hB]; exact jkdec hI rfl
    exact jref_ret hx hb hr hlocks hdg hbig
  · exact absurd h9 (by decide)
  · exact absurd h9 (by decide)
  · exact absurd h9 (by decide)
  · exact absurd h9 (by decide)
  · exact absurd h9 (by decide)
def jXS32 : List Int32 := jXS.map Int32.ofInt
theorem jXS32_ok : (List.range jXS32.length).map (fun j => (jXS32.getD j 0).toInt) = jXS := by decide +kernel
def jrP (b : Addr) (args : Array Value) (s : State) : Prop := args = #[.ref b] ∧ s.IntsAt b jXS32 ∧ (Jvm.Cond.and given_1 narrow_1).before args s = true
set_option maxHeartbeats 4000000 in
theorem jref_walk (l : Launch) (hflags : l.flags = flags0) (b : Addr) : MetFree l x (headSpec (Jvm.Cond.code x code maxLocals ret :: tables_1) jR9) (jrP b) (fun _ _ _ _ _ => True) (fun _ s _ t => s.heap.size + 220000 ≤ t.heap.size) := by
  refine MetFree.of_bodyS (code := code) (maxLocals := maxLocals) (ret := ret) (by decide) ?_ ?_
  · intro args s m h hn
    obtain ⟨meth, c, h1, h2, h3, h4, h5, h6, -, -⟩ := Cond.code_spec hn (atoms_spec (ws := Jvm.Cond.code x code maxLocals ret :: tables_1) h _ List.mem_cons_self)
    exact ⟨meth, c, h1, h2, h3, h4, h5, h6⟩
  · intro p e s m args below meth c s₁ B hml0 hP _
    obtain ⟨rfl, hx, hgv⟩ := hP
    obtain ⟨scr, harrAt, hlist, hof, hsmall⟩ := hx
    obtain ⟨hcb, hkn, -, -⟩ := State.arrayAt?_spec harrAt
    have hown : s.vm.findClass R_law = some m.cls := findClass_of_methodNamed B.named
    have hts0 : ∀ c ∈ (Jvm.Cond.code x code maxLocals ret :: tables_1), c.before #[Value.ref b] s = true := atoms_spec (ws := Jvm.Cond.code x code maxLocals ret :: tables_1) B.pre
    have hts : ∀ w ∈ lw_tbl, w.before #[Value.ref b] s = true := k2_hts_sels lw_privs (fun w hw => hts0 w (List.mem_cons_of_mem _ hw)) lw_privs_ok
    have hml : c.maxLocals = 10 := B.maxLocals_eq (hts0 _ List.mem_cons_self)
    have X₀ : Stand p l e jR9 s m #[Value.ref b] below meth c s₁ [] 0 0 := Stand.of_body B
    have hh0 : s₁.heap = s.heap := by rw [B.state]; rfl
    have hsz : scr.slots.size = jXS32.length := by rw [← Array.length_toList, hlist, List.length_map]
    have hval : ∀ j : Nat, j < jXS32.length → scr.slots[j]? = some (.int (jXS32.getD j 0)) := fun j hj => by
      rw [← Array.getElem?_toList, hlist, List.getElem?_map, List.getElem?_eq_getElem hj, List.getD_eq_getElem?_getD, List.getElem?_eq_getElem hj]
      rfl
    have hbl : b < s.heap.size := (Array.getElem?_eq_some_iff.mp hcb).1
    have hX : va_X b jXS32.length (fun j => jXS32.getD j 0) s s.heap := ⟨scr, hcb, hof, hkn, hsz, hval⟩
    have K : W p l e jR9 s m #[Value.ref b] below meth c s₁.heap [] 0 0 (jrZ below s) (entryFrame m ([Value.ref b] : List Value).toArray 10) := by
      rw [hh0]
      exact jref_start l hflags jXS32_ok ⟨B.exec, B.bytes, B.returns, hml, hown, hts, hX, hbl, B.notSynchronized, hgv⟩
    obtain ⟨t, a1, o, b1, b2, b3⟩ := K s₁ rfl X₀
    exact ⟨t, o, a1, b1, b2, b3⟩
/-- REFUTED: from every start that the statement allows, whose script is jXS and whose launch has the room of jR9, the law's run makes at least 220000 cells; the statement lets 201708 be new -/
theorem jref_no {l : Launch} {p : Program} {e : Env} {s : State} {m : MethodId} {args : Array Value} {below : List Frame} (hflags : l.flags = flags0) (hat : AtStart classFile x code maxLocals ret World_1 tables_1 room_1 Calls_1 rest_1 Pre_1 l p e s m args below) (happ9 : (headSpec (Jvm.Cond.code x code maxLocals ret :: tables_1) jR9).applies x e.platform s = true) {b : Addr} (hargs : args = #[.ref b]) (hscr : s.IntsAt b jXS32) : ¬ Claimed_1_1 := by
  intro hcl
  obtain ⟨hL, hW, ha, -, hc, hk, hf, hfit, hheap, happ, hcalls, hrest, hpre⟩ := hat
  obtain ⟨n, o, h1, h2, h3, h4⟩ := hcl l hflags hL hW p e ha hc hk s m args below hf hfit hheap happ ⟨hcalls, hrest, hpre⟩
  obtain ⟨k, o', g1, g2, g3, g4⟩ := jref_walk l hflags b p e ha hc hk s m args below hf ((Spec.applies_iff_loose hf).mp happ9).1 ⟨hargs, hscr, hpre⟩ trivial
  have e1 : n = k := by
    rcases Nat.lt_trichotomy n k with h | h | h
    · exact absurd (g1 n h) h3.not_within
    · exact h
    · exact absurd (h1 k h) g3.not_within
  subst e1
  obtain ⟨-, ⟨⟨-, -, -, -, h6, -⟩, -⟩⟩ := h4
  have h8 : (stepsAlone p.tables e n s).heap.size ≤ s.heap.size + 201708 := h6
  omega
