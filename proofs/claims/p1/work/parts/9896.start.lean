/-! the claim: the law's run on every script of at most 5 ints -/
theorem jrun_all {ys : List Int} (hl : ys.length ≤ 5) (hy : ∀ y ∈ ys, -2147483648 ≤ y ∧ y ≤ 2147483647) : jT ys 80 379 0 0 [(0, (6, 0))] [] [] 590000 7200000 (fun k v _ => k = 0 ∧ v = (0, 1)) := by
  refine jMain0 (d := 75) ?_
  match ys, hl, hy with
  | [], _, _ => exact jLaw_0
  | [x0], _, _ => exact jLaw_1
  | [x0, x1], _, _ => exact jLaw_2
  | [x0, x1, x2], _, _ => exact jLaw_3
  | [x0, x1, x2, x3], _, _ => exact jLaw_4
  | [x0, x1, x2, x3, x4], _, hy => exact jLaw_5 (hy x0 (by simp)) (hy x1 (by simp)) (hy x2 (by simp)) (hy x3 (by simp)) (hy x4 (by simp))
  | x0 :: x1 :: x2 :: x3 :: x4 :: x5 :: r, hl, _ => exact absurd hl (by simp only [List.length_cons]; omega)
theorem jrun_all2 {ys : List Int} (hl : ys.length ≤ 5) (hy : ∀ y ∈ ys, -2147483648 ≤ y ∧ y ≤ 2147483647) : ∃ (f : Nat) (h' : JH), jrun ys f 80 379 0 [(0, (6, 0))] [] ([], 0, 0) = (0, (0, 1), h') ∧ h'.2.1 ≤ 590000 ∧ h'.2.2 ≤ 7200000 := by
  obtain ⟨f, ρ, k, v, hs, H, c, s, ⟨hk, hv⟩, q2, q3, q4, q5, q6, q7, q8, q11, ⟨q9, q10⟩, q12⟩ := jrun_all hl hy (fun i => i) [] 0 0 [(0, (6, 0))] ⟨fun _ _ h => h, fun _ => rfl, fun k c h => by cases h⟩ (show jLe [(0, (6, 0))] [(0, (6, 0))] from jLe_rf (by decide))
  subst hk
  subst hv
  exact ⟨f, (H, c, s), q3, by show c ≤ _; omega, by show s ≤ _; omega⟩
/-- the law's end, what was made on the way being new -/
theorem lw_ret2 {p : Program} {l : Launch} {e : Env} {s : State} {m : MethodId} {below : List Frame} {meth : Method} {c : Code} {b : Nat} {locs : List Loc} {cells slots : Nat} (hx : p.tables.exec = Jvm.exec) (hb : c.code = code) (hr : meth.sig.returnType = ret) (hlocks : meth.locks = false) {pc : Nat} {H : Heap} {ls : Array Slot} (hdg : decode code pc = .ok (.ireturn, 1)) (hloc : ∀ z ∈ locs, s.heap.size ≤ z.base) (h1 : cells ≤ 600006) (h2 : slots ≤ 7301992) : W p l e room_1 s m #[Value.ref b] below meth c H locs cells slots (lw_Z below #[Value.ref b] s) (F0 m pc ls [.int 1]) := by
  have hd0 := Drawn.sameBut.refl s.drawn lw_cs
  intro T hT X
  obtain ⟨fs, hret, hrun, hended, hW, hframe⟩ := X.leave (v := some (.int 1)) (hlocks := hlocks) (fun h => by rw [hr] at h; cases h)
  have hmeth' : T.vm.method? m = some meth := X.method'
  have hfr : s.sameButNew ({ T.setFrames fs with vm := s.vm } : State) [] 600006 7301992 := hframe.weaken (fun y hy hlt => absurd (hloc y hy) (Nat.not_le.mpr hlt)) h1 h2
  refine ⟨T.setFrames fs, ?_, .returned (some (.int 1)), hrun, hended, rfl, lw_closed (d0 := s.drawn) hd0 ⟨_, rfl⟩ hW hfr⟩
  jvm_step X.here [X.here.top, hx, hb, hdg, hmeth', hr, ret, narrow_b1]
  (try refine ⟨rfl, ?_⟩); (try refine ⟨rfl, ?_⟩)
  first | (intro acts; rw [hret _ acts rfl rfl rfl]) | rw [hret _ _ rfl rfl rfl]
  exact Steps.refl _
theorem whole_start {p : Program} {e : Env} {s : State} {m : MethodId} {below : List Frame} {meth : Method} {c : Code} (l : Launch) (hflags : l.flags = flags0) {b L : Nat} {xs : Nat → Int32} (hL : L ≤ 5) (C0 : lw_At p s m meth c b L xs) : W p l e room_1 s m #[Value.ref b] below meth c s.heap [] 0 0 (lw_Z below #[Value.ref b] s) (entryFrame m ([Value.ref b] : List Value).toArray 10) := by
  obtain ⟨hx, hb, hr, hml, hown, hts0, hX, hbl, hlocks, hgv⟩ := id C0
  have hstk : l.stackTraces = false := by
    show (!l.flags.contains noTraceFlag) = false
    rw [hflags]
    decide +kernel
  obtain ⟨D, aC, a, cx, hab⟩ := jbase C0
  have hlen : ((List.range L).map (fun j => (xs j).toInt)).length ≤ 5 := by rw [List.length_map, List.length_range]; exact hL
  have hrg : ∀ y ∈ (List.range L).map (fun j => (xs j).toInt), -2147483648 ≤ y ∧ y ≤ 2147483647 := by
    intro y hy
    obtain ⟨j, -, rfl⟩ := List.mem_map.mp hy
    exact ⟨Int32.le_toInt _, Int.le_of_lt_add_one (Int32.toInt_lt _)⟩
  obtain ⟨f, h', hrun, hc, hs⟩ := jrun_all2 hlen hrg
  obtain ⟨n, pcN, LN, stN, hadv, hend⟩ := jrun_top (d := 79) (f0 := f) (by decide +kernel) f 0 _ _ _ _ _ hrun (Nat.le_refl _)
  have hlv := lv_entry ([.ref b]) (n := 10) (Nat.le_of_ble_eq_true rfl)
  rw [lg_entry_eq]
  generalize (lg_sl ([.ref b]) ++ List.replicate (10 - (lg_sl ([.ref b])).length) Slot.unset).toArray = ls at hlv ⊢
  have hlv : lv_has ls 10 [(0, .ref b)] := hlv
  have hB : jmB (jm 379) = code := by rfl
  have hR : jR (jmC (jm 379)) = R_law := by decide +kernel
  have fx : jFx p s m meth c 379 := ⟨hx, hb.trans hB.symm, hml.trans (show 10 = jmL (jm 379) from by decide +kernel), by rw [hR]; exact hown, hlocks, fun h => absurd h (by decide +kernel)⟩
  have hnil : ∀ (k : Nat) (q : Nat × va_E), (jws a aC [])[k]? = some q → False := fun k q hk => by
    have h9 : ([] : List (Nat × va_E))[k]? = some q := hk
    rw [List.getElem?_nil] at h9
    cases h9
  have hP : jHp D aC a (fun q => s.heap.size ≤ q) s [] s.heap [] :=
    ⟨fun k q hk => (hnil k q hk).elim, ⟨fun i j q r hi => (hnil i q hi).elim, fun k q hk => (hnil k q hk).elim⟩, va_S.rf, fun c9 h9 => absurd h9 List.not_mem_nil⟩
  have hf : jFr a 0 (jmL (jm 379)) [(0, (6, 0))] [] ls := by
    refine ⟨?_, fun q hq => ?_, fun v hv => by cases hv⟩
    · rw [show jmL (jm 379) = 10 from by decide +kernel]
      show lv_has ls 10 [(0, .ref a.2.2.2)]
      rw [hab]
      exact hlv
    · rcases List.mem_cons.mp hq with rfl | hq
      · exact fun h => absurd h (by decide)
      · cases hq
  refine jadv_ok hstk n 0 _ _ _ pcN LN stN h' hadv a s.heap [] ls 0 0 fx cx hP hf (by show 88 ≤ 2048; decide) (by show 72 * 80 + 200 ≤ 94400; decide) (by show h'.2.1 + 0 ≤ 0 + 600006; omega) (by show h'.2.2 + 0 ≤ 0 + 7301992; omega) ?_
  intro a' H' locs' ls' cells' slots' hag hlen2 hP' hf' e1 e2
  have e1 : h'.2.1 + 0 = 0 + cells' := e1
  have e2 : h'.2.2 + 0 = 0 + slots' := e2
  obtain ⟨ins, hI, hcases⟩ := hend
  rcases hcases with ⟨hi, hst, -⟩ | ⟨-, -, h9, -⟩ | ⟨-, -, h9, -⟩ | ⟨-, -, h9, -⟩ | ⟨-, -, h9, -⟩ | ⟨-, -, h9, -⟩
  · subst hi
    subst hst
    have hdg : decode code pcN = .ok (.ireturn, 1) := by rw [← hB]; exact jkdec hI rfl
    exact lw_ret2 hx hb hr hlocks hdg hP'.2.2.1.2.2 (by omega) (by omega)
  · exact absurd h9 (by decide)
  · exact absurd h9 (by decide)
  · exact absurd h9 (by decide)
  · exact absurd h9 (by decide)
  · exact absurd h9 (by decide)
