/-! the little machine, part 16: calls, handlers -/
section JCL
variable {p : Program} {l : Launch} {e : Env} {R : Room} {s : State} {m : MethodId} {args : Array Value} {below : List Frame} {meth : Method} {c : Code} {H : Heap} {locs : List Loc} {cells slots : Nat} {Q : State → Prop}
variable {D : va_G} {aC : Nat → ClassId} {A : Nat → Prop} {xs : List Int} {a : JA} {L : JL} {st : List JV} {ls : Array Slot} {pc : Nat} {h h' : JH}
theorem jgood_w {w : Cond} (h : jWd w) : GoodIn jAW [w] := fun z hz => by
  rw [List.mem_singleton.mp hz]
  exact ⟨h.aw, good_of_word h.2⟩
theorem jcode_n {y : Nat} (h4 : jmF (jm y) ≠ 4) : jmCode (jm y) = .code (jmY (jm y)) (jmB (jm y)) (jmL (jm y)) (jmT (jm y)) := by
  unfold jmCode
  split
  · rename_i q; exact absurd q h4
  · rfl
theorem jcode_4 {y : Nat} (h4 : jmF (jm y) = 4) : jmCode (jm y) = .codeWith (jmY (jm y)) (jmB (jm y)) (jmL (jm y)) (jmT (jm y)) (jmH (jm y)) := by
  unfold jmCode
  split
  · rfl
  · rename_i q; exact absurd h4 q
theorem jparams {y : Nat} {sig} (h : parseMethodDescriptor (jmY (jm y)).desc = some sig) : jmN (jm y) = sig.parameters.length := by
  have h2 := (jmD_ok y).2.2.2.2.1
  rw [h] at h2
  exact (Option.some.inj h2).symm
theorem jret_none {y : Nat} (h2 : jmF (jm y) = 2) : jmT (jm y) = none := by
  have h3 := (Bool.and_eq_true_iff.mp (jmI_ok y)).2
  rw [h2] at h3
  exact jty_9 ((jmT_ok y).trans (Nat.eq_of_beq_eq_true h3))
set_option maxHeartbeats 2000000 in
/-- a call that returns -/
theorem jcal0 {mm y d : Nat} {as : List JV} {g : JF} {v : JV} (fx : jFx p s m meth c mm) (cx : jCx D aC xs a A s) (hP : jHp D aC a A s h.1 H locs) (hf : jFr a h.1.length (jmL (jm mm)) L st ls) (hC : jCal mm pc L st h y as g) (hM : jMet0 l D aC xs d y a as h H.size v h') (hwid : jwid g.2.2 ≤ 8) (hr9 : Nat.beq v.1 9 = Nat.beq (jmR (jm y)) 9)
    (hRf : d + 1 + 8 ≤ R.frames) (hRl : 72 * (d + 1) + 200 ≤ R.locals) (hc : cells + (h'.2.1 - h.2.1) ≤ R.cells) (hs : slots + (h'.2.2 - h.2.2) ≤ R.slots)
    (kk : ∀ (a' : JA) (H1 : Heap) (locs1 : List Loc), jagr h.1.length a a' → h.1.length ≤ h'.1.length → jHp D aC a' A s h'.1 H1 locs1 → jFr a' h'.1.length (jmL (jm mm)) L (cond (Nat.beq (jmR (jm y)) 9) g.2.2 (v :: g.2.2)) ls → W p l e R s m args below meth c H1 locs1 (cells + (h'.2.1 - h.2.1)) (slots + (h'.2.2 - h.2.2)) Q (F0 m (pc + 3) ls ((cond (Nat.beq (jmR (jm y)) 9) g.2.2 (v :: g.2.2)).map (jc a')))) : W p l e R s m args below meth c H locs cells slots Q (F0 m pc ls (st.map (jc a))) := by
  obtain ⟨hx, hb, hml, hown, hlocks, -⟩ := fx
  obtain ⟨hpf, hpn, hd1, hd2, hd3, hd4, hd5⟩ := jmD_ok y
  have hts : ∀ w ∈ jAW, w.before args s = true := fun w hw => cx.2.1.w hw _
  have S : CallFix p m c (jmB (jm mm)) (jmL (jm mm)) s args jAW (jR (jmC (jm mm))) := ⟨hx, hb, hml, hown, hts⟩
  have hroom : (jRm d h h').frames + 1 ≤ R.frames ∧ 8 + (jmL (jm y) + 11) + (jRm d h h').locals ≤ R.locals := ⟨by show d + 8 + 1 ≤ _; omega, by show 8 + (jmL (jm y) + 11) + (72 * d + 200) ≤ _; omega⟩
  have go : ∀ av, jwS h.1.length g.2.2 → va_Run p l e R s m args below meth c H locs cells slots (h'.2.1 - h.2.1) (h'.2.2 - h.2.2) (F0 m pc ls (st.map (jc a))) (g.2.2.map (jc a)) (jQ (fun o u => o = jVal u v) (jAft D aC (va_A (jws a aC h.1) H.size) a h.1 h'.1 v) (va_A (jws a aC h.1) H.size) av) (va_A (jws a aC h.1) H.size) → W p l e R s m args below meth c H locs cells slots Q (F0 m pc ls (st.map (jc a))) := by
    intro av hws hr
    refine jcall_go hr hP.2.2.1 (fun q _ h => jfree_of cx hP q h) (fun q h => jfree_of cx hP q h) (fun o u t H1 locs1 ht ho hB hS => ?_)
    subst ho
    obtain ⟨hag, hlen, hw, hwf, -⟩ := id hB
    have hP1 := jaft_hp cx hP ht hB hS
    have hf2 := jFr_ext (⟨hf.1, hf.2.1, hws⟩ : jFr a h.1.length (jmL (jm mm)) L g.2.2 ls) hag hlen
    have h2 := kk u H1 locs1 hag hlen hP1 (by
      cases hb9 : Nat.beq (jmR (jm y)) 9 with
      | true => exact hf2
      | false => exact ⟨hf2.1, hf2.2.1, jS_cons hwf hf2.2.2⟩)
    have e9 : (jVal u v).toList ++ g.2.2.map (jc a) = (cond (Nat.beq (jmR (jm y)) 9) g.2.2 (v :: g.2.2)).map (jc u) := by
      unfold jVal
      rw [hr9, jcs_ext hag hws]
      cases Nat.beq (jmR (jm y)) 9 <;> rfl
    rw [e9]
    exact h2
  obtain ⟨hg1, hg2, i, cd, z, hE, hC⟩ := hC
  have hlk := jpool_ok (jmC (jm mm)) i
  rw [hE] at hlk
  rcases hC with ⟨hI, hcd, htk⟩ | ⟨hI, rfl, hfl, as', n, fs, cs, rfl, htk, hcell⟩ | ⟨hI, hcd, hfl, as', n, rfl, htk⟩
  · obtain ⟨hst, hlen⟩ := jtake_st htk a
    have hws := (jtake_wf htk hf.2.2).2
    have hn : (as.map (jc a)).length = jmN (jm y) := by rw [List.length_map]; exact hlen
    have hwd : 2 * (F0 m pc ls (st.map (jc a))).monitorRoom + ((g.2.2.map (jc a)).map fun v => v.category).sum ≤ 8 := lv_room (by rw [jwid_sum]; exact hwid)
    rcases hcd with ⟨rfl, h0 | h4⟩ | ⟨rfl, h0⟩
    · have hlk : jWd (.methodLink (jR (jmC (jm mm))) i (jmY (jm y))) := hlk
      obtain ⟨hw1, hw2, hw3⟩ := jmW_ok (m := y) (by rw [h0]; decide)
      have hw3 : jWd (.static (jmY (jm y))) := by unfold jmRest at hw3; rw [h0] at hw3; exact hw3
      have hcw := callB_of (R := R) (own := jR (jmC (jm mm))) (index := i) (mc := h'.2.1 - h.2.1) (ms := h'.2.2 - h.2.2) (rm := jRm d h h') (ws := [jmCode (jm y)]) (ws' := []) (jmN (jm y)) hts (jgood_w hw1) (by rw [jcode_n (by rw [h0]; decide)]) rfl rfl (hts _ hw2.aw) (hts _ hlk.aw) ⟨hd1, hd2, hd3⟩ hroom
      exact go _ hws (va_runS S hM ⟨hcw, hts _ hw3.aw⟩ ⟨jPc_blind, jPre_of cx hP as⟩ rfl hn hf.1.1 hst hwd (jkdec hI rfl) ⟨hc, hs⟩)
    · have hlk : jWd (.methodLink (jR (jmC (jm mm))) i (jmY (jm y))) := hlk
      obtain ⟨hw1, hw2, hw3⟩ := jmW_ok (m := y) (by rw [h4]; decide)
      have hw3 : jWd (.static (jmY (jm y))) := by unfold jmRest at hw3; rw [h4] at hw3; exact hw3
      have hw1' := hw1
      rw [jcode_4 h4] at hw1'
      have hcw : vx_CSW R s args (jR (jmC (jm mm))) i (jmY (jm y)) (jmB (jm y)) (jmL (jm y)) (jmT (jm y)) (jmH (jm y)) [jmCode (jm y)] (jRm d h h') (h'.2.1 - h.2.1) (h'.2.2 - h.2.2) (jmN (jm y)) := ⟨⟨rfl, rfl, hroom.1, hroom.2, pay_in hts (jgood_w hw1), by rw [jcode_4 h4]; exact List.mem_cons_self⟩, hts _ hw1'.aw, hts _ hw2.aw, ⟨hd1, hd2⟩, fun sig h => jparams h, hts _ hlk.aw, hts _ hw3.aw⟩
      exact go _ hws (vx_runSW S hM hcw ⟨jPc_blind, jPre_of cx hP as⟩ rfl hn hf.1.1 hst hwd (jkdec hI rfl) ⟨hc, hs⟩)
    · obtain ⟨host, hlk⟩ : ∃ host : String, Cond.methodLinkNest (jR (jmC (jm mm))) i (jmY (jm y)) host ∈ jNW := hlk
      obtain ⟨hw1, hw2, hw3⟩ := jmW_ok (m := y) (by rw [h0]; decide)
      have hw3 : jWd (.static (jmY (jm y))) := by unfold jmRest at hw3; rw [h0] at hw3; exact hw3
      have hcw := va_cnB (R := R) (own := jR (jmC (jm mm))) (index := i) (host := host) (mc := h'.2.1 - h.2.1) (ms := h'.2.2 - h.2.2) (rm := jRm d h h') (ws := [jmCode (jm y)]) (ws' := []) (jmN (jm y)) hts (jgood_w hw1) (by rw [jcode_n (by rw [h0]; decide)]) rfl rfl (cx.2.1.1 _ (jNW_aw hlk)) (hts _ hw2.aw) ⟨hd1, hd2, hd3⟩ hroom
      exact go _ hws (va_runSN S hM ⟨hcw, hts _ hw3.aw, trivial⟩ ⟨jPc_blind, jPre_of cx hP as⟩ rfl hn hf.1.1 hst hwd (jkdec hI rfl) ⟨hc, hs⟩)
  · obtain ⟨hst, hlen⟩ := jtake_st htk a
    have hws := jS_tail (jtake_wf htk hf.2.2).2
    have hn : (as'.map (jc a)).length = jmN (jm y) := by rw [List.length_map]; exact hlen
    have hwd : 2 * (F0 m pc ls (st.map (jc a))).monitorRoom + ((g.2.2.map (jc a)).map fun v => v.category).sum ≤ 8 := lv_room (by rw [jwid_sum]; exact hwid)
    have hlk : jWd (.methodLink (jR (jmC (jm mm))) i (jmY (jm y))) := hlk
    have h4 : jmF (jm y) ≠ 4 := by rcases hfl with q | q <;> rw [q] <;> decide
    have h5 : jmF (jm y) ≠ 5 := by rcases hfl with q | q <;> rw [q] <;> decide
    obtain ⟨hw1, hw2, hw3⟩ := jmW_ok h5
    have hw3 : jWd (.instanceMethod (jmY (jm y))) ∧ jWd (.selects (jmY (jm y)).cls (jmY (jm y)) (jmY (jm y))) := by
      unfold jmRest at hw3
      rcases hfl with q | q
      · rw [q] at hw3; exact hw3
      · rw [q] at hw3; exact hw3
    have hcw := callB_of (R := R) (own := jR (jmC (jm mm))) (index := i) (mc := h'.2.1 - h.2.1) (ms := h'.2.2 - h.2.2) (rm := jRm d h h') (ws := [jmCode (jm y)]) (ws' := []) (jmN (jm y)) hts (jgood_w hw1) (by rw [jcode_n h4]) rfl rfl (hts _ hw2.aw) (hts _ hlk.aw) ⟨hd1, hd2, hd3⟩ hroom
    obtain ⟨hC2, hC15⟩ := jmC_v hfl
    obtain ⟨q, hq⟩ : ∃ q, vwCl[jmC (jm y)]? = some q := ⟨_, List.getElem?_eq_getElem (show jmC (jm y) < vwCl.length from hC15)⟩
    have hcls := jcl_ok (jmC (jm y)) q.1 q.2.1 q.2.2 hq hC2
    have hrecv := va_recv cx.1 hP.1 hq ((jws_at hcell).trans (by rw [je_fld (by omega)]))
    have hqn : q.1 = (jmY (jm y)).cls := by rw [hcls.2.2.2.2.1, hd4]
    rw [hqn] at hrecv
    exact go _ hws (va_runV (b := a.1 n) (As := as'.map (jc a)) S hM ⟨hcw, hts _ hw3.1.aw, hts _ hw3.2.aw⟩ ⟨jPc_blind, hrecv, jPre_of cx hP ((4, .ofNat n) :: as')⟩ rfl hn hf.1.1 hst hwd (jkdec hI rfl) ⟨hc, hs⟩)
  · obtain ⟨hst, hlen⟩ := jtake_st htk a
    have hws := jS_tail (jtake_wf htk hf.2.2).2
    have hn : (as'.map (jc a)).length = jmN (jm y) := by rw [List.length_map]; exact hlen
    have hwd : 2 * (F0 m pc ls (st.map (jc a))).monitorRoom + ((g.2.2.map (jc a)).map fun v => v.category).sum ≤ 8 := lv_room (by rw [jwid_sum]; exact hwid)
    have hTn := jret_none hfl
    obtain ⟨hw1, hw2, hw3⟩ := jmW_ok (m := y) (by rw [hfl]; decide)
    have hw3 : jWd (.instanceMethod (jmY (jm y))) ∧ (jmY (jm y)).name = "<init>" := by
      unfold jmRest at hw3
      rw [hfl] at hw3
      exact hw3
    rcases hcd with rfl | rfl
    · have hlk : jWd (.methodLink (jR (jmC (jm mm))) i (jmY (jm y))) := hlk
      have hcw := callB_of (R := R) (own := jR (jmC (jm mm))) (index := i) (mc := h'.2.1 - h.2.1) (ms := h'.2.2 - h.2.2) (rm := jRm d h h') (ws := [jmCode (jm y)]) (ws' := []) (ret := none) (jmN (jm y)) hts (jgood_w hw1) (by rw [jcode_n (by rw [hfl]; decide), hTn]) rfl rfl (hts _ hw2.aw) (hts _ hlk.aw) ⟨hd1, hd2, hd3⟩ hroom
      exact go _ hws (va_runI (b := a.1 n) (As := as'.map (jc a)) S hM ⟨hcw, hw3.2, hts _ hw3.1.aw⟩ ⟨jPc_blind, jPre_of cx hP ((4, .ofNat n) :: as')⟩ rfl hn hf.1.1 hst hwd (jkdec hI rfl) ⟨hc, hs⟩)
    · obtain ⟨host, hlk⟩ : ∃ host : String, Cond.methodLinkNest (jR (jmC (jm mm))) i (jmY (jm y)) host ∈ jNW := hlk
      have hcw := va_cnB (R := R) (own := jR (jmC (jm mm))) (index := i) (host := host) (mc := h'.2.1 - h.2.1) (ms := h'.2.2 - h.2.2) (rm := jRm d h h') (ws := [jmCode (jm y)]) (ws' := []) (ret := none) (jmN (jm y)) hts (jgood_w hw1) (by rw [jcode_n (by rw [hfl]; decide), hTn]) rfl rfl (cx.2.1.1 _ (jNW_aw hlk)) (hts _ hw2.aw) ⟨hd1, hd2, hd3⟩ hroom
      exact go _ hws (va_runIN (b := a.1 n) (As := as'.map (jc a)) S hM ⟨hcw, hw3.2, hts _ hw3.1.aw⟩ ⟨jPc_blind, jPre_of cx hP ((4, .ofNat n) :: as')⟩ rfl hn hf.1.1 hst hwd (jkdec hI rfl) ⟨hc, hs⟩)
/-- a call that throws -/
theorem jcal1 {mm y d ex : Nat} {as : List JV} {g : JF} (fx : jFx p s m meth c mm) (cx : jCx D aC xs a A s) (hP : jHp D aC a A s h.1 H locs) (hf : jFr a h.1.length (jmL (jm mm)) L st ls) (hC : jCal mm pc L st h y as g) (h3 : jmF (jm y) = 3) (hM : jMet1 l D aC xs d y a as h H.size ex h') (hwid : jwid g.2.2 ≤ 8)
    (hRf : d + 1 + 8 ≤ R.frames) (hRl : 72 * (d + 1) + 200 ≤ R.locals) (hc : cells + (h'.2.1 - h.2.1) ≤ R.cells) (hs : slots + (h'.2.2 - h.2.2) ≤ R.slots)
    (kk : ∀ (a' : JA) (H1 : Heap) (locs1 : List Loc) (q : Addr) (ce : Cell), jagr h.1.length a a' → h.1.length ≤ h'.1.length → jHp D aC a' A s h'.1 H1 locs1 → H1[q]? = some ce → ce.vm = .none → s.vm.findClass (jEX ex) = some ce.cls → vx_W p l e R s m args below meth c H1 locs1 (cells + (h'.2.1 - h.2.1)) (slots + (h'.2.2 - h.2.2)) Q (F0 m pc ls (g.2.2.map (jc a))) q) : W p l e R s m args below meth c H locs cells slots Q (F0 m pc ls (st.map (jc a))) := by
  obtain ⟨hx, hb, hml, hown, hlocks, -⟩ := fx
  obtain ⟨hpf, hpn, hd1, hd2, hd3, hd4, hd5⟩ := jmD_ok y
  have hts : ∀ w ∈ jAW, w.before args s = true := fun w hw => cx.2.1.w hw _
  have S : CallFix p m c (jmB (jm mm)) (jmL (jm mm)) s args jAW (jR (jmC (jm mm))) := ⟨hx, hb, hml, hown, hts⟩
  have hroom : (jRm d h h').frames + 1 ≤ R.frames ∧ 8 + (jmL (jm y) + 11) + (jRm d h h').locals ≤ R.locals := ⟨by show d + 8 + 1 ≤ _; omega, by show 8 + (jmL (jm y) + 11) + (72 * d + 200) ≤ _; omega⟩
  obtain ⟨hg1, hg2, i, cd, z, hE, hC⟩ := hC
  have hlk := jpool_ok (jmC (jm mm)) i
  rw [hE] at hlk
  rcases hC with ⟨hI, hcd, htk⟩ | ⟨hI, rfl, hfl, as', n, fs, cs, rfl, htk, hcell⟩ | ⟨hI, hcd, hfl, as', n, rfl, htk⟩
  · rcases hcd with ⟨-, h0 | h4⟩ | ⟨-, h0⟩
    · rw [h3] at h0; cases h0
    · rw [h3] at h4; cases h4
    · rw [h3] at h0; cases h0
  · obtain ⟨hst, hlen⟩ := jtake_st htk a
    have hn : (as'.map (jc a)).length = jmN (jm y) := by rw [List.length_map]; exact hlen
    have hwd : 2 * (F0 m pc ls (st.map (jc a))).monitorRoom + ((g.2.2.map (jc a)).map fun v => v.category).sum ≤ 8 := lv_room (by rw [jwid_sum]; exact hwid)
    have hlk : jWd (.methodLink (jR (jmC (jm mm))) i (jmY (jm y))) := hlk
    obtain ⟨hw1, hw2, hw3⟩ := jmW_ok (m := y) (by rw [h3]; decide)
    have hw3 : jWd (.instanceMethod (jmY (jm y))) ∧ jWd (.selects (jmY (jm y)).cls (jmY (jm y)) (jmY (jm y))) := by
      unfold jmRest at hw3
      rw [h3] at hw3
      exact hw3
    have hcw := callB_of (R := R) (own := jR (jmC (jm mm))) (index := i) (mc := h'.2.1 - h.2.1) (ms := h'.2.2 - h.2.2) (rm := jRm d h h') (ws := [jmCode (jm y)]) (ws' := []) (jmN (jm y)) hts (jgood_w hw1) (by rw [jcode_n (by rw [h3]; decide)]) rfl rfl (hts _ hw2.aw) (hts _ hlk.aw) ⟨hd1, hd2, hd3⟩ hroom
    obtain ⟨hC2, hC15⟩ := jmC_v hfl
    obtain ⟨q, hq⟩ : ∃ q, vwCl[jmC (jm y)]? = some q := ⟨_, List.getElem?_eq_getElem (show jmC (jm y) < vwCl.length from hC15)⟩
    have hcls := jcl_ok (jmC (jm y)) q.1 q.2.1 q.2.2 hq hC2
    have hrecv := va_recv cx.1 hP.1 hq ((jws_at hcell).trans (by rw [je_fld (by omega)]))
    have hqn : q.1 = (jmY (jm y)).cls := by rw [hcls.2.2.2.2.1, hd4]
    rw [hqn] at hrecv
    refine jthr_go (vx_runV (b := a.1 n) (As := as'.map (jc a)) (rest := g.2.2.map (jc a)) S hM ⟨hcw, hts _ hw3.1.aw, hts _ hw3.2.aw⟩ ⟨jPc_blind, hrecv, jPre_of cx hP ((4, .ofNat n) :: as')⟩ rfl hn hf.1.1 hst hwd (jkdec hI rfl) ⟨hc, hs⟩) hP.2.2.1 (fun q h => jfree_of cx hP q h) (fun q _ h => jfree_of cx hP q h) (fun E ce q9 u t H1 locs1 ht _ hB hS g1 g2 g3 => ?_)
    obtain ⟨rfl, hB⟩ := hB
    exact kk u H1 locs1 q9 ce hB.1 hB.2.1 (jaft_hp cx hP ht hB hS) g1 g2 g3
  · rw [h3] at hfl; cases hfl
end JCL
