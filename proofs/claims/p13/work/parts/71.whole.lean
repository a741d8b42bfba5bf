/-! the little machine, part 23: calls on the whole picture; what stands at the end goes -/
theorem jrX_id {x : Int} : jrX (fun i => i) x = x := by cases x <;> rfl
theorem jrV_id {v : JV} : jrV (fun i => i) v = v := by
  obtain ⟨t, x⟩ := v
  show cond (Nat.beq t 4) (4, jrX (fun i => i) x) (t, x) = _
  cases hb : Nat.beq t 4 with
  | false => rfl
  | true =>
    rw [jrX_id, show t = 4 from Nat.eq_of_beq_eq_true hb]
    rfl
theorem jrS_id {st : List JV} : jrS (fun i => i) st = st := by
  show st.map _ = st
  rw [show jrV (fun i => i) = id from funext fun v => jrV_id, List.map_id]
theorem jrC_id {c : JC} : jrC (fun i => i) c = c := by
  obtain ⟨k, fs, es⟩ := c
  show (k, fs.map (jrV fun i => i), cond (Nat.ble 110 k) (es.map (jrX fun i => i)) es) = _
  rw [show jrV (fun i => i) = id from funext fun v => jrV_id, show jrX (fun i => i) = id from funext fun v => jrX_id, List.map_id, List.map_id]
  cases Nat.ble 110 k <;> rfl
theorem jgr_lt {n N i : Nat} (h : i < n) : jgm (List.range n) N i = i := by
  rw [jgm_lt (by rw [List.length_range]; exact h), List.getD_eq_getElem?_getD, List.getElem?_range h]
  rfl
theorem jgr_B {n N : Nat} (h : n ≤ N) : jgB (List.range n) N = true := by
  unfold jgB
  rw [Bool.and_eq_true_iff, List.length_range]
  refine ⟨List.all_eq_true.mpr fun x hx => Nat.ble_eq_true_of_le (Nat.lt_of_lt_of_le (List.mem_range.mp hx) h), List.all_eq_true.mpr fun i hi => List.all_eq_true.mpr fun j hj => ?_⟩
  have e : ∀ k, k < n → (List.range n).getD k 0 = k := fun k hk => by rw [List.getD_eq_getElem?_getD, List.getElem?_range hk]; rfl
  rw [e i (List.mem_range.mp hi), e j (List.mem_range.mp hj)]
  cases Nat.beq i j <;> rfl
theorem jSb_of {ĝ : Nat → Nat} {hs : List JC} : ∀ (r : List JC) (k : Nat), (∀ (j : Nat) (c : JC), r[j]? = some c → hs[ĝ (k + j)]? = some (jrC ĝ c)) → jSb ĝ hs k r
  | [], _, _ => trivial
  | c :: r, k, h => ⟨by
    have h0 : hs[ĝ k]? = some (jrC ĝ c) := h 0 c rfl
    rw [h0]
    cases hg : jisG c with
    | false => rfl
    | true => rw [jisG_is hg]; rfl, jSb_of r (k + 1) fun j c hj => by
    have := h (j + 1) c hj
    rw [show k + (j + 1) = k + 1 + j from by omega] at this
    exact this⟩
section JTT
variable {xs : List Int} {d m n0 pc b1 b2 : Nat} {L : JL} {st : List JV} {hs : List JC} {Q : Nat → JV → List JC → Prop}
/-- what stands at the picture's end goes -/
theorem jT_drop (n : Nat) {hs0 ex : List JC} (hh : hs = hs0 ++ ex) (hlen : hs0.length = n) (hcl : cond (jcH n hs0) (cond (jcL n L) (jcS n st) false) false = true) (hn : n0 ≤ n) (h : jT xs d m n0 pc L st hs0 b1 b2 Q) : jT xs d m n0 pc L st hs b1 b2 Q := by
  subst hh
  subst hlen
  obtain ⟨hc1, hc2⟩ := jcondT hcl
  obtain ⟨hc2, hc3⟩ := jcondT hc2
  have hag : ∀ i, i < hs0.length → jgm (List.range hs0.length) (hs0 ++ ex).length i = (fun i => i) i := fun i hi => jgr_lt hi
  refine jT_gc (List.range hs0.length) (hs0 := hs0) (L0 := L) (st0 := st) (jgr_B (by rw [List.length_append]; omega)) (by rw [List.length_range]) (jSb_of _ _ fun j c hj => ?_) ?_ ?_ ?_ h
  · have hj2 := (List.getElem?_eq_some_iff.mp hj).1
    rw [Nat.zero_add, hag j hj2, List.getElem?_append_left hj2, hj, jrC_ext hag (jcH_get _ _ _ hc1 hj), jrC_id]
  · rw [jrL_ext hag L hc2]
    show L = L.map (jrQ fun i => i)
    rw [show jrQ (fun i => i) = id from funext fun q => by show (q.1, jrV (fun i => i) q.2) = q; rw [jrV_id], List.map_id]
  · rw [jrS_ext hag st hc3, jrS_id]
  · rw [List.all_eq_true]
    intro i hi
    have h3 : i < hs0.length := Nat.lt_of_lt_of_le (List.mem_range.mp hi) hn
    rw [List.length_range, show Nat.blt i hs0.length = true from Nat.ble_eq_true_of_le h3, List.getD_eq_getElem?_getD, List.getElem?_range h3]
    exact Nat.beq_refl i
theorem jputL_same {ĝ : Nat → Nat} {hs hC : List JC} (hi : ∀ i j, ĝ i = ĝ j → i = j) (hsb : jSb ĝ hs 0 hC) : jputL ĝ hs 0 hC hC = hs := by
  refine List.ext_getElem? fun i => ?_
  by_cases hex : ∃ (j : Nat) (c : JC), hC[j]? = some c ∧ jisG c = false ∧ ĝ j = i
  · obtain ⟨j, c, hj, hg, rfl⟩ := hex
    have h1 := jSb_get hC 0 j c hsb hj hg
    rw [Nat.zero_add] at h1
    have h2 := jputL_in (hs := hs) hi hC hC 0 j c c hj hj hg (by rw [Nat.zero_add]; exact (List.getElem?_eq_some_iff.mp h1).1)
    rw [Nat.zero_add] at h2
    rw [h2, h1]
  · exact jputL_out _ _ _ (fun j c hj hg he => hex ⟨j, c, hj, hg, by rw [Nat.zero_add] at he; exact he⟩)
theorem jput_new {ĝ : Nat → Nat} {hs hC ex : List JC} (hi : ∀ i j, ĝ i = ĝ j → i = j) (hsb : jSb ĝ hs 0 hC) : jput ĝ hs hC (hC ++ ex) = hs ++ ex.map (jrC ĝ) := by
  unfold jput
  rw [List.take_left, List.drop_left, jputL_same hi hsb]
end JTT
