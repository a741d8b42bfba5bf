/-! the little machine, part 18: what the start gives -/
def jFl : List Cond := flatC (Jvm.Cond.and given_1 narrow_1)
/-- the words of one list stand in another one in their order -/
def jSub : List Cond → List Cond → Bool
  | [], _ => true
  | _ :: _, [] => false
  | a :: l, b :: r => cond (decide (a = b)) (jSub l r) (jSub (a :: l) r)
theorem jSub_in : ∀ (r l : List Cond), jSub l r = true → ∀ w ∈ l, w ∈ r := by
  intro r
  induction r with
  | nil =>
    intro l h w hw
    cases l with
    | nil => cases hw
    | cons a l => exact absurd (show false = true from h) (by decide)
  | cons b r ih =>
    intro l h w hw
    cases l with
    | nil => cases hw
    | cons a l =>
      have h : cond (decide (a = b)) (jSub l r) (jSub (a :: l) r) = true := h
      cases hd : decide (a = b) with
      | true =>
        rw [hd] at h
        have e := of_decide_eq_true hd
        rcases List.mem_cons.mp hw with hw | hw
        · rw [hw, e]
          exact List.mem_cons_self
        · exact List.mem_cons_of_mem _ (ih l h w hw)
      | false =>
        rw [hd] at h
        exact List.mem_cons_of_mem _ (ih (a :: l) h w hw)
def jTm (i : Nat) : Term := .static (jST i).1 (jST i).2.1 (jST i).2.2
def jChkT (i : Nat) : Bool := cond (Nat.beq (jtb i).1 100)
  (decide (Cond.arrayOf (jTm i) .int ∈ jFl) && jSub ((List.range (jtb i).2.length).map (fun j => Cond.eq (.elem (jTm i) (.int (Int32.ofNat j))) (.int (Int32.ofInt ((jtb i).2.getD j 0))))) jFl)
  (Nat.beq (jtb i).1 101 && (decide (Cond.arrayOf (jTm i) .long ∈ jFl) && jSub ((List.range (jtb i).2.length).map (fun j => Cond.eq (.elem (jTm i) (.int (Int32.ofNat j))) (.long (Int64.ofInt ((jtb i).2.getD j 0))))) jFl))
def jChkS (i : Nat) : Bool := decide (Cond.eq (.length (jTm i)) (.int (Int32.ofNat (jtb i).2.length)) ∈ jFl) && decide (Cond.laysStatic (jST i).1 (jST i).2.1 (jST i).2.2 ∈ lw_tbl) && decide (Cond.initialized (jST i).1 ∈ lw_tbl) && Nat.blt (jtb i).2.length 1000
theorem jchT_0 : jChkT 0 = true := by decide +kernel
theorem jchS_0 : jChkS 0 = true := by decide +kernel
theorem jchT_1 : jChkT 1 = true := by decide +kernel
theorem jchS_1 : jChkS 1 = true := by decide +kernel
theorem jchT_2 : jChkT 2 = true := by decide +kernel
theorem jchS_2 : jChkS 2 = true := by decide +kernel
theorem jchT_3 : jChkT 3 = true := by decide +kernel
theorem jchS_3 : jChkS 3 = true := by decide +kernel
theorem jchT_4 : jChkT 4 = true := by decide +kernel
theorem jchS_4 : jChkS 4 = true := by decide +kernel
theorem jchT_5 : jChkT 5 = true := by decide +kernel
theorem jchS_5 : jChkS 5 = true := by decide +kernel
theorem jchT (i : Nat) (h : i < 6) : jChkT i = true ∧ jChkS i = true := by
  match i, h with
  | 0, _ => exact ⟨jchT_0, jchS_0⟩
  | 1, _ => exact ⟨jchT_1, jchS_1⟩
  | 2, _ => exact ⟨jchT_2, jchS_2⟩
  | 3, _ => exact ⟨jchT_3, jchS_3⟩
  | 4, _ => exact ⟨jchT_4, jchS_4⟩
  | 5, _ => exact ⟨jchT_5, jchS_5⟩
  | k + 6, h => omega
def jChkX (k : Nat) : Bool := decide (Cond.stringRef (jR (jSR k).1) (jSR k).2.1 (jSR k).2.2 ∈ lw_tbl) && decide (Cond.exactly (.string (jR (jSR k).1) (jSR k).2.1) "java/lang/String" ∈ jFl)
theorem jchX : (List.range jSRn).all jChkX = true := by decide +kernel
theorem jchN : (List.range 5).all (fun i => (List.range 5).all (fun j => decide (i = j) || decide (Cond.not (.castable (jEX i) (jEX j)) ∈ jFl))) = true := by decide +kernel
theorem jchU : Cond.isRef (.static Bundle.tN "UNASSIGNED_STACK" Bundle.steD) ∈ jFl ∧ Cond.isRef (.static Bundle.tN "SUPPRESSED_SENTINEL" Bundle.listD) ∈ jFl ∧ Cond.laysStatic Bundle.tN "UNASSIGNED_STACK" Bundle.steD ∈ lw_tbl ∧ Cond.laysStatic Bundle.tN "SUPPRESSED_SENTINEL" Bundle.listD ∈ lw_tbl ∧ Cond.initialized Bundle.tN ∈ lw_tbl := by decide +kernel
theorem jcw_0 : ∀ w ∈ u_ws RJ0 TJ0 2, w ∈ lw_tbl := by decide +kernel
theorem jcw_1 : ∀ w ∈ u_ws RJx00060 TJx00060 6, w ∈ lw_tbl := by decide +kernel
theorem jci_0 : Cond.instantiable RJ0 4 ∈ lw_tbl := by decide +kernel
theorem jci_1 : Cond.instantiable RJx00060 6 ∈ lw_tbl := by decide +kernel
theorem jKn_ex {s : State} {args : Array Value} (hts : ∀ w ∈ lw_tbl, w.before args s = true) (ci : Nat) : ∃ x : ClassId × (Nat → Nat), ∀ q, vwCl[ci]? = some q → u_Kn s q.1 q.2.1 q.2.2 x.1 x.2 := by
  match ci with
  | 0 =>
    obtain ⟨cC, iS, h⟩ := u_known (C := RJ0) (T := TJ0) (N := 2) hts jcw_0 (hts _ jci_0)
    exact ⟨(cC, iS), fun q hq => by cases hq; exact h⟩
  | 1 =>
    obtain ⟨cC, iS, h⟩ := u_known (C := RJx00060) (T := TJx00060) (N := 6) hts jcw_1 (hts _ jci_1)
    exact ⟨(cC, iS), fun q hq => by cases hq; exact h⟩
  | k + 2 =>
    cases hz : vwCl[k + 2]? with
    | none => exact ⟨(0, fun _ => 0), fun q hq => nomatch hq⟩
    | some q =>
      obtain ⟨C, T, N⟩ := q
      have ck := jcl_ok (k + 2) C T N hz (by omega)
      obtain ⟨cC, iS, h⟩ := u_known (C := C) (T := T) (N := N) hts (fun w hw => jGW_in w (ck.1 w hw)) (hts _ ck.2.2.1.1)
      exact ⟨(cC, iS), fun q hq => by cases hq; exact h⟩
theorem jarr_ex {s : State} {args : Array Value} (hts : ∀ w ∈ lw_tbl, w.before args s = true) : ∀ q ∈ jAK, ∃ cA : ClassId, ArrOfT s cA q.2 ∧ va_RA s cA q.2 := by
  have prim : ∀ t : FieldType, Cond.arrayClass t ∈ lw_tbl → (∀ C, t ≠ .object C) → ∃ cA : ClassId, ArrOfT s cA t ∧ va_RA s cA t := by
    intro t ht hne
    obtain ⟨c, k, comp, h1, h2, h3⟩ := Cond.arrayClass_spec (hts _ ht)
    refine ⟨c, fun N z => ⟨(fun k h => by cases h), k, h2, comp, h3⟩, ?_⟩
    cases t with
    | object C => exact absurd rfl (hne C)
    | _ => exact h1
  have obj : ∀ C : String, Cond.arrayOver (.object C) ∈ lw_tbl → ∃ cA : ClassId, ArrOfT s cA (.object C) ∧ va_RA s cA (.object C) := by
    intro C hC
    obtain ⟨comp, c, k, h1, h2, h3, h4, h5⟩ := Cond.arrayOver_spec (hts _ hC)
    exact ⟨c, fun N z => ⟨(fun k h => by cases h), k, h3, comp, h4⟩, k, comp, h3, h4, h1, h5⟩
  have arr : Cond.arrayOver (.array .int) ∈ lw_tbl → ∃ cA : ClassId, ArrOfT s cA (.array .int) ∧ va_RA s cA (.array .int) := by
    intro hC
    obtain ⟨comp, c, k, h1, h2, h3, h4, h5⟩ := arrayOverA_spec (hts _ hC)
    exact ⟨c, fun N z => ⟨(fun k h => by cases h), k, h3, comp, h4⟩, h5⟩
  intro q hq
  simp only [jAK, List.mem_cons, List.not_mem_nil, or_false] at hq
  rcases hq with rfl | rfl | rfl | rfl | rfl | rfl | rfl | rfl
  · exact prim .int (jAW_tbl jaw_int) (fun C h => nomatch h)
  · exact prim .long (jAW_tbl jaw_long) (fun C h => nomatch h)
  · exact prim .double (jAW_tbl jaw_double) (fun C h => nomatch h)
  · exact obj _ (jAW_tbl jao_4)
  · exact obj _ (jAW_tbl jao_7)
  · exact obj _ (jAW_tbl jao_9)
  · exact obj _ (jAW_tbl jao_10)
  · exact arr (jAW_tbl jao_int)
theorem jAK_nd : jAK.all (fun q => jAK.all (fun r => !(Nat.beq q.1 r.1) || decide (q.2 = r.2))) = true := by decide +kernel
theorem jAK_one (k : Nat) (t u : FieldType) (h1 : (k, t) ∈ jAK) (h2 : (k, u) ∈ jAK) : t = u := by
  have h3 := List.all_eq_true.mp (List.all_eq_true.mp jAK_nd _ h1) _ h2
  rw [show Nat.beq (k, t).1 (k, u).1 = true from Nat.beq_refl k] at h3
  exact of_decide_eq_true h3
/-- the base of the law's frame -/
theorem jbase {p : Program} {s : State} {m : MethodId} {meth : Method} {c : Code} {b L : Nat} {xs : Nat → Int32} (C0 : lw_At p s m meth c b L xs) :
    ∃ (D : va_G) (aC : Nat → ClassId) (a : JA), jCx D aC ((List.range L).map (fun j => (xs j).toInt)) a (fun q => s.heap.size ≤ q) s ∧ a.2.2.2 = b := by
  obtain ⟨hx, hb, hr, hml, hown, hts, hX, hbl, hlocks, hgv⟩ := C0
  have hfl : ∀ w ∈ jFl, w.before #[Value.ref b] s = true := flat_of_before _ hgv
  obtain ⟨D, hD⟩ := Classical.axiomOfChoice (jKn_ex hts)
  have harr : ∀ k : Nat, ∃ cA : ClassId, ∀ t, (k, t) ∈ jAK → ArrOfT s cA t ∧ va_RA s cA t := by
    intro k
    by_cases hk : ∃ t, (k, t) ∈ jAK
    · obtain ⟨t, ht⟩ := hk
      obtain ⟨cA, h⟩ := jarr_ex hts _ ht
      refine ⟨cA, fun t' ht' => ?_⟩
      have e : t' = t := jAK_one k t' t ht' ht
      rw [e]
      exact h
    · exact ⟨0, fun t ht => absurd ⟨t, ht⟩ hk⟩
  obtain ⟨aC, haC⟩ := Classical.axiomOfChoice harr
  have hA : ∀ q : Nat, q < s.heap.size → ¬ (fun q : Nat => s.heap.size ≤ q) q := fun q h => Nat.not_le.mpr h
  have htab : ∀ i : Nat, ∃ t : Nat, i < 6 → va_Z (jST i).1 (jST i).2.1 (jST i).2.2 (.ref t) (fun q => s.heap.size ≤ q) s s.heap ∧ ((jtb i).1 = 100 → va_T .int t (jtb i).2.length (fun j => .int (Int32.ofInt ((jtb i).2.getD j 0))) (fun q => s.heap.size ≤ q) s s.heap) ∧ ((jtb i).1 = 101 → va_T .long t (jtb i).2.length (fun j => .long (Int64.ofInt ((jtb i).2.getD j 0))) (fun q => s.heap.size ≤ q) s s.heap) := by
    intro i
    by_cases hi : i < 6
    · obtain ⟨h1, h2⟩ := jchT i hi
      unfold jChkS at h2
      obtain ⟨h2, h5⟩ := Bool.and_eq_true_iff.mp h2
      obtain ⟨h2, h4⟩ := Bool.and_eq_true_iff.mp h2
      obtain ⟨h2, h3⟩ := Bool.and_eq_true_iff.mp h2
      have hlen := va_eqt (hfl _ (of_decide_eq_true h2))
      have hlt : (jtb i).2.length < 2 ^ 31 := Nat.lt_trans (show _ < 1000 from Nat.le_of_ble_eq_true h5) (by decide)
      unfold jChkT at h1
      cases hb1 : Nat.beq (jtb i).1 100 with
      | true =>
        rw [hb1] at h1
        obtain ⟨h6, h7⟩ := Bool.and_eq_true_iff.mp h1
        obtain ⟨t, ht, hT⟩ := va_Tof (f := fun j => .int (Int32.ofInt ((jtb i).2.getD j 0))) hlt (hfl _ (of_decide_eq_true h6)) hlen (fun j hj => va_eqt (hfl _ (jSub_in _ _ h7 _ (List.mem_map.mpr ⟨j, List.mem_range.mpr hj, rfl⟩)))) hA
        refine ⟨t, fun _ => ⟨va_Zref (hts _ (of_decide_eq_true h3)) (hts _ (of_decide_eq_true h4)) ht hA, fun _ => hT, fun h9 => ?_⟩⟩
        rw [Nat.eq_of_beq_eq_true hb1] at h9
        cases h9
      | false =>
        rw [hb1] at h1
        obtain ⟨h8, h1⟩ := Bool.and_eq_true_iff.mp (show (_ && _) = true from h1)
        obtain ⟨h6, h7⟩ := Bool.and_eq_true_iff.mp h1
        obtain ⟨t, ht, hT⟩ := va_Tof (f := fun j => .long (Int64.ofInt ((jtb i).2.getD j 0))) hlt (hfl _ (of_decide_eq_true h6)) hlen (fun j hj => va_eqtl (hfl _ (jSub_in _ _ h7 _ (List.mem_map.mpr ⟨j, List.mem_range.mpr hj, rfl⟩)))) hA
        refine ⟨t, fun _ => ⟨va_Zref (hts _ (of_decide_eq_true h3)) (hts _ (of_decide_eq_true h4)) ht hA, fun h9 => ?_, fun _ => hT⟩⟩
        rw [Nat.eq_of_beq_eq_true h8] at h9
        cases h9
    · exact ⟨0, fun h => absurd h hi⟩
  obtain ⟨tb, htb⟩ := Classical.axiomOfChoice htab
  have hstr : ∀ k : Nat, ∃ q : Nat, k < jSRn → vk_R (jR (jSR k).1) (jSR k).2.1 (jSR k).2.2 q s := by
    intro k
    by_cases hk : k < jSRn
    · have h1 := List.all_eq_true.mp jchX k (List.mem_range.mpr hk)
      obtain ⟨h2, h3⟩ := Bool.and_eq_true_iff.mp h1
      obtain ⟨q, c, cell, kk, he, -⟩ := Cond.exactly_spec (args := #[Value.ref b]) (first := s) (o := none) (s := s) (idx := []) (hfl _ (of_decide_eq_true h3))
      exact ⟨q, fun _ => vk_R.of (hts _ (of_decide_eq_true h2)) he⟩
    · exact ⟨0, fun h => absurd h hk⟩
  obtain ⟨sr, hsr⟩ := Classical.axiomOfChoice hstr
  obtain ⟨hU1, hU2, hU3, hU4, hU5⟩ := jchU
  refine ⟨(fun k => (D k).1, fun k => (D k).2), aC, (fun _ => 0, tb, sr, b), ⟨⟨fun ci q hq => hD ci q hq, fun k q hk => ?_⟩, ⟨fun w hw => jMov_any (jAW_mov hw) (hts w (jAW_tbl hw)), fun k hk => hsr k hk, fun i hi j hj hij => ?_⟩, ⟨fun i hi => (htb i hi).1, fun i hi h1 => (htb i hi).2.1 h1, fun i hi h1 => (htb i hi).2.2 h1, ?_, vx_Zqof (hts _ hU3) (hts _ hU5) (hfl _ hU1) hA, vx_Zqof (hts _ hU4) (hts _ hU5) (hfl _ hU2) hA⟩, fun q h => h⟩, rfl⟩
  · unfold jTys at hk
    rw [List.getElem?_map] at hk
    obtain ⟨x, hx1, rfl⟩ := Option.map_eq_some_iff.mp hk
    exact haC x.1 x.2 (List.mem_of_getElem? hx1)
  · have h1 := List.all_eq_true.mp (List.all_eq_true.mp jchN i (List.mem_range.mpr hi)) j (List.mem_range.mpr hj)
    rcases Bool.or_eq_true_iff.mp h1 with h1 | h1
    · exact absurd (of_decide_eq_true h1) hij
    · exact va_Nc.of (hfl _ (of_decide_eq_true h1))
  · obtain ⟨scr, h1, h2, h3, h4, h5⟩ := hX
    have hl : ((List.range L).map (fun j => (xs j).toInt)).length = L := by rw [List.length_map, List.length_range]
    rw [hl]
    refine ⟨scr, h1, h2, h3, Nat.le_of_eq h4.symm, by rw [h4], fun j hj => ?_, hA b hbl⟩
    show _ = some (Value.int (Int32.ofInt (((List.range L).map (fun j => (xs j).toInt)).getD j 0)))
    rw [h5 j hj, List.getD_eq_getElem?_getD, List.getElem?_map, List.getElem?_range hj]
    show some (Value.int (xs j)) = some (Value.int (Int32.ofInt (xs j).toInt))
    rw [Int32.ofInt_toInt]
