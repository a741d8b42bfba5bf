/-! the little machine, part 17: handlers; every run is a run of the machine -/
section JAL
variable {p : Program} {l : Launch} {e : Env} {R : Room} {s : State} {m : MethodId} {args : Array Value} {below : List Frame} {meth : Method} {c : Code} {H : Heap} {locs : List Loc} {cells slots : Nat} {Q : State → Prop}
variable {D : va_G} {aC : Nat → ClassId} {A : Nat → Prop} {xs : List Int} {a : JA} {L : JL} {st : List JV} {ls : Array Slot} {pc : Nat} {h h' : JH}
theorem jcondo_some {α : Type} {b : Bool} {x : Option α} {z : α} (q : cond b x none = some z) : b = true ∧ x = some z := by
  cases b with
  | true => exact ⟨rfl, q⟩
  | false => cases q
theorem jcov {x y z : Nat} : (Nat.ble x z && Nat.blt z y) = (decide (x ≤ z) && decide (z < y)) := by
  congr 1
  · cases hb : Nat.ble x z with
    | true => rw [decide_eq_true (Nat.le_of_ble_eq_true hb)]
    | false => rw [decide_eq_false (fun q => by rw [Nat.ble_eq_true_of_le q] at hb; cases hb)]
  · cases hb : Nat.blt z y with
    | true => rw [decide_eq_true (show z < y from Nat.le_of_ble_eq_true hb)]
    | false => rw [decide_eq_false (fun q => by rw [jblt_of_lt q] at hb; cases hb)]
theorem jcastX {ex : Nat} (h : ex < 5) : Cond.castable (jEX ex) (jEX ex) ∈ jAW := by
  match ex, h with
  | 0, _ => exact jex_c0
  | 1, _ => exact jex_c1
  | 2, _ => exact jex_c2
  | 3, _ => exact jex_c3
  | 4, _ => exact jex_c4
  | k + 5, h => omega
/-- the handler's own end: the exception away, a number, back -/
theorem jhcd_ok {mm pcN : Nat} {z : Int} {q9 : Addr} (fx : jFx p s m meth c mm) (hls : lv_has ls (jmL (jm mm)) []) (hz : jhcd mm pcN = some z) (hR0 : jmR (jm mm) = 0)
    (kk : ∀ (ls' : Array Slot) (pc2 : Nat), jEnd0 mm pc2 [(0, z)] (0, z) → W p l e R s m args below meth c H locs cells slots Q (F0 m pc2 ls' [.int (Int32.ofInt z)])) : W p l e R s m args below meth c H locs cells slots Q (F0 m pcN ls [.ref q9]) := by
  obtain ⟨hx, hb, -⟩ := fx
  unfold jhcd at hz
  split at hz
  · rename_i i hI
    replace hz := jcondo_some hz
    obtain ⟨hi, hz⟩ := hz
    split at hz
    · rename_i k hI1 hI2
      cases hz
      refine lv_astore_n (lv' := [((i : Nat), .ref q9)]) hx hb (jkdec hI rfl) rfl hls (Nat.le_of_ble_eq_true hi) rfl (fun ls' _ => ?_)
      refine lv_iconst (v := Int32.ofInt z) hx hb (jkdec hI1 rfl) rfl ?_
      exact kk ls' _ ⟨_, hI2, Or.inl ⟨rfl, rfl, rfl, Or.inl hR0⟩⟩
    · cases hz
  · rename_i i hI
    replace hz := jcondo_some hz
    obtain ⟨hi, hz⟩ := hz
    split at hz
    · rename_i k hI1 hI2
      cases hz
      refine lv_astore (lv' := [(i, .ref q9)]) hx hb (jkdec hI rfl) hls (Nat.le_of_ble_eq_true hi) rfl (fun ls' _ => ?_)
      refine lv_iconst (v := Int32.ofInt z) hx hb (jkdec hI1 rfl) rfl ?_
      exact kk ls' _ ⟨_, hI2, Or.inl ⟨rfl, rfl, rfl, Or.inl hR0⟩⟩
    · cases hz
  · cases hz
/-- an exception that this method's table takes -/
theorem jhnd_ok {mm ex : Nat} {z : Int} {q9 : Addr} {ce : Cell} {rest : List Value} (fx : jFx p s m meth c mm) (htab : jmF (jm mm) = 4 → c.exceptionTable.toList = tableOf (jmH (jm mm))) (cx : jCx D aC xs a A s) (hls : lv_has ls (jmL (jm mm)) []) (h5 : ex < 5) (hz : jhnd mm pc (ex : Int) = some z) (g1 : H[q9]? = some ce) (g2 : ce.vm = .none) (g3 : s.vm.findClass (jEX ex) = some ce.cls)
    (kk : ∀ (ls' : Array Slot) (pc2 : Nat), jEnd0 mm pc2 [(0, z)] (0, z) → W p l e R s m args below meth c H locs cells slots Q (F0 m pc2 ls' [.int (Int32.ofInt z)])) : vx_W p l e R s m args below meth c H locs cells slots Q (F0 m pc ls rest) q9 := by
  obtain ⟨hok, h4, hR0, q, hq, hzc⟩ := jhnd_0 hz
  have htb := htab h4
  obtain ⟨hq2, pre, suf, hsplit, hpre⟩ := List.find?_eq_some_iff_append.mp hq
  obtain ⟨hq12, hq3⟩ := Bool.and_eq_true_iff.mp hq2
  have hall := fun x hx => List.all_eq_true.mp hok x hx
  have hmem : q ∈ jmH (jm mm) := by rw [hsplit]; exact List.mem_append_right _ List.mem_cons_self
  have entry : ∀ x ∈ jmH (jm mm), ∃ (k : Nat) (z2 : Int), jpool (jmC (jm mm)) x.2.2.2 = (13, k, z2) ∧ k < 5 ∧ x.2.2.2 ≠ 0 ∧ jWd (.classLink (jR (jmC (jm mm))) x.2.2.2 (jEX k)) := by
    intro x hx
    have h1 := hall x hx
    split at h1
    · rename_i k z2 hp
      obtain ⟨h1, h2⟩ := Bool.and_eq_true_iff.mp h1
      have hw := jpool_ok (jmC (jm mm)) x.2.2.2
      rw [hp] at hw
      refine ⟨k, z2, hp, Nat.le_of_ble_eq_true h1, fun h0 => ?_, hw⟩
      rw [h0] at h2
      cases h2
    · cases h1
  obtain ⟨k, z2, hp, hk5, hk0, hkw⟩ := entry q hmem
  have hke : k = ex := by
    unfold jcat at hq3
    rw [hp] at hq3
    have := of_decide_eq_true hq3
    omega
  subst hke
  refine vx_catch fx.2.2.2.1 (pre.map fun q => ⟨q.1, q.2.1, q.2.2.1, q.2.2.2⟩) ⟨q.1, q.2.1, q.2.2.1, q.2.2.2⟩ (suf.map fun q => ⟨q.1, q.2.1, q.2.2.1, q.2.2.2⟩) ?_ ?_ ?_ hk0 (cx.2.1.w hkw.aw _) (cx.2.1.w (jcastX h5) _) g1 g2 g3 (jhcd_ok fx hls hzc hR0 kk)
  · rw [htb]
    unfold tableOf
    rw [hsplit, List.map_append]
    rfl
  · intro x hx
    obtain ⟨y, hy, rfl⟩ := List.mem_map.mp hx
    have hym : y ∈ jmH (jm mm) := by rw [hsplit]; exact List.mem_append_left _ hy
    obtain ⟨ky, zy, hpy, hk5y, hk0y, hkwy⟩ := entry y hym
    have hn := hpre y hy
    cases hcv : (Nat.ble y.1 pc && Nat.blt pc y.2.1) with
    | false =>
      refine Or.inl ?_
      unfold covers
      rw [← jcov]
      exact hcv
    | true =>
      rw [hcv] at hn
      refine Or.inr ⟨hk0y, jEX ky, cx.2.1.w hkwy.aw _, cx.2.1.2.2 k h5 ky hk5y (fun he => ?_)⟩
      unfold jcat at hn
      rw [hpy] at hn
      subst he
      simp at hn
  · unfold covers
    rw [← jcov]
    exact hq12
theorem jcal_wf {mm y : Nat} {as : List JV} {g : JF} {nL : Nat} (hf : jFr a h.1.length nL L st ls) (hC : jCal mm pc L st h y as g) : jwS h.1.length as := by
  obtain ⟨-, -, i, cd, z, -, hC⟩ := hC
  rcases hC with ⟨-, -, htk⟩ | ⟨-, -, -, as', n, fs, cs, rfl, htk, -⟩ | ⟨-, -, -, as', n, rfl, htk⟩
  · exact (jtake_wf htk hf.2.2).1
  · exact jS_cons (jS_head (jtake_wf htk hf.2.2).2) (jtake_wf htk hf.2.2).1
  · exact jS_cons (jS_head (jtake_wf htk hf.2.2).2) (jtake_wf htk hf.2.2).1
theorem jcal_f5 {mm y : Nat} {as : List JV} {g : JF} (hC : jCal mm pc L st h y as g) : jmF (jm y) ≠ 5 := by
  obtain ⟨-, -, i, cd, z, -, hC⟩ := hC
  rcases hC with ⟨-, ⟨-, h0 | h0⟩ | ⟨-, h0⟩, -⟩ | ⟨-, -, h0 | h0, -⟩ | ⟨-, -, h0, -⟩ <;> rw [h0] <;> decide
set_option maxHeartbeats 1000000 in
/-- every run that tells something is a run of the machine -/
theorem jframe (hl : l.stackTraces = false) : ∀ f, jFrm l D aC xs f := by
  intro f
  induction f with
  | zero =>
    intro d mm pc L st h k v h' hr hk
    cases hr
    exact absurd hk (by decide)
  | succ f IH =>
    intro d mm pc L st h k v h' hr hk p e R s m args below meth c Q A a H locs ls cells slots fx htab cx hP hf hRf hRl hc hs hret hthr
    have hmono := jrun_mono _ _ _ _ _ _ _ _ _ _ hr hk
    have hm1 := hmono.1
    have hm2 := hmono.2
    rcases jrun_inv hr hk with ⟨g, h1, hst, hr1⟩ | hst | ⟨y, as, g, d', hst, hd, hwid, hwa, v2, h2, ⟨hr1, hr2⟩ | ⟨hr1, hz⟩⟩
    · -- a step
      obtain ⟨pc1, L1, st1⟩ := g
      have hle := jrun_mono _ _ _ _ _ _ _ _ _ _ hr1 hk
      have hl1 := hle.1
      have hl2 := hle.2
      have hle0 : jhle h h1 := jstep_inv hst
      have hq1 := hle0.1
      have hq2 := hle0.2
      refine jstep_ok fx cx hP hf (by omega) (by omega) (by omega) (by omega) (by omega) (by omega) hst (fun a' H' locs' ls' cells' slots' hag hlen hP' hf' e1 e2 => ?_)
      exact IH d mm pc1 L1 st1 h1 k v h' hr1 hk p e R s m args below meth c Q A a' H' locs' ls' cells' slots' fx htab (cx.agr hag.1) hP' hf' hRf hRl (by omega) (by omega) (fun q => (hret q).go hag hlen e1 e2) (fun q => ⟨(hthr q).1.go hag hlen e1 e2, (hthr q).2.go hag hlen e1 e2⟩)
    · -- an end
      rcases jstep_inv hst with ⟨hk0, hh, he⟩ | ⟨hk1, ht⟩
      · subst hk0
        subst hh
        refine hret rfl a H locs ls pc st cells slots he jagr.rf (Nat.le_refl _) hP ?_ rfl rfl
        obtain ⟨ins, -, he⟩ := he
        rcases he with ⟨-, h9, -⟩ | ⟨-, h9, -⟩ | ⟨-, h9, -⟩ | ⟨-, h9, -⟩ | ⟨-, h9, -⟩ | ⟨-, -, h9, -⟩
        · exact hf.2.2 v (by rw [h9]; exact List.mem_cons_self)
        · exact hf.2.2 v (by rw [h9]; exact List.mem_cons_self)
        · exact hf.2.2 v (by rw [h9]; exact List.mem_cons_self)
        · exact hf.2.2 v (by rw [h9]; exact List.mem_cons_self)
        · exact hf.2.2 v (by rw [h9]; exact List.mem_cons_self)
        · rw [h9]; exact jwf_tag (by decide)
      · subst hk1
        exact (hthr rfl).1 a H locs ls pc L st h cells slots ht jagr.rf (Nat.le_refl _) hP hf rfl rfl
    · -- a call that returns
      subst hd
      obtain ⟨-, hC⟩ := (jstep_inv hst : jInv mm pc L st h (.inr (.inr (y, as, g, h))))
      have hwas := jcal_wf hf hC
      have h5 := jcal_f5 hC
      have hM := jmet0_of (sz := H.size) (a := a) (l := l) (D := D) (aC := aC) IH hr1 hP.2.2.2 hwas hwa h5
      have hle := jrun_mono _ _ _ _ _ _ _ _ _ _ hr1 (by decide)
      have hle2 := jrun_mono _ _ _ _ _ _ _ _ _ _ hr2 hk
      have q1 := hle.1
      have q2 := hle.2
      have q3 := hle2.1
      have q4 := hle2.2
      refine jcal0 fx cx hP hf hC hM hwid (jrun_r9 _ _ _ _ _ _ _ _ _ hr1) (by omega) (by omega) (by omega) (by omega) (fun a' H1 locs1 hag hlen hP1 hf1 => ?_)
      have hg1 : g.1 = pc + 3 := hC.1
      have hg2 : g.2.1 = L := hC.2.1
      rw [hg1, hg2] at hr2
      exact IH (d' + 1) mm (pc + 3) L _ h2 k v h' hr2 hk p e R s m args below meth c Q A a' H1 locs1 ls _ _ fx htab (cx.agr hag.1) hP1 hf1 hRf hRl (by omega) (by omega) (fun q => (hret q).go hag hlen (by omega) (by omega)) (fun q => ⟨(hthr q).1.go hag hlen (by omega) (by omega), (hthr q).2.go hag hlen (by omega) (by omega)⟩)
    · -- a call that throws
      subst hd
      obtain ⟨-, hC⟩ := (jstep_inv hst : jInv mm pc L st h (.inr (.inr (y, as, g, h))))
      have hwas := jcal_wf hf hC
      obtain ⟨h3, hv0, ex, hex, hve⟩ := jrun_thr _ _ _ _ _ _ _ _ _ hr1
      have hM := jmet1_of (sz := H.size) (a := a) (l := l) (D := D) (aC := aC) hl IH hr1 hP.2.2.2 hwas hwa
      have hle := jrun_mono _ _ _ _ _ _ _ _ _ _ hr1 (by decide)
      have q1 := hle.1
      have q2 := hle.2
      have hxe : v2.2.toNat = ex := by rw [hve]; rfl
      rw [hxe] at hM
      have hh2 : h' = h2 := by
        rcases hz with ⟨z, -, -, -, q⟩ | ⟨-, -, -, q⟩
        · exact q
        · exact q
      subst hh2
      refine jcal1 fx cx hP hf hC h3 hM hwid (by omega) (by omega) (by omega) (by omega) (fun a' H1 locs1 q ce hag hlen hP1 g1 g2 g3 => ?_)
      rcases hz with ⟨z, hz, hk0, rfl, -⟩ | ⟨hm3, hk1, rfl, -⟩
      · subst hk0
        rw [hve] at hz
        refine jhnd_ok fx htab cx ⟨hf.1.1, hf.1.2.1, fun q hq => nomatch hq⟩ hex hz g1 g2 g3 (fun ls' pc2 he => ?_)
        exact hret rfl a' H1 locs1 ls' pc2 [(0, z)] _ _ he hag hlen hP1 (jwf_tag (by decide)) (by omega) (by omega)
      · subst hk1
        exact (hthr rfl).2 a' H1 locs1 ls pc (g.2.2.map (jc a)) _ _ q ce hag hlen hP1 g1 g2 (by rw [hxe]; exact g3) (by omega) (by omega)
end JAL
