/-! the little machine, part 7: the world that a frame stands in -/
def jMovb (w : Cond) : Bool := goodWord w || (match w with
  | .castable .. => true
  | .declares _ => true
  | .fieldLinkNest .. => true
  | .methodLinkNest .. => true
  | .arrayOver _ => true
  | _ => false)
def jAW : List Cond := lw_tbl.filter jMovb
theorem jAW_of {w : Cond} (h : w ∈ lw_tbl) (g : jMovb w = true) : w ∈ jAW := List.mem_filter.mpr ⟨h, g⟩
theorem jAW_mov {w : Cond} (h : w ∈ jAW) : jMovb w = true := (List.mem_filter.mp h).2
theorem jAW_tbl {w : Cond} (h : w ∈ jAW) : w ∈ lw_tbl := (List.mem_filter.mp h).1
theorem jMovb_good {w : Cond} (h : goodWord w = true) : jMovb w = true := by unfold jMovb; rw [h]; rfl
theorem jWd.aw {w : Cond} (h : jWd w) : w ∈ jAW := jAW_of h.1 (jMovb_good h.2)
theorem jover_any {ty : FieldType} {A A' : Array Value} {s U : State} (hvm : s.vm = U.vm) (h : (Cond.arrayOver ty).before A s = true) : (Cond.arrayOver ty).before A' U = true := by
  simp only [Cond.before, Cond.holds, Cond.value] at h ⊢
  rw [← hvm]
  exact h
theorem jMov_any {w : Cond} (g : jMovb w = true) {A A' : Array Value} {s : State} (h : w.before A s = true) : w.before A' s = true := by
  unfold jMovb at g
  rcases Bool.or_eq_true_iff.mp g with g | g
  · exact word_at (State.WarmedH.refl s) (good_of_word g) h
  · split at g
    · exact va_tabs rfl rfl h
    · exact va_tabs rfl rfl h
    · exact va_tabs rfl rfl h
    · exact va_tabs rfl rfl h
    · exact jover_any rfl h
    · cases g
theorem jMov_warm {w : Cond} (g : jMovb w = true) {A A' : Array Value} {s U : State} (hW : s.WarmedH U.vm) (h : w.before A s = true) : w.before A' U = true := by
  have h := jMov_any (A' := #[]) g h
  unfold jMovb at g
  rcases Bool.or_eq_true_iff.mp g with g | g
  · exact word_at hW (good_of_word g) h
  · split at g
    · exact va_Nw.use rfl (va_Nw.warmC hW h)
    · exact va_Nw.use rfl (va_Nw.warmD hW h)
    · exact va_Nw.use rfl (va_Nw.warmF hW h)
    · exact va_Nw.use rfl (va_Nw.warmM hW h)
    · refine jover_any (s := s.setVm U.vm) (A := #[]) rfl ?_
      rw [Cond.arrayOver_setVmC hW.alike]
      exact h
    · cases g
/-- the tables' words, and where the texts lie -/
def jTw (a : JA) (U : State) : Prop := (∀ w ∈ jAW, w.before #[] U = true) ∧ (∀ k, k < jSRn → vk_R (jR (jSR k).1) (jSR k).2.1 (jSR k).2.2 (a.2.2.1 k) U) ∧ ∀ i, i < 5 → ∀ j, j < 5 → i ≠ j → va_Nc (jEX i) (jEX j) U
theorem jTw.warm {a : JA} {s U : State} (hW : s.WarmedH U.vm) (h : jTw a s) : jTw a U := ⟨fun w hw => jMov_warm (jAW_mov hw) hW (h.1 w hw), fun k hk => vk_R.warm hW (h.2.1 k hk), fun i hi j hj hij => va_Nc.moved hW.alike (h.2.2 i hi j hj hij)⟩
theorem jTw.w {a : JA} {s : State} (h : jTw a s) {w : Cond} (hw : w ∈ jAW) (A : Array Value) : w.before A s = true := jMov_any (jAW_mov hw) (h.1 w hw)
theorem jTw.agr {a b : JA} {s : State} (h : jTw a s) (hab : a.2 = b.2) : jTw b s := ⟨h.1, fun k hk => by rw [← hab]; exact h.2.1 k hk, h.2.2⟩
/-- what was there before and nobody writes: static rows, the script, what a throw asks for -/
def jOld (xs : List Int) (a : JA) (A : Nat → Prop) (U : State) (H : Heap) : Prop :=
  (∀ i, i < 6 → va_Z (jST i).1 (jST i).2.1 (jST i).2.2 (.ref (a.2.1 i)) A U H) ∧
  (∀ i, i < 6 → (jtb i).1 = 100 → va_T .int (a.2.1 i) (jtb i).2.length (fun j => .int (Int32.ofInt ((jtb i).2.getD j 0))) A U H) ∧
  (∀ i, i < 6 → (jtb i).1 = 101 → va_T .long (a.2.1 i) (jtb i).2.length (fun j => .long (Int64.ofInt ((jtb i).2.getD j 0))) A U H) ∧
  va_T .int a.2.2.2 xs.length (fun j => .int (Int32.ofInt (xs.getD j 0))) A U H ∧
  vx_Zq Bundle.tN "UNASSIGNED_STACK" Bundle.steD A U H ∧ vx_Zq Bundle.tN "SUPPRESSED_SENTINEL" Bundle.listD A U H
theorem jOld.moved {xs : List Int} {a : JA} {A : Nat → Prop} {u U : State} {H : Heap} (hvm : u.vm.Alike U.vm) (h : jOld xs a A u H) : jOld xs a A U H :=
  ⟨fun i hi => va_Z.moved hvm (h.1 i hi), fun i hi h1 => va_T.moved hvm (h.2.1 i hi h1), fun i hi h1 => va_T.moved hvm (h.2.2.1 i hi h1), va_T.moved hvm h.2.2.2.1, vx_Zq.moved hvm h.2.2.2.2.1, vx_Zq.moved hvm h.2.2.2.2.2⟩
theorem jOld.kept {xs : List Int} {a : JA} {A : Nat → Prop} {U : State} {H H1 : Heap} (h : jOld xs a A U H) (hq : ∀ q : Nat, q < H.size → ¬ A q → H1[q]? = H[q]?) : jOld xs a A U H1 :=
  ⟨fun i hi => (h.1 i hi).kept hq, fun i hi h1 => (h.2.1 i hi h1).kept hq, fun i hi h1 => (h.2.2.1 i hi h1).kept hq, h.2.2.2.1.kept hq, h.2.2.2.2.1.kept hq, h.2.2.2.2.2.kept hq⟩
theorem jOld.narrow {xs : List Int} {a : JA} {A B : Nat → Prop} {U : State} {H : Heap} (h : jOld xs a A U H) (hAB : ∀ q, B q → A q) : jOld xs a B U H :=
  ⟨fun i hi => (h.1 i hi).narrow hAB, fun i hi h1 => (h.2.1 i hi h1).narrow hAB, fun i hi h1 => (h.2.2.1 i hi h1).narrow hAB, h.2.2.2.1.narrow hAB, h.2.2.2.2.1.narrow hAB, h.2.2.2.2.2.narrow hAB⟩
theorem jOld.agr {xs : List Int} {a b : JA} {A : Nat → Prop} {U : State} {H : Heap} (h : jOld xs a A U H) (hab : a.2 = b.2) : jOld xs b A U H := by
  unfold jOld at h ⊢
  rw [← hab]
  exact h
def jTys (aC : Nat → ClassId) : List (ClassId × FieldType) := jAK.map (fun q => (aC q.1, q.2))
theorem jTys_get {aC : Nat → ClassId} {r k : Nat} {t : FieldType} (h : jAK[r]? = some (k, t)) : (jTys aC)[r]? = some (aC k, t) := by
  unfold jTys
  rw [List.getElem?_map, h]
  rfl
/-- the cells of the picture, in a heap -/
def jHp (D : va_G) (aC : Nat → ClassId) (a : JA) (A : Nat → Prop) (s : State) (h : List JC) (H : Heap) (locs : List Loc) : Prop :=
  va_P D vwCl (jws a aC h) H ∧ va_D A (jws a aC h) ∧ va_S A s.heap H locs ∧ jwh h
/-- what is the same all through a method's body -/
def jCx (D : va_G) (aC : Nat → ClassId) (xs : List Int) (a : JA) (A : Nat → Prop) (s : State) : Prop :=
  va_K D vwCl (jTys aC) s ∧ jTw a s ∧ jOld xs a A s s.heap ∧ ∀ q, s.heap.size ≤ q → A q
theorem jCx.agr {D : va_G} {aC : Nat → ClassId} {xs : List Int} {a b : JA} {A : Nat → Prop} {s : State} (h : jCx D aC xs a A s) (hab : a.2 = b.2) : jCx D aC xs b A s := ⟨h.1, h.2.1.agr hab, h.2.2.1.agr hab, h.2.2.2⟩
def jFx (p : Program) (s : State) (mid : MethodId) (meth : Method) (c : Code) (m : Nat) : Prop :=
  p.tables.exec = Jvm.exec ∧ c.code = jmB (jm m) ∧ c.maxLocals = jmL (jm m) ∧ s.vm.findClass (jR (jmC (jm m))) = some mid.cls ∧ meth.locks = false ∧ (jmF (jm m) = 2 → meth.name = "<init>")
/-- how a run goes on behind a step -/
def jKn (p : Program) (l : Launch) (e : Env) (R : Room) (s : State) (mid : MethodId) (args : Array Value) (below : List Frame) (meth : Method) (c : Code) (Q : State → Prop) (D : va_G) (aC : Nat → ClassId) (A : Nat → Prop) (nL : Nat) (a : JA) (h : JH) (cells slots : Nat) (pcN : Nat) (LN : JL) (stN : List JV) (h' : JH) : Prop :=
  ∀ (a' : JA) (H' : Heap) (locs' : List Loc) (ls' : Array Slot) (cells' slots' : Nat), jagr h.1.length a a' → h.1.length ≤ h'.1.length → jHp D aC a' A s h'.1 H' locs' → jFr a' h'.1.length nL LN stN ls' → h'.2.1 + cells = h.2.1 + cells' → h'.2.2 + slots = h.2.2 + slots' → W p l e R s mid args below meth c H' locs' cells' slots' Q (F0 mid pcN ls' (stN.map (jc a')))
/-- the cell of a picture's place, by its kind -/
theorem je_fld {a : JA} {aC : Nat → ClassId} {k : Nat} {fs : List JV} {cs : List Int} (h : k < 100) : je a aC (k, fs, cs) = .inr (k, fs.map (jc a)) := by
  unfold je
  exact if_pos h
theorem je_arr {a : JA} {aC : Nat → ClassId} {k : Nat} {fs : List JV} {cs : List Int} (h : 100 ≤ k) : je a aC (k, fs, cs) = .inl (aC k, cs.length, jcont a (k, fs, cs)) := by
  unfold je
  exact if_neg (Nat.not_lt.mpr h)
theorem jcont_q {a : JA} {k : Nat} {fs : List JV} {cs : List Int} (h : 104 ≤ k) : jcont a (k, fs, cs) = .inr (.inr (.inr (.inr (fun j => jopt a (cs.getD j (-1)))))) := by
  unfold jcont
  split
  · omega
  · omega
  · omega
  · rfl
theorem jws_at {a : JA} {aC : Nat → ClassId} {h : List JC} {n k : Nat} {fs : List JV} {cs : List Int} (hk : h[n]? = some (k, fs, cs)) : (jws a aC h)[n]? = some (a.1 n, je a aC (k, fs, cs)) := jws_get hk
/-- a picture with one cell more -/
def jadd (a : JA) (n q : Nat) : JA := (fun k => if k = n then q else a.1 k, a.2)
theorem jadd_agr {a : JA} {n q : Nat} : jagr n a (jadd a n q) := ⟨rfl, fun k hk => by show a.1 k = if k = n then q else a.1 k; rw [if_neg (by omega)]⟩
theorem jadd_at {a : JA} {n q : Nat} : (jadd a n q).1 n = q := by show (if n = n then q else a.1 n) = q; rw [if_pos rfl]
theorem jws_ext {a b : JA} {aC : Nat → ClassId} {h : List JC} (hab : jagr h.length a b) (hw : jwh h) : jws a aC h = jws b aC h := by
  unfold jws
  apply List.ext_getElem?
  intro k
  simp only [List.getElem?_mapIdx]
  cases hk : h[k]? with
  | none => rfl
  | some c =>
    have hlt : k < h.length := (List.getElem?_eq_some_iff.mp hk).1
    show some (a.1 k, je a aC c) = some (b.1 k, je b aC c)
    rw [hab.2 k hlt, je_ext hab (hw c (List.mem_of_getElem? hk))]
theorem jws_app {a : JA} {aC : Nat → ClassId} {h : List JC} {c : JC} : jws a aC (h ++ [c]) = jws a aC h ++ [(a.1 h.length, je a aC c)] := by
  unfold jws
  rw [List.mapIdx_append]
  simp [List.mapIdx_cons]
theorem jws_push {a : JA} {aC : Nat → ClassId} {h : List JC} {c : JC} {q : Nat} (hw : jwh h) : jws (jadd a h.length q) aC (h ++ [c]) = jws a aC h ++ [(q, je (jadd a h.length q) aC c)] := by
  rw [jws_app, ← jws_ext jadd_agr hw, jadd_at]
theorem jwh_push {h : List JC} {c : JC} (hw : jwh h) (hc : jwc (h.length + 1) c) : jwh (h ++ [c]) := by
  intro x hx
  rw [List.length_append]
  rcases List.mem_append.mp hx with hx | hx
  · exact jwc_mono (hw x hx) (Nat.le_add_right _ _)
  · rw [List.mem_singleton.mp hx]
    exact hc
theorem jwh_set {h : List JC} {n : Nat} {c : JC} (hw : jwh h) (hc : jwc h.length c) : jwh (h.set n c) := by
  intro x hx
  rw [List.length_set]
  rcases List.mem_or_eq_of_mem_set hx with hx | hx
  · exact hw x hx
  · rw [hx]
    exact hc
theorem jFr_ext {a b : JA} {n n' nL : Nat} {L : JL} {st : List JV} {ls : Array Slot} (h : jFr a n nL L st ls) (hab : jagr n a b) (hn : n ≤ n') : jFr b n' nL L st ls :=
  ⟨by rw [← jcv_ext hab h.2.1]; exact h.1, jwL_mono h.2.1 hn, jwS_mono h.2.2 hn⟩
