/-! the little machine, part 4: its values and cells in the machine's heap -/
abbrev JA : Type := (Nat → Nat) × (Nat → Nat) × (Nat → Nat) × Nat
def jref (a : JA) (x : Int) : Value := match x with
  | .ofNat n => .ref (a.1 n)
  | .negSucc _ => .null
def jc (a : JA) (v : JV) : Value := match v.1 with
  | 0 => .int (Int32.ofInt v.2)
  | 1 => .long (Int64.ofInt v.2)
  | 2 => .float (ju32 v.2)
  | 3 => .double (ju64 v.2)
  | 5 => .ref (a.2.1 v.2.toNat)
  | 6 => .ref a.2.2.2
  | 7 => .ref (a.2.2.1 v.2.toNat)
  | 4 => jref a v.2
  | _ => .null
def jopt (a : JA) (x : Int) : Option Nat := match x with
  | .ofNat n => some (a.1 n)
  | .negSucc _ => none
def jcont (a : JA) (c : JC) : (Nat → Int32) ⊕ (Nat → Int64) ⊕ (Nat → UInt32) ⊕ (Nat → UInt64) ⊕ (Nat → Option Nat) := match c.1 with
  | 100 => .inl (fun j => Int32.ofInt (c.2.2.getD j 0))
  | 101 => .inr (.inl (fun j => Int64.ofInt (c.2.2.getD j 0)))
  | 103 => .inr (.inr (.inr (.inl (fun j => ju64 (c.2.2.getD j 0)))))
  | _ => .inr (.inr (.inr (.inr (fun j => jopt a (c.2.2.getD j (-1))))))
def je (a : JA) (aC : Nat → ClassId) (c : JC) : va_E := if c.1 < 100 then .inr (c.1, c.2.1.map (jc a)) else .inl (aC c.1, c.2.2.length, jcont a c)
def jws (a : JA) (aC : Nat → ClassId) (h : List JC) : va_W := h.mapIdx (fun k c => (a.1 k, je a aC c))
theorem jws_get {a : JA} {aC : Nat → ClassId} {h : List JC} {k : Nat} {c : JC} (hk : h[k]? = some c) : (jws a aC h)[k]? = some (a.1 k, je a aC c) := by
  simp [jws, hk]
theorem jws_set {a : JA} {aC : Nat → ClassId} {h : List JC} {k : Nat} {c : JC} : jws a aC (h.set k c) = (jws a aC h).set k (a.1 k, je a aC c) := by
  simp [jws, List.mapIdx_set]
/-- a reference among the first n cells -/
def jwf (n : Nat) (v : JV) : Prop := v.1 = 4 → match v.2 with
  | .ofNat k => k < n
  | .negSucc _ => True
def jwx (n : Nat) (x : Int) : Prop := match x with
  | .ofNat k => k < n
  | .negSucc _ => True
def jwc (n : Nat) (c : JC) : Prop := (∀ v ∈ c.2.1, jwf n v) ∧ (c.1 ≠ 100 → c.1 ≠ 101 → c.1 ≠ 103 → ∀ x ∈ c.2.2, jwx n x)
def jwh (h : List JC) : Prop := ∀ c ∈ h, jwc h.length c
def jwL (n : Nat) (L : JL) : Prop := ∀ q ∈ L, jwf n q.2
def jwS (n : Nat) (st : List JV) : Prop := ∀ v ∈ st, jwf n v
theorem jwx_mono {n k : Nat} {x : Int} (h : jwx n x) (hk : n ≤ k) : jwx k x := by
  unfold jwx at h ⊢
  cases x with
  | ofNat z => exact Nat.lt_of_lt_of_le h hk
  | negSucc z => trivial
theorem jwf_of {n : Nat} {v : JV} (h : v.1 = 4 → jwx n v.2) : jwf n v := h
theorem jwf.x {n : Nat} {v : JV} (h : jwf n v) (h4 : v.1 = 4) : jwx n v.2 := h h4
theorem jwf_mono {n k : Nat} {v : JV} (h : jwf n v) (hk : n ≤ k) : jwf k v := fun h4 => jwx_mono (h.x h4) hk
theorem jwL_mono {n k : Nat} {L : JL} (h : jwL n L) (hk : n ≤ k) : jwL k L := fun q hq => jwf_mono (h q hq) hk
theorem jwS_mono {n k : Nat} {L : List JV} (h : jwS n L) (hk : n ≤ k) : jwS k L := fun q hq => jwf_mono (h q hq) hk
theorem jwc_mono {n k : Nat} {c : JC} (h : jwc n c) (hk : n ≤ k) : jwc k c := ⟨fun v hv => jwf_mono (h.1 v hv) hk, fun h1 h2 h3 x hx => jwx_mono (h.2 h1 h2 h3 x hx) hk⟩
theorem jwf_tag {n : Nat} {t : Nat} {x : Int} (h : t ≠ 4) : jwf n (t, x) := fun h4 => absurd h4 h
/-- two tables of addresses that agree on the first n -/
def jagr (n : Nat) (a b : JA) : Prop := a.2 = b.2 ∧ ∀ k, k < n → a.1 k = b.1 k
theorem jagr.rf {n : Nat} {a : JA} : jagr n a a := ⟨rfl, fun _ _ => rfl⟩
theorem jagr.trans {n k : Nat} {a b c : JA} (h1 : jagr n a b) (h2 : jagr k b c) (hk : n ≤ k) : jagr n a c := ⟨h1.1.trans h2.1, fun j hj => (h1.2 j hj).trans (h2.2 j (Nat.lt_of_lt_of_le hj hk))⟩
theorem jref_ext {n : Nat} {a b : JA} (h : jagr n a b) {x : Int} (hx : jwx n x) : jref a x = jref b x := by
  cases x with
  | ofNat k => show Value.ref _ = Value.ref _; rw [h.2 k hx]
  | negSucc k => rfl
theorem jopt_ext {n : Nat} {a b : JA} (h : jagr n a b) {x : Int} (hx : jwx n x) : jopt a x = jopt b x := by
  cases x with
  | ofNat k => show some _ = some _; rw [h.2 k hx]
  | negSucc k => rfl
/-- the tags that are used -/
theorem jtag (t : Nat) : t = 0 ∨ t = 1 ∨ t = 2 ∨ t = 3 ∨ t = 4 ∨ t = 5 ∨ t = 6 ∨ t = 7 ∨ 8 ≤ t := by omega
theorem jc_other {a : JA} {v : JV} (h : 8 ≤ v.1) : jc a v = .null := by
  unfold jc
  split <;> first | rfl | (exfalso; omega)
theorem jc_one {a : JA} {v : JV} : ((jc a v).category == 2) = !(jone v) := by
  obtain ⟨t, x⟩ := v
  rcases jtag t with h | h | h | h | h | h | h | h | h
  · subst h; rfl
  · subst h; rfl
  · subst h; rfl
  · subst h; rfl
  · subst h; cases x <;> rfl
  · subst h; rfl
  · subst h; rfl
  · subst h; rfl
  · rw [jc_other h]
    have h1 : Nat.beq t 1 = false := by
      cases hb : Nat.beq t 1 with
      | false => rfl
      | true => have := Nat.eq_of_beq_eq_true hb; omega
    have h3 : Nat.beq t 3 = false := by
      cases hb : Nat.beq t 3 with
      | false => rfl
      | true => have := Nat.eq_of_beq_eq_true hb; omega
    have h4 : jone (t, x) = true := by
      show cond (Nat.beq t 1) false (cond (Nat.beq t 3) false true) = true
      rw [h1, h3]; rfl
    rw [h4]; rfl
theorem jc_cat1 {a : JA} {v : JV} (h : jone v = true) : (jc a v).category = 1 := by
  have h1 := jc_one (a := a) (v := v)
  rw [h] at h1
  rcases lv_cat (jc a v) with h2 | h2
  · exact h2
  · rw [h2] at h1; exact absurd h1 (by decide)
theorem jc_cat2 {a : JA} {v : JV} (h : jone v = false) : (jc a v).category = 2 := by
  have h1 := jc_one (a := a) (v := v)
  rw [h] at h1
  rcases lv_cat (jc a v) with h2 | h2
  · rw [h2] at h1; exact absurd h1 (by decide)
  · exact h2
/-- values of a known table keep their meaning under a longer one -/
theorem jc_ext {n : Nat} {a b : JA} (h : jagr n a b) {v : JV} (hv : jwf n v) : jc a v = jc b v := by
  obtain ⟨t, x⟩ := v
  rcases jtag t with h0 | h0 | h0 | h0 | h0 | h0 | h0 | h0 | h0
  · subst h0; rfl
  · subst h0; rfl
  · subst h0; rfl
  · subst h0; rfl
  · subst h0; exact jref_ext h (hv rfl)
  · subst h0; show Value.ref _ = Value.ref _; rw [h.1]
  · subst h0; show Value.ref _ = Value.ref _; rw [h.1]
  · subst h0; show Value.ref _ = Value.ref _; rw [h.1]
  · rw [jc_other h0, jc_other h0]
theorem jcs_ext {n : Nat} {a b : JA} (h : jagr n a b) {st : List JV} (hv : jwS n st) : st.map (jc a) = st.map (jc b) := List.map_congr_left fun v hm => jc_ext h (hv v hm)
/-- the locals as the machine has them -/
def jcv (a : JA) (q : Nat × JV) : Nat × Value := (q.1, jc a q.2)
theorem jcv_ext {n : Nat} {a b : JA} (h : jagr n a b) {L : JL} (hv : jwL n L) : L.map (jcv a) = L.map (jcv b) := List.map_congr_left fun q hm => by
  show (q.1, jc a q.2) = (q.1, jc b q.2)
  rw [jc_ext h (hv q hm)]
theorem je_ext {n : Nat} {a b : JA} (h : jagr n a b) {aC : Nat → ClassId} {c : JC} (hv : jwc n c) : je a aC c = je b aC c := by
  unfold je
  by_cases h1 : c.1 < 100
  · rw [if_pos h1, if_pos h1, jcs_ext h hv.1]
  · rw [if_neg h1, if_neg h1]
    have hc : jcont a c = jcont b c := by
      unfold jcont
      split
      · rfl
      · rfl
      · rfl
      · rename_i n1 n2 n3
        congr 4
        funext j
        by_cases hj : j < c.2.2.length
        · have hx : c.2.2.getD j (-1) ∈ c.2.2 := by
            rw [List.getD_eq_getElem?_getD, List.getElem?_eq_getElem hj]; exact List.getElem_mem hj
          exact jopt_ext h (hv.2 n1 n2 n3 _ hx)
        · rw [List.getD_eq_getElem?_getD, List.getElem?_eq_none (by omega)]; rfl
    rw [hc]
