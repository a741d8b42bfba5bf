/-! the little machine, part 1: what is said of tables that a program prints -/
/-- a word that the tables hold, and a good one -/
def jWd (w : Cond) : Prop := w ∈ lw_tbl ∧ goodWord w = true
theorem jW {w : Cond} (h : w ∈ lw_tbl) (g : goodWord w = true) : jWd w := ⟨h, g⟩
/-- the good words of the tables -/
def jGW : List Cond := lw_tbl.filter goodWord
theorem jWd.mem {w : Cond} (h : jWd w) : w ∈ jGW := List.mem_filter.mpr ⟨h.1, h.2⟩
theorem jGW_good : ∀ w ∈ jGW, goodWord w = true := fun _ h => (List.mem_filter.mp h).2
theorem jGW_in : ∀ w ∈ jGW, w ∈ lw_tbl := fun _ h => (List.mem_filter.mp h).1
theorem jcond {α : Type} {P : α → Prop} {b : Bool} {x y : α} (hx : P x) (hy : P y) : P (cond b x y) := by cases b <;> assumption
theorem jblt_of_le {a b : Nat} (h : b ≤ a) : Nat.blt a b = false := by
  cases hb : Nat.blt a b with
  | false => rfl
  | true => exact absurd (Nat.le_of_ble_eq_true hb) (by omega)
theorem jblt_of_lt {a b : Nat} (h : a < b) : Nat.blt a b = true := Nat.ble_eq_true_of_le h
/-- a table of instructions agrees with the bytes -/
def jkOk (b : ByteArray) (t : Nat → Instr × Nat) : Prop := ∀ pc, t pc = (.nop, 0) ∨ decode b pc = .ok (t pc)
def jkChk (b : ByteArray) (t : Nat → Instr × Nat) (pc : Nat) : Bool := decide (t pc = (.nop, 0)) || decide (decode b pc = .ok (t pc))
theorem jkChk_ok {b : ByteArray} {t : Nat → Instr × Nat} {pc : Nat} (h : jkChk b t pc = true) : t pc = (.nop, 0) ∨ decode b pc = .ok (t pc) := by
  unfold jkChk at h
  rcases Bool.or_eq_true_iff.mp h with h | h
  · exact Or.inl (of_decide_eq_true h)
  · exact Or.inr (of_decide_eq_true h)
theorem jkOk_of {b : ByteArray} {t : Nat → Instr × Nat} (n : Nat) (hout : ∀ pc, n ≤ pc → t pc = (.nop, 0)) (h : (List.range n).all (jkChk b t) = true) : jkOk b t := by
  intro pc
  by_cases hp : pc < n
  · exact jkChk_ok (List.all_eq_true.mp h pc (List.mem_range.mpr hp))
  · exact Or.inl (hout pc (by omega))
def jkIn (b : ByteArray) (t : Nat → Instr × Nat) (lo hi : Nat) : Prop := ∀ pc, lo ≤ pc → pc < hi → (t pc = (.nop, 0) ∨ decode b pc = .ok (t pc))
theorem jkIn_of {b : ByteArray} {t : Nat → Instr × Nat} {lo hi : Nat} (h : (List.range (hi - lo)).all (fun i => jkChk b t (lo + i)) = true) : jkIn b t lo hi := by
  intro pc h1 h2
  have h3 := List.all_eq_true.mp h (pc - lo) (List.mem_range.mpr (by omega))
  rw [show lo + (pc - lo) = pc by omega] at h3
  exact jkChk_ok h3
theorem jkIn_cat {c : ByteArray} {t u : Nat → Instr × Nat} {lo b hi : Nat} (h1 : jkIn c t lo b) (h2 : jkIn c u b hi) : jkIn c (fun pc => cond (Nat.blt pc b) (t pc) (u pc)) lo hi := by
  intro pc l1 l2
  show cond (Nat.blt pc b) (t pc) (u pc) = _ ∨ decode c pc = .ok (cond (Nat.blt pc b) (t pc) (u pc))
  by_cases h : pc < b
  · rw [jblt_of_lt h]; exact h1 pc l1 h
  · rw [jblt_of_le (by omega)]; exact h2 pc (by omega) l2
theorem jkOk_in {c : ByteArray} {t : Nat → Instr × Nat} (n : Nat) (h : jkIn c t 0 n) : jkOk c (fun pc => cond (Nat.blt pc n) (t pc) (.nop, 0)) := by
  intro pc
  show cond (Nat.blt pc n) (t pc) (.nop, 0) = _ ∨ decode c pc = .ok (cond (Nat.blt pc n) (t pc) (.nop, 0))
  by_cases hp : pc < n
  · rw [jblt_of_lt hp]; exact h pc (Nat.zero_le _) hp
  · rw [jblt_of_le (by omega)]; exact Or.inl rfl
/-- a method's row: bytes, instructions, locals, return, name, own class, sort, parameters, return's tag, table -/
abbrev JM : Type := ByteArray × (Nat → Instr × Nat) × Nat × Option FieldType × MethodName × Nat × Nat × Nat × Nat × List (Nat × Nat × Nat × Nat)
abbrev jmB (x : JM) : ByteArray := x.1
abbrev jmI (x : JM) : Nat → Instr × Nat := x.2.1
abbrev jmL (x : JM) : Nat := x.2.2.1
abbrev jmT (x : JM) : Option FieldType := x.2.2.2.1
abbrev jmY (x : JM) : MethodName := x.2.2.2.2.1
abbrev jmC (x : JM) : Nat := x.2.2.2.2.2.1
abbrev jmF (x : JM) : Nat := x.2.2.2.2.2.2.1
abbrev jmN (x : JM) : Nat := x.2.2.2.2.2.2.2.1
abbrev jmR (x : JM) : Nat := x.2.2.2.2.2.2.2.2.1
abbrev jmH (x : JM) : List (Nat × Nat × Nat × Nat) := x.2.2.2.2.2.2.2.2.2
