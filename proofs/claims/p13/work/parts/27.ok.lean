/-- the JDK's own static methods that have rows of their own -/
def jSP (a : Nat) : MethodName := match a with
  | 0 => Lib.Math.max.name
  | 1 => Lib.Math.min.name
  | 2 => Lib.Math.abs.name
  | 3 => Lib.MathLoose.max_long.x
  | 4 => Lib.MathLoose.min_long.x
  | 5 => Lib.MathLoose.abs_long.x
  | _ => arraycopyName
def jpOk (c i : Nat) (x : Nat × Nat × Int) : Prop := match x.1 with
  | 0 => True
  | 1 => 2 ≤ x.2.1 ∧ ∃ (C : String) (T : u_T) (N : Nat), vwCl[x.2.1]? = some (C, T, N) ∧ x.2.2.toNat < N ∧ jWd (.fieldLink (jR c) i (T x.2.2.toNat).1 (T x.2.2.toNat).2.1 (T x.2.2.toNat).2.2.1)
  | 2 => 2 ≤ x.2.1 ∧ ∃ (C : String) (T : u_T) (N : Nat) (host : String), vwCl[x.2.1]? = some (C, T, N) ∧ x.2.2.toNat < N ∧ Cond.fieldLinkNest (jR c) i (T x.2.2.toNat).1 (T x.2.2.toNat).2.1 (T x.2.2.toNat).2.2.1 host ∈ jNW
  | 3 => x.2.1 < 6 ∧ jWd (.fieldLink (jR c) i (jST x.2.1).1 (jST x.2.1).2.1 (jST x.2.1).2.2)
  | 4 => jWd (.methodLink (jR c) i (jmY (jm x.2.1)))
  | 5 => ∃ host : String, Cond.methodLinkNest (jR c) i (jmY (jm x.2.1)) host ∈ jNW
  | 6 => jWd (.classLink (jR c) i (jKN x.2.1))
  | 7 => jWd (.constant (jR c) i (Int32.ofInt x.2.2))
  | 8 => jWd (.constantLong (jR c) i (Int64.ofInt x.2.2))
  | 9 => jWd (.constantDouble (jR c) i (UInt64.ofNat x.2.2.toNat))
  | 10 => jWd (.methodLink (jR c) i Lib.objectInit)
  | 11 => jWd (.methodLink (jR c) i (jSP x.2.1))
  | 12 => jWd (.methodLink (jR c) i ⟨jKN x.2.1, "clone", "()Ljava/lang/Object;"⟩)
  | 13 => jWd (.classLink (jR c) i (jEX x.2.1))
  | 14 => (jSR x.2.1).1 = c ∧ (jSR x.2.1).2.1 = i ∧ x.2.1 < jSRn
  | 16 => x.2.1 < 6 ∧ ∃ host : String, Cond.fieldLinkNest (jR c) i (jST x.2.1).1 (jST x.2.1).2.1 (jST x.2.1).2.2 host ∈ jNW
  | _ => False
theorem jpOk_leaf {c i k : Nat} {x : Nat × Nat × Int} (h : jpOk c k x) : jpOk c i (cond (Nat.beq i k) x (0, 0, 0)) := by
  cases hb : Nat.beq i k with
  | false => exact trivial
  | true => rw [Nat.eq_of_beq_eq_true hb]; exact h
theorem jpOk_cls {c0 : Nat} {f : Nat → Nat × Nat × Int} (h : ∀ i, jpOk c0 i (f i)) (c i : Nat) : jpOk c i (cond (Nat.beq c c0) (f i) (0, 0, 0)) := by
  cases hb : Nat.beq c c0 with
  | false => exact trivial
  | true => rw [Nat.eq_of_beq_eq_true hb]; exact h i
