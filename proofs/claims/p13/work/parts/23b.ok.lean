/-! the little machine, part 2: what the tables' words say of a method's row and of a pool's entry -/
def jmCode (x : JM) : Cond := match jmF x with
  | 4 => .codeWith (jmY x) (jmB x) (jmL x) (jmT x) (jmH x)
  | _ => .code (jmY x) (jmB x) (jmL x) (jmT x)
def jmD (x : JM) : Bool := plainFor (jmY x) && (plainName (jmY x).cls || !(Nat.beq (jmF x) 3)) && decide ((jmY x).cls ≠ "java/lang/invoke/MethodHandle") && decide ((jmY x).cls ≠ "java/lang/invoke/VarHandle") && decide ((parseMethodDescriptor (jmY x).desc).map (fun d => d.parameters.length) = some (jmN x)) && decide ((jmY x).cls = jR (jmC x)) && Nat.ble (jmL x) 40 && decide (¬ ((jmY x).name = "<init>") ∨ jmF x = 2)
def jmRest (x : JM) : Prop := match jmF x with
  | 0 => jWd (.static (jmY x))
  | 1 => jWd (.instanceMethod (jmY x)) ∧ jWd (.selects (jmY x).cls (jmY x) (jmY x))
  | 2 => jWd (.instanceMethod (jmY x)) ∧ (jmY x).name = "<init>"
  | 3 => jWd (.instanceMethod (jmY x)) ∧ jWd (.selects (jmY x).cls (jmY x) (jmY x))
  | 4 => jWd (.static (jmY x))
  | _ => False
def jmOk (x : JM) : Prop := match jmF x with
  | 5 => jkOk (jmB x) (jmI x) ∧ jmD x = true
  | _ => jkOk (jmB x) (jmI x) ∧ jmD x = true ∧ jWd (jmCode x) ∧ jWd (.initialized (jmY x).cls) ∧ jmRest x
