/-! the little machine, part 3: values, cells, frames; one step; a run -/
abbrev JV : Type := Nat × Int
abbrev JL : Type := List (Nat × JV)
abbrev JC : Type := Nat × List JV × List Int
abbrev JH : Type := List JC × Nat × Nat
abbrev JF : Type := Nat × JL × List JV
abbrev JO : Type := Nat × JV × JH
abbrev JS : Type := Option ((JF × JH) ⊕ (JO ⊕ (Nat × List JV × JF × JH)))
/-- a number as an int, as a long holds it -/
def jw (x : Int) : Int := (x + 2147483648) % 4294967296 - 2147483648
def jwl (x : Int) : Int := (x + 9223372036854775808) % 18446744073709551616 - 9223372036854775808
/-- whether a value takes one place -/
def jone (v : JV) : Bool := cond (Nat.beq v.1 1) false (cond (Nat.beq v.1 3) false true)
def jget : JL → Nat → JV
  | [], _ => (9, 0)
  | (k, v) :: r, i => cond (Nat.beq k i) v (jget r i)
def jk1 (i : Nat) (q : Nat × JV) : Bool := cond (Nat.beq q.1 i) false (cond (Nat.beq (q.1 + 1) i) (jone q.2) true)
def jk2 (i : Nat) (q : Nat × JV) : Bool := cond (Nat.beq q.1 i) false (cond (Nat.beq q.1 (i + 1)) false (cond (Nat.beq (q.1 + 1) i) (jone q.2) true))
def jst1 (L : JL) (i : Nat) (v : JV) : JL := (i, v) :: L.filter (jk1 i)
def jst2 (L : JL) (i : Nat) (v : JV) : JL := (i, v) :: L.filter (jk2 i)
def jnx (pc : Nat) (L : JL) (st : List JV) (h : JH) : JS := some (.inl ((pc, L, st), h))
def jout (k : Nat) (v : JV) (h : JH) : JS := some (.inr (.inl (k, v, h)))
def jcl (y : Nat) (a : List JV) (f : JF) (h : JH) : JS := some (.inr (.inr (y, a, f, h)))
def jgo (pc : Nat) (o : Int) (L : JL) (st : List JV) (h : JH) : JS := match (pc : Int) + o with
  | .ofNat t => jnx t L st h
  | .negSucc _ => none
def jbr (b : Bool) (pc : Nat) (o : Int) (L : JL) (st : List JV) (h : JH) : JS := match (pc : Int) + o with
  | .ofNat t => cond b (jnx t L st h) (jnx (pc + 3) L st h)
  | .negSucc _ => none
def jcmp (c : ClassFile.Cond) (x y : Int) : Bool := match c with
  | .eq => decide (jw x = jw y)
  | .ne => decide (¬ jw x = jw y)
  | .lt => decide (jw x < jw y)
  | .ge => decide (jw y ≤ jw x)
  | .gt => decide (jw y < jw x)
  | .le => decide (jw x ≤ jw y)
/-- the local i, of the tag t -/
def jld (t pc n : Nat) (i : Nat) (L : JL) (st : List JV) (h : JH) : JS := cond (Nat.beq (jget L i).1 t) (jnx (pc + n) L (jget L i :: st) h) none
def jldr (pc n : Nat) (i : Nat) (L : JL) (st : List JV) (h : JH) : JS := cond (Nat.ble 4 (jget L i).1 && Nat.ble (jget L i).1 7) (jnx (pc + n) L (jget L i :: st) h) none
def jsv (t pc n m : Nat) (i : Nat) (L : JL) (st : List JV) (h : JH) : JS := match st with
  | v :: r => cond (Nat.beq v.1 t && Nat.blt i m) (jnx (pc + n) (jst1 L i v) r h) none
  | [] => none
def jsv2 (t pc n m : Nat) (i : Nat) (L : JL) (st : List JV) (h : JH) : JS := match st with
  | v :: r => cond (Nat.beq v.1 t && Nat.blt (i + 1) m) (jnx (pc + n) (jst2 L i v) r h) none
  | [] => none
def jsvr (pc n m : Nat) (i : Nat) (L : JL) (st : List JV) (h : JH) : JS := match st with
  | v :: r => cond (Nat.ble 4 v.1 && Nat.ble v.1 7 && Nat.blt i m) (jnx (pc + n) (jst1 L i v) r h) none
  | [] => none
/-- two ints, two longs on the stack -/
def ji2 (st : List JV) (k : Int → Int → List JV → JS) : JS := match st with
  | (0, y) :: (0, x) :: r => k x y r
  | _ => none
def jl2 (st : List JV) (k : Int → Int → List JV → JS) : JS := match st with
  | (1, y) :: (1, x) :: r => k x y r
  | _ => none
def jd2 (st : List JV) (k : Int → Int → List JV → JS) : JS := match st with
  | (3, y) :: (3, x) :: r => k x y r
  | _ => none
def jf2 (st : List JV) (k : Int → Int → List JV → JS) : JS := match st with
  | (2, y) :: (2, x) :: r => k x y r
  | _ => none
def jls (st : List JV) (k : Int → Int → List JV → JS) : JS := match st with
  | (0, y) :: (1, x) :: r => k x y r
  | _ => none
def ji1 (st : List JV) (k : Int → List JV → JS) : JS := match st with
  | (0, x) :: r => k x r
  | _ => none
def jl1 (st : List JV) (k : Int → List JV → JS) : JS := match st with
  | (1, x) :: r => k x r
  | _ => none
def jd1 (st : List JV) (k : Int → List JV → JS) : JS := match st with
  | (3, x) :: r => k x r
  | _ => none
def jf1 (st : List JV) (k : Int → List JV → JS) : JS := match st with
  | (2, x) :: r => k x r
  | _ => none
/-- the cell that a reference on the stack names -/
def jcell (h : JH) (a : Int) (k : JC → JS) : JS := match a with
  | .ofNat n => (match h.1[n]? with
    | some c => cond (Nat.beq c.1 999) none (k c)
    | none => none)
  | .negSucc _ => none
def ju32 (x : Int) : UInt32 := UInt32.ofNat x.toNat
def ju64 (x : Int) : UInt64 := UInt64.ofNat x.toNat
def jd (x : UInt64) : JV := (3, (x.toNat : Int))
def jn64 (x : UInt64) : Bool := decide (x &&& 0x7fffffffffffffff ≤ 0x7ff0000000000000)
/-- a cell read at a place, of an array kind -/
def jald (kd t pc : Nat) (L : JL) (st : List JV) (h : JH) : JS := match st with
  | (0, i) :: (4, a) :: r => jcell h a (fun c => cond (Nat.beq c.1 kd) (match jw i with
    | .ofNat j => (match c.2.2[j]? with
      | some x => jnx (pc + 1) L ((t, x) :: r) h
      | none => none)
    | .negSucc _ => none) none)
  | _ => none
/-- a place of an array written -/
def jast (kd t pc : Nat) (L : JL) (st : List JV) (h : JH) : JS := match st with
  | (t', x) :: (0, i) :: (4, a) :: r => cond (Nat.beq t' t) (jcell h a (fun c => cond (Nat.beq c.1 kd) (match jw i with
    | .ofNat j => cond (Nat.blt j c.2.2.length) (jnx (pc + 1) L r (h.1.set a.toNat (c.1, c.2.1, c.2.2.set j x), h.2)) none
    | .negSucc _ => none) none)) none
  | _ => none
/-- the rows that never change -/
def jtab (kd t pc : Nat) (L : JL) (st : List JV) (h : JH) (tb : Nat → Nat × List Int) : JS := match st with
  | (0, i) :: (5, a) :: r => (match a with
    | .ofNat n => cond (Nat.blt n 6 && Nat.beq (tb n).1 kd) (match jw i with
      | .ofNat j => (match (tb n).2[j]? with
        | some x => jnx (pc + 1) L ((t, x) :: r) h
        | none => none)
      | .negSucc _ => none) none
    | .negSucc _ => none)
  | _ => none
def jcpy (f g : List Int) (sp dp n : Nat) : List Int := g.take dp ++ ((f.drop sp).take n ++ g.drop (dp + n))
/-- a new cell -/
def jnew (pc n : Nat) (L : JL) (r : List JV) (h : JH) (c : JC) (sz : Nat) : JS := jnx (pc + n) L ((4, (h.1.length : Int)) :: r) (h.1 ++ [c], h.2.1 + 1, h.2.2 + sz)
/-- so many values off the stack, the deepest first -/
def jtake : Nat → List JV → List JV → Option (List JV × List JV)
  | 0, st, acc => some (acc, st)
  | n + 1, v :: st, acc => jtake n st (v :: acc)
  | _ + 1, [], _ => none
def jwid : List JV → Nat
  | [] => 0
  | v :: r => cond (jone v) 1 2 + jwid r
def jlen (i : Instr) (n : Nat) : Bool := match i with
  | .bipush _ => Nat.beq n 2
  | .iload _ => Nat.beq n 2
  | .lload _ => Nat.beq n 2
  | .aload _ => Nat.beq n 2
  | .fload _ => Nat.beq n 2
  | .dload _ => Nat.beq n 2
  | .istore _ => Nat.beq n 2
  | .lstore _ => Nat.beq n 2
  | .astore _ => Nat.beq n 2
  | .fstore _ => Nat.beq n 2
  | .dstore _ => Nat.beq n 2
  | .ldc _ => Nat.beq n 2
  | .newarray _ => Nat.beq n 2
  | .sipush _ => Nat.beq n 3
  | .ldc_w _ => Nat.beq n 3
  | .ldc2_w _ => Nat.beq n 3
  | .iinc _ _ => Nat.beq n 3
  | .if_icmp _ _ => Nat.beq n 3
  | .ifCond _ _ => Nat.beq n 3
  | .ifnull _ => Nat.beq n 3
  | .ifnonnull _ => Nat.beq n 3
  | .goto _ => Nat.beq n 3
  | .getfield _ => Nat.beq n 3
  | .putfield _ => Nat.beq n 3
  | .getstatic _ => Nat.beq n 3
  | .invokestatic _ => Nat.beq n 3
  | .invokevirtual _ => Nat.beq n 3
  | .invokespecial _ => Nat.beq n 3
  | .new _ => Nat.beq n 3
  | .anewarray _ => Nat.beq n 3
  | .checkcast _ => Nat.beq n 3
  | .multianewarray _ _ => Nat.beq n 4
  | .tableswitch _ _ _ _ => true
  | _ => Nat.beq n 1
/-- a field read -/
def jgetf (e : Nat × Nat × Int) (pc : Nat) (L : JL) (st : List JV) (h : JH) : JS := cond (Nat.beq e.1 1 || Nat.beq e.1 2) (match st with
  | (4, a) :: r => jcell h a (fun c => cond (Nat.beq c.1 e.2.1) (match c.2.1[e.2.2.toNat]? with
    | some v => jnx (pc + 3) L (v :: r) h
    | none => none) none)
  | _ => none) none
/-- whether a value is one of a field's type: 0 int, 1 long, 4 a reference, 8 boolean -/
def jfit (t : Nat) (v : JV) : Bool := cond (Nat.beq t 8) (Nat.beq v.1 0 && (decide (v.2 = 0) || decide (v.2 = 1))) (cond (Nat.beq t 4) (Nat.beq v.1 4) (Nat.beq v.1 t && Nat.ble t 3))
/-- a field written; fin: the method makes objects of the class ci -/
def jputf (e : Nat × Nat × Int) (fin : Nat → Bool) (pc : Nat) (L : JL) (st : List JV) (h : JH) : JS := cond (Nat.beq e.1 1 || Nat.beq e.1 2) (match st with
  | v :: (4, a) :: r => jcell h a (fun c => cond (Nat.beq c.1 e.2.1 && Nat.blt e.2.2.toNat c.2.1.length && jfit (jft e.2.1 e.2.2.toNat).1 v && cond (jft e.2.1 e.2.2.toNat).2 (Nat.beq e.1 1 && fin e.2.1) true)
      (jnx (pc + 3) L r (h.1.set a.toNat (c.1, c.2.1.set e.2.2.toNat v, c.2.2), h.2)) none)
  | _ => none) none
def jcopy (pc : Nat) (L : JL) (st : List JV) (h : JH) : JS := match st with
  | (0, n) :: (0, dp) :: (4, b) :: (0, sp) :: (4, a) :: r => jcell h a (fun c => jcell h b (fun d => cond (Nat.beq c.1 d.1 && (Nat.beq c.1 100 || Nat.beq c.1 101)) (match jw sp, jw dp, jw n with
      | .ofNat s0, .ofNat d0, .ofNat n0 => cond (Nat.ble (s0 + n0) c.2.2.length && Nat.ble (d0 + n0) d.2.2.length) (jnx (pc + 3) L r (h.1.set b.toNat (d.1, d.2.1, jcpy c.2.2 d.2.2 s0 d0 n0), h.2)) none
      | _, _, _ => none) none))
  | _ => none
/-- the JDK's own static methods -/
def jspc (k pc : Nat) (L : JL) (st : List JV) (h : JH) : JS := match k with
  | 0 => ji2 st (fun x y r => jnx (pc + 3) L ((0, cond (decide (jw x < jw y)) y x) :: r) h)
  | 1 => ji2 st (fun x y r => jnx (pc + 3) L ((0, cond (decide (jw x < jw y)) x y) :: r) h)
  | 2 => ji1 st (fun x r => jnx (pc + 3) L ((0, cond (decide (jw x < 0)) (-x) x) :: r) h)
  | 3 => jl2 st (fun x y r => jnx (pc + 3) L ((1, cond (decide (jwl y < jwl x)) x y) :: r) h)
  | 4 => jl2 st (fun x y r => jnx (pc + 3) L ((1, cond (decide (jwl x < jwl y)) x y) :: r) h)
  | 5 => jl1 st (fun x r => jnx (pc + 3) L ((1, cond (decide (jwl x < 0)) (-x) x) :: r) h)
  | 6 => jcopy pc L st h
  | _ => none
/-- a static method called -/
def jcalls (e : Nat × Nat × Int) (pc : Nat) (L : JL) (st : List JV) (h : JH) : JS := match e.1 with
  | 4 => cond (Nat.beq (jmF (jm e.2.1)) 0 || Nat.beq (jmF (jm e.2.1)) 4) (match jtake (jmN (jm e.2.1)) st [] with
    | some (a, r) => jcl e.2.1 a (pc + 3, L, r) h
    | none => none) none
  | 5 => cond (Nat.beq (jmF (jm e.2.1)) 0) (match jtake (jmN (jm e.2.1)) st [] with
    | some (a, r) => jcl e.2.1 a (pc + 3, L, r) h
    | none => none) none
  | 11 => cond (Nat.ble (jwid st) 24) (jspc e.2.1 pc L st h) none
  | _ => none
/-- a method of an object called: the receiver is of the method's own class -/
def jcallv (e : Nat × Nat × Int) (pc : Nat) (L : JL) (st : List JV) (h : JH) : JS := match e.1 with
  | 4 => cond (Nat.beq (jmF (jm e.2.1)) 1 || Nat.beq (jmF (jm e.2.1)) 3) (match jtake (jmN (jm e.2.1)) st [] with
    | some (a, (4, b) :: r) => jcell h b (fun c => cond (Nat.beq c.1 (jmC (jm e.2.1))) (jcl e.2.1 ((4, b) :: a) (pc + 3, L, r) h) none)
    | _ => none) none
  | 12 => cond (Nat.ble (jwid st) 24) (match st with
    | (4, a) :: r => jcell h a (fun c => cond (Nat.beq c.1 e.2.1 && (Nat.beq c.1 100 || Nat.beq c.1 114 || Nat.beq c.1 117)) (jnew pc 3 L r h c c.2.2.length) none)
    | _ => none) none
  | _ => none
/-- a constructor called -/
def jcalli (e : Nat × Nat × Int) (pc : Nat) (L : JL) (st : List JV) (h : JH) : JS := match e.1 with
  | 10 => cond (Nat.ble (jwid st) 24) (match st with
    | (4, .ofNat a) :: r => jnx (pc + 3) L r h
    | _ => none) none
  | 4 => cond (Nat.beq (jmF (jm e.2.1)) 2) (match jtake (jmN (jm e.2.1)) st [] with
    | some (a, (4, .ofNat b) :: r) => jcl e.2.1 ((4, .ofNat b) :: a) (pc + 3, L, r) h
    | _ => none) none
  | 5 => cond (Nat.beq (jmF (jm e.2.1)) 2) (match jtake (jmN (jm e.2.1)) st [] with
    | some (a, (4, .ofNat b) :: r) => jcl e.2.1 ((4, .ofNat b) :: a) (pc + 3, L, r) h
    | _ => none) none
  | _ => none
/-- 'new X; dup; ldc text; X.<init>(text); athrow': the constructor's place in the pool -/
def jthw (m pc : Nat) : Option (Nat × Nat × Bool) := match jmI (jm m) (pc + 3) with
  | (.dup, 1) => (match jmI (jm m) (pc + 4) with
    | (.ldc k, 2) => (match jmI (jm m) (pc + 6), jmI (jm m) (pc + 9) with
      | (.invokespecial i, 3), (.athrow, 1) => some (k, i, false)
      | _, _ => none)
    | (.ldc_w k, 3) => (match jmI (jm m) (pc + 7), jmI (jm m) (pc + 10) with
      | (.invokespecial i, 3), (.athrow, 1) => some (k, i, true)
      | _, _ => none)
    | _ => none)
  | _ => none
/-- the constructors of what is thrown, in the pool of the class itself -/
def jxi (e : Nat) : Nat := match e with
  | 0 => 382
  | 1 => 133
  | 2 => 208
  | 3 => 188
  | _ => 335
def jnewo (e : Nat × Nat × Int) (m pc : Nat) (L : JL) (st : List JV) (h : JH) : JS := match e.1 with
  | 6 => cond (Nat.blt e.2.1 15 && Nat.ble 2 e.2.1) (jnew pc 3 L st h (e.2.1, jdf e.2.1, []) (jdf e.2.1).length) none
  | 13 => cond (Nat.beq (jmF (jm m)) 3 && Nat.beq (jmC (jm m)) 13 && Nat.blt e.2.1 5 && Nat.ble (jwid st) 24) (match jthw m pc with
    | some (k, i, _) => cond (Nat.beq i (jxi e.2.1)) (match jpool 13 k with
      | (14, _, _) => jout 1 (0, (e.2.1 : Int)) (h.1, h.2.1 + 1, h.2.2 + 6)
      | _ => none) none
    | none => none) none
  | _ => none
def jnewa (t : ArrayType) (pc : Nat) (L : JL) (st : List JV) (h : JH) : JS := ji1 st (fun x r => match jw x with
  | .ofNat n => cond (Nat.ble n 100000) (match t with
    | .int => jnew pc 2 L r h (100, [], List.replicate n 0) n
    | .long => jnew pc 2 L r h (101, [], List.replicate n 0) n
    | .double => jnew pc 2 L r h (103, [], List.replicate n 0) n
    | _ => none) none
  | .negSucc _ => none)
def jnewq (e : Nat × Nat × Int) (pc : Nat) (L : JL) (st : List JV) (h : JH) : JS := ji1 st (fun x r => match jw x with
  | .ofNat n => cond (Nat.beq e.1 6 && Nat.ble n 100000) (cond (Nat.blt e.2.1 20 && (jaix (110 + e.2.1)).isSome) (jnew pc 3 L r h (110 + e.2.1, [], List.replicate n (-1)) n)
      (cond (Nat.beq e.2.1 100) (jnew pc 3 L r h (130, [], List.replicate n (-1)) n) none)) none
  | .negSucc _ => none)
/-- new int[n][k] -/
def jnewm (e : Nat × Nat × Int) (d pc : Nat) (L : JL) (st : List JV) (h : JH) : JS := ji2 st (fun x y r => match jw x, jw y with
  | .ofNat n, .ofNat k => cond (Nat.beq e.1 6 && Nat.beq e.2.1 130 && Nat.beq d 2 && Nat.ble n 1000 && Nat.ble k 100000)
      (jnx (pc + 4) L ((4, (h.1.length : Int)) :: r) (h.1 ++ ((130, [], (List.range n).map (fun j => ((h.1.length + 1 + j : Nat) : Int))) :: List.replicate n (100, [], List.replicate k 0)), h.2.1 + (n + 1), h.2.2 + (n + n * k))) none
  | _, _ => none)
def jaald (pc : Nat) (L : JL) (st : List JV) (h : JH) : JS := match st with
  | (0, i) :: (4, a) :: r => jcell h a (fun c => cond (Nat.ble 110 c.1 && (jaix c.1).isSome) (match jw i with
    | .ofNat j => (match c.2.2[j]? with
      | some x => jnx (pc + 1) L ((4, x) :: r) h
      | none => none)
    | .negSucc _ => none) none)
  | _ => none
def jaast (pc : Nat) (L : JL) (st : List JV) (h : JH) : JS := match st with
  | (4, x) :: (0, i) :: (4, a) :: r => jcell h a (fun c => cond (Nat.ble 110 c.1 && (jaix c.1).isSome) (match jw i with
    | .ofNat j => cond (Nat.blt j c.2.2.length) (match x with
      | .negSucc _ => cond (Nat.beq c.1 130) none (jnx (pc + 1) L r (h.1.set a.toNat (c.1, c.2.1, c.2.2.set j (-1)), h.2))
      | .ofNat b => (match h.1[b]? with
        | some d => cond (cond (Nat.beq c.1 130) (Nat.beq d.1 100) (Nat.beq (110 + d.1) c.1)) (jnx (pc + 1) L r (h.1.set a.toNat (c.1, c.2.1, c.2.2.set j (.ofNat b)), h.2)) none
        | none => none)) none
    | .negSucc _ => none) none)
  | _ => none
def jnull (want : Bool) (pc : Nat) (o : Int) (L : JL) (st : List JV) (h : JH) : JS := match st with
  | (4, x) :: r => jbr (match x with | .ofNat _ => !want | .negSucc _ => want) pc o L r h
  | _ => none
def jsw (dflt lo hi : Int) (offs : Array Int) (pc : Nat) (L : JL) (st : List JV) (h : JH) : JS := ji1 st (fun x r =>
  cond (decide (jw x < lo) || decide (hi < jw x)) (jgo pc dflt L r h) (match offs[(jw x - lo).toNat]? with
    | some o => jgo pc o L r h
    | none => none))
def jretv (rt : Nat) (st : List JV) (h : JH) : JS := match st with
  | v :: [] => cond (jfit rt v || (Nat.beq rt 4 && Nat.beq v.1 4) || (Nat.beq rt 2 && Nat.beq v.1 2) || (Nat.beq rt 3 && Nat.beq v.1 3)) (jout 0 v h) none
  | _ => none
def jshr (x y : Int) : Int := (Int64.ofInt x >>> ((Int32.ofInt y).toInt64 &&& 63)).toInt
def jushr (x y : Int) : Int := ((Int64.ofInt x).toUInt64 >>> ((Int32.ofInt y).toInt64.toUInt64 &&& Int64.toUInt64 63)).toInt64.toInt
/-- one step of the method m (not the first 'no such instruction') -/
def jstep0 (xs : List Int) (m pc : Nat) (ins : Instr) (n : Nat) (L : JL) (st : List JV) (h : JH) : JS := match ins with
  | .iload_n i => jld 0 pc 1 i L st h
  | .aload_n i => jldr pc 1 i L st h
  | .lload_n i => jld 1 pc 1 i L st h
  | .iload i => jld 0 pc 2 i L st h
  | .aload i => jldr pc 2 i L st h
  | .lload i => jld 1 pc 2 i L st h
  | .istore_n i => jsv 0 pc 1 (jmL (jm m)) i L st h
  | .lstore_n i => jsv2 1 pc 1 (jmL (jm m)) i L st h
  | .astore_n i => jsvr pc 1 (jmL (jm m)) i L st h
  | .istore i => jsv 0 pc 2 (jmL (jm m)) i L st h
  | .lstore i => jsv2 1 pc 2 (jmL (jm m)) i L st h
  | .astore i => jsvr pc 2 (jmL (jm m)) i L st h
  | .iconst k => jnx (pc + 1) L ((0, k) :: st) h
  | .bipush k => cond (decide (-128 ≤ k) && decide (k < 128)) (jnx (pc + 2) L ((0, k) :: st) h) none
  | .sipush k => cond (decide (-32768 ≤ k) && decide (k < 32768)) (jnx (pc + 3) L ((0, k) :: st) h) none
  | .lconst k => jnx (pc + 1) L ((1, ((k : Nat) : Int)) :: st) h
  | .aconst_null => jnx (pc + 1) L ((4, -1) :: st) h
  | .iadd => ji2 st (fun x y r => jnx (pc + 1) L ((0, x + y) :: r) h)
  | .isub => ji2 st (fun x y r => jnx (pc + 1) L ((0, x - y) :: r) h)
  | .imul => ji2 st (fun x y r => jnx (pc + 1) L ((0, x * y) :: r) h)
  | .ineg => ji1 st (fun x r => jnx (pc + 1) L ((0, -x) :: r) h)
  | .idiv => ji2 st (fun x y r => cond (decide (jw y = 0)) none (jnx (pc + 1) L ((0, (jw x).tdiv (jw y)) :: r) h))
  | .irem => ji2 st (fun x y r => cond (decide (jw y = 0)) none (jnx (pc + 1) L ((0, (jw x).tmod (jw y)) :: r) h))
  | .iand => ji2 st (fun x y r => jnx (pc + 1) L ((0, (Int32.ofInt x &&& Int32.ofInt y).toInt) :: r) h)
  | .ior => ji2 st (fun x y r => jnx (pc + 1) L ((0, (Int32.ofInt x ||| Int32.ofInt y).toInt) :: r) h)
  | .ishl => ji2 st (fun x y r => jnx (pc + 1) L ((0, (Int32.ofInt x <<< (Int32.ofInt y &&& 31)).toInt) :: r) h)
  | .ishr => ji2 st (fun x y r => jnx (pc + 1) L ((0, (Int32.ofInt x >>> (Int32.ofInt y &&& 31)).toInt) :: r) h)
  | .ladd => jl2 st (fun x y r => jnx (pc + 1) L ((1, x + y) :: r) h)
  | .lsub => jl2 st (fun x y r => jnx (pc + 1) L ((1, x - y) :: r) h)
  | .lmul => jl2 st (fun x y r => jnx (pc + 1) L ((1, x * y) :: r) h)
  | .lneg => jl1 st (fun x r => jnx (pc + 1) L ((1, -x) :: r) h)
  | .ldiv => jl2 st (fun x y r => cond (decide (jwl y = 0)) none (jnx (pc + 1) L ((1, (jwl x).tdiv (jwl y)) :: r) h))
  | .lrem => jl2 st (fun x y r => cond (decide (jwl y = 0)) none (jnx (pc + 1) L ((1, (jwl x).tmod (jwl y)) :: r) h))
  | .land => jl2 st (fun x y r => jnx (pc + 1) L ((1, (Int64.ofInt x &&& Int64.ofInt y).toInt) :: r) h)
  | .lor => jl2 st (fun x y r => jnx (pc + 1) L ((1, (Int64.ofInt x ||| Int64.ofInt y).toInt) :: r) h)
  | .lshr => jls st (fun x y r => jnx (pc + 1) L ((1, jshr x y) :: r) h)
  | .lushr => jls st (fun x y r => jnx (pc + 1) L ((1, jushr x y) :: r) h)
  | .lcmp => jl2 st (fun x y r => jnx (pc + 1) L ((0, cond (decide (jwl y < jwl x)) 1 (cond (decide (jwl x = jwl y)) 0 (-1))) :: r) h)
  | .i2l => ji1 st (fun x r => jnx (pc + 1) L ((1, jw x) :: r) h)
  | .l2i => jl1 st (fun x r => jnx (pc + 1) L ((0, x) :: r) h)
  | .l2d => jl1 st (fun x r => jnx (pc + 1) L (jd (FP.l2d (Int64.ofInt x)) :: r) h)
  | .d2l => jd1 st (fun x r => jnx (pc + 1) L ((1, (FP.d2l (ju64 x)).toInt) :: r) h)
  | .dadd => jd2 st (fun x y r => cond (jn64 (FP.dadd (ju64 x) (ju64 y))) (jnx (pc + 1) L (jd (FP.dadd (ju64 x) (ju64 y)) :: r) h) none)
  | .dmul => jd2 st (fun x y r => cond (jn64 (FP.dmul (ju64 x) (ju64 y))) (jnx (pc + 1) L (jd (FP.dmul (ju64 x) (ju64 y)) :: r) h) none)
  | .ddiv => jd2 st (fun x y r => cond (jn64 (FP.ddiv (ju64 x) (ju64 y))) (jnx (pc + 1) L (jd (FP.ddiv (ju64 x) (ju64 y)) :: r) h) none)
  | .iinc i k => cond (Nat.beq (jget L i).1 0 && Nat.blt i (jmL (jm m))) (jnx (pc + 3) (jst1 L i (0, (jget L i).2 + k)) st h) none
  | .dup => (match st with
    | v :: r => cond (jone v) (jnx (pc + 1) L (v :: v :: r) h) none
    | [] => none)
  | .dup2 => (match st with
    | v :: r => cond (jone v) (match r with
      | w :: r' => cond (jone w) (jnx (pc + 1) L (v :: w :: v :: w :: r') h) none
      | [] => none) (jnx (pc + 1) L (v :: v :: r) h)
    | [] => none)
  | .pop2 => (match st with
    | v :: r => cond (jone v) none (jnx (pc + 1) L r h)
    | [] => none)
  | .ifCond c o => ji1 st (fun x r => jbr (jcmp c x 0) pc o L r h)
  | .if_icmp c o => ji2 st (fun x y r => jbr (jcmp c x y) pc o L r h)
  | .ifnull o => jnull true pc o L st h
  | .goto o => jgo pc o L st h
  | .tableswitch dflt lo hi offs => jsw dflt lo hi offs pc L st h
  | .ldc i => (match jpool (jmC (jm m)) i with
    | (7, _, v) => jnx (pc + 2) L ((0, v) :: st) h
    | (14, k, _) => jnx (pc + 2) L ((7, (k : Int)) :: st) h
    | _ => none)
  | .ldc_w i => (match jpool (jmC (jm m)) i with
    | (7, _, v) => jnx (pc + 3) L ((0, v) :: st) h
    | (14, k, _) => jnx (pc + 3) L ((7, (k : Int)) :: st) h
    | _ => none)
  | .ldc2_w i => (match jpool (jmC (jm m)) i with
    | (8, _, v) => jnx (pc + 3) L ((1, v) :: st) h
    | (9, _, v) => cond (decide (0 ≤ v) && decide (v < 18446744073709551616)) (jnx (pc + 3) L ((3, v) :: st) h) none
    | _ => none)
  | .iaload => (match st with
    | (0, i) :: (6, _) :: r => (match jw i with
      | .ofNat j => (match xs[j]? with
        | some x => jnx (pc + 1) L ((0, x) :: r) h
        | none => none)
      | .negSucc _ => none)
    | (0, i) :: (5, a) :: r => jtab 100 0 pc L ((0, i) :: (5, a) :: r) h jtb
    | stN => jald 100 0 pc L stN h)
  | .laload => (match st with
    | (0, i) :: (5, a) :: r => jtab 101 1 pc L ((0, i) :: (5, a) :: r) h jtb
    | stN => jald 101 1 pc L stN h)
  | .aaload => jaald pc L st h
  | .iastore => jast 100 0 pc L st h
  | .lastore => jast 101 1 pc L st h
  | .aastore => jaast pc L st h
  | .arraylength => (match st with
    | (6, _) :: r => jnx (pc + 1) L ((0, (xs.length : Int)) :: r) h
    | (4, a) :: r => jcell h a (fun c => cond (Nat.ble 100 c.1 && (jaix c.1).isSome) (jnx (pc + 1) L ((0, (c.2.2.length : Int)) :: r) h) none)
    | _ => none)
  | .getfield i => jgetf (jpool (jmC (jm m)) i) pc L st h
  | .putfield i => jputf (jpool (jmC (jm m)) i) (fun ci => Nat.beq (jmF (jm m)) 2 && Nat.beq ci (jmC (jm m))) pc L st h
  | .getstatic i => (match jpool (jmC (jm m)) i with
    | (3, k, _) => jnx (pc + 3) L ((5, (k : Int)) :: st) h
    | (16, k, _) => jnx (pc + 3) L ((5, (k : Int)) :: st) h
    | _ => none)
  | .new i => jnewo (jpool (jmC (jm m)) i) m pc L st h
  | .newarray t => jnewa t pc L st h
  | .anewarray i => jnewq (jpool (jmC (jm m)) i) pc L st h
  | .multianewarray i d => jnewm (jpool (jmC (jm m)) i) d pc L st h
  | .invokestatic i => jcalls (jpool (jmC (jm m)) i) pc L st h
  | .invokevirtual i => jcallv (jpool (jmC (jm m)) i) pc L st h
  | .invokespecial i => jcalli (jpool (jmC (jm m)) i) pc L st h
  | .ireturn => cond (Nat.beq (jmR (jm m)) 0 || Nat.beq (jmR (jm m)) 8) (jretv (jmR (jm m)) st h) none
  | .lreturn => cond (Nat.beq (jmR (jm m)) 1) (jretv (jmR (jm m)) st h) none
  | .dreturn => cond (Nat.beq (jmR (jm m)) 3) (jretv (jmR (jm m)) st h) none
  | .areturn => cond (Nat.beq (jmR (jm m)) 4) (jretv (jmR (jm m)) st h) none
  | .return_ => (match st with
    | [] => cond (Nat.beq (jmR (jm m)) 9) (jout 0 (9, 0) h) none
    | _ => none)
  | _ => none
def jstep (xs : List Int) (m pc : Nat) (L : JL) (st : List JV) (h : JH) : JS := cond (jlen (jmI (jm m) pc).1 (jmI (jm m) pc).2) (jstep0 xs m pc (jmI (jm m) pc).1 (jmI (jm m) pc).2 L st h) none
/-- the locals at a method's entry -/
def jent : Nat → List JV → JL
  | _, [] => []
  | i, v :: r => (i, v) :: jent (i + cond (jone v) 1 2) r
def jcat (c i : Nat) (e : Int) : Bool := match jpool c i with
  | (13, k, _) => decide ((k : Int) = e)
  | _ => false
/-- a handler's end: 'the exception away, a number, back': its number -/
def jhOk (m : Nat) : Bool := (jmH (jm m)).all (fun q => match jpool (jmC (jm m)) q.2.2.2 with
  | (13, k, _) => Nat.blt k 5 && !(Nat.beq q.2.2.2 0)
  | _ => false)
def jhcd (m pc : Nat) : Option Int := match jmI (jm m) pc with
  | (.astore_n i, 1) => cond (Nat.blt i (jmL (jm m))) (match jmI (jm m) (pc + 1), jmI (jm m) (pc + 2) with
    | (.iconst k, 1), (.ireturn, 1) => some k
    | _, _ => none) none
  | (.astore i, 2) => cond (Nat.blt i (jmL (jm m))) (match jmI (jm m) (pc + 2), jmI (jm m) (pc + 3) with
    | (.iconst k, 1), (.ireturn, 1) => some k
    | _, _ => none) none
  | _ => none
def jhnd (m pc : Nat) (e : Int) : Option Int := cond (jhOk m && Nat.beq (jmF (jm m)) 4 && Nat.beq (jmR (jm m)) 0) (match (jmH (jm m)).find? (fun q => Nat.ble q.1 pc && Nat.blt pc q.2.1 && jcat (jmC (jm m)) q.2.2.2 e) with
  | some q => jhcd m q.2.2.1
  | none => none) none
/-- a run of at most so many steps at a depth: 0 returned, 1 thrown, 2 not told -/
noncomputable def jrun (xs : List Int) (f : Nat) : Nat → Nat → Nat → JL → List JV → JH → JO :=
  Nat.rec (motive := fun _ => Nat → Nat → Nat → JL → List JV → JH → JO) (fun _ _ _ _ _ h => (2, (9, 0), h))
    (fun _ ih d m pc L st h => match jstep xs m pc L st h with
      | none => (2, (9, 0), h)
      | some (.inl (g, h')) => ih d m g.1 g.2.1 g.2.2 h'
      | some (.inr (.inl o)) => o
      | some (.inr (.inr (y, a, g, h'))) => (match d with
        | 0 => (2, (9, 0), h')
        | d' + 1 => cond (Nat.ble (jwid g.2.2) 8 && Nat.ble (jwid a) (jmL (jm y))) (match ih d' y 0 (jent 0 a) [] h' with
          | (0, v, h2) => ih d m g.1 g.2.1 (cond (Nat.beq (jmR (jm y)) 9) g.2.2 (v :: g.2.2)) h2
          | (1, v, h2) => (match jhnd m pc v.2 with
            | some k => (0, (0, k), h2)
            | none => cond (Nat.beq (jmF (jm m)) 3) (1, v, h2) (2, v, h2))
          | (_, _, h2) => (2, (9, 0), h2)) (2, (9, 0), h'))) f
