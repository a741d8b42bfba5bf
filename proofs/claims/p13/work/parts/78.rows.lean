/-! single steps, told by their instruction -/
section JTT
variable {xs : List Int} {d m n0 pc b1 b2 pcN : Nat} {L : JL} {st : List JV} {hs : List JC} {Q : Nat → JV → List JC → Prop}

theorem jT_xiload_n {i : Fin 4} {v : JV} (hI : jmI (jm m) pc = (.iload_n i, 1)) (hv : jget L i.val = v) (ht : Nat.beq v.1 0 = true) (hp : pc + 1 = pcN) (h : jT xs d m n0 pcN L (v :: st) hs b1 b2 Q) : jT xs d m n0 pc L st hs b1 b2 Q := by
  subst hp
  refine jT_step (c1 := 0) (s1 := 0) ?_ h (by omega) (by omega)
  unfold jstep
  rw [hI]
  show jld 0 pc 1 i.val L st (hs, 0, 0) = _
  unfold jld
  rw [hv, ht]
  rfl

theorem jT_xiload {i : Nat} {v : JV} (hI : jmI (jm m) pc = (.iload i, 2)) (hv : jget L i = v) (ht : Nat.beq v.1 0 = true) (hp : pc + 2 = pcN) (h : jT xs d m n0 pcN L (v :: st) hs b1 b2 Q) : jT xs d m n0 pc L st hs b1 b2 Q := by
  subst hp
  refine jT_step (c1 := 0) (s1 := 0) ?_ h (by omega) (by omega)
  unfold jstep
  rw [hI]
  show jld 0 pc 2 i L st (hs, 0, 0) = _
  unfold jld
  rw [hv, ht]
  rfl

theorem jT_xlload_n {i : Fin 4} {v : JV} (hI : jmI (jm m) pc = (.lload_n i, 1)) (hv : jget L i.val = v) (ht : Nat.beq v.1 1 = true) (hp : pc + 1 = pcN) (h : jT xs d m n0 pcN L (v :: st) hs b1 b2 Q) : jT xs d m n0 pc L st hs b1 b2 Q := by
  subst hp
  refine jT_step (c1 := 0) (s1 := 0) ?_ h (by omega) (by omega)
  unfold jstep
  rw [hI]
  show jld 1 pc 1 i.val L st (hs, 0, 0) = _
  unfold jld
  rw [hv, ht]
  rfl

theorem jT_xaload_n {i : Fin 4} {v : JV} (hI : jmI (jm m) pc = (.aload_n i, 1)) (hv : jget L i.val = v) (ht : (Nat.ble 4 v.1 && Nat.ble v.1 7) = true) (hp : pc + 1 = pcN) (h : jT xs d m n0 pcN L (v :: st) hs b1 b2 Q) : jT xs d m n0 pc L st hs b1 b2 Q := by
  subst hp
  refine jT_step (c1 := 0) (s1 := 0) ?_ h (by omega) (by omega)
  unfold jstep
  rw [hI]
  show jldr pc 1 i.val L st (hs, 0, 0) = _
  unfold jldr
  rw [hv, ht]
  rfl

theorem jT_xaload {i : Nat} {v : JV} (hI : jmI (jm m) pc = (.aload i, 2)) (hv : jget L i = v) (ht : (Nat.ble 4 v.1 && Nat.ble v.1 7) = true) (hp : pc + 2 = pcN) (h : jT xs d m n0 pcN L (v :: st) hs b1 b2 Q) : jT xs d m n0 pc L st hs b1 b2 Q := by
  subst hp
  refine jT_step (c1 := 0) (s1 := 0) ?_ h (by omega) (by omega)
  unfold jstep
  rw [hI]
  show jldr pc 2 i L st (hs, 0, 0) = _
  unfold jldr
  rw [hv, ht]
  rfl

theorem jT_xistore {i : Nat} {v : JV} {r : List JV} {LN : JL} (hI : jmI (jm m) pc = (.istore i, 2)) (hst : st = v :: r) (ht : (Nat.beq v.1 0 && Nat.blt i (jmL (jm m))) = true) (hL : jst1 L i v = LN) (hp : pc + 2 = pcN) (h : jT xs d m n0 pcN LN r hs b1 b2 Q) : jT xs d m n0 pc L st hs b1 b2 Q := by
  subst hL; subst hst
  subst hp
  refine jT_step (c1 := 0) (s1 := 0) ?_ h (by omega) (by omega)
  unfold jstep
  rw [hI]
  show cond (Nat.beq v.1 0 && Nat.blt i (jmL (jm m))) _ none = _
  rw [ht]
  rfl

theorem jT_xastore_n {i : Fin 4} {v : JV} {r : List JV} {LN : JL} (hI : jmI (jm m) pc = (.astore_n i, 1)) (hst : st = v :: r) (ht : (Nat.ble 4 v.1 && Nat.ble v.1 7 && Nat.blt i.val (jmL (jm m))) = true) (hL : jst1 L i.val v = LN) (hp : pc + 1 = pcN) (h : jT xs d m n0 pcN LN r hs b1 b2 Q) : jT xs d m n0 pc L st hs b1 b2 Q := by
  subst hL; subst hst
  subst hp
  refine jT_step (c1 := 0) (s1 := 0) ?_ h (by omega) (by omega)
  unfold jstep
  rw [hI]
  show cond (Nat.ble 4 v.1 && Nat.ble v.1 7 && Nat.blt i.val (jmL (jm m))) _ none = _
  rw [ht]
  rfl

theorem jT_xastore {i : Nat} {v : JV} {r : List JV} {LN : JL} (hI : jmI (jm m) pc = (.astore i, 2)) (hst : st = v :: r) (ht : (Nat.ble 4 v.1 && Nat.ble v.1 7 && Nat.blt i (jmL (jm m))) = true) (hL : jst1 L i v = LN) (hp : pc + 2 = pcN) (h : jT xs d m n0 pcN LN r hs b1 b2 Q) : jT xs d m n0 pc L st hs b1 b2 Q := by
  subst hL; subst hst
  subst hp
  refine jT_step (c1 := 0) (s1 := 0) ?_ h (by omega) (by omega)
  unfold jstep
  rw [hI]
  show cond (Nat.ble 4 v.1 && Nat.ble v.1 7 && Nat.blt i (jmL (jm m))) _ none = _
  rw [ht]
  rfl

theorem jT_xiconst {k : Int} (hI : jmI (jm m) pc = (.iconst k, 1)) (hp : pc + 1 = pcN) (h : jT xs d m n0 pcN L ((0, k) :: st) hs b1 b2 Q) : jT xs d m n0 pc L st hs b1 b2 Q := by
  subst hp
  refine jT_step (c1 := 0) (s1 := 0) ?_ h (by omega) (by omega)
  unfold jstep
  rw [hI]
  rfl
theorem jT_xbipush {k : Int} (hI : jmI (jm m) pc = (.bipush k, 2)) (hk : (decide (-128 ≤ k) && decide (k < 128)) = true) (hp : pc + 2 = pcN) (h : jT xs d m n0 pcN L ((0, k) :: st) hs b1 b2 Q) : jT xs d m n0 pc L st hs b1 b2 Q := by
  subst hp
  refine jT_step (c1 := 0) (s1 := 0) ?_ h (by omega) (by omega)
  unfold jstep
  rw [hI]
  show cond (decide (-128 ≤ k) && decide (k < 128)) _ none = _
  rw [hk]
  rfl
theorem jT_xiadd {x y z : Int} {r : List JV} (hI : jmI (jm m) pc = (.iadd, 1)) (hst : st = (0, y) :: (0, x) :: r) (hz : x + y = z) (hp : pc + 1 = pcN) (h : jT xs d m n0 pcN L ((0, z) :: r) hs b1 b2 Q) : jT xs d m n0 pc L st hs b1 b2 Q := by
  subst hz; subst hst
  subst hp
  refine jT_step (c1 := 0) (s1 := 0) ?_ h (by omega) (by omega)
  unfold jstep
  rw [hI]
  rfl

theorem jT_xisub {x y z : Int} {r : List JV} (hI : jmI (jm m) pc = (.isub, 1)) (hst : st = (0, y) :: (0, x) :: r) (hz : x - y = z) (hp : pc + 1 = pcN) (h : jT xs d m n0 pcN L ((0, z) :: r) hs b1 b2 Q) : jT xs d m n0 pc L st hs b1 b2 Q := by
  subst hz; subst hst
  subst hp
  refine jT_step (c1 := 0) (s1 := 0) ?_ h (by omega) (by omega)
  unfold jstep
  rw [hI]
  rfl

theorem jT_xlsub {x y z : Int} {r : List JV} (hI : jmI (jm m) pc = (.lsub, 1)) (hst : st = (1, y) :: (1, x) :: r) (hz : x - y = z) (hp : pc + 1 = pcN) (h : jT xs d m n0 pcN L ((1, z) :: r) hs b1 b2 Q) : jT xs d m n0 pc L st hs b1 b2 Q := by
  subst hz; subst hst
  subst hp
  refine jT_step (c1 := 0) (s1 := 0) ?_ h (by omega) (by omega)
  unfold jstep
  rw [hI]
  rfl

theorem jT_xlmul {x y z : Int} {r : List JV} (hI : jmI (jm m) pc = (.lmul, 1)) (hst : st = (1, y) :: (1, x) :: r) (hz : x * y = z) (hp : pc + 1 = pcN) (h : jT xs d m n0 pcN L ((1, z) :: r) hs b1 b2 Q) : jT xs d m n0 pc L st hs b1 b2 Q := by
  subst hz; subst hst
  subst hp
  refine jT_step (c1 := 0) (s1 := 0) ?_ h (by omega) (by omega)
  unfold jstep
  rw [hI]
  rfl

theorem jT_xi2l {x z : Int} {r : List JV} (hI : jmI (jm m) pc = (.i2l, 1)) (hst : st = (0, x) :: r) (hz : jw x = z) (hp : pc + 1 = pcN) (h : jT xs d m n0 pcN L ((1, z) :: r) hs b1 b2 Q) : jT xs d m n0 pc L st hs b1 b2 Q := by
  subst hz; subst hst
  subst hp
  refine jT_step (c1 := 0) (s1 := 0) ?_ h (by omega) (by omega)
  unfold jstep
  rw [hI]
  rfl
theorem jT_xiinc {i : Nat} {k x z : Int} {LN : JL} (hI : jmI (jm m) pc = (.iinc i k, 3)) (hv : jget L i = (0, x)) (hm : Nat.blt i (jmL (jm m)) = true) (hz : x + k = z) (hL : jst1 L i (0, z) = LN) (hp : pc + 3 = pcN) (h : jT xs d m n0 pcN LN st hs b1 b2 Q) : jT xs d m n0 pc L st hs b1 b2 Q := by
  subst hL; subst hz
  subst hp
  refine jT_step (c1 := 0) (s1 := 0) ?_ h (by omega) (by omega)
  unfold jstep
  rw [hI]
  show cond (Nat.beq (jget L i).1 0 && Nat.blt i (jmL (jm m))) (jnx (pc + 3) (jst1 L i (0, (jget L i).2 + k)) st (hs, 0, 0)) none = _
  rw [hv, hm]
  rfl
theorem jT_xgoto {o : Int} (hI : jmI (jm m) pc = (.goto o, 3)) (hp : (pc : Int) + o = Int.ofNat pcN) (h : jT xs d m n0 pcN L st hs b1 b2 Q) : jT xs d m n0 pc L st hs b1 b2 Q := by
  refine jT_step (c1 := 0) (s1 := 0) ?_ h (by omega) (by omega)
  unfold jstep
  rw [hI]
  show jgo pc o L st (hs, 0, 0) = _
  unfold jgo
  rw [hp]
  rfl
theorem jT_xicT {c : ClassFile.Cond} {o x y : Int} {r : List JV} (hI : jmI (jm m) pc = (.if_icmp c o, 3)) (hst : st = (0, y) :: (0, x) :: r) (hb : jcmp c x y = true) (hp : (pc : Int) + o = Int.ofNat pcN) (h : jT xs d m n0 pcN L r hs b1 b2 Q) : jT xs d m n0 pc L st hs b1 b2 Q :=
  jT_ic hI hst hp (fun _ => h) (fun q => by rw [hb] at q; cases q)
theorem jT_xicF {c : ClassFile.Cond} {o x y : Int} {t : Nat} {r : List JV} (hI : jmI (jm m) pc = (.if_icmp c o, 3)) (hst : st = (0, y) :: (0, x) :: r) (hb : jcmp c x y = false) (ht : (pc : Int) + o = Int.ofNat t) (hp : pc + 3 = pcN) (h : jT xs d m n0 pcN L r hs b1 b2 Q) : jT xs d m n0 pc L st hs b1 b2 Q := by
  subst hp
  exact jT_ic hI hst ht (fun q => by rw [hb] at q; cases q) (fun _ => h)
theorem jT_xifF {c : ClassFile.Cond} {o x : Int} {t : Nat} {r : List JV} (hI : jmI (jm m) pc = (.ifCond c o, 3)) (hst : st = (0, x) :: r) (hb : jcmp c x 0 = false) (ht : (pc : Int) + o = Int.ofNat t) (hp : pc + 3 = pcN) (h : jT xs d m n0 pcN L r hs b1 b2 Q) : jT xs d m n0 pc L st hs b1 b2 Q := by
  subst hp
  exact jT_if hI hst ht (fun q => by rw [hb] at q; cases q) (fun _ => h)
theorem jT_xgetf {i a t ci : Nat} {fi : Int} {r : List JV} {c : JC} {v : JV} (hI : jmI (jm m) pc = (.getfield i, 3)) (hst : st = (4, ((a : Nat) : Int)) :: r) (hq : jpool (jmC (jm m)) i = (t, ci, fi)) (ht : (Nat.beq t 1 || Nat.beq t 2) = true) (hc : hs[a]? = some c) (hk : (!(Nat.beq c.1 999) && Nat.beq c.1 ci) = true) (hv : c.2.1[fi.toNat]? = some v) (hp : pc + 3 = pcN) (h : jT xs d m n0 pcN L (v :: r) hs b1 b2 Q) : jT xs d m n0 pc L st hs b1 b2 Q := by
  subst hst
  obtain ⟨hk1, hk2⟩ := Bool.and_eq_true_iff.mp hk
  have hk1 : Nat.beq c.1 999 = false := by
    cases hb : Nat.beq c.1 999 with
    | false => rfl
    | true => rw [hb] at hk1; cases hk1
  subst hp
  refine jT_step (c1 := 0) (s1 := 0) ?_ h (by omega) (by omega)
  unfold jstep
  rw [hI]
  show jgetf (jpool (jmC (jm m)) i) pc L ((4, ((a : Nat) : Int)) :: r) (hs, 0, 0) = _
  rw [hq]
  show cond (Nat.beq t 1 || Nat.beq t 2) (jcell (hs, 0, 0) ((a : Nat) : Int) _) none = _
  rw [ht, jcell_at hc hk1]
  show cond (Nat.beq c.1 ci) (match c.2.1[fi.toNat]? with
    | some v => jnx (pc + 3) L (v :: r) (hs, 0, 0)
    | none => none) none = _
  rw [hk2, hv]
  rfl
end JTT
