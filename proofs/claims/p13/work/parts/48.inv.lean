/-! the little machine, part 12: what a step can be -/
def jhle (h h' : JH) : Prop := h.2.1 ≤ h'.2.1 ∧ h.2.2 ≤ h'.2.2
theorem jhle_rf {h : JH} : jhle h h := ⟨Nat.le_refl _, Nat.le_refl _⟩
theorem jhle.trans {a b c : JH} (h1 : jhle a b) (h2 : jhle b c) : jhle a c := ⟨Nat.le_trans h1.1 h2.1, Nat.le_trans h1.2 h2.2⟩
/-- a step that only goes on -/
def jPl (h : JH) (x : JS) : Prop := ∀ z, x = some z → ∃ g h', z = .inl (g, h') ∧ jhle h h'
theorem jPl_none {h : JH} : jPl h none := fun _ q => nomatch q
theorem jPl_nx {h : JH} {pc : Nat} {L : JL} {st : List JV} : jPl h (jnx pc L st h) := fun z q => by cases q; exact ⟨_, _, rfl, jhle_rf⟩
theorem jPl_put {h : JH} {pc : Nat} {L : JL} {st : List JV} {hl : List JC} : jPl h (jnx pc L st (hl, h.2)) := fun z q => by cases q; exact ⟨_, _, rfl, jhle_rf⟩
theorem jPl_mk {h : JH} {pc x y : Nat} {L : JL} {st : List JV} {hl : List JC} : jPl h (jnx pc L st (hl, h.2.1 + x, h.2.2 + y)) := fun z q => by cases q; exact ⟨_, _, rfl, Nat.le_add_right _ _, Nat.le_add_right _ _⟩
theorem jPl_new {h : JH} {pc n sz : Nat} {L : JL} {r : List JV} {c : JC} : jPl h (jnew pc n L r h c sz) := jPl_mk
theorem jPl_cond {h : JH} {b : Bool} {x y : JS} (hx : jPl h x) (hy : jPl h y) : jPl h (cond b x y) := by cases b <;> assumption
theorem jPl_go {h : JH} {pc : Nat} {o : Int} {L : JL} {st : List JV} : jPl h (jgo pc o L st h) := by
  unfold jgo
  split
  · exact jPl_nx
  · exact jPl_none
theorem jPl_br {h : JH} {b : Bool} {pc : Nat} {o : Int} {L : JL} {st : List JV} : jPl h (jbr b pc o L st h) := by
  unfold jbr
  split
  · exact jPl_cond jPl_nx jPl_nx
  · exact jPl_none
theorem jPl_cell {h : JH} {a : Int} {k : JC → JS} (hk : ∀ c, jPl h (k c)) : jPl h (jcell h a k) := by
  unfold jcell
  split
  · split
    · exact jPl_cond jPl_none (hk _)
    · exact jPl_none
  · exact jPl_none
theorem jPl_ji2 {h : JH} {st : List JV} {k : Int → Int → List JV → JS} (hk : ∀ x y z, jPl h (k x y z)) : jPl h (ji2 st k) := by
  unfold ji2
  split
  · exact hk _ _ _ 
  · exact jPl_none
theorem jPl_jl2 {h : JH} {st : List JV} {k : Int → Int → List JV → JS} (hk : ∀ x y z, jPl h (k x y z)) : jPl h (jl2 st k) := by
  unfold jl2
  split
  · exact hk _ _ _ 
  · exact jPl_none
theorem jPl_jd2 {h : JH} {st : List JV} {k : Int → Int → List JV → JS} (hk : ∀ x y z, jPl h (k x y z)) : jPl h (jd2 st k) := by
  unfold jd2
  split
  · exact hk _ _ _ 
  · exact jPl_none
theorem jPl_jf2 {h : JH} {st : List JV} {k : Int → Int → List JV → JS} (hk : ∀ x y z, jPl h (k x y z)) : jPl h (jf2 st k) := by
  unfold jf2
  split
  · exact hk _ _ _ 
  · exact jPl_none
theorem jPl_jls {h : JH} {st : List JV} {k : Int → Int → List JV → JS} (hk : ∀ x y z, jPl h (k x y z)) : jPl h (jls st k) := by
  unfold jls
  split
  · exact hk _ _ _ 
  · exact jPl_none
theorem jPl_ji1 {h : JH} {st : List JV} {k : Int → List JV → JS} (hk : ∀ x y, jPl h (k x y)) : jPl h (ji1 st k) := by
  unfold ji1
  split
  · exact hk _ _ 
  · exact jPl_none
theorem jPl_jl1 {h : JH} {st : List JV} {k : Int → List JV → JS} (hk : ∀ x y, jPl h (k x y)) : jPl h (jl1 st k) := by
  unfold jl1
  split
  · exact hk _ _ 
  · exact jPl_none
theorem jPl_jd1 {h : JH} {st : List JV} {k : Int → List JV → JS} (hk : ∀ x y, jPl h (k x y)) : jPl h (jd1 st k) := by
  unfold jd1
  split
  · exact hk _ _ 
  · exact jPl_none
theorem jPl_jf1 {h : JH} {st : List JV} {k : Int → List JV → JS} (hk : ∀ x y, jPl h (k x y)) : jPl h (jf1 st k) := by
  unfold jf1
  split
  · exact hk _ _ 
  · exact jPl_none
theorem jPl_jld {h : JH} {t pc n i : Nat} {L : JL} {st : List JV} : jPl h (jld t pc n i L st h) := by
  unfold jld
  repeat' (first | exact jPl_none | exact jPl_nx | exact jPl_put | exact jPl_new | exact jPl_mk | exact jPl_go | exact jPl_br | apply jPl_cond | (apply jPl_cell; intro _) | (apply jPl_ji2; intro _ _ _) | (apply jPl_jl2; intro _ _ _) | (apply jPl_jd2; intro _ _ _) | (apply jPl_jf2; intro _ _ _) | (apply jPl_jls; intro _ _ _) | (apply jPl_ji1; intro _ _) | (apply jPl_jl1; intro _ _) | (apply jPl_jd1; intro _ _) | (apply jPl_jf1; intro _ _) | split)
theorem jPl_jldr {h : JH} {pc n i : Nat} {L : JL} {st : List JV} : jPl h (jldr pc n i L st h) := by
  unfold jldr
  repeat' (first | exact jPl_none | exact jPl_nx | exact jPl_put | exact jPl_new | exact jPl_mk | exact jPl_go | exact jPl_br | apply jPl_cond | (apply jPl_cell; intro _) | (apply jPl_ji2; intro _ _ _) | (apply jPl_jl2; intro _ _ _) | (apply jPl_jd2; intro _ _ _) | (apply jPl_jf2; intro _ _ _) | (apply jPl_jls; intro _ _ _) | (apply jPl_ji1; intro _ _) | (apply jPl_jl1; intro _ _) | (apply jPl_jd1; intro _ _) | (apply jPl_jf1; intro _ _) | split)
theorem jPl_jsv {h : JH} {t pc n m i : Nat} {L : JL} {st : List JV} : jPl h (jsv t pc n m i L st h) := by
  unfold jsv
  repeat' (first | exact jPl_none | exact jPl_nx | exact jPl_put | exact jPl_new | exact jPl_mk | exact jPl_go | exact jPl_br | apply jPl_cond | (apply jPl_cell; intro _) | (apply jPl_ji2; intro _ _ _) | (apply jPl_jl2; intro _ _ _) | (apply jPl_jd2; intro _ _ _) | (apply jPl_jf2; intro _ _ _) | (apply jPl_jls; intro _ _ _) | (apply jPl_ji1; intro _ _) | (apply jPl_jl1; intro _ _) | (apply jPl_jd1; intro _ _) | (apply jPl_jf1; intro _ _) | split)
theorem jPl_jsv2 {h : JH} {t pc n m i : Nat} {L : JL} {st : List JV} : jPl h (jsv2 t pc n m i L st h) := by
  unfold jsv2
  repeat' (first | exact jPl_none | exact jPl_nx | exact jPl_put | exact jPl_new | exact jPl_mk | exact jPl_go | exact jPl_br | apply jPl_cond | (apply jPl_cell; intro _) | (apply jPl_ji2; intro _ _ _) | (apply jPl_jl2; intro _ _ _) | (apply jPl_jd2; intro _ _ _) | (apply jPl_jf2; intro _ _ _) | (apply jPl_jls; intro _ _ _) | (apply jPl_ji1; intro _ _) | (apply jPl_jl1; intro _ _) | (apply jPl_jd1; intro _ _) | (apply jPl_jf1; intro _ _) | split)
theorem jPl_jsvr {h : JH} {pc n m i : Nat} {L : JL} {st : List JV} : jPl h (jsvr pc n m i L st h) := by
  unfold jsvr
  repeat' (first | exact jPl_none | exact jPl_nx | exact jPl_put | exact jPl_new | exact jPl_mk | exact jPl_go | exact jPl_br | apply jPl_cond | (apply jPl_cell; intro _) | (apply jPl_ji2; intro _ _ _) | (apply jPl_jl2; intro _ _ _) | (apply jPl_jd2; intro _ _ _) | (apply jPl_jf2; intro _ _ _) | (apply jPl_jls; intro _ _ _) | (apply jPl_ji1; intro _ _) | (apply jPl_jl1; intro _ _) | (apply jPl_jd1; intro _ _) | (apply jPl_jf1; intro _ _) | split)
theorem jPl_jald {h : JH} {kd t pc : Nat} {L : JL} {st : List JV} : jPl h (jald kd t pc L st h) := by
  unfold jald
  repeat' (first | exact jPl_none | exact jPl_nx | exact jPl_put | exact jPl_new | exact jPl_mk | exact jPl_go | exact jPl_br | apply jPl_cond | (apply jPl_cell; intro _) | (apply jPl_ji2; intro _ _ _) | (apply jPl_jl2; intro _ _ _) | (apply jPl_jd2; intro _ _ _) | (apply jPl_jf2; intro _ _ _) | (apply jPl_jls; intro _ _ _) | (apply jPl_ji1; intro _ _) | (apply jPl_jl1; intro _ _) | (apply jPl_jd1; intro _ _) | (apply jPl_jf1; intro _ _) | split)
theorem jPl_jast {h : JH} {kd t pc : Nat} {L : JL} {st : List JV} : jPl h (jast kd t pc L st h) := by
  unfold jast
  repeat' (first | exact jPl_none | exact jPl_nx | exact jPl_put | exact jPl_new | exact jPl_mk | exact jPl_go | exact jPl_br | apply jPl_cond | (apply jPl_cell; intro _) | (apply jPl_ji2; intro _ _ _) | (apply jPl_jl2; intro _ _ _) | (apply jPl_jd2; intro _ _ _) | (apply jPl_jf2; intro _ _ _) | (apply jPl_jls; intro _ _ _) | (apply jPl_ji1; intro _ _) | (apply jPl_jl1; intro _ _) | (apply jPl_jd1; intro _ _) | (apply jPl_jf1; intro _ _) | split)
theorem jPl_jtab {h : JH} {kd t pc : Nat} {L : JL} {st : List JV} {tb : Nat → Nat × List Int} : jPl h (jtab kd t pc L st h tb) := by
  unfold jtab
  repeat' (first | exact jPl_none | exact jPl_nx | exact jPl_put | exact jPl_new | exact jPl_mk | exact jPl_go | exact jPl_br | apply jPl_cond | (apply jPl_cell; intro _) | (apply jPl_ji2; intro _ _ _) | (apply jPl_jl2; intro _ _ _) | (apply jPl_jd2; intro _ _ _) | (apply jPl_jf2; intro _ _ _) | (apply jPl_jls; intro _ _ _) | (apply jPl_ji1; intro _ _) | (apply jPl_jl1; intro _ _) | (apply jPl_jd1; intro _ _) | (apply jPl_jf1; intro _ _) | split)
theorem jPl_jgetf {h : JH} {e : Nat × Nat × Int} {pc : Nat} {L : JL} {st : List JV} : jPl h (jgetf e pc L st h) := by
  unfold jgetf
  repeat' (first | exact jPl_none | exact jPl_nx | exact jPl_put | exact jPl_new | exact jPl_mk | exact jPl_go | exact jPl_br | apply jPl_cond | (apply jPl_cell; intro _) | (apply jPl_ji2; intro _ _ _) | (apply jPl_jl2; intro _ _ _) | (apply jPl_jd2; intro _ _ _) | (apply jPl_jf2; intro _ _ _) | (apply jPl_jls; intro _ _ _) | (apply jPl_ji1; intro _ _) | (apply jPl_jl1; intro _ _) | (apply jPl_jd1; intro _ _) | (apply jPl_jf1; intro _ _) | split)
theorem jPl_jputf {h : JH} {e : Nat × Nat × Int} {fin : Nat → Bool} {pc : Nat} {L : JL} {st : List JV} : jPl h (jputf e fin pc L st h) := by
  unfold jputf
  repeat' (first | exact jPl_none | exact jPl_nx | exact jPl_put | exact jPl_new | exact jPl_mk | exact jPl_go | exact jPl_br | apply jPl_cond | (apply jPl_cell; intro _) | (apply jPl_ji2; intro _ _ _) | (apply jPl_jl2; intro _ _ _) | (apply jPl_jd2; intro _ _ _) | (apply jPl_jf2; intro _ _ _) | (apply jPl_jls; intro _ _ _) | (apply jPl_ji1; intro _ _) | (apply jPl_jl1; intro _ _) | (apply jPl_jd1; intro _ _) | (apply jPl_jf1; intro _ _) | split)
theorem jPl_jcopy {h : JH} {pc : Nat} {L : JL} {st : List JV} : jPl h (jcopy pc L st h) := by
  unfold jcopy
  repeat' (first | exact jPl_none | exact jPl_nx | exact jPl_put | exact jPl_new | exact jPl_mk | exact jPl_go | exact jPl_br | apply jPl_cond | (apply jPl_cell; intro _) | (apply jPl_ji2; intro _ _ _) | (apply jPl_jl2; intro _ _ _) | (apply jPl_jd2; intro _ _ _) | (apply jPl_jf2; intro _ _ _) | (apply jPl_jls; intro _ _ _) | (apply jPl_ji1; intro _ _) | (apply jPl_jl1; intro _ _) | (apply jPl_jd1; intro _ _) | (apply jPl_jf1; intro _ _) | split)
theorem jPl_jnewa {h : JH} {t : ArrayType} {pc : Nat} {L : JL} {st : List JV} : jPl h (jnewa t pc L st h) := by
  unfold jnewa
  repeat' (first | exact jPl_none | exact jPl_nx | exact jPl_put | exact jPl_new | exact jPl_mk | exact jPl_go | exact jPl_br | apply jPl_cond | (apply jPl_cell; intro _) | (apply jPl_ji2; intro _ _ _) | (apply jPl_jl2; intro _ _ _) | (apply jPl_jd2; intro _ _ _) | (apply jPl_jf2; intro _ _ _) | (apply jPl_jls; intro _ _ _) | (apply jPl_ji1; intro _ _) | (apply jPl_jl1; intro _ _) | (apply jPl_jd1; intro _ _) | (apply jPl_jf1; intro _ _) | split)
theorem jPl_jnewq {h : JH} {e : Nat × Nat × Int} {pc : Nat} {L : JL} {st : List JV} : jPl h (jnewq e pc L st h) := by
  unfold jnewq
  repeat' (first | exact jPl_none | exact jPl_nx | exact jPl_put | exact jPl_new | exact jPl_mk | exact jPl_go | exact jPl_br | apply jPl_cond | (apply jPl_cell; intro _) | (apply jPl_ji2; intro _ _ _) | (apply jPl_jl2; intro _ _ _) | (apply jPl_jd2; intro _ _ _) | (apply jPl_jf2; intro _ _ _) | (apply jPl_jls; intro _ _ _) | (apply jPl_ji1; intro _ _) | (apply jPl_jl1; intro _ _) | (apply jPl_jd1; intro _ _) | (apply jPl_jf1; intro _ _) | split)
theorem jPl_jnewm {h : JH} {e : Nat × Nat × Int} {d pc : Nat} {L : JL} {st : List JV} : jPl h (jnewm e d pc L st h) := by
  unfold jnewm
  repeat' (first | exact jPl_none | exact jPl_nx | exact jPl_put | exact jPl_new | exact jPl_mk | exact jPl_go | exact jPl_br | apply jPl_cond | (apply jPl_cell; intro _) | (apply jPl_ji2; intro _ _ _) | (apply jPl_jl2; intro _ _ _) | (apply jPl_jd2; intro _ _ _) | (apply jPl_jf2; intro _ _ _) | (apply jPl_jls; intro _ _ _) | (apply jPl_ji1; intro _ _) | (apply jPl_jl1; intro _ _) | (apply jPl_jd1; intro _ _) | (apply jPl_jf1; intro _ _) | split)
theorem jPl_jaald {h : JH} {pc : Nat} {L : JL} {st : List JV} : jPl h (jaald pc L st h) := by
  unfold jaald
  repeat' (first | exact jPl_none | exact jPl_nx | exact jPl_put | exact jPl_new | exact jPl_mk | exact jPl_go | exact jPl_br | apply jPl_cond | (apply jPl_cell; intro _) | (apply jPl_ji2; intro _ _ _) | (apply jPl_jl2; intro _ _ _) | (apply jPl_jd2; intro _ _ _) | (apply jPl_jf2; intro _ _ _) | (apply jPl_jls; intro _ _ _) | (apply jPl_ji1; intro _ _) | (apply jPl_jl1; intro _ _) | (apply jPl_jd1; intro _ _) | (apply jPl_jf1; intro _ _) | split)
theorem jPl_jaast {h : JH} {pc : Nat} {L : JL} {st : List JV} : jPl h (jaast pc L st h) := by
  unfold jaast
  repeat' (first | exact jPl_none | exact jPl_nx | exact jPl_put | exact jPl_new | exact jPl_mk | exact jPl_go | exact jPl_br | apply jPl_cond | (apply jPl_cell; intro _) | (apply jPl_ji2; intro _ _ _) | (apply jPl_jl2; intro _ _ _) | (apply jPl_jd2; intro _ _ _) | (apply jPl_jf2; intro _ _ _) | (apply jPl_jls; intro _ _ _) | (apply jPl_ji1; intro _ _) | (apply jPl_jl1; intro _ _) | (apply jPl_jd1; intro _ _) | (apply jPl_jf1; intro _ _) | split)
theorem jPl_jnull {h : JH} {w : Bool} {pc : Nat} {o : Int} {L : JL} {st : List JV} : jPl h (jnull w pc o L st h) := by
  unfold jnull
  repeat' (first | exact jPl_none | exact jPl_nx | exact jPl_put | exact jPl_new | exact jPl_mk | exact jPl_go | exact jPl_br | apply jPl_cond | (apply jPl_cell; intro _) | (apply jPl_ji2; intro _ _ _) | (apply jPl_jl2; intro _ _ _) | (apply jPl_jd2; intro _ _ _) | (apply jPl_jf2; intro _ _ _) | (apply jPl_jls; intro _ _ _) | (apply jPl_ji1; intro _ _) | (apply jPl_jl1; intro _ _) | (apply jPl_jd1; intro _ _) | (apply jPl_jf1; intro _ _) | split)
theorem jPl_jsw {h : JH} {df lo hi : Int} {offs : Array Int} {pc : Nat} {L : JL} {st : List JV} : jPl h (jsw df lo hi offs pc L st h) := by
  unfold jsw
  repeat' (first | exact jPl_none | exact jPl_nx | exact jPl_put | exact jPl_new | exact jPl_mk | exact jPl_go | exact jPl_br | apply jPl_cond | (apply jPl_cell; intro _) | (apply jPl_ji2; intro _ _ _) | (apply jPl_jl2; intro _ _ _) | (apply jPl_jd2; intro _ _ _) | (apply jPl_jf2; intro _ _ _) | (apply jPl_jls; intro _ _ _) | (apply jPl_ji1; intro _ _) | (apply jPl_jl1; intro _ _) | (apply jPl_jd1; intro _ _) | (apply jPl_jf1; intro _ _) | split)
theorem jPl_jspc {h : JH} {k pc : Nat} {L : JL} {st : List JV} : jPl h (jspc k pc L st h) := by
  unfold jspc
  split
  all_goals repeat' (first | exact jPl_jcopy | first | exact jPl_none | exact jPl_nx | exact jPl_put | exact jPl_new | exact jPl_mk | exact jPl_go | exact jPl_br | apply jPl_cond | (apply jPl_cell; intro _) | (apply jPl_ji2; intro _ _ _) | (apply jPl_jl2; intro _ _ _) | (apply jPl_jd2; intro _ _ _) | (apply jPl_jf2; intro _ _ _) | (apply jPl_jls; intro _ _ _) | (apply jPl_ji1; intro _ _) | (apply jPl_jl1; intro _ _) | (apply jPl_jd1; intro _ _) | (apply jPl_jf1; intro _ _) | split)
/-- the end of a method -/
def jEnd0 (mm pc : Nat) (st : List JV) (v : JV) : Prop := ∃ ins, jmI (jm mm) pc = (ins, 1) ∧ (
  (ins = .ireturn ∧ st = [v] ∧ v.1 = 0 ∧ (jmR (jm mm) = 0 ∨ (jmR (jm mm) = 8 ∧ (v.2 = 0 ∨ v.2 = 1)))) ∨
  (ins = .lreturn ∧ st = [v] ∧ v.1 = 1 ∧ jmR (jm mm) = 1) ∨ (ins = .freturn ∧ st = [v] ∧ v.1 = 2 ∧ jmR (jm mm) = 2) ∨
  (ins = .dreturn ∧ st = [v] ∧ v.1 = 3 ∧ jmR (jm mm) = 3) ∨ (ins = .areturn ∧ st = [v] ∧ v.1 = 4 ∧ jmR (jm mm) = 4) ∨
  (ins = .return_ ∧ st = [] ∧ v = (9, 0) ∧ jmR (jm mm) = 9))
/-- a throw -/
def jThr (mm pc : Nat) (st : List JV) (h : JH) (v : JV) (h' : JH) : Prop := ∃ (i e k ic t : Nat) (w : Bool) (z1 z2 : Int), jmI (jm mm) pc = (.new i, 3) ∧ jpool 13 i = (13, e, z1) ∧ jmF (jm mm) = 3 ∧ jmC (jm mm) = 13 ∧ e < 5 ∧ jwid st ≤ 24 ∧ jthw mm pc = some (k, ic, w) ∧ ic = jxi e ∧ jpool 13 k = (14, t, z2) ∧ v = (0, (e : Int)) ∧ h' = (h.1, h.2.1 + 1, h.2.2 + 6)
/-- a call -/
def jCal (mm pc : Nat) (L : JL) (st : List JV) (h : JH) (y : Nat) (as : List JV) (g : JF) : Prop := g.1 = pc + 3 ∧ g.2.1 = L ∧ ∃ (i cd : Nat) (z : Int), jpool (jmC (jm mm)) i = (cd, y, z) ∧ (
  (jmI (jm mm) pc = (.invokestatic i, 3) ∧ ((cd = 4 ∧ (jmF (jm y) = 0 ∨ jmF (jm y) = 4)) ∨ (cd = 5 ∧ jmF (jm y) = 0)) ∧ jtake (jmN (jm y)) st [] = some (as, g.2.2)) ∨
  (jmI (jm mm) pc = (.invokevirtual i, 3) ∧ cd = 4 ∧ (jmF (jm y) = 1 ∨ jmF (jm y) = 3) ∧ ∃ (as' : List JV) (n : Nat) (fs : List JV) (cs : List Int), as = (4, .ofNat n) :: as' ∧ jtake (jmN (jm y)) st [] = some (as', (4, .ofNat n) :: g.2.2) ∧ h.1[n]? = some (jmC (jm y), fs, cs)) ∨
  (jmI (jm mm) pc = (.invokespecial i, 3) ∧ (cd = 4 ∨ cd = 5) ∧ jmF (jm y) = 2 ∧ ∃ (as' : List JV) (n : Nat), as = (4, .ofNat n) :: as' ∧ jtake (jmN (jm y)) st [] = some (as', (4, .ofNat n) :: g.2.2)))
def jInv (mm pc : Nat) (L : JL) (st : List JV) (h : JH) (z : (JF × JH) ⊕ (JO ⊕ (Nat × List JV × JF × JH))) : Prop := match z with
  | .inl (_, h') => jhle h h'
  | .inr (.inl (k, v, h')) => (k = 0 ∧ h' = h ∧ jEnd0 mm pc st v) ∨ (k = 1 ∧ jThr mm pc st h v h')
  | .inr (.inr (y, as, g, h')) => h' = h ∧ jCal mm pc L st h y as g
theorem jInv_pl {mm pc : Nat} {L : JL} {st : List JV} {h : JH} {x : JS} {z : (JF × JH) ⊕ (JO ⊕ (Nat × List JV × JF × JH))} (hp : jPl h x) (hs : x = some z) : jInv mm pc L st h z := by
  obtain ⟨g, h', rfl, hle⟩ := hp z hs
  exact hle
theorem jretv_inv {rt : Nat} {st : List JV} {h : JH} {z : (JF × JH) ⊕ (JO ⊕ (Nat × List JV × JF × JH))} (hs : jretv rt st h = some z) : ∃ v, st = [v] ∧ z = .inr (.inl (0, v, h)) ∧ (jfit rt v = true ∨ (rt = 4 ∧ v.1 = 4) ∨ (rt = 2 ∧ v.1 = 2) ∨ (rt = 3 ∧ v.1 = 3)) := by
  unfold jretv at hs
  split at hs
  · rename_i v
    replace hs := jcond_some hs
    obtain ⟨hc, hs⟩ := hs
    cases hs
    refine ⟨v, rfl, rfl, ?_⟩
    rcases Bool.or_eq_true_iff.mp hc with hc | hc
    · rcases Bool.or_eq_true_iff.mp hc with hc | hc
      · rcases Bool.or_eq_true_iff.mp hc with hc | hc
        · exact Or.inl hc
        · obtain ⟨q1, q2⟩ := Bool.and_eq_true_iff.mp hc
          exact Or.inr (Or.inl ⟨Nat.eq_of_beq_eq_true q1, Nat.eq_of_beq_eq_true q2⟩)
      · obtain ⟨q1, q2⟩ := Bool.and_eq_true_iff.mp hc
        exact Or.inr (Or.inr (Or.inl ⟨Nat.eq_of_beq_eq_true q1, Nat.eq_of_beq_eq_true q2⟩))
    · obtain ⟨q1, q2⟩ := Bool.and_eq_true_iff.mp hc
      exact Or.inr (Or.inr (Or.inr ⟨Nat.eq_of_beq_eq_true q1, Nat.eq_of_beq_eq_true q2⟩))
  · cases hs
theorem jfit_0 {v : JV} (h : jfit 0 v = true) : v.1 = 0 := Nat.eq_of_beq_eq_true (Bool.and_eq_true_iff.mp (show (Nat.beq v.1 0 && Nat.ble 0 3) = true from h)).1
theorem jfit_1 {v : JV} (h : jfit 1 v = true) : v.1 = 1 := Nat.eq_of_beq_eq_true (Bool.and_eq_true_iff.mp (show (Nat.beq v.1 1 && Nat.ble 1 3) = true from h)).1
theorem jfit_3 {v : JV} (h : jfit 3 v = true) : v.1 = 3 := Nat.eq_of_beq_eq_true (Bool.and_eq_true_iff.mp (show (Nat.beq v.1 3 && Nat.ble 3 3) = true from h)).1
theorem jfit_4 {v : JV} (h : jfit 4 v = true) : v.1 = 4 := Nat.eq_of_beq_eq_true h
theorem jfit_8 {v : JV} (h : jfit 8 v = true) : v.1 = 0 ∧ (v.2 = 0 ∨ v.2 = 1) := by
  obtain ⟨q1, q2⟩ := Bool.and_eq_true_iff.mp (show (Nat.beq v.1 0 && (decide (v.2 = 0) || decide (v.2 = 1))) = true from h)
  refine ⟨Nat.eq_of_beq_eq_true q1, ?_⟩
  rcases Bool.or_eq_true_iff.mp q2 with q | q
  · exact Or.inl (of_decide_eq_true q)
  · exact Or.inr (of_decide_eq_true q)
theorem jmF_new {mm pc : Nat} {L : JL} {st : List JV} {h : JH} {i : Nat} {z : (JF × JH) ⊕ (JO ⊕ (Nat × List JV × JF × JH))} (hI : jmI (jm mm) pc = (.new i, 3)) (hs : jnewo (jpool (jmC (jm mm)) i) mm pc L st h = some z) : jInv mm pc L st h z := by
  unfold jnewo at hs
  cases hE : jpool (jmC (jm mm)) i with
  | mk cd q =>
    obtain ⟨ci, b⟩ := q
    rw [hE] at hs
    dsimp only at hs
    split at hs
    · replace hs := jcond_some hs
      exact jInv_pl jPl_new hs.2
    · replace hs := jcond_some hs
      obtain ⟨hc, hs⟩ := hs
      obtain ⟨hc, hc4⟩ := Bool.and_eq_true_iff.mp hc
      obtain ⟨hc, hc3⟩ := Bool.and_eq_true_iff.mp hc
      obtain ⟨hc1, hc2⟩ := Bool.and_eq_true_iff.mp hc
      have hC : jmC (jm mm) = 13 := Nat.eq_of_beq_eq_true hc2
      split at hs
      · rename_i k ic w ht
        replace hs := jcond_some hs
        obtain ⟨hx, hs⟩ := hs
        split at hs
        · rename_i t z2 hk
          cases hs
          refine Or.inr ⟨rfl, i, ci, k, ic, t, w, b, z2, hI, ?_, Nat.eq_of_beq_eq_true hc1, hC, Nat.le_of_ble_eq_true hc3, Nat.le_of_ble_eq_true hc4, ht, Nat.eq_of_beq_eq_true hx, hk, rfl, rfl⟩
          rw [hC] at hE
          exact hE
        · cases hs
      · cases hs
    · cases hs
theorem jInv_cs {mm pc : Nat} {L : JL} {st : List JV} {h : JH} {i : Nat} {z : (JF × JH) ⊕ (JO ⊕ (Nat × List JV × JF × JH))} (hI : jmI (jm mm) pc = (.invokestatic i, 3)) (hs : jcalls (jpool (jmC (jm mm)) i) pc L st h = some z) : jInv mm pc L st h z := by
  unfold jcalls at hs
  cases hE : jpool (jmC (jm mm)) i with
  | mk cd q =>
    obtain ⟨ci, b⟩ := q
    rw [hE] at hs
    dsimp only at hs
    split at hs
    · replace hs := jcond_some hs
      obtain ⟨hc, hs⟩ := hs
      split at hs
      · rename_i as r ht
        cases hs
        refine ⟨rfl, rfl, rfl, i, 4, b, hE, Or.inl ⟨hI, Or.inl ⟨rfl, ?_⟩, ht⟩⟩
        rcases Bool.or_eq_true_iff.mp hc with q | q
        · exact Or.inl (Nat.eq_of_beq_eq_true q)
        · exact Or.inr (Nat.eq_of_beq_eq_true q)
      · cases hs
    · replace hs := jcond_some hs
      obtain ⟨hc, hs⟩ := hs
      split at hs
      · rename_i as r ht
        cases hs
        exact ⟨rfl, rfl, rfl, i, 5, b, hE, Or.inl ⟨hI, Or.inr ⟨rfl, Nat.eq_of_beq_eq_true hc⟩, ht⟩⟩
      · cases hs
    · exact jInv_pl (jPl_cond jPl_jspc jPl_none) hs
    · cases hs
theorem jInv_cv {mm pc : Nat} {L : JL} {st : List JV} {h : JH} {i : Nat} {z : (JF × JH) ⊕ (JO ⊕ (Nat × List JV × JF × JH))} (hI : jmI (jm mm) pc = (.invokevirtual i, 3)) (hs : jcallv (jpool (jmC (jm mm)) i) pc L st h = some z) : jInv mm pc L st h z := by
  unfold jcallv at hs
  cases hE : jpool (jmC (jm mm)) i with
  | mk cd q =>
    obtain ⟨ci, b⟩ := q
    rw [hE] at hs
    dsimp only at hs
    split at hs
    · replace hs := jcond_some hs
      obtain ⟨hc, hs⟩ := hs
      split at hs
      · rename_i as x r ht
        replace hs := jcell_some hs
        obtain ⟨n, c0, rfl, hcell, hs⟩ := hs
        obtain ⟨kd, fs, cs⟩ := c0
        replace hs := jcond_some hs
        obtain ⟨hk, hs⟩ := hs
        cases hs
        have hk : kd = jmC (jm ci) := Nat.eq_of_beq_eq_true hk
        subst hk
        refine ⟨rfl, rfl, rfl, i, 4, b, hE, Or.inr (Or.inl ⟨hI, rfl, ?_, as, n, fs, cs, rfl, ht, hcell⟩)⟩
        rcases Bool.or_eq_true_iff.mp hc with q | q
        · exact Or.inl (Nat.eq_of_beq_eq_true q)
        · exact Or.inr (Nat.eq_of_beq_eq_true q)
      · cases hs
    · refine jInv_pl ?_ hs
      repeat' (first | exact jPl_none | exact jPl_nx | exact jPl_put | exact jPl_new | exact jPl_mk | exact jPl_go | exact jPl_br | apply jPl_cond | (apply jPl_cell; intro _) | (apply jPl_ji2; intro _ _ _) | (apply jPl_jl2; intro _ _ _) | (apply jPl_jd2; intro _ _ _) | (apply jPl_jf2; intro _ _ _) | (apply jPl_jls; intro _ _ _) | (apply jPl_ji1; intro _ _) | (apply jPl_jl1; intro _ _) | (apply jPl_jd1; intro _ _) | (apply jPl_jf1; intro _ _) | split)
    · cases hs
theorem jInv_ci {mm pc : Nat} {L : JL} {st : List JV} {h : JH} {i : Nat} {z : (JF × JH) ⊕ (JO ⊕ (Nat × List JV × JF × JH))} (hI : jmI (jm mm) pc = (.invokespecial i, 3)) (hs : jcalli (jpool (jmC (jm mm)) i) pc L st h = some z) : jInv mm pc L st h z := by
  unfold jcalli at hs
  cases hE : jpool (jmC (jm mm)) i with
  | mk cd q =>
    obtain ⟨ci, b⟩ := q
    rw [hE] at hs
    dsimp only at hs
    split at hs
    · refine jInv_pl ?_ hs
      repeat' (first | exact jPl_none | exact jPl_nx | exact jPl_put | exact jPl_new | exact jPl_mk | exact jPl_go | exact jPl_br | apply jPl_cond | (apply jPl_cell; intro _) | (apply jPl_ji2; intro _ _ _) | (apply jPl_jl2; intro _ _ _) | (apply jPl_jd2; intro _ _ _) | (apply jPl_jf2; intro _ _ _) | (apply jPl_jls; intro _ _ _) | (apply jPl_ji1; intro _ _) | (apply jPl_jl1; intro _ _) | (apply jPl_jd1; intro _ _) | (apply jPl_jf1; intro _ _) | split)
    · replace hs := jcond_some hs
      obtain ⟨hc, hs⟩ := hs
      split at hs
      · rename_i as n r ht
        cases hs
        exact ⟨rfl, rfl, rfl, i, 4, b, hE, Or.inr (Or.inr ⟨hI, Or.inl rfl, Nat.eq_of_beq_eq_true hc, as, n, rfl, ht⟩)⟩
      · cases hs
    · replace hs := jcond_some hs
      obtain ⟨hc, hs⟩ := hs
      split at hs
      · rename_i as n r ht
        cases hs
        exact ⟨rfl, rfl, rfl, i, 5, b, hE, Or.inr (Or.inr ⟨hI, Or.inr rfl, Nat.eq_of_beq_eq_true hc, as, n, rfl, ht⟩)⟩
      · cases hs
    · cases hs
set_option maxHeartbeats 4000000 in
theorem jstep_inv {xs : List Int} {mm pc : Nat} {L : JL} {st : List JV} {h : JH} {z : (JF × JH) ⊕ (JO ⊕ (Nat × List JV × JF × JH))} (hs : jstep xs mm pc L st h = some z) : jInv mm pc L st h z := by
  unfold jstep at hs
  replace hs := jcond_some hs
  obtain ⟨hlen, hs⟩ := hs
  cases hI : jmI (jm mm) pc with
  | mk ins n =>
    rw [hI] at hs hlen
    dsimp only at hs hlen
    unfold jstep0 at hs
    split at hs
    · refine jInv_pl ?_ hs
      repeat' (first | exact jPl_jld | exact jPl_jldr | exact jPl_jsv | exact jPl_jsv2 | exact jPl_jsvr | exact jPl_jald | exact jPl_jast | exact jPl_jtab | exact jPl_jgetf | exact jPl_jputf | exact jPl_jcopy | exact jPl_jnewa | exact jPl_jnewq | exact jPl_jnewm | exact jPl_jaald | exact jPl_jaast | exact jPl_jnull | exact jPl_jsw | exact jPl_jspc | exact jPl_none | exact jPl_nx | exact jPl_put | exact jPl_new | exact jPl_mk | exact jPl_go | exact jPl_br | apply jPl_cond | (apply jPl_cell; intro _) | (apply jPl_ji2; intro _ _ _) | (apply jPl_jl2; intro _ _ _) | (apply jPl_jd2; intro _ _ _) | (apply jPl_jf2; intro _ _ _) | (apply jPl_jls; intro _ _ _) | (apply jPl_ji1; intro _ _) | (apply jPl_jl1; intro _ _) | (apply jPl_jd1; intro _ _) | (apply jPl_jf1; intro _ _) | split)
    · refine jInv_pl ?_ hs
      repeat' (first | exact jPl_jld | exact jPl_jldr | exact jPl_jsv | exact jPl_jsv2 | exact jPl_jsvr | exact jPl_jald | exact jPl_jast | exact jPl_jtab | exact jPl_jgetf | exact jPl_jputf | exact jPl_jcopy | exact jPl_jnewa | exact jPl_jnewq | exact jPl_jnewm | exact jPl_jaald | exact jPl_jaast | exact jPl_jnull | exact jPl_jsw | exact jPl_jspc | exact jPl_none | exact jPl_nx | exact jPl_put | exact jPl_new | exact jPl_mk | exact jPl_go | exact jPl_br | apply jPl_cond | (apply jPl_cell; intro _) | (apply jPl_ji2; intro _ _ _) | (apply jPl_jl2; intro _ _ _) | (apply jPl_jd2; intro _ _ _) | (apply jPl_jf2; intro _ _ _) | (apply jPl_jls; intro _ _ _) | (apply jPl_ji1; intro _ _) | (apply jPl_jl1; intro _ _) | (apply jPl_jd1; intro _ _) | (apply jPl_jf1; intro _ _) | split)
    · refine jInv_pl ?_ hs
      repeat' (first | exact jPl_jld | exact jPl_jldr | exact jPl_jsv | exact jPl_jsv2 | exact jPl_jsvr | exact jPl_jald | exact jPl_jast | exact jPl_jtab | exact jPl_jgetf | exact jPl_jputf | exact jPl_jcopy | exact jPl_jnewa | exact jPl_jnewq | exact jPl_jnewm | exact jPl_jaald | exact jPl_jaast | exact jPl_jnull | exact jPl_jsw | exact jPl_jspc | exact jPl_none | exact jPl_nx | exact jPl_put | exact jPl_new | exact jPl_mk | exact jPl_go | exact jPl_br | apply jPl_cond | (apply jPl_cell; intro _) | (apply jPl_ji2; intro _ _ _) | (apply jPl_jl2; intro _ _ _) | (apply jPl_jd2; intro _ _ _) | (apply jPl_jf2; intro _ _ _) | (apply jPl_jls; intro _ _ _) | (apply jPl_ji1; intro _ _) | (apply jPl_jl1; intro _ _) | (apply jPl_jd1; intro _ _) | (apply jPl_jf1; intro _ _) | split)
    · refine jInv_pl ?_ hs
      repeat' (first | exact jPl_jld | exact jPl_jldr | exact jPl_jsv | exact jPl_jsv2 | exact jPl_jsvr | exact jPl_jald | exact jPl_jast | exact jPl_jtab | exact jPl_jgetf | exact jPl_jputf | exact jPl_jcopy | exact jPl_jnewa | exact jPl_jnewq | exact jPl_jnewm | exact jPl_jaald | exact jPl_jaast | exact jPl_jnull | exact jPl_jsw | exact jPl_jspc | exact jPl_none | exact jPl_nx | exact jPl_put | exact jPl_new | exact jPl_mk | exact jPl_go | exact jPl_br | apply jPl_cond | (apply jPl_cell; intro _) | (apply jPl_ji2; intro _ _ _) | (apply jPl_jl2; intro _ _ _) | (apply jPl_jd2; intro _ _ _) | (apply jPl_jf2; intro _ _ _) | (apply jPl_jls; intro _ _ _) | (apply jPl_ji1; intro _ _) | (apply jPl_jl1; intro _ _) | (apply jPl_jd1; intro _ _) | (apply jPl_jf1; intro _ _) | split)
    · refine jInv_pl ?_ hs
      repeat' (first | exact jPl_jld | exact jPl_jldr | exact jPl_jsv | exact jPl_jsv2 | exact jPl_jsvr | exact jPl_jald | exact jPl_jast | exact jPl_jtab | exact jPl_jgetf | exact jPl_jputf | exact jPl_jcopy | exact jPl_jnewa | exact jPl_jnewq | exact jPl_jnewm | exact jPl_jaald | exact jPl_jaast | exact jPl_jnull | exact jPl_jsw | exact jPl_jspc | exact jPl_none | exact jPl_nx | exact jPl_put | exact jPl_new | exact jPl_mk | exact jPl_go | exact jPl_br | apply jPl_cond | (apply jPl_cell; intro _) | (apply jPl_ji2; intro _ _ _) | (apply jPl_jl2; intro _ _ _) | (apply jPl_jd2; intro _ _ _) | (apply jPl_jf2; intro _ _ _) | (apply jPl_jls; intro _ _ _) | (apply jPl_ji1; intro _ _) | (apply jPl_jl1; intro _ _) | (apply jPl_jd1; intro _ _) | (apply jPl_jf1; intro _ _) | split)
    · refine jInv_pl ?_ hs
      repeat' (first | exact jPl_jld | exact jPl_jldr | exact jPl_jsv | exact jPl_jsv2 | exact jPl_jsvr | exact jPl_jald | exact jPl_jast | exact jPl_jtab | exact jPl_jgetf | exact jPl_jputf | exact jPl_jcopy | exact jPl_jnewa | exact jPl_jnewq | exact jPl_jnewm | exact jPl_jaald | exact jPl_jaast | exact jPl_jnull | exact jPl_jsw | exact jPl_jspc | exact jPl_none | exact jPl_nx | exact jPl_put | exact jPl_new | exact jPl_mk | exact jPl_go | exact jPl_br | apply jPl_cond | (apply jPl_cell; intro _) | (apply jPl_ji2; intro _ _ _) | (apply jPl_jl2; intro _ _ _) | (apply jPl_jd2; intro _ _ _) | (apply jPl_jf2; intro _ _ _) | (apply jPl_jls; intro _ _ _) | (apply jPl_ji1; intro _ _) | (apply jPl_jl1; intro _ _) | (apply jPl_jd1; intro _ _) | (apply jPl_jf1; intro _ _) | split)
    · refine jInv_pl ?_ hs
      repeat' (first | exact jPl_jld | exact jPl_jldr | exact jPl_jsv | exact jPl_jsv2 | exact jPl_jsvr | exact jPl_jald | exact jPl_jast | exact jPl_jtab | exact jPl_jgetf | exact jPl_jputf | exact jPl_jcopy | exact jPl_jnewa | exact jPl_jnewq | exact jPl_jnewm | exact jPl_jaald | exact jPl_jaast | exact jPl_jnull | exact jPl_jsw | exact jPl_jspc | exact jPl_none | exact jPl_nx | exact jPl_put | exact jPl_new | exact jPl_mk | exact jPl_go | exact jPl_br | apply jPl_cond | (apply jPl_cell; intro _) | (apply jPl_ji2; intro _ _ _) | (apply jPl_jl2; intro _ _ _) | (apply jPl_jd2; intro _ _ _) | (apply jPl_jf2; intro _ _ _) | (apply jPl_jls; intro _ _ _) | (apply jPl_ji1; intro _ _) | (apply jPl_jl1; intro _ _) | (apply jPl_jd1; intro _ _) | (apply jPl_jf1; intro _ _) | split)
    · refine jInv_pl ?_ hs
      repeat' (first | exact jPl_jld | exact jPl_jldr | exact jPl_jsv | exact jPl_jsv2 | exact jPl_jsvr | exact jPl_jald | exact jPl_jast | exact jPl_jtab | exact jPl_jgetf | exact jPl_jputf | exact jPl_jcopy | exact jPl_jnewa | exact jPl_jnewq | exact jPl_jnewm | exact jPl_jaald | exact jPl_jaast | exact jPl_jnull | exact jPl_jsw | exact jPl_jspc | exact jPl_none | exact jPl_nx | exact jPl_put | exact jPl_new | exact jPl_mk | exact jPl_go | exact jPl_br | apply jPl_cond | (apply jPl_cell; intro _) | (apply jPl_ji2; intro _ _ _) | (apply jPl_jl2; intro _ _ _) | (apply jPl_jd2; intro _ _ _) | (apply jPl_jf2; intro _ _ _) | (apply jPl_jls; intro _ _ _) | (apply jPl_ji1; intro _ _) | (apply jPl_jl1; intro _ _) | (apply jPl_jd1; intro _ _) | (apply jPl_jf1; intro _ _) | split)
    · refine jInv_pl ?_ hs
      repeat' (first | exact jPl_jld | exact jPl_jldr | exact jPl_jsv | exact jPl_jsv2 | exact jPl_jsvr | exact jPl_jald | exact jPl_jast | exact jPl_jtab | exact jPl_jgetf | exact jPl_jputf | exact jPl_jcopy | exact jPl_jnewa | exact jPl_jnewq | exact jPl_jnewm | exact jPl_jaald | exact jPl_jaast | exact jPl_jnull | exact jPl_jsw | exact jPl_jspc | exact jPl_none | exact jPl_nx | exact jPl_put | exact jPl_new | exact jPl_mk | exact jPl_go | exact jPl_br | apply jPl_cond | (apply jPl_cell; intro _) | (apply jPl_ji2; intro _ _ _) | (apply jPl_jl2; intro _ _ _) | (apply jPl_jd2; intro _ _ _) | (apply jPl_jf2; intro _ _ _) | (apply jPl_jls; intro _ _ _) | (apply jPl_ji1; intro _ _) | (apply jPl_jl1; intro _ _) | (apply jPl_jd1; intro _ _) | (apply jPl_jf1; intro _ _) | split)
    · refine jInv_pl ?_ hs
      repeat' (first | exact jPl_jld | exact jPl_jldr | exact jPl_jsv | exact jPl_jsv2 | exact jPl_jsvr | exact jPl_jald | exact jPl_jast | exact jPl_jtab | exact jPl_jgetf | exact jPl_jputf | exact jPl_jcopy | exact jPl_jnewa | exact jPl_jnewq | exact jPl_jnewm | exact jPl_jaald | exact jPl_jaast | exact jPl_jnull | exact jPl_jsw | exact jPl_jspc | exact jPl_none | exact jPl_nx | exact jPl_put | exact jPl_new | exact jPl_mk | exact jPl_go | exact jPl_br | apply jPl_cond | (apply jPl_cell; intro _) | (apply jPl_ji2; intro _ _ _) | (apply jPl_jl2; intro _ _ _) | (apply jPl_jd2; intro _ _ _) | (apply jPl_jf2; intro _ _ _) | (apply jPl_jls; intro _ _ _) | (apply jPl_ji1; intro _ _) | (apply jPl_jl1; intro _ _) | (apply jPl_jd1; intro _ _) | (apply jPl_jf1; intro _ _) | split)
    · refine jInv_pl ?_ hs
      repeat' (first | exact jPl_jld | exact jPl_jldr | exact jPl_jsv | exact jPl_jsv2 | exact jPl_jsvr | exact jPl_jald | exact jPl_jast | exact jPl_jtab | exact jPl_jgetf | exact jPl_jputf | exact jPl_jcopy | exact jPl_jnewa | exact jPl_jnewq | exact jPl_jnewm | exact jPl_jaald | exact jPl_jaast | exact jPl_jnull | exact jPl_jsw | exact jPl_jspc | exact jPl_none | exact jPl_nx | exact jPl_put | exact jPl_new | exact jPl_mk | exact jPl_go | exact jPl_br | apply jPl_cond | (apply jPl_cell; intro _) | (apply jPl_ji2; intro _ _ _) | (apply jPl_jl2; intro _ _ _) | (apply jPl_jd2; intro _ _ _) | (apply jPl_jf2; intro _ _ _) | (apply jPl_jls; intro _ _ _) | (apply jPl_ji1; intro _ _) | (apply jPl_jl1; intro _ _) | (apply jPl_jd1; intro _ _) | (apply jPl_jf1; intro _ _) | split)
    · refine jInv_pl ?_ hs
      repeat' (first | exact jPl_jld | exact jPl_jldr | exact jPl_jsv | exact jPl_jsv2 | exact jPl_jsvr | exact jPl_jald | exact jPl_jast | exact jPl_jtab | exact jPl_jgetf | exact jPl_jputf | exact jPl_jcopy | exact jPl_jnewa | exact jPl_jnewq | exact jPl_jnewm | exact jPl_jaald | exact jPl_jaast | exact jPl_jnull | exact jPl_jsw | exact jPl_jspc | exact jPl_none | exact jPl_nx | exact jPl_put | exact jPl_new | exact jPl_mk | exact jPl_go | exact jPl_br | apply jPl_cond | (apply jPl_cell; intro _) | (apply jPl_ji2; intro _ _ _) | (apply jPl_jl2; intro _ _ _) | (apply jPl_jd2; intro _ _ _) | (apply jPl_jf2; intro _ _ _) | (apply jPl_jls; intro _ _ _) | (apply jPl_ji1; intro _ _) | (apply jPl_jl1; intro _ _) | (apply jPl_jd1; intro _ _) | (apply jPl_jf1; intro _ _) | split)
    · refine jInv_pl ?_ hs
      repeat' (first | exact jPl_jld | exact jPl_jldr | exact jPl_jsv | exact jPl_jsv2 | exact jPl_jsvr | exact jPl_jald | exact jPl_jast | exact jPl_jtab | exact jPl_jgetf | exact jPl_jputf | exact jPl_jcopy | exact jPl_jnewa | exact jPl_jnewq | exact jPl_jnewm | exact jPl_jaald | exact jPl_jaast | exact jPl_jnull | exact jPl_jsw | exact jPl_jspc | exact jPl_none | exact jPl_nx | exact jPl_put | exact jPl_new | exact jPl_mk | exact jPl_go | exact jPl_br | apply jPl_cond | (apply jPl_cell; intro _) | (apply jPl_ji2; intro _ _ _) | (apply jPl_jl2; intro _ _ _) | (apply jPl_jd2; intro _ _ _) | (apply jPl_jf2; intro _ _ _) | (apply jPl_jls; intro _ _ _) | (apply jPl_ji1; intro _ _) | (apply jPl_jl1; intro _ _) | (apply jPl_jd1; intro _ _) | (apply jPl_jf1; intro _ _) | split)
    · refine jInv_pl ?_ hs
      repeat' (first | exact jPl_jld | exact jPl_jldr | exact jPl_jsv | exact jPl_jsv2 | exact jPl_jsvr | exact jPl_jald | exact jPl_jast | exact jPl_jtab | exact jPl_jgetf | exact jPl_jputf | exact jPl_jcopy | exact jPl_jnewa | exact jPl_jnewq | exact jPl_jnewm | exact jPl_jaald | exact jPl_jaast | exact jPl_jnull | exact jPl_jsw | exact jPl_jspc | exact jPl_none | exact jPl_nx | exact jPl_put | exact jPl_new | exact jPl_mk | exact jPl_go | exact jPl_br | apply jPl_cond | (apply jPl_cell; intro _) | (apply jPl_ji2; intro _ _ _) | (apply jPl_jl2; intro _ _ _) | (apply jPl_jd2; intro _ _ _) | (apply jPl_jf2; intro _ _ _) | (apply jPl_jls; intro _ _ _) | (apply jPl_ji1; intro _ _) | (apply jPl_jl1; intro _ _) | (apply jPl_jd1; intro _ _) | (apply jPl_jf1; intro _ _) | split)
    · refine jInv_pl ?_ hs
      repeat' (first | exact jPl_jld | exact jPl_jldr | exact jPl_jsv | exact jPl_jsv2 | exact jPl_jsvr | exact jPl_jald | exact jPl_jast | exact jPl_jtab | exact jPl_jgetf | exact jPl_jputf | exact jPl_jcopy | exact jPl_jnewa | exact jPl_jnewq | exact jPl_jnewm | exact jPl_jaald | exact jPl_jaast | exact jPl_jnull | exact jPl_jsw | exact jPl_jspc | exact jPl_none | exact jPl_nx | exact jPl_put | exact jPl_new | exact jPl_mk | exact jPl_go | exact jPl_br | apply jPl_cond | (apply jPl_cell; intro _) | (apply jPl_ji2; intro _ _ _) | (apply jPl_jl2; intro _ _ _) | (apply jPl_jd2; intro _ _ _) | (apply jPl_jf2; intro _ _ _) | (apply jPl_jls; intro _ _ _) | (apply jPl_ji1; intro _ _) | (apply jPl_jl1; intro _ _) | (apply jPl_jd1; intro _ _) | (apply jPl_jf1; intro _ _) | split)
    · refine jInv_pl ?_ hs
      repeat' (first | exact jPl_jld | exact jPl_jldr | exact jPl_jsv | exact jPl_jsv2 | exact jPl_jsvr | exact jPl_jald | exact jPl_jast | exact jPl_jtab | exact jPl_jgetf | exact jPl_jputf | exact jPl_jcopy | exact jPl_jnewa | exact jPl_jnewq | exact jPl_jnewm | exact jPl_jaald | exact jPl_jaast | exact jPl_jnull | exact jPl_jsw | exact jPl_jspc | exact jPl_none | exact jPl_nx | exact jPl_put | exact jPl_new | exact jPl_mk | exact jPl_go | exact jPl_br | apply jPl_cond | (apply jPl_cell; intro _) | (apply jPl_ji2; intro _ _ _) | (apply jPl_jl2; intro _ _ _) | (apply jPl_jd2; intro _ _ _) | (apply jPl_jf2; intro _ _ _) | (apply jPl_jls; intro _ _ _) | (apply jPl_ji1; intro _ _) | (apply jPl_jl1; intro _ _) | (apply jPl_jd1; intro _ _) | (apply jPl_jf1; intro _ _) | split)
    · refine jInv_pl ?_ hs
      repeat' (first | exact jPl_jld | exact jPl_jldr | exact jPl_jsv | exact jPl_jsv2 | exact jPl_jsvr | exact jPl_jald | exact jPl_jast | exact jPl_jtab | exact jPl_jgetf | exact jPl_jputf | exact jPl_jcopy | exact jPl_jnewa | exact jPl_jnewq | exact jPl_jnewm | exact jPl_jaald | exact jPl_jaast | exact jPl_jnull | exact jPl_jsw | exact jPl_jspc | exact jPl_none | exact jPl_nx | exact jPl_put | exact jPl_new | exact jPl_mk | exact jPl_go | exact jPl_br | apply jPl_cond | (apply jPl_cell; intro _) | (apply jPl_ji2; intro _ _ _) | (apply jPl_jl2; intro _ _ _) | (apply jPl_jd2; intro _ _ _) | (apply jPl_jf2; intro _ _ _) | (apply jPl_jls; intro _ _ _) | (apply jPl_ji1; intro _ _) | (apply jPl_jl1; intro _ _) | (apply jPl_jd1; intro _ _) | (apply jPl_jf1; intro _ _) | split)
    · refine jInv_pl ?_ hs
      repeat' (first | exact jPl_jld | exact jPl_jldr | exact jPl_jsv | exact jPl_jsv2 | exact jPl_jsvr | exact jPl_jald | exact jPl_jast | exact jPl_jtab | exact jPl_jgetf | exact jPl_jputf | exact jPl_jcopy | exact jPl_jnewa | exact jPl_jnewq | exact jPl_jnewm | exact jPl_jaald | exact jPl_jaast | exact jPl_jnull | exact jPl_jsw | exact jPl_jspc | exact jPl_none | exact jPl_nx | exact jPl_put | exact jPl_new | exact jPl_mk | exact jPl_go | exact jPl_br | apply jPl_cond | (apply jPl_cell; intro _) | (apply jPl_ji2; intro _ _ _) | (apply jPl_jl2; intro _ _ _) | (apply jPl_jd2; intro _ _ _) | (apply jPl_jf2; intro _ _ _) | (apply jPl_jls; intro _ _ _) | (apply jPl_ji1; intro _ _) | (apply jPl_jl1; intro _ _) | (apply jPl_jd1; intro _ _) | (apply jPl_jf1; intro _ _) | split)
    · refine jInv_pl ?_ hs
      repeat' (first | exact jPl_jld | exact jPl_jldr | exact jPl_jsv | exact jPl_jsv2 | exact jPl_jsvr | exact jPl_jald | exact jPl_jast | exact jPl_jtab | exact jPl_jgetf | exact jPl_jputf | exact jPl_jcopy | exact jPl_jnewa | exact jPl_jnewq | exact jPl_jnewm | exact jPl_jaald | exact jPl_jaast | exact jPl_jnull | exact jPl_jsw | exact jPl_jspc | exact jPl_none | exact jPl_nx | exact jPl_put | exact jPl_new | exact jPl_mk | exact jPl_go | exact jPl_br | apply jPl_cond | (apply jPl_cell; intro _) | (apply jPl_ji2; intro _ _ _) | (apply jPl_jl2; intro _ _ _) | (apply jPl_jd2; intro _ _ _) | (apply jPl_jf2; intro _ _ _) | (apply jPl_jls; intro _ _ _) | (apply jPl_ji1; intro _ _) | (apply jPl_jl1; intro _ _) | (apply jPl_jd1; intro _ _) | (apply jPl_jf1; intro _ _) | split)
    · refine jInv_pl ?_ hs
      repeat' (first | exact jPl_jld | exact jPl_jldr | exact jPl_jsv | exact jPl_jsv2 | exact jPl_jsvr | exact jPl_jald | exact jPl_jast | exact jPl_jtab | exact jPl_jgetf | exact jPl_jputf | exact jPl_jcopy | exact jPl_jnewa | exact jPl_jnewq | exact jPl_jnewm | exact jPl_jaald | exact jPl_jaast | exact jPl_jnull | exact jPl_jsw | exact jPl_jspc | exact jPl_none | exact jPl_nx | exact jPl_put | exact jPl_new | exact jPl_mk | exact jPl_go | exact jPl_br | apply jPl_cond | (apply jPl_cell; intro _) | (apply jPl_ji2; intro _ _ _) | (apply jPl_jl2; intro _ _ _) | (apply jPl_jd2; intro _ _ _) | (apply jPl_jf2; intro _ _ _) | (apply jPl_jls; intro _ _ _) | (apply jPl_ji1; intro _ _) | (apply jPl_jl1; intro _ _) | (apply jPl_jd1; intro _ _) | (apply jPl_jf1; intro _ _) | split)
    · refine jInv_pl ?_ hs
      repeat' (first | exact jPl_jld | exact jPl_jldr | exact jPl_jsv | exact jPl_jsv2 | exact jPl_jsvr | exact jPl_jald | exact jPl_jast | exact jPl_jtab | exact jPl_jgetf | exact jPl_jputf | exact jPl_jcopy | exact jPl_jnewa | exact jPl_jnewq | exact jPl_jnewm | exact jPl_jaald | exact jPl_jaast | exact jPl_jnull | exact jPl_jsw | exact jPl_jspc | exact jPl_none | exact jPl_nx | exact jPl_put | exact jPl_new | exact jPl_mk | exact jPl_go | exact jPl_br | apply jPl_cond | (apply jPl_cell; intro _) | (apply jPl_ji2; intro _ _ _) | (apply jPl_jl2; intro _ _ _) | (apply jPl_jd2; intro _ _ _) | (apply jPl_jf2; intro _ _ _) | (apply jPl_jls; intro _ _ _) | (apply jPl_ji1; intro _ _) | (apply jPl_jl1; intro _ _) | (apply jPl_jd1; intro _ _) | (apply jPl_jf1; intro _ _) | split)
    · refine jInv_pl ?_ hs
      repeat' (first | exact jPl_jld | exact jPl_jldr | exact jPl_jsv | exact jPl_jsv2 | exact jPl_jsvr | exact jPl_jald | exact jPl_jast | exact jPl_jtab | exact jPl_jgetf | exact jPl_jputf | exact jPl_jcopy | exact jPl_jnewa | exact jPl_jnewq | exact jPl_jnewm | exact jPl_jaald | exact jPl_jaast | exact jPl_jnull | exact jPl_jsw | exact jPl_jspc | exact jPl_none | exact jPl_nx | exact jPl_put | exact jPl_new | exact jPl_mk | exact jPl_go | exact jPl_br | apply jPl_cond | (apply jPl_cell; intro _) | (apply jPl_ji2; intro _ _ _) | (apply jPl_jl2; intro _ _ _) | (apply jPl_jd2; intro _ _ _) | (apply jPl_jf2; intro _ _ _) | (apply jPl_jls; intro _ _ _) | (apply jPl_ji1; intro _ _) | (apply jPl_jl1; intro _ _) | (apply jPl_jd1; intro _ _) | (apply jPl_jf1; intro _ _) | split)
    · refine jInv_pl ?_ hs
      repeat' (first | exact jPl_jld | exact jPl_jldr | exact jPl_jsv | exact jPl_jsv2 | exact jPl_jsvr | exact jPl_jald | exact jPl_jast | exact jPl_jtab | exact jPl_jgetf | exact jPl_jputf | exact jPl_jcopy | exact jPl_jnewa | exact jPl_jnewq | exact jPl_jnewm | exact jPl_jaald | exact jPl_jaast | exact jPl_jnull | exact jPl_jsw | exact jPl_jspc | exact jPl_none | exact jPl_nx | exact jPl_put | exact jPl_new | exact jPl_mk | exact jPl_go | exact jPl_br | apply jPl_cond | (apply jPl_cell; intro _) | (apply jPl_ji2; intro _ _ _) | (apply jPl_jl2; intro _ _ _) | (apply jPl_jd2; intro _ _ _) | (apply jPl_jf2; intro _ _ _) | (apply jPl_jls; intro _ _ _) | (apply jPl_ji1; intro _ _) | (apply jPl_jl1; intro _ _) | (apply jPl_jd1; intro _ _) | (apply jPl_jf1; intro _ _) | split)
    · refine jInv_pl ?_ hs
      repeat' (first | exact jPl_jld | exact jPl_jldr | exact jPl_jsv | exact jPl_jsv2 | exact jPl_jsvr | exact jPl_jald | exact jPl_jast | exact jPl_jtab | exact jPl_jgetf | exact jPl_jputf | exact jPl_jcopy | exact jPl_jnewa | exact jPl_jnewq | exact jPl_jnewm | exact jPl_jaald | exact jPl_jaast | exact jPl_jnull | exact jPl_jsw | exact jPl_jspc | exact jPl_none | exact jPl_nx | exact jPl_put | exact jPl_new | exact jPl_mk | exact jPl_go | exact jPl_br | apply jPl_cond | (apply jPl_cell; intro _) | (apply jPl_ji2; intro _ _ _) | (apply jPl_jl2; intro _ _ _) | (apply jPl_jd2; intro _ _ _) | (apply jPl_jf2; intro _ _ _) | (apply jPl_jls; intro _ _ _) | (apply jPl_ji1; intro _ _) | (apply jPl_jl1; intro _ _) | (apply jPl_jd1; intro _ _) | (apply jPl_jf1; intro _ _) | split)
    · refine jInv_pl ?_ hs
      repeat' (first | exact jPl_jld | exact jPl_jldr | exact jPl_jsv | exact jPl_jsv2 | exact jPl_jsvr | exact jPl_jald | exact jPl_jast | exact jPl_jtab | exact jPl_jgetf | exact jPl_jputf | exact jPl_jcopy | exact jPl_jnewa | exact jPl_jnewq | exact jPl_jnewm | exact jPl_jaald | exact jPl_jaast | exact jPl_jnull | exact jPl_jsw | exact jPl_jspc | exact jPl_none | exact jPl_nx | exact jPl_put | exact jPl_new | exact jPl_mk | exact jPl_go | exact jPl_br | apply jPl_cond | (apply jPl_cell; intro _) | (apply jPl_ji2; intro _ _ _) | (apply jPl_jl2; intro _ _ _) | (apply jPl_jd2; intro _ _ _) | (apply jPl_jf2; intro _ _ _) | (apply jPl_jls; intro _ _ _) | (apply jPl_ji1; intro _ _) | (apply jPl_jl1; intro _ _) | (apply jPl_jd1; intro _ _) | (apply jPl_jf1; intro _ _) | split)
    · refine jInv_pl ?_ hs
      repeat' (first | exact jPl_jld | exact jPl_jldr | exact jPl_jsv | exact jPl_jsv2 | exact jPl_jsvr | exact jPl_jald | exact jPl_jast | exact jPl_jtab | exact jPl_jgetf | exact jPl_jputf | exact jPl_jcopy | exact jPl_jnewa | exact jPl_jnewq | exact jPl_jnewm | exact jPl_jaald | exact jPl_jaast | exact jPl_jnull | exact jPl_jsw | exact jPl_jspc | exact jPl_none | exact jPl_nx | exact jPl_put | exact jPl_new | exact jPl_mk | exact jPl_go | exact jPl_br | apply jPl_cond | (apply jPl_cell; intro _) | (apply jPl_ji2; intro _ _ _) | (apply jPl_jl2; intro _ _ _) | (apply jPl_jd2; intro _ _ _) | (apply jPl_jf2; intro _ _ _) | (apply jPl_jls; intro _ _ _) | (apply jPl_ji1; intro _ _) | (apply jPl_jl1; intro _ _) | (apply jPl_jd1; intro _ _) | (apply jPl_jf1; intro _ _) | split)
    · refine jInv_pl ?_ hs
      repeat' (first | exact jPl_jld | exact jPl_jldr | exact jPl_jsv | exact jPl_jsv2 | exact jPl_jsvr | exact jPl_jald | exact jPl_jast | exact jPl_jtab | exact jPl_jgetf | exact jPl_jputf | exact jPl_jcopy | exact jPl_jnewa | exact jPl_jnewq | exact jPl_jnewm | exact jPl_jaald | exact jPl_jaast | exact jPl_jnull | exact jPl_jsw | exact jPl_jspc | exact jPl_none | exact jPl_nx | exact jPl_put | exact jPl_new | exact jPl_mk | exact jPl_go | exact jPl_br | apply jPl_cond | (apply jPl_cell; intro _) | (apply jPl_ji2; intro _ _ _) | (apply jPl_jl2; intro _ _ _) | (apply jPl_jd2; intro _ _ _) | (apply jPl_jf2; intro _ _ _) | (apply jPl_jls; intro _ _ _) | (apply jPl_ji1; intro _ _) | (apply jPl_jl1; intro _ _) | (apply jPl_jd1; intro _ _) | (apply jPl_jf1; intro _ _) | split)
    · refine jInv_pl ?_ hs
      repeat' (first | exact jPl_jld | exact jPl_jldr | exact jPl_jsv | exact jPl_jsv2 | exact jPl_jsvr | exact jPl_jald | exact jPl_jast | exact jPl_jtab | exact jPl_jgetf | exact jPl_jputf | exact jPl_jcopy | exact jPl_jnewa | exact jPl_jnewq | exact jPl_jnewm | exact jPl_jaald | exact jPl_jaast | exact jPl_jnull | exact jPl_jsw | exact jPl_jspc | exact jPl_none | exact jPl_nx | exact jPl_put | exact jPl_new | exact jPl_mk | exact jPl_go | exact jPl_br | apply jPl_cond | (apply jPl_cell; intro _) | (apply jPl_ji2; intro _ _ _) | (apply jPl_jl2; intro _ _ _) | (apply jPl_jd2; intro _ _ _) | (apply jPl_jf2; intro _ _ _) | (apply jPl_jls; intro _ _ _) | (apply jPl_ji1; intro _ _) | (apply jPl_jl1; intro _ _) | (apply jPl_jd1; intro _ _) | (apply jPl_jf1; intro _ _) | split)
    · refine jInv_pl ?_ hs
      repeat' (first | exact jPl_jld | exact jPl_jldr | exact jPl_jsv | exact jPl_jsv2 | exact jPl_jsvr | exact jPl_jald | exact jPl_jast | exact jPl_jtab | exact jPl_jgetf | exact jPl_jputf | exact jPl_jcopy | exact jPl_jnewa | exact jPl_jnewq | exact jPl_jnewm | exact jPl_jaald | exact jPl_jaast | exact jPl_jnull | exact jPl_jsw | exact jPl_jspc | exact jPl_none | exact jPl_nx | exact jPl_put | exact jPl_new | exact jPl_mk | exact jPl_go | exact jPl_br | apply jPl_cond | (apply jPl_cell; intro _) | (apply jPl_ji2; intro _ _ _) | (apply jPl_jl2; intro _ _ _) | (apply jPl_jd2; intro _ _ _) | (apply jPl_jf2; intro _ _ _) | (apply jPl_jls; intro _ _ _) | (apply jPl_ji1; intro _ _) | (apply jPl_jl1; intro _ _) | (apply jPl_jd1; intro _ _) | (apply jPl_jf1; intro _ _) | split)
    · refine jInv_pl ?_ hs
      repeat' (first | exact jPl_jld | exact jPl_jldr | exact jPl_jsv | exact jPl_jsv2 | exact jPl_jsvr | exact jPl_jald | exact jPl_jast | exact jPl_jtab | exact jPl_jgetf | exact jPl_jputf | exact jPl_jcopy | exact jPl_jnewa | exact jPl_jnewq | exact jPl_jnewm | exact jPl_jaald | exact jPl_jaast | exact jPl_jnull | exact jPl_jsw | exact jPl_jspc | exact jPl_none | exact jPl_nx | exact jPl_put | exact jPl_new | exact jPl_mk | exact jPl_go | exact jPl_br | apply jPl_cond | (apply jPl_cell; intro _) | (apply jPl_ji2; intro _ _ _) | (apply jPl_jl2; intro _ _ _) | (apply jPl_jd2; intro _ _ _) | (apply jPl_jf2; intro _ _ _) | (apply jPl_jls; intro _ _ _) | (apply jPl_ji1; intro _ _) | (apply jPl_jl1; intro _ _) | (apply jPl_jd1; intro _ _) | (apply jPl_jf1; intro _ _) | split)
    · refine jInv_pl ?_ hs
      repeat' (first | exact jPl_jld | exact jPl_jldr | exact jPl_jsv | exact jPl_jsv2 | exact jPl_jsvr | exact jPl_jald | exact jPl_jast | exact jPl_jtab | exact jPl_jgetf | exact jPl_jputf | exact jPl_jcopy | exact jPl_jnewa | exact jPl_jnewq | exact jPl_jnewm | exact jPl_jaald | exact jPl_jaast | exact jPl_jnull | exact jPl_jsw | exact jPl_jspc | exact jPl_none | exact jPl_nx | exact jPl_put | exact jPl_new | exact jPl_mk | exact jPl_go | exact jPl_br | apply jPl_cond | (apply jPl_cell; intro _) | (apply jPl_ji2; intro _ _ _) | (apply jPl_jl2; intro _ _ _) | (apply jPl_jd2; intro _ _ _) | (apply jPl_jf2; intro _ _ _) | (apply jPl_jls; intro _ _ _) | (apply jPl_ji1; intro _ _) | (apply jPl_jl1; intro _ _) | (apply jPl_jd1; intro _ _) | (apply jPl_jf1; intro _ _) | split)
    · refine jInv_pl ?_ hs
      repeat' (first | exact jPl_jld | exact jPl_jldr | exact jPl_jsv | exact jPl_jsv2 | exact jPl_jsvr | exact jPl_jald | exact jPl_jast | exact jPl_jtab | exact jPl_jgetf | exact jPl_jputf | exact jPl_jcopy | exact jPl_jnewa | exact jPl_jnewq | exact jPl_jnewm | exact jPl_jaald | exact jPl_jaast | exact jPl_jnull | exact jPl_jsw | exact jPl_jspc | exact jPl_none | exact jPl_nx | exact jPl_put | exact jPl_new | exact jPl_mk | exact jPl_go | exact jPl_br | apply jPl_cond | (apply jPl_cell; intro _) | (apply jPl_ji2; intro _ _ _) | (apply jPl_jl2; intro _ _ _) | (apply jPl_jd2; intro _ _ _) | (apply jPl_jf2; intro _ _ _) | (apply jPl_jls; intro _ _ _) | (apply jPl_ji1; intro _ _) | (apply jPl_jl1; intro _ _) | (apply jPl_jd1; intro _ _) | (apply jPl_jf1; intro _ _) | split)
    · refine jInv_pl ?_ hs
      repeat' (first | exact jPl_jld | exact jPl_jldr | exact jPl_jsv | exact jPl_jsv2 | exact jPl_jsvr | exact jPl_jald | exact jPl_jast | exact jPl_jtab | exact jPl_jgetf | exact jPl_jputf | exact jPl_jcopy | exact jPl_jnewa | exact jPl_jnewq | exact jPl_jnewm | exact jPl_jaald | exact jPl_jaast | exact jPl_jnull | exact jPl_jsw | exact jPl_jspc | exact jPl_none | exact jPl_nx | exact jPl_put | exact jPl_new | exact jPl_mk | exact jPl_go | exact jPl_br | apply jPl_cond | (apply jPl_cell; intro _) | (apply jPl_ji2; intro _ _ _) | (apply jPl_jl2; intro _ _ _) | (apply jPl_jd2; intro _ _ _) | (apply jPl_jf2; intro _ _ _) | (apply jPl_jls; intro _ _ _) | (apply jPl_ji1; intro _ _) | (apply jPl_jl1; intro _ _) | (apply jPl_jd1; intro _ _) | (apply jPl_jf1; intro _ _) | split)
    · refine jInv_pl ?_ hs
      repeat' (first | exact jPl_jld | exact jPl_jldr | exact jPl_jsv | exact jPl_jsv2 | exact jPl_jsvr | exact jPl_jald | exact jPl_jast | exact jPl_jtab | exact jPl_jgetf | exact jPl_jputf | exact jPl_jcopy | exact jPl_jnewa | exact jPl_jnewq | exact jPl_jnewm | exact jPl_jaald | exact jPl_jaast | exact jPl_jnull | exact jPl_jsw | exact jPl_jspc | exact jPl_none | exact jPl_nx | exact jPl_put | exact jPl_new | exact jPl_mk | exact jPl_go | exact jPl_br | apply jPl_cond | (apply jPl_cell; intro _) | (apply jPl_ji2; intro _ _ _) | (apply jPl_jl2; intro _ _ _) | (apply jPl_jd2; intro _ _ _) | (apply jPl_jf2; intro _ _ _) | (apply jPl_jls; intro _ _ _) | (apply jPl_ji1; intro _ _) | (apply jPl_jl1; intro _ _) | (apply jPl_jd1; intro _ _) | (apply jPl_jf1; intro _ _) | split)
    · refine jInv_pl ?_ hs
      repeat' (first | exact jPl_jld | exact jPl_jldr | exact jPl_jsv | exact jPl_jsv2 | exact jPl_jsvr | exact jPl_jald | exact jPl_jast | exact jPl_jtab | exact jPl_jgetf | exact jPl_jputf | exact jPl_jcopy | exact jPl_jnewa | exact jPl_jnewq | exact jPl_jnewm | exact jPl_jaald | exact jPl_jaast | exact jPl_jnull | exact jPl_jsw | exact jPl_jspc | exact jPl_none | exact jPl_nx | exact jPl_put | exact jPl_new | exact jPl_mk | exact jPl_go | exact jPl_br | apply jPl_cond | (apply jPl_cell; intro _) | (apply jPl_ji2; intro _ _ _) | (apply jPl_jl2; intro _ _ _) | (apply jPl_jd2; intro _ _ _) | (apply jPl_jf2; intro _ _ _) | (apply jPl_jls; intro _ _ _) | (apply jPl_ji1; intro _ _) | (apply jPl_jl1; intro _ _) | (apply jPl_jd1; intro _ _) | (apply jPl_jf1; intro _ _) | split)
    · refine jInv_pl ?_ hs
      repeat' (first | exact jPl_jld | exact jPl_jldr | exact jPl_jsv | exact jPl_jsv2 | exact jPl_jsvr | exact jPl_jald | exact jPl_jast | exact jPl_jtab | exact jPl_jgetf | exact jPl_jputf | exact jPl_jcopy | exact jPl_jnewa | exact jPl_jnewq | exact jPl_jnewm | exact jPl_jaald | exact jPl_jaast | exact jPl_jnull | exact jPl_jsw | exact jPl_jspc | exact jPl_none | exact jPl_nx | exact jPl_put | exact jPl_new | exact jPl_mk | exact jPl_go | exact jPl_br | apply jPl_cond | (apply jPl_cell; intro _) | (apply jPl_ji2; intro _ _ _) | (apply jPl_jl2; intro _ _ _) | (apply jPl_jd2; intro _ _ _) | (apply jPl_jf2; intro _ _ _) | (apply jPl_jls; intro _ _ _) | (apply jPl_ji1; intro _ _) | (apply jPl_jl1; intro _ _) | (apply jPl_jd1; intro _ _) | (apply jPl_jf1; intro _ _) | split)
    · refine jInv_pl ?_ hs
      repeat' (first | exact jPl_jld | exact jPl_jldr | exact jPl_jsv | exact jPl_jsv2 | exact jPl_jsvr | exact jPl_jald | exact jPl_jast | exact jPl_jtab | exact jPl_jgetf | exact jPl_jputf | exact jPl_jcopy | exact jPl_jnewa | exact jPl_jnewq | exact jPl_jnewm | exact jPl_jaald | exact jPl_jaast | exact jPl_jnull | exact jPl_jsw | exact jPl_jspc | exact jPl_none | exact jPl_nx | exact jPl_put | exact jPl_new | exact jPl_mk | exact jPl_go | exact jPl_br | apply jPl_cond | (apply jPl_cell; intro _) | (apply jPl_ji2; intro _ _ _) | (apply jPl_jl2; intro _ _ _) | (apply jPl_jd2; intro _ _ _) | (apply jPl_jf2; intro _ _ _) | (apply jPl_jls; intro _ _ _) | (apply jPl_ji1; intro _ _) | (apply jPl_jl1; intro _ _) | (apply jPl_jd1; intro _ _) | (apply jPl_jf1; intro _ _) | split)
    · refine jInv_pl ?_ hs
      repeat' (first | exact jPl_jld | exact jPl_jldr | exact jPl_jsv | exact jPl_jsv2 | exact jPl_jsvr | exact jPl_jald | exact jPl_jast | exact jPl_jtab | exact jPl_jgetf | exact jPl_jputf | exact jPl_jcopy | exact jPl_jnewa | exact jPl_jnewq | exact jPl_jnewm | exact jPl_jaald | exact jPl_jaast | exact jPl_jnull | exact jPl_jsw | exact jPl_jspc | exact jPl_none | exact jPl_nx | exact jPl_put | exact jPl_new | exact jPl_mk | exact jPl_go | exact jPl_br | apply jPl_cond | (apply jPl_cell; intro _) | (apply jPl_ji2; intro _ _ _) | (apply jPl_jl2; intro _ _ _) | (apply jPl_jd2; intro _ _ _) | (apply jPl_jf2; intro _ _ _) | (apply jPl_jls; intro _ _ _) | (apply jPl_ji1; intro _ _) | (apply jPl_jl1; intro _ _) | (apply jPl_jd1; intro _ _) | (apply jPl_jf1; intro _ _) | split)
    · refine jInv_pl ?_ hs
      repeat' (first | exact jPl_jld | exact jPl_jldr | exact jPl_jsv | exact jPl_jsv2 | exact jPl_jsvr | exact jPl_jald | exact jPl_jast | exact jPl_jtab | exact jPl_jgetf | exact jPl_jputf | exact jPl_jcopy | exact jPl_jnewa | exact jPl_jnewq | exact jPl_jnewm | exact jPl_jaald | exact jPl_jaast | exact jPl_jnull | exact jPl_jsw | exact jPl_jspc | exact jPl_none | exact jPl_nx | exact jPl_put | exact jPl_new | exact jPl_mk | exact jPl_go | exact jPl_br | apply jPl_cond | (apply jPl_cell; intro _) | (apply jPl_ji2; intro _ _ _) | (apply jPl_jl2; intro _ _ _) | (apply jPl_jd2; intro _ _ _) | (apply jPl_jf2; intro _ _ _) | (apply jPl_jls; intro _ _ _) | (apply jPl_ji1; intro _ _) | (apply jPl_jl1; intro _ _) | (apply jPl_jd1; intro _ _) | (apply jPl_jf1; intro _ _) | split)
    · refine jInv_pl ?_ hs
      repeat' (first | exact jPl_jld | exact jPl_jldr | exact jPl_jsv | exact jPl_jsv2 | exact jPl_jsvr | exact jPl_jald | exact jPl_jast | exact jPl_jtab | exact jPl_jgetf | exact jPl_jputf | exact jPl_jcopy | exact jPl_jnewa | exact jPl_jnewq | exact jPl_jnewm | exact jPl_jaald | exact jPl_jaast | exact jPl_jnull | exact jPl_jsw | exact jPl_jspc | exact jPl_none | exact jPl_nx | exact jPl_put | exact jPl_new | exact jPl_mk | exact jPl_go | exact jPl_br | apply jPl_cond | (apply jPl_cell; intro _) | (apply jPl_ji2; intro _ _ _) | (apply jPl_jl2; intro _ _ _) | (apply jPl_jd2; intro _ _ _) | (apply jPl_jf2; intro _ _ _) | (apply jPl_jls; intro _ _ _) | (apply jPl_ji1; intro _ _) | (apply jPl_jl1; intro _ _) | (apply jPl_jd1; intro _ _) | (apply jPl_jf1; intro _ _) | split)
    · refine jInv_pl ?_ hs
      repeat' (first | exact jPl_jld | exact jPl_jldr | exact jPl_jsv | exact jPl_jsv2 | exact jPl_jsvr | exact jPl_jald | exact jPl_jast | exact jPl_jtab | exact jPl_jgetf | exact jPl_jputf | exact jPl_jcopy | exact jPl_jnewa | exact jPl_jnewq | exact jPl_jnewm | exact jPl_jaald | exact jPl_jaast | exact jPl_jnull | exact jPl_jsw | exact jPl_jspc | exact jPl_none | exact jPl_nx | exact jPl_put | exact jPl_new | exact jPl_mk | exact jPl_go | exact jPl_br | apply jPl_cond | (apply jPl_cell; intro _) | (apply jPl_ji2; intro _ _ _) | (apply jPl_jl2; intro _ _ _) | (apply jPl_jd2; intro _ _ _) | (apply jPl_jf2; intro _ _ _) | (apply jPl_jls; intro _ _ _) | (apply jPl_ji1; intro _ _) | (apply jPl_jl1; intro _ _) | (apply jPl_jd1; intro _ _) | (apply jPl_jf1; intro _ _) | split)
    · refine jInv_pl ?_ hs
      repeat' (first | exact jPl_jld | exact jPl_jldr | exact jPl_jsv | exact jPl_jsv2 | exact jPl_jsvr | exact jPl_jald | exact jPl_jast | exact jPl_jtab | exact jPl_jgetf | exact jPl_jputf | exact jPl_jcopy | exact jPl_jnewa | exact jPl_jnewq | exact jPl_jnewm | exact jPl_jaald | exact jPl_jaast | exact jPl_jnull | exact jPl_jsw | exact jPl_jspc | exact jPl_none | exact jPl_nx | exact jPl_put | exact jPl_new | exact jPl_mk | exact jPl_go | exact jPl_br | apply jPl_cond | (apply jPl_cell; intro _) | (apply jPl_ji2; intro _ _ _) | (apply jPl_jl2; intro _ _ _) | (apply jPl_jd2; intro _ _ _) | (apply jPl_jf2; intro _ _ _) | (apply jPl_jls; intro _ _ _) | (apply jPl_ji1; intro _ _) | (apply jPl_jl1; intro _ _) | (apply jPl_jd1; intro _ _) | (apply jPl_jf1; intro _ _) | split)
    · refine jInv_pl ?_ hs
      repeat' (first | exact jPl_jld | exact jPl_jldr | exact jPl_jsv | exact jPl_jsv2 | exact jPl_jsvr | exact jPl_jald | exact jPl_jast | exact jPl_jtab | exact jPl_jgetf | exact jPl_jputf | exact jPl_jcopy | exact jPl_jnewa | exact jPl_jnewq | exact jPl_jnewm | exact jPl_jaald | exact jPl_jaast | exact jPl_jnull | exact jPl_jsw | exact jPl_jspc | exact jPl_none | exact jPl_nx | exact jPl_put | exact jPl_new | exact jPl_mk | exact jPl_go | exact jPl_br | apply jPl_cond | (apply jPl_cell; intro _) | (apply jPl_ji2; intro _ _ _) | (apply jPl_jl2; intro _ _ _) | (apply jPl_jd2; intro _ _ _) | (apply jPl_jf2; intro _ _ _) | (apply jPl_jls; intro _ _ _) | (apply jPl_ji1; intro _ _) | (apply jPl_jl1; intro _ _) | (apply jPl_jd1; intro _ _) | (apply jPl_jf1; intro _ _) | split)
    · refine jInv_pl ?_ hs
      repeat' (first | exact jPl_jld | exact jPl_jldr | exact jPl_jsv | exact jPl_jsv2 | exact jPl_jsvr | exact jPl_jald | exact jPl_jast | exact jPl_jtab | exact jPl_jgetf | exact jPl_jputf | exact jPl_jcopy | exact jPl_jnewa | exact jPl_jnewq | exact jPl_jnewm | exact jPl_jaald | exact jPl_jaast | exact jPl_jnull | exact jPl_jsw | exact jPl_jspc | exact jPl_none | exact jPl_nx | exact jPl_put | exact jPl_new | exact jPl_mk | exact jPl_go | exact jPl_br | apply jPl_cond | (apply jPl_cell; intro _) | (apply jPl_ji2; intro _ _ _) | (apply jPl_jl2; intro _ _ _) | (apply jPl_jd2; intro _ _ _) | (apply jPl_jf2; intro _ _ _) | (apply jPl_jls; intro _ _ _) | (apply jPl_ji1; intro _ _) | (apply jPl_jl1; intro _ _) | (apply jPl_jd1; intro _ _) | (apply jPl_jf1; intro _ _) | split)
    · refine jInv_pl ?_ hs
      repeat' (first | exact jPl_jld | exact jPl_jldr | exact jPl_jsv | exact jPl_jsv2 | exact jPl_jsvr | exact jPl_jald | exact jPl_jast | exact jPl_jtab | exact jPl_jgetf | exact jPl_jputf | exact jPl_jcopy | exact jPl_jnewa | exact jPl_jnewq | exact jPl_jnewm | exact jPl_jaald | exact jPl_jaast | exact jPl_jnull | exact jPl_jsw | exact jPl_jspc | exact jPl_none | exact jPl_nx | exact jPl_put | exact jPl_new | exact jPl_mk | exact jPl_go | exact jPl_br | apply jPl_cond | (apply jPl_cell; intro _) | (apply jPl_ji2; intro _ _ _) | (apply jPl_jl2; intro _ _ _) | (apply jPl_jd2; intro _ _ _) | (apply jPl_jf2; intro _ _ _) | (apply jPl_jls; intro _ _ _) | (apply jPl_ji1; intro _ _) | (apply jPl_jl1; intro _ _) | (apply jPl_jd1; intro _ _) | (apply jPl_jf1; intro _ _) | split)
    · refine jInv_pl ?_ hs
      repeat' (first | exact jPl_jld | exact jPl_jldr | exact jPl_jsv | exact jPl_jsv2 | exact jPl_jsvr | exact jPl_jald | exact jPl_jast | exact jPl_jtab | exact jPl_jgetf | exact jPl_jputf | exact jPl_jcopy | exact jPl_jnewa | exact jPl_jnewq | exact jPl_jnewm | exact jPl_jaald | exact jPl_jaast | exact jPl_jnull | exact jPl_jsw | exact jPl_jspc | exact jPl_none | exact jPl_nx | exact jPl_put | exact jPl_new | exact jPl_mk | exact jPl_go | exact jPl_br | apply jPl_cond | (apply jPl_cell; intro _) | (apply jPl_ji2; intro _ _ _) | (apply jPl_jl2; intro _ _ _) | (apply jPl_jd2; intro _ _ _) | (apply jPl_jf2; intro _ _ _) | (apply jPl_jls; intro _ _ _) | (apply jPl_ji1; intro _ _) | (apply jPl_jl1; intro _ _) | (apply jPl_jd1; intro _ _) | (apply jPl_jf1; intro _ _) | split)
    · refine jInv_pl ?_ hs
      repeat' (first | exact jPl_jld | exact jPl_jldr | exact jPl_jsv | exact jPl_jsv2 | exact jPl_jsvr | exact jPl_jald | exact jPl_jast | exact jPl_jtab | exact jPl_jgetf | exact jPl_jputf | exact jPl_jcopy | exact jPl_jnewa | exact jPl_jnewq | exact jPl_jnewm | exact jPl_jaald | exact jPl_jaast | exact jPl_jnull | exact jPl_jsw | exact jPl_jspc | exact jPl_none | exact jPl_nx | exact jPl_put | exact jPl_new | exact jPl_mk | exact jPl_go | exact jPl_br | apply jPl_cond | (apply jPl_cell; intro _) | (apply jPl_ji2; intro _ _ _) | (apply jPl_jl2; intro _ _ _) | (apply jPl_jd2; intro _ _ _) | (apply jPl_jf2; intro _ _ _) | (apply jPl_jls; intro _ _ _) | (apply jPl_ji1; intro _ _) | (apply jPl_jl1; intro _ _) | (apply jPl_jd1; intro _ _) | (apply jPl_jf1; intro _ _) | split)
    · refine jInv_pl ?_ hs
      repeat' (first | exact jPl_jld | exact jPl_jldr | exact jPl_jsv | exact jPl_jsv2 | exact jPl_jsvr | exact jPl_jald | exact jPl_jast | exact jPl_jtab | exact jPl_jgetf | exact jPl_jputf | exact jPl_jcopy | exact jPl_jnewa | exact jPl_jnewq | exact jPl_jnewm | exact jPl_jaald | exact jPl_jaast | exact jPl_jnull | exact jPl_jsw | exact jPl_jspc | exact jPl_none | exact jPl_nx | exact jPl_put | exact jPl_new | exact jPl_mk | exact jPl_go | exact jPl_br | apply jPl_cond | (apply jPl_cell; intro _) | (apply jPl_ji2; intro _ _ _) | (apply jPl_jl2; intro _ _ _) | (apply jPl_jd2; intro _ _ _) | (apply jPl_jf2; intro _ _ _) | (apply jPl_jls; intro _ _ _) | (apply jPl_ji1; intro _ _) | (apply jPl_jl1; intro _ _) | (apply jPl_jd1; intro _ _) | (apply jPl_jf1; intro _ _) | split)
    · refine jInv_pl ?_ hs
      repeat' (first | exact jPl_jld | exact jPl_jldr | exact jPl_jsv | exact jPl_jsv2 | exact jPl_jsvr | exact jPl_jald | exact jPl_jast | exact jPl_jtab | exact jPl_jgetf | exact jPl_jputf | exact jPl_jcopy | exact jPl_jnewa | exact jPl_jnewq | exact jPl_jnewm | exact jPl_jaald | exact jPl_jaast | exact jPl_jnull | exact jPl_jsw | exact jPl_jspc | exact jPl_none | exact jPl_nx | exact jPl_put | exact jPl_new | exact jPl_mk | exact jPl_go | exact jPl_br | apply jPl_cond | (apply jPl_cell; intro _) | (apply jPl_ji2; intro _ _ _) | (apply jPl_jl2; intro _ _ _) | (apply jPl_jd2; intro _ _ _) | (apply jPl_jf2; intro _ _ _) | (apply jPl_jls; intro _ _ _) | (apply jPl_ji1; intro _ _) | (apply jPl_jl1; intro _ _) | (apply jPl_jd1; intro _ _) | (apply jPl_jf1; intro _ _) | split)
    · refine jInv_pl ?_ hs
      repeat' (first | exact jPl_jld | exact jPl_jldr | exact jPl_jsv | exact jPl_jsv2 | exact jPl_jsvr | exact jPl_jald | exact jPl_jast | exact jPl_jtab | exact jPl_jgetf | exact jPl_jputf | exact jPl_jcopy | exact jPl_jnewa | exact jPl_jnewq | exact jPl_jnewm | exact jPl_jaald | exact jPl_jaast | exact jPl_jnull | exact jPl_jsw | exact jPl_jspc | exact jPl_none | exact jPl_nx | exact jPl_put | exact jPl_new | exact jPl_mk | exact jPl_go | exact jPl_br | apply jPl_cond | (apply jPl_cell; intro _) | (apply jPl_ji2; intro _ _ _) | (apply jPl_jl2; intro _ _ _) | (apply jPl_jd2; intro _ _ _) | (apply jPl_jf2; intro _ _ _) | (apply jPl_jls; intro _ _ _) | (apply jPl_ji1; intro _ _) | (apply jPl_jl1; intro _ _) | (apply jPl_jd1; intro _ _) | (apply jPl_jf1; intro _ _) | split)
    · refine jInv_pl ?_ hs
      repeat' (first | exact jPl_jld | exact jPl_jldr | exact jPl_jsv | exact jPl_jsv2 | exact jPl_jsvr | exact jPl_jald | exact jPl_jast | exact jPl_jtab | exact jPl_jgetf | exact jPl_jputf | exact jPl_jcopy | exact jPl_jnewa | exact jPl_jnewq | exact jPl_jnewm | exact jPl_jaald | exact jPl_jaast | exact jPl_jnull | exact jPl_jsw | exact jPl_jspc | exact jPl_none | exact jPl_nx | exact jPl_put | exact jPl_new | exact jPl_mk | exact jPl_go | exact jPl_br | apply jPl_cond | (apply jPl_cell; intro _) | (apply jPl_ji2; intro _ _ _) | (apply jPl_jl2; intro _ _ _) | (apply jPl_jd2; intro _ _ _) | (apply jPl_jf2; intro _ _ _) | (apply jPl_jls; intro _ _ _) | (apply jPl_ji1; intro _ _) | (apply jPl_jl1; intro _ _) | (apply jPl_jd1; intro _ _) | (apply jPl_jf1; intro _ _) | split)
    · refine jInv_pl ?_ hs
      repeat' (first | exact jPl_jld | exact jPl_jldr | exact jPl_jsv | exact jPl_jsv2 | exact jPl_jsvr | exact jPl_jald | exact jPl_jast | exact jPl_jtab | exact jPl_jgetf | exact jPl_jputf | exact jPl_jcopy | exact jPl_jnewa | exact jPl_jnewq | exact jPl_jnewm | exact jPl_jaald | exact jPl_jaast | exact jPl_jnull | exact jPl_jsw | exact jPl_jspc | exact jPl_none | exact jPl_nx | exact jPl_put | exact jPl_new | exact jPl_mk | exact jPl_go | exact jPl_br | apply jPl_cond | (apply jPl_cell; intro _) | (apply jPl_ji2; intro _ _ _) | (apply jPl_jl2; intro _ _ _) | (apply jPl_jd2; intro _ _ _) | (apply jPl_jf2; intro _ _ _) | (apply jPl_jls; intro _ _ _) | (apply jPl_ji1; intro _ _) | (apply jPl_jl1; intro _ _) | (apply jPl_jd1; intro _ _) | (apply jPl_jf1; intro _ _) | split)
    · refine jInv_pl ?_ hs
      repeat' (first | exact jPl_jld | exact jPl_jldr | exact jPl_jsv | exact jPl_jsv2 | exact jPl_jsvr | exact jPl_jald | exact jPl_jast | exact jPl_jtab | exact jPl_jgetf | exact jPl_jputf | exact jPl_jcopy | exact jPl_jnewa | exact jPl_jnewq | exact jPl_jnewm | exact jPl_jaald | exact jPl_jaast | exact jPl_jnull | exact jPl_jsw | exact jPl_jspc | exact jPl_none | exact jPl_nx | exact jPl_put | exact jPl_new | exact jPl_mk | exact jPl_go | exact jPl_br | apply jPl_cond | (apply jPl_cell; intro _) | (apply jPl_ji2; intro _ _ _) | (apply jPl_jl2; intro _ _ _) | (apply jPl_jd2; intro _ _ _) | (apply jPl_jf2; intro _ _ _) | (apply jPl_jls; intro _ _ _) | (apply jPl_ji1; intro _ _) | (apply jPl_jl1; intro _ _) | (apply jPl_jd1; intro _ _) | (apply jPl_jf1; intro _ _) | split)
    · refine jInv_pl ?_ hs
      repeat' (first | exact jPl_jld | exact jPl_jldr | exact jPl_jsv | exact jPl_jsv2 | exact jPl_jsvr | exact jPl_jald | exact jPl_jast | exact jPl_jtab | exact jPl_jgetf | exact jPl_jputf | exact jPl_jcopy | exact jPl_jnewa | exact jPl_jnewq | exact jPl_jnewm | exact jPl_jaald | exact jPl_jaast | exact jPl_jnull | exact jPl_jsw | exact jPl_jspc | exact jPl_none | exact jPl_nx | exact jPl_put | exact jPl_new | exact jPl_mk | exact jPl_go | exact jPl_br | apply jPl_cond | (apply jPl_cell; intro _) | (apply jPl_ji2; intro _ _ _) | (apply jPl_jl2; intro _ _ _) | (apply jPl_jd2; intro _ _ _) | (apply jPl_jf2; intro _ _ _) | (apply jPl_jls; intro _ _ _) | (apply jPl_ji1; intro _ _) | (apply jPl_jl1; intro _ _) | (apply jPl_jd1; intro _ _) | (apply jPl_jf1; intro _ _) | split)
    · refine jInv_pl ?_ hs
      repeat' (first | exact jPl_jld | exact jPl_jldr | exact jPl_jsv | exact jPl_jsv2 | exact jPl_jsvr | exact jPl_jald | exact jPl_jast | exact jPl_jtab | exact jPl_jgetf | exact jPl_jputf | exact jPl_jcopy | exact jPl_jnewa | exact jPl_jnewq | exact jPl_jnewm | exact jPl_jaald | exact jPl_jaast | exact jPl_jnull | exact jPl_jsw | exact jPl_jspc | exact jPl_none | exact jPl_nx | exact jPl_put | exact jPl_new | exact jPl_mk | exact jPl_go | exact jPl_br | apply jPl_cond | (apply jPl_cell; intro _) | (apply jPl_ji2; intro _ _ _) | (apply jPl_jl2; intro _ _ _) | (apply jPl_jd2; intro _ _ _) | (apply jPl_jf2; intro _ _ _) | (apply jPl_jls; intro _ _ _) | (apply jPl_ji1; intro _ _) | (apply jPl_jl1; intro _ _) | (apply jPl_jd1; intro _ _) | (apply jPl_jf1; intro _ _) | split)
    · refine jInv_pl ?_ hs
      repeat' (first | exact jPl_jld | exact jPl_jldr | exact jPl_jsv | exact jPl_jsv2 | exact jPl_jsvr | exact jPl_jald | exact jPl_jast | exact jPl_jtab | exact jPl_jgetf | exact jPl_jputf | exact jPl_jcopy | exact jPl_jnewa | exact jPl_jnewq | exact jPl_jnewm | exact jPl_jaald | exact jPl_jaast | exact jPl_jnull | exact jPl_jsw | exact jPl_jspc | exact jPl_none | exact jPl_nx | exact jPl_put | exact jPl_new | exact jPl_mk | exact jPl_go | exact jPl_br | apply jPl_cond | (apply jPl_cell; intro _) | (apply jPl_ji2; intro _ _ _) | (apply jPl_jl2; intro _ _ _) | (apply jPl_jd2; intro _ _ _) | (apply jPl_jf2; intro _ _ _) | (apply jPl_jls; intro _ _ _) | (apply jPl_ji1; intro _ _) | (apply jPl_jl1; intro _ _) | (apply jPl_jd1; intro _ _) | (apply jPl_jf1; intro _ _) | split)
    · refine jInv_pl ?_ hs
      repeat' (first | exact jPl_jld | exact jPl_jldr | exact jPl_jsv | exact jPl_jsv2 | exact jPl_jsvr | exact jPl_jald | exact jPl_jast | exact jPl_jtab | exact jPl_jgetf | exact jPl_jputf | exact jPl_jcopy | exact jPl_jnewa | exact jPl_jnewq | exact jPl_jnewm | exact jPl_jaald | exact jPl_jaast | exact jPl_jnull | exact jPl_jsw | exact jPl_jspc | exact jPl_none | exact jPl_nx | exact jPl_put | exact jPl_new | exact jPl_mk | exact jPl_go | exact jPl_br | apply jPl_cond | (apply jPl_cell; intro _) | (apply jPl_ji2; intro _ _ _) | (apply jPl_jl2; intro _ _ _) | (apply jPl_jd2; intro _ _ _) | (apply jPl_jf2; intro _ _ _) | (apply jPl_jls; intro _ _ _) | (apply jPl_ji1; intro _ _) | (apply jPl_jl1; intro _ _) | (apply jPl_jd1; intro _ _) | (apply jPl_jf1; intro _ _) | split)
    · refine jInv_pl ?_ hs
      repeat' (first | exact jPl_jld | exact jPl_jldr | exact jPl_jsv | exact jPl_jsv2 | exact jPl_jsvr | exact jPl_jald | exact jPl_jast | exact jPl_jtab | exact jPl_jgetf | exact jPl_jputf | exact jPl_jcopy | exact jPl_jnewa | exact jPl_jnewq | exact jPl_jnewm | exact jPl_jaald | exact jPl_jaast | exact jPl_jnull | exact jPl_jsw | exact jPl_jspc | exact jPl_none | exact jPl_nx | exact jPl_put | exact jPl_new | exact jPl_mk | exact jPl_go | exact jPl_br | apply jPl_cond | (apply jPl_cell; intro _) | (apply jPl_ji2; intro _ _ _) | (apply jPl_jl2; intro _ _ _) | (apply jPl_jd2; intro _ _ _) | (apply jPl_jf2; intro _ _ _) | (apply jPl_jls; intro _ _ _) | (apply jPl_ji1; intro _ _) | (apply jPl_jl1; intro _ _) | (apply jPl_jd1; intro _ _) | (apply jPl_jf1; intro _ _) | split)
    · refine jInv_pl ?_ hs
      repeat' (first | exact jPl_jld | exact jPl_jldr | exact jPl_jsv | exact jPl_jsv2 | exact jPl_jsvr | exact jPl_jald | exact jPl_jast | exact jPl_jtab | exact jPl_jgetf | exact jPl_jputf | exact jPl_jcopy | exact jPl_jnewa | exact jPl_jnewq | exact jPl_jnewm | exact jPl_jaald | exact jPl_jaast | exact jPl_jnull | exact jPl_jsw | exact jPl_jspc | exact jPl_none | exact jPl_nx | exact jPl_put | exact jPl_new | exact jPl_mk | exact jPl_go | exact jPl_br | apply jPl_cond | (apply jPl_cell; intro _) | (apply jPl_ji2; intro _ _ _) | (apply jPl_jl2; intro _ _ _) | (apply jPl_jd2; intro _ _ _) | (apply jPl_jf2; intro _ _ _) | (apply jPl_jls; intro _ _ _) | (apply jPl_ji1; intro _ _) | (apply jPl_jl1; intro _ _) | (apply jPl_jd1; intro _ _) | (apply jPl_jf1; intro _ _) | split)
    · refine jInv_pl ?_ hs
      repeat' (first | exact jPl_jld | exact jPl_jldr | exact jPl_jsv | exact jPl_jsv2 | exact jPl_jsvr | exact jPl_jald | exact jPl_jast | exact jPl_jtab | exact jPl_jgetf | exact jPl_jputf | exact jPl_jcopy | exact jPl_jnewa | exact jPl_jnewq | exact jPl_jnewm | exact jPl_jaald | exact jPl_jaast | exact jPl_jnull | exact jPl_jsw | exact jPl_jspc | exact jPl_none | exact jPl_nx | exact jPl_put | exact jPl_new | exact jPl_mk | exact jPl_go | exact jPl_br | apply jPl_cond | (apply jPl_cell; intro _) | (apply jPl_ji2; intro _ _ _) | (apply jPl_jl2; intro _ _ _) | (apply jPl_jd2; intro _ _ _) | (apply jPl_jf2; intro _ _ _) | (apply jPl_jls; intro _ _ _) | (apply jPl_ji1; intro _ _) | (apply jPl_jl1; intro _ _) | (apply jPl_jd1; intro _ _) | (apply jPl_jf1; intro _ _) | split)
    · refine jInv_pl ?_ hs
      repeat' (first | exact jPl_jld | exact jPl_jldr | exact jPl_jsv | exact jPl_jsv2 | exact jPl_jsvr | exact jPl_jald | exact jPl_jast | exact jPl_jtab | exact jPl_jgetf | exact jPl_jputf | exact jPl_jcopy | exact jPl_jnewa | exact jPl_jnewq | exact jPl_jnewm | exact jPl_jaald | exact jPl_jaast | exact jPl_jnull | exact jPl_jsw | exact jPl_jspc | exact jPl_none | exact jPl_nx | exact jPl_put | exact jPl_new | exact jPl_mk | exact jPl_go | exact jPl_br | apply jPl_cond | (apply jPl_cell; intro _) | (apply jPl_ji2; intro _ _ _) | (apply jPl_jl2; intro _ _ _) | (apply jPl_jd2; intro _ _ _) | (apply jPl_jf2; intro _ _ _) | (apply jPl_jls; intro _ _ _) | (apply jPl_ji1; intro _ _) | (apply jPl_jl1; intro _ _) | (apply jPl_jd1; intro _ _) | (apply jPl_jf1; intro _ _) | split)
    · refine jInv_pl ?_ hs
      repeat' (first | exact jPl_jld | exact jPl_jldr | exact jPl_jsv | exact jPl_jsv2 | exact jPl_jsvr | exact jPl_jald | exact jPl_jast | exact jPl_jtab | exact jPl_jgetf | exact jPl_jputf | exact jPl_jcopy | exact jPl_jnewa | exact jPl_jnewq | exact jPl_jnewm | exact jPl_jaald | exact jPl_jaast | exact jPl_jnull | exact jPl_jsw | exact jPl_jspc | exact jPl_none | exact jPl_nx | exact jPl_put | exact jPl_new | exact jPl_mk | exact jPl_go | exact jPl_br | apply jPl_cond | (apply jPl_cell; intro _) | (apply jPl_ji2; intro _ _ _) | (apply jPl_jl2; intro _ _ _) | (apply jPl_jd2; intro _ _ _) | (apply jPl_jf2; intro _ _ _) | (apply jPl_jls; intro _ _ _) | (apply jPl_ji1; intro _ _) | (apply jPl_jl1; intro _ _) | (apply jPl_jd1; intro _ _) | (apply jPl_jf1; intro _ _) | split)
    · refine jInv_pl ?_ hs
      repeat' (first | exact jPl_jld | exact jPl_jldr | exact jPl_jsv | exact jPl_jsv2 | exact jPl_jsvr | exact jPl_jald | exact jPl_jast | exact jPl_jtab | exact jPl_jgetf | exact jPl_jputf | exact jPl_jcopy | exact jPl_jnewa | exact jPl_jnewq | exact jPl_jnewm | exact jPl_jaald | exact jPl_jaast | exact jPl_jnull | exact jPl_jsw | exact jPl_jspc | exact jPl_none | exact jPl_nx | exact jPl_put | exact jPl_new | exact jPl_mk | exact jPl_go | exact jPl_br | apply jPl_cond | (apply jPl_cell; intro _) | (apply jPl_ji2; intro _ _ _) | (apply jPl_jl2; intro _ _ _) | (apply jPl_jd2; intro _ _ _) | (apply jPl_jf2; intro _ _ _) | (apply jPl_jls; intro _ _ _) | (apply jPl_ji1; intro _ _) | (apply jPl_jl1; intro _ _) | (apply jPl_jd1; intro _ _) | (apply jPl_jf1; intro _ _) | split)
    · refine jInv_pl ?_ hs
      repeat' (first | exact jPl_jld | exact jPl_jldr | exact jPl_jsv | exact jPl_jsv2 | exact jPl_jsvr | exact jPl_jald | exact jPl_jast | exact jPl_jtab | exact jPl_jgetf | exact jPl_jputf | exact jPl_jcopy | exact jPl_jnewa | exact jPl_jnewq | exact jPl_jnewm | exact jPl_jaald | exact jPl_jaast | exact jPl_jnull | exact jPl_jsw | exact jPl_jspc | exact jPl_none | exact jPl_nx | exact jPl_put | exact jPl_new | exact jPl_mk | exact jPl_go | exact jPl_br | apply jPl_cond | (apply jPl_cell; intro _) | (apply jPl_ji2; intro _ _ _) | (apply jPl_jl2; intro _ _ _) | (apply jPl_jd2; intro _ _ _) | (apply jPl_jf2; intro _ _ _) | (apply jPl_jls; intro _ _ _) | (apply jPl_ji1; intro _ _) | (apply jPl_jl1; intro _ _) | (apply jPl_jd1; intro _ _) | (apply jPl_jf1; intro _ _) | split)
    · refine jInv_pl ?_ hs
      repeat' (first | exact jPl_jld | exact jPl_jldr | exact jPl_jsv | exact jPl_jsv2 | exact jPl_jsvr | exact jPl_jald | exact jPl_jast | exact jPl_jtab | exact jPl_jgetf | exact jPl_jputf | exact jPl_jcopy | exact jPl_jnewa | exact jPl_jnewq | exact jPl_jnewm | exact jPl_jaald | exact jPl_jaast | exact jPl_jnull | exact jPl_jsw | exact jPl_jspc | exact jPl_none | exact jPl_nx | exact jPl_put | exact jPl_new | exact jPl_mk | exact jPl_go | exact jPl_br | apply jPl_cond | (apply jPl_cell; intro _) | (apply jPl_ji2; intro _ _ _) | (apply jPl_jl2; intro _ _ _) | (apply jPl_jd2; intro _ _ _) | (apply jPl_jf2; intro _ _ _) | (apply jPl_jls; intro _ _ _) | (apply jPl_ji1; intro _ _) | (apply jPl_jl1; intro _ _) | (apply jPl_jd1; intro _ _) | (apply jPl_jf1; intro _ _) | split)
    · refine jInv_pl ?_ hs
      repeat' (first | exact jPl_jld | exact jPl_jldr | exact jPl_jsv | exact jPl_jsv2 | exact jPl_jsvr | exact jPl_jald | exact jPl_jast | exact jPl_jtab | exact jPl_jgetf | exact jPl_jputf | exact jPl_jcopy | exact jPl_jnewa | exact jPl_jnewq | exact jPl_jnewm | exact jPl_jaald | exact jPl_jaast | exact jPl_jnull | exact jPl_jsw | exact jPl_jspc | exact jPl_none | exact jPl_nx | exact jPl_put | exact jPl_new | exact jPl_mk | exact jPl_go | exact jPl_br | apply jPl_cond | (apply jPl_cell; intro _) | (apply jPl_ji2; intro _ _ _) | (apply jPl_jl2; intro _ _ _) | (apply jPl_jd2; intro _ _ _) | (apply jPl_jf2; intro _ _ _) | (apply jPl_jls; intro _ _ _) | (apply jPl_ji1; intro _ _) | (apply jPl_jl1; intro _ _) | (apply jPl_jd1; intro _ _) | (apply jPl_jf1; intro _ _) | split)
    · refine jInv_pl ?_ hs
      repeat' (first | exact jPl_jld | exact jPl_jldr | exact jPl_jsv | exact jPl_jsv2 | exact jPl_jsvr | exact jPl_jald | exact jPl_jast | exact jPl_jtab | exact jPl_jgetf | exact jPl_jputf | exact jPl_jcopy | exact jPl_jnewa | exact jPl_jnewq | exact jPl_jnewm | exact jPl_jaald | exact jPl_jaast | exact jPl_jnull | exact jPl_jsw | exact jPl_jspc | exact jPl_none | exact jPl_nx | exact jPl_put | exact jPl_new | exact jPl_mk | exact jPl_go | exact jPl_br | apply jPl_cond | (apply jPl_cell; intro _) | (apply jPl_ji2; intro _ _ _) | (apply jPl_jl2; intro _ _ _) | (apply jPl_jd2; intro _ _ _) | (apply jPl_jf2; intro _ _ _) | (apply jPl_jls; intro _ _ _) | (apply jPl_ji1; intro _ _) | (apply jPl_jl1; intro _ _) | (apply jPl_jd1; intro _ _) | (apply jPl_jf1; intro _ _) | split)
    · obtain rfl : n = 3 := Nat.eq_of_beq_eq_true hlen
      exact jmF_new hI hs
    · refine jInv_pl ?_ hs
      repeat' (first | exact jPl_jld | exact jPl_jldr | exact jPl_jsv | exact jPl_jsv2 | exact jPl_jsvr | exact jPl_jald | exact jPl_jast | exact jPl_jtab | exact jPl_jgetf | exact jPl_jputf | exact jPl_jcopy | exact jPl_jnewa | exact jPl_jnewq | exact jPl_jnewm | exact jPl_jaald | exact jPl_jaast | exact jPl_jnull | exact jPl_jsw | exact jPl_jspc | exact jPl_none | exact jPl_nx | exact jPl_put | exact jPl_new | exact jPl_mk | exact jPl_go | exact jPl_br | apply jPl_cond | (apply jPl_cell; intro _) | (apply jPl_ji2; intro _ _ _) | (apply jPl_jl2; intro _ _ _) | (apply jPl_jd2; intro _ _ _) | (apply jPl_jf2; intro _ _ _) | (apply jPl_jls; intro _ _ _) | (apply jPl_ji1; intro _ _) | (apply jPl_jl1; intro _ _) | (apply jPl_jd1; intro _ _) | (apply jPl_jf1; intro _ _) | split)
    · refine jInv_pl ?_ hs
      repeat' (first | exact jPl_jld | exact jPl_jldr | exact jPl_jsv | exact jPl_jsv2 | exact jPl_jsvr | exact jPl_jald | exact jPl_jast | exact jPl_jtab | exact jPl_jgetf | exact jPl_jputf | exact jPl_jcopy | exact jPl_jnewa | exact jPl_jnewq | exact jPl_jnewm | exact jPl_jaald | exact jPl_jaast | exact jPl_jnull | exact jPl_jsw | exact jPl_jspc | exact jPl_none | exact jPl_nx | exact jPl_put | exact jPl_new | exact jPl_mk | exact jPl_go | exact jPl_br | apply jPl_cond | (apply jPl_cell; intro _) | (apply jPl_ji2; intro _ _ _) | (apply jPl_jl2; intro _ _ _) | (apply jPl_jd2; intro _ _ _) | (apply jPl_jf2; intro _ _ _) | (apply jPl_jls; intro _ _ _) | (apply jPl_ji1; intro _ _) | (apply jPl_jl1; intro _ _) | (apply jPl_jd1; intro _ _) | (apply jPl_jf1; intro _ _) | split)
    · refine jInv_pl ?_ hs
      repeat' (first | exact jPl_jld | exact jPl_jldr | exact jPl_jsv | exact jPl_jsv2 | exact jPl_jsvr | exact jPl_jald | exact jPl_jast | exact jPl_jtab | exact jPl_jgetf | exact jPl_jputf | exact jPl_jcopy | exact jPl_jnewa | exact jPl_jnewq | exact jPl_jnewm | exact jPl_jaald | exact jPl_jaast | exact jPl_jnull | exact jPl_jsw | exact jPl_jspc | exact jPl_none | exact jPl_nx | exact jPl_put | exact jPl_new | exact jPl_mk | exact jPl_go | exact jPl_br | apply jPl_cond | (apply jPl_cell; intro _) | (apply jPl_ji2; intro _ _ _) | (apply jPl_jl2; intro _ _ _) | (apply jPl_jd2; intro _ _ _) | (apply jPl_jf2; intro _ _ _) | (apply jPl_jls; intro _ _ _) | (apply jPl_ji1; intro _ _) | (apply jPl_jl1; intro _ _) | (apply jPl_jd1; intro _ _) | (apply jPl_jf1; intro _ _) | split)
    · obtain rfl : n = 3 := Nat.eq_of_beq_eq_true hlen
      exact jInv_cs hI hs
    · obtain rfl : n = 3 := Nat.eq_of_beq_eq_true hlen
      exact jInv_cv hI hs
    · obtain rfl : n = 3 := Nat.eq_of_beq_eq_true hlen
      exact jInv_ci hI hs
    · obtain rfl : n = 1 := Nat.eq_of_beq_eq_true hlen
      replace hs := jcond_some hs
      obtain ⟨hc, hs⟩ := hs
      obtain ⟨v, rfl, rfl, hv⟩ := jretv_inv hs
      rcases Bool.or_eq_true_iff.mp hc with hc | hc
      · have hc := Nat.eq_of_beq_eq_true hc
        refine Or.inl ⟨rfl, rfl, _, hI, Or.inl ⟨rfl, rfl, ?_, Or.inl hc⟩⟩
        rw [hc] at hv
        rcases hv with hv | ⟨hv, -⟩ | ⟨hv, -⟩ | ⟨hv, -⟩
        · exact jfit_0 hv
        · cases hv
        · cases hv
        · cases hv
      · have hc := Nat.eq_of_beq_eq_true hc
        rw [hc] at hv
        have h8 : v.1 = 0 ∧ (v.2 = 0 ∨ v.2 = 1) := by
          rcases hv with hv | ⟨hv, -⟩ | ⟨hv, -⟩ | ⟨hv, -⟩
          · exact jfit_8 hv
          · cases hv
          · cases hv
          · cases hv
        exact Or.inl ⟨rfl, rfl, _, hI, Or.inl ⟨rfl, rfl, h8.1, Or.inr ⟨hc, h8.2⟩⟩⟩
    · obtain rfl : n = 1 := Nat.eq_of_beq_eq_true hlen
      replace hs := jcond_some hs
      obtain ⟨hc, hs⟩ := hs
      obtain ⟨v, rfl, rfl, hv⟩ := jretv_inv hs
      have hc := Nat.eq_of_beq_eq_true hc
      refine Or.inl ⟨rfl, rfl, _, hI, Or.inr (Or.inl ⟨rfl, rfl, ?_, hc⟩)⟩
      rw [hc] at hv
      rcases hv with hv | ⟨hv, hv2⟩ | ⟨hv, hv2⟩ | ⟨hv, hv2⟩
      · exact jfit_1 hv
      · cases hv
      · cases hv
      · cases hv
    · obtain rfl : n = 1 := Nat.eq_of_beq_eq_true hlen
      replace hs := jcond_some hs
      obtain ⟨hc, hs⟩ := hs
      obtain ⟨v, rfl, rfl, hv⟩ := jretv_inv hs
      have hc := Nat.eq_of_beq_eq_true hc
      refine Or.inl ⟨rfl, rfl, _, hI, Or.inr (Or.inr (Or.inr (Or.inl ⟨rfl, rfl, ?_, hc⟩)))⟩
      rw [hc] at hv
      rcases hv with hv | ⟨hv, hv2⟩ | ⟨hv, hv2⟩ | ⟨hv, hv2⟩
      · exact jfit_3 hv
      · cases hv
      · cases hv
      · exact hv2
    · obtain rfl : n = 1 := Nat.eq_of_beq_eq_true hlen
      replace hs := jcond_some hs
      obtain ⟨hc, hs⟩ := hs
      obtain ⟨v, rfl, rfl, hv⟩ := jretv_inv hs
      have hc := Nat.eq_of_beq_eq_true hc
      refine Or.inl ⟨rfl, rfl, _, hI, Or.inr (Or.inr (Or.inr (Or.inr (Or.inl ⟨rfl, rfl, ?_, hc⟩))))⟩
      rw [hc] at hv
      rcases hv with hv | ⟨hv, hv2⟩ | ⟨hv, hv2⟩ | ⟨hv, hv2⟩
      · exact jfit_4 hv
      · exact hv2
      · cases hv
      · cases hv
    · obtain rfl : n = 1 := Nat.eq_of_beq_eq_true hlen
      split at hs
      · replace hs := jcond_some hs
        obtain ⟨hc, hs⟩ := hs
        cases hs
        exact Or.inl ⟨rfl, rfl, _, hI, Or.inr (Or.inr (Or.inr (Or.inr (Or.inr ⟨rfl, rfl, rfl, Nat.eq_of_beq_eq_true hc⟩))))⟩
      · cases hs
    · cases hs
