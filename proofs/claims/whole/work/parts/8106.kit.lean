/-! comparisons of numbers with a point -/
section JTT
variable {xs : List Int} {d m n0 pc b1 b2 : Nat} {L : JL} {st : List JV} {hs : List JC} {Q : Nat → JV → List JC → Prop}
theorem jT_dcmp {o : _} {x y z : Int} {r : List JV} (hI : jmI (jm m) pc = (.dcmp o, 1)) (hst : st = (3, y) :: (3, x) :: r) (hz : (Op.cmpValue (FP.dcmp (ju64 x) (ju64 y)) o).toInt = z) (h : jT xs d m n0 (pc + 1) L ((0, z) :: r) hs b1 b2 Q) : jT xs d m n0 pc L st hs b1 b2 Q := by
  subst hst; subst hz
  refine jT_step (c1 := 0) (s1 := 0) ?_ h (by omega) (by omega)
  unfold jstep
  rw [hI]
  rfl
theorem jT_fcmp {o : _} {x y z : Int} {r : List JV} (hI : jmI (jm m) pc = (.fcmp o, 1)) (hst : st = (2, y) :: (2, x) :: r) (hz : (Op.cmpValue (FP.fcmp (ju32 x) (ju32 y)) o).toInt = z) (h : jT xs d m n0 (pc + 1) L ((0, z) :: r) hs b1 b2 Q) : jT xs d m n0 pc L st hs b1 b2 Q := by
  subst hst; subst hz
  refine jT_step (c1 := 0) (s1 := 0) ?_ h (by omega) (by omega)
  unfold jstep
  rw [hI]
  rfl
end JTT
