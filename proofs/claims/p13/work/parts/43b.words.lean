/-! the little machine, part 7b: words by their places -/
theorem jaw_int : Cond.arrayClass .int ∈ jAW := (jAW_of (jt_1 (List.mem_of_getElem? (i := 64) (by rfl))) rfl)
theorem jaw_long : Cond.arrayClass .long ∈ jAW := (jAW_of (jt_1 (List.mem_of_getElem? (i := 72) (by rfl))) rfl)
theorem jaw_double : Cond.arrayClass .double ∈ jAW := (jAW_of (jt_10 (List.mem_of_getElem? (i := 33) (by rfl))) rfl)
theorem jao_4 : Cond.arrayOver (.object RX2) ∈ jAW := (jAW_of (jt_1 (List.mem_of_getElem? (i := 207) (by rfl))) rfl)
theorem jao_7 : Cond.arrayOver (.object RX5) ∈ jAW := (jAW_of (jt_1 (List.mem_of_getElem? (i := 209) (by rfl))) rfl)
theorem jao_9 : Cond.arrayOver (.object RX7) ∈ jAW := (jAW_of (jt_1 (List.mem_of_getElem? (i := 175) (by rfl))) rfl)
theorem jao_10 : Cond.arrayOver (.object RX8) ∈ jAW := (jAW_of (jt_1 (List.mem_of_getElem? (i := 127) (by rfl))) rfl)
theorem jao_int : Cond.arrayOver (.array .int) ∈ jAW := (jAW_of (jt_7 (List.mem_of_getElem? (i := 22) (by rfl))) rfl)
theorem jao_ok (ci : Nat) (hci : ci < 20) (r : Nat) (t : FieldType) (h : jAK[r]? = some (110 + ci, t)) : Cond.arrayOver (.object (jKN ci)) ∈ jAW ∧ t = .object (jKN ci) := by
  have h2 := List.mem_of_getElem? h
  simp only [jAK, List.mem_cons, Prod.mk.injEq, List.not_mem_nil, or_false] at h2
  rcases h2 with ⟨h3, rfl⟩ | ⟨h3, rfl⟩ | ⟨h3, rfl⟩ | ⟨h3, rfl⟩ | ⟨h3, rfl⟩ | ⟨h3, rfl⟩ | ⟨h3, rfl⟩ | ⟨h3, rfl⟩
  · omega
  · omega
  · omega
  · obtain rfl : ci = 4 := by omega
    exact ⟨jao_4, rfl⟩
  · obtain rfl : ci = 7 := by omega
    exact ⟨jao_7, rfl⟩
  · obtain rfl : ci = 9 := by omega
    exact ⟨jao_9, rfl⟩
  · obtain rfl : ci = 10 := by omega
    exact ⟨jao_10, rfl⟩
  · omega
theorem jsp_s0 : Cond.static Lib.Math.max.name ∈ jAW := (jAW_of (jt_1 (List.mem_of_getElem? (i := 51) (by rfl))) rfl)
theorem jsp_c0 : Cond.code Lib.Math.max.name Lib.Math.max.code 2 (some .int) ∈ jAW := (jAW_of (jt_1 (List.mem_of_getElem? (i := 52) (by rfl))) rfl)
theorem jsp_s1 : Cond.static Lib.Math.min.name ∈ jAW := (jAW_of (jt_1 (List.mem_of_getElem? (i := 214) (by rfl))) rfl)
theorem jsp_c1 : Cond.code Lib.Math.min.name Lib.Math.min.code 2 (some .int) ∈ jAW := (jAW_of (jt_1 (List.mem_of_getElem? (i := 215) (by rfl))) rfl)
theorem jsp_s2 : Cond.static Lib.Math.abs.name ∈ jAW := (jAW_of (jt_8 (List.mem_of_getElem? (i := 198) (by rfl))) rfl)
theorem jsp_c2 : Cond.code Lib.Math.abs.name Lib.Math.abs.code 1 (some .int) ∈ jAW := (jAW_of (jt_8 (List.mem_of_getElem? (i := 199) (by rfl))) rfl)
theorem jsp_s3 : Cond.static Lib.MathLoose.max_long.x ∈ jAW := (jAW_of (jt_4 (List.mem_of_getElem? (i := 27) (by rfl))) rfl)
theorem jsp_c3 : Cond.code Lib.MathLoose.max_long.x Lib.MathLoose.max_long.code 4 (some .long) ∈ jAW := (jAW_of (jt_4 (List.mem_of_getElem? (i := 28) (by rfl))) rfl)
theorem jsp_s4 : Cond.static Lib.MathLoose.min_long.x ∈ jAW := (jAW_of (jt_6 (List.mem_of_getElem? (i := 54) (by rfl))) rfl)
theorem jsp_c4 : Cond.code Lib.MathLoose.min_long.x Lib.MathLoose.min_long.code 4 (some .long) ∈ jAW := (jAW_of (jt_6 (List.mem_of_getElem? (i := 55) (by rfl))) rfl)
theorem jsp_s5 : Cond.static Lib.MathLoose.abs_long.x ∈ jAW := (jAW_of (jt_2 (List.mem_of_getElem? (i := 231) (by rfl))) rfl)
theorem jsp_c5 : Cond.code Lib.MathLoose.abs_long.x Lib.MathLoose.abs_long.code 2 (some .long) ∈ jAW := (jAW_of (jt_2 (List.mem_of_getElem? (i := 232) (by rfl))) rfl)
theorem jsp_i : Cond.initialized "java/lang/Math" ∈ jAW := (jAW_of (jt_1 (List.mem_of_getElem? (i := 4) (by rfl))) rfl)
theorem jsp_an : Cond.native arraycopyName ∈ jAW := (jAW_of (jt_5 (List.mem_of_getElem? (i := 152) (by rfl))) rfl)
theorem jsp_as : Cond.static arraycopyName ∈ jAW := (jAW_of (jt_5 (List.mem_of_getElem? (i := 151) (by rfl))) rfl)
theorem jsp_ai : Cond.initialized "java/lang/System" ∈ jAW := (jAW_of (jt_1 (List.mem_of_getElem? (i := 16) (by rfl))) rfl)
theorem jsp_oi : Cond.instanceMethod Lib.objectInit ∈ jAW := (jAW_of (jt_1 (List.mem_of_getElem? (i := 36) (by rfl))) rfl)
theorem jsp_oc : Cond.code Lib.objectInit ⟨#[0xb1]⟩ 1 none ∈ jAW := (jAW_of (jt_1 (List.mem_of_getElem? (i := 37) (by rfl))) rfl)
theorem jcn_n : Cond.native ⟨"java/lang/Object", "clone", "()Ljava/lang/Object;"⟩ ∈ jAW := (jAW_of (jt_4 (List.mem_of_getElem? (i := 55) (by rfl))) rfl)
theorem jcn_i : Cond.instanceMethod ⟨"java/lang/Object", "clone", "()Ljava/lang/Object;"⟩ ∈ jAW := (jAW_of (jt_4 (List.mem_of_getElem? (i := 56) (by rfl))) rfl)
theorem jcn_100 : Cond.sameMethod (jKN 100) "java/lang/Object" "clone" "()Ljava/lang/Object;" ∈ jAW ∧ Cond.selects (jKN 100) ⟨jKN 100, "clone", "()Ljava/lang/Object;"⟩ ⟨"java/lang/Object", "clone", "()Ljava/lang/Object;"⟩ ∈ jAW ∧ Cond.castable (jKN 100) "java/lang/Cloneable" ∈ jAW := ⟨(jAW_of (jt_4 (List.mem_of_getElem? (i := 147) (by rfl))) rfl), (jAW_of (jt_4 (List.mem_of_getElem? (i := 148) (by rfl))) rfl), (jAW_of (jt_4 (List.mem_of_getElem? (i := 149) (by rfl))) rfl)⟩
theorem jcn_114 : Cond.sameMethod (jKN 114) "java/lang/Object" "clone" "()Ljava/lang/Object;" ∈ jAW ∧ Cond.selects (jKN 114) ⟨jKN 114, "clone", "()Ljava/lang/Object;"⟩ ⟨"java/lang/Object", "clone", "()Ljava/lang/Object;"⟩ ∈ jAW ∧ Cond.castable (jKN 114) "java/lang/Cloneable" ∈ jAW := ⟨(jAW_of (jt_4 (List.mem_of_getElem? (i := 54) (by rfl))) rfl), (jAW_of (jt_4 (List.mem_of_getElem? (i := 57) (by rfl))) rfl), (jAW_of (jt_4 (List.mem_of_getElem? (i := 58) (by rfl))) rfl)⟩
theorem jcn_117 : Cond.sameMethod (jKN 117) "java/lang/Object" "clone" "()Ljava/lang/Object;" ∈ jAW ∧ Cond.selects (jKN 117) ⟨jKN 117, "clone", "()Ljava/lang/Object;"⟩ ⟨"java/lang/Object", "clone", "()Ljava/lang/Object;"⟩ ∈ jAW ∧ Cond.castable (jKN 117) "java/lang/Cloneable" ∈ jAW := ⟨(jAW_of (jt_4 (List.mem_of_getElem? (i := 181) (by rfl))) rfl), (jAW_of (jt_4 (List.mem_of_getElem? (i := 182) (by rfl))) rfl), (jAW_of (jt_4 (List.mem_of_getElem? (i := 183) (by rfl))) rfl)⟩
def jSl : List Cond := ((tables_1_3.drop 127).take 93) ++ (((tables_1_4.drop 0).take 22) ++ (((tables_1_4.drop 198).take 16) ++ (((tables_1_6.drop 72).take 16) ++ (((tables_1_1.drop 17).take 13) ++ (((tables_1_3.drop 228).take 12) ++ (((tables_1_10.drop 50).take 6) ++ (((tables_1_4.drop 46).take 3) ++ (((tables_1_10.drop 34).take 2) ++ (((tables_1_4.drop 188).take 1) ++ (((tables_1_6.drop 7).take 1) ++ (lw_tbl)))))))))))
theorem jSl_in {w : Cond} (h : w ∈ jSl) : w ∈ lw_tbl := by
  unfold jSl at h
  rcases List.mem_append.mp h with h | h
  · exact jt_3 (List.mem_of_mem_drop (List.mem_of_mem_take h))
  rcases List.mem_append.mp h with h | h
  · exact jt_4 (List.mem_of_mem_drop (List.mem_of_mem_take h))
  rcases List.mem_append.mp h with h | h
  · exact jt_4 (List.mem_of_mem_drop (List.mem_of_mem_take h))
  rcases List.mem_append.mp h with h | h
  · exact jt_6 (List.mem_of_mem_drop (List.mem_of_mem_take h))
  rcases List.mem_append.mp h with h | h
  · exact jt_1 (List.mem_of_mem_drop (List.mem_of_mem_take h))
  rcases List.mem_append.mp h with h | h
  · exact jt_3 (List.mem_of_mem_drop (List.mem_of_mem_take h))
  rcases List.mem_append.mp h with h | h
  · exact jt_10 (List.mem_of_mem_drop (List.mem_of_mem_take h))
  rcases List.mem_append.mp h with h | h
  · exact jt_4 (List.mem_of_mem_drop (List.mem_of_mem_take h))
  rcases List.mem_append.mp h with h | h
  · exact jt_10 (List.mem_of_mem_drop (List.mem_of_mem_take h))
  rcases List.mem_append.mp h with h | h
  · exact jt_4 (List.mem_of_mem_drop (List.mem_of_mem_take h))
  rcases List.mem_append.mp h with h | h
  · exact jt_6 (List.mem_of_mem_drop (List.mem_of_mem_take h))
  exact h
def jthL (e : Nat) : List Cond := vx_atS "Tuninghouse" (match e with | 0 => 382 | 1 => 133 | 2 => 208 | 3 => 188 | _ => 335) (jEX e) ["java/lang/RuntimeException", "java/lang/Exception"]
def jthC (e : Nat) : Bool := (jthL e).all (fun w => jMovb w && (vx_ot w && jSl.any (fun z => decide (z = w))))
theorem jth_0 : jthC 0 = true := by decide +kernel
theorem jth_1 : jthC 1 = true := by decide +kernel
theorem jth_2 : jthC 2 = true := by decide +kernel
theorem jth_3 : jthC 3 = true := by decide +kernel
theorem jex_i0 : Cond.initialized (jEX 0) ∈ jAW := (jAW_of (jt_1 (List.mem_of_getElem? (i := 20) (by rfl))) rfl)
theorem jex_c0 : Cond.castable (jEX 0) (jEX 0) ∈ jAW := (jAW_of (jt_3 (List.mem_of_getElem? (i := 230) (by rfl))) rfl)
theorem jex_i1 : Cond.initialized (jEX 1) ∈ jAW := (jAW_of (jt_1 (List.mem_of_getElem? (i := 24) (by rfl))) rfl)
theorem jex_c1 : Cond.castable (jEX 1) (jEX 1) ∈ jAW := (jAW_of (jt_4 (List.mem_of_getElem? (i := 8) (by rfl))) rfl)
theorem jex_i2 : Cond.initialized (jEX 2) ∈ jAW := (jAW_of (jt_1 (List.mem_of_getElem? (i := 23) (by rfl))) rfl)
theorem jex_c2 : Cond.castable (jEX 2) (jEX 2) ∈ jAW := (jAW_of (jt_3 (List.mem_of_getElem? (i := 218) (by rfl))) rfl)
theorem jex_i3 : Cond.initialized (jEX 3) ∈ jAW := (jAW_of (jt_1 (List.mem_of_getElem? (i := 28) (by rfl))) rfl)
theorem jex_c3 : Cond.castable (jEX 3) (jEX 3) ∈ jAW := (jAW_of (jt_4 (List.mem_of_getElem? (i := 200) (by rfl))) rfl)
theorem jex_i4 : Cond.initialized (jEX 4) ∈ jAW := (jAW_of (jt_1 (List.mem_of_getElem? (i := 29) (by rfl))) rfl)
theorem jex_c4 : Cond.castable (jEX 4) (jEX 4) ∈ jAW := (jAW_of (jt_6 (List.mem_of_getElem? (i := 74) (by rfl))) rfl)
