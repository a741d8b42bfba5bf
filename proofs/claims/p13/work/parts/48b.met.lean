/-! the little machine, part 12b: each method's return type has its tag; names of those that catch -/
def jtyr (t : Option FieldType) : Nat := match t with
  | none => 9
  | some t => jtyc t
def jmP (x : JM) : Bool := Nat.beq (jtyr (jmT x)) (jmR x) && (!(Nat.beq (jmF x) 4) || plainName (jmY x).cls) && (!(Nat.beq (jmF x) 1 || Nat.beq (jmF x) 3) || (Nat.ble 2 (jmC x) && Nat.blt (jmC x) 15))
/-- a constructor answers nothing -/
def jmQi (x : JM) : Bool := true && (!(Nat.beq (jmF x) 2) || Nat.beq (jmR x) 9)
theorem jmp_0 : jmP jm_0 = true := by decide +kernel
theorem jmp_1 : jmP jm_1 = true := by decide +kernel
theorem jmp_2 : jmP jm_2 = true := by decide +kernel
theorem jmp_3 : jmP jm_3 = true := by decide +kernel
theorem jmp_4 : jmP jm_4 = true := by decide +kernel
theorem jmp_8 : jmP jm_8 = true := by decide +kernel
theorem jmp_9 : jmP jm_9 = true := by decide +kernel
theorem jmp_19 : jmP jm_19 = true := by decide +kernel
theorem jmp_23 : jmP jm_23 = true := by decide +kernel
theorem jmp_27 : jmP jm_27 = true := by decide +kernel
theorem jmp_28 : jmP jm_28 = true := by decide +kernel
theorem jmp_37 : jmP jm_37 = true := by decide +kernel
theorem jmp_38 : jmP jm_38 = true := by decide +kernel
theorem jmp_39 : jmP jm_39 = true := by decide +kernel
theorem jmp_40 : jmP jm_40 = true := by decide +kernel
theorem jmp_41 : jmP jm_41 = true := by decide +kernel
theorem jmp_42 : jmP jm_42 = true := by decide +kernel
theorem jmp_50 : jmP jm_50 = true := by decide +kernel
theorem jmp_52 : jmP jm_52 = true := by decide +kernel
theorem jmp_53 : jmP jm_53 = true := by decide +kernel
theorem jmp_57 : jmP jm_57 = true := by decide +kernel
theorem jmp_64 : jmP jm_64 = true := by decide +kernel
theorem jmp_65 : jmP jm_65 = true := by decide +kernel
theorem jmp_80 : jmP jm_80 = true := by decide +kernel
theorem jmp_81 : jmP jm_81 = true := by decide +kernel
theorem jmp_82 : jmP jm_82 = true := by decide +kernel
theorem jmp_83 : jmP jm_83 = true := by decide +kernel
theorem jmp_84 : jmP jm_84 = true := by decide +kernel
theorem jmp_88 : jmP jm_88 = true := by decide +kernel
theorem jmp_90 : jmP jm_90 = true := by decide +kernel
theorem jmp_91 : jmP jm_91 = true := by decide +kernel
theorem jmp_92 : jmP jm_92 = true := by decide +kernel
theorem jmp_93 : jmP jm_93 = true := by decide +kernel
theorem jmp_94 : jmP jm_94 = true := by decide +kernel
theorem jmp_95 : jmP jm_95 = true := by decide +kernel
theorem jmp_96 : jmP jm_96 = true := by decide +kernel
theorem jmp_97 : jmP jm_97 = true := by decide +kernel
theorem jmp_98 : jmP jm_98 = true := by decide +kernel
theorem jmp_115 : jmP jm_115 = true := by decide +kernel
theorem jmp_116 : jmP jm_116 = true := by decide +kernel
theorem jmp_155 : jmP jm_155 = true := by decide +kernel
theorem jmp_156 : jmP jm_156 = true := by decide +kernel
theorem jmp_175 : jmP jm_175 = true := by decide +kernel
theorem jmp_176 : jmP jm_176 = true := by decide +kernel
theorem jmp_177 : jmP jm_177 = true := by decide +kernel
theorem jmp_178 : jmP jm_178 = true := by decide +kernel
theorem jmp_179 : jmP jm_179 = true := by decide +kernel
theorem jmp_180 : jmP jm_180 = true := by decide +kernel
theorem jmp_181 : jmP jm_181 = true := by decide +kernel
theorem jmp_182 : jmP jm_182 = true := by decide +kernel
theorem jmp_183 : jmP jm_183 = true := by decide +kernel
theorem jmp_184 : jmP jm_184 = true := by decide +kernel
theorem jmp_185 : jmP jm_185 = true := by decide +kernel
theorem jmp_188 : jmP jm_188 = true := by decide +kernel
theorem jmp_189 : jmP jm_189 = true := by decide +kernel
theorem jmp_190 : jmP jm_190 = true := by decide +kernel
theorem jmp_191 : jmP jm_191 = true := by decide +kernel
theorem jmp_200 : jmP jm_200 = true := by decide +kernel
theorem jmp_202 : jmP jm_202 = true := by decide +kernel
theorem jmp_203 : jmP jm_203 = true := by decide +kernel
theorem jmp_210 : jmP jm_210 = true := by decide +kernel
theorem jmp_211 : jmP jm_211 = true := by decide +kernel
theorem jmp_212 : jmP jm_212 = true := by decide +kernel
theorem jmp_213 : jmP jm_213 = true := by decide +kernel
theorem jmp_214 : jmP jm_214 = true := by decide +kernel
theorem jmp_216 : jmP jm_216 = true := by decide +kernel
theorem jmp_218 : jmP jm_218 = true := by decide +kernel
theorem jmp_287 : jmP jm_287 = true := by decide +kernel
theorem jmp_288 : jmP jm_288 = true := by decide +kernel
theorem jmp_358 : jmP jm_358 = true := by decide +kernel
theorem jmp_372 : jmP jm_372 = true := by decide +kernel
theorem jmp_378 : jmP jm_378 = true := by decide +kernel
theorem jmp_379 : jmP jm_379 = true := by decide +kernel
theorem jmP_ok (m : Nat) : jmP (jm m) = true := (jcond (P := fun x => jmP x = true) (jcond (P := fun x => jmP x = true) (jcond (P := fun x => jmP x = true) (jcond (P := fun x => jmP x = true) (jcond (P := fun x => jmP x = true) (jcond (P := fun x => jmP x = true) jmp_0 jmp_1) (jcond (P := fun x => jmP x = true) jmp_2 jmp_3)) (jcond (P := fun x => jmP x = true) (jcond (P := fun x => jmP x = true) jmp_4 jmp_8) (jcond (P := fun x => jmP x = true) jmp_9 (jcond (P := fun x => jmP x = true) jmp_19 jmp_23)))) (jcond (P := fun x => jmP x = true) (jcond (P := fun x => jmP x = true) (jcond (P := fun x => jmP x = true) jmp_27 jmp_28) (jcond (P := fun x => jmP x = true) jmp_37 jmp_38)) (jcond (P := fun x => jmP x = true) (jcond (P := fun x => jmP x = true) jmp_39 jmp_40) (jcond (P := fun x => jmP x = true) jmp_41 (jcond (P := fun x => jmP x = true) jmp_42 jmp_50))))) (jcond (P := fun x => jmP x = true) (jcond (P := fun x => jmP x = true) (jcond (P := fun x => jmP x = true) (jcond (P := fun x => jmP x = true) jmp_52 jmp_53) (jcond (P := fun x => jmP x = true) jmp_57 jmp_64)) (jcond (P := fun x => jmP x = true) (jcond (P := fun x => jmP x = true) jmp_65 jmp_80) (jcond (P := fun x => jmP x = true) jmp_81 (jcond (P := fun x => jmP x = true) jmp_82 jmp_83)))) (jcond (P := fun x => jmP x = true) (jcond (P := fun x => jmP x = true) (jcond (P := fun x => jmP x = true) jmp_84 jmp_88) (jcond (P := fun x => jmP x = true) jmp_90 jmp_91)) (jcond (P := fun x => jmP x = true) (jcond (P := fun x => jmP x = true) jmp_92 jmp_93) (jcond (P := fun x => jmP x = true) jmp_94 (jcond (P := fun x => jmP x = true) jmp_95 jmp_96)))))) (jcond (P := fun x => jmP x = true) (jcond (P := fun x => jmP x = true) (jcond (P := fun x => jmP x = true) (jcond (P := fun x => jmP x = true) (jcond (P := fun x => jmP x = true) jmp_97 jmp_98) (jcond (P := fun x => jmP x = true) jmp_115 jmp_116)) (jcond (P := fun x => jmP x = true) (jcond (P := fun x => jmP x = true) jmp_155 jmp_156) (jcond (P := fun x => jmP x = true) jmp_175 (jcond (P := fun x => jmP x = true) jmp_176 jmp_177)))) (jcond (P := fun x => jmP x = true) (jcond (P := fun x => jmP x = true) (jcond (P := fun x => jmP x = true) jmp_178 jmp_179) (jcond (P := fun x => jmP x = true) jmp_180 jmp_181)) (jcond (P := fun x => jmP x = true) (jcond (P := fun x => jmP x = true) jmp_182 jmp_183) (jcond (P := fun x => jmP x = true) jmp_184 (jcond (P := fun x => jmP x = true) jmp_185 jmp_188))))) (jcond (P := fun x => jmP x = true) (jcond (P := fun x => jmP x = true) (jcond (P := fun x => jmP x = true) (jcond (P := fun x => jmP x = true) jmp_189 jmp_190) (jcond (P := fun x => jmP x = true) jmp_191 jmp_200)) (jcond (P := fun x => jmP x = true) (jcond (P := fun x => jmP x = true) jmp_202 jmp_203) (jcond (P := fun x => jmP x = true) jmp_210 (jcond (P := fun x => jmP x = true) jmp_211 jmp_212)))) (jcond (P := fun x => jmP x = true) (jcond (P := fun x => jmP x = true) (jcond (P := fun x => jmP x = true) jmp_213 jmp_214) (jcond (P := fun x => jmP x = true) jmp_216 (jcond (P := fun x => jmP x = true) jmp_218 jmp_287))) (jcond (P := fun x => jmP x = true) (jcond (P := fun x => jmP x = true) jmp_288 jmp_358) (jcond (P := fun x => jmP x = true) jmp_372 (jcond (P := fun x => jmP x = true) jmp_378 jmp_379)))))))
theorem jmq_0 : jmQi jm_0 = true := by decide +kernel
theorem jmq_1 : jmQi jm_1 = true := by decide +kernel
theorem jmq_2 : jmQi jm_2 = true := by decide +kernel
theorem jmq_3 : jmQi jm_3 = true := by decide +kernel
theorem jmq_4 : jmQi jm_4 = true := by decide +kernel
theorem jmq_8 : jmQi jm_8 = true := by decide +kernel
theorem jmq_9 : jmQi jm_9 = true := by decide +kernel
theorem jmq_19 : jmQi jm_19 = true := by decide +kernel
theorem jmq_23 : jmQi jm_23 = true := by decide +kernel
theorem jmq_27 : jmQi jm_27 = true := by decide +kernel
theorem jmq_28 : jmQi jm_28 = true := by decide +kernel
theorem jmq_37 : jmQi jm_37 = true := by decide +kernel
theorem jmq_38 : jmQi jm_38 = true := by decide +kernel
theorem jmq_39 : jmQi jm_39 = true := by decide +kernel
theorem jmq_40 : jmQi jm_40 = true := by decide +kernel
theorem jmq_41 : jmQi jm_41 = true := by decide +kernel
theorem jmq_42 : jmQi jm_42 = true := by decide +kernel
theorem jmq_50 : jmQi jm_50 = true := by decide +kernel
theorem jmq_52 : jmQi jm_52 = true := by decide +kernel
theorem jmq_53 : jmQi jm_53 = true := by decide +kernel
theorem jmq_57 : jmQi jm_57 = true := by decide +kernel
theorem jmq_64 : jmQi jm_64 = true := by decide +kernel
theorem jmq_65 : jmQi jm_65 = true := by decide +kernel
theorem jmq_80 : jmQi jm_80 = true := by decide +kernel
theorem jmq_81 : jmQi jm_81 = true := by decide +kernel
theorem jmq_82 : jmQi jm_82 = true := by decide +kernel
theorem jmq_83 : jmQi jm_83 = true := by decide +kernel
theorem jmq_84 : jmQi jm_84 = true := by decide +kernel
theorem jmq_88 : jmQi jm_88 = true := by decide +kernel
theorem jmq_90 : jmQi jm_90 = true := by decide +kernel
theorem jmq_91 : jmQi jm_91 = true := by decide +kernel
theorem jmq_92 : jmQi jm_92 = true := by decide +kernel
theorem jmq_93 : jmQi jm_93 = true := by decide +kernel
theorem jmq_94 : jmQi jm_94 = true := by decide +kernel
theorem jmq_95 : jmQi jm_95 = true := by decide +kernel
theorem jmq_96 : jmQi jm_96 = true := by decide +kernel
theorem jmq_97 : jmQi jm_97 = true := by decide +kernel
theorem jmq_98 : jmQi jm_98 = true := by decide +kernel
theorem jmq_115 : jmQi jm_115 = true := by decide +kernel
theorem jmq_116 : jmQi jm_116 = true := by decide +kernel
theorem jmq_155 : jmQi jm_155 = true := by decide +kernel
theorem jmq_156 : jmQi jm_156 = true := by decide +kernel
theorem jmq_175 : jmQi jm_175 = true := by decide +kernel
theorem jmq_176 : jmQi jm_176 = true := by decide +kernel
theorem jmq_177 : jmQi jm_177 = true := by decide +kernel
theorem jmq_178 : jmQi jm_178 = true := by decide +kernel
theorem jmq_179 : jmQi jm_179 = true := by decide +kernel
theorem jmq_180 : jmQi jm_180 = true := by decide +kernel
theorem jmq_181 : jmQi jm_181 = true := by decide +kernel
theorem jmq_182 : jmQi jm_182 = true := by decide +kernel
theorem jmq_183 : jmQi jm_183 = true := by decide +kernel
theorem jmq_184 : jmQi jm_184 = true := by decide +kernel
theorem jmq_185 : jmQi jm_185 = true := by decide +kernel
theorem jmq_188 : jmQi jm_188 = true := by decide +kernel
theorem jmq_189 : jmQi jm_189 = true := by decide +kernel
theorem jmq_190 : jmQi jm_190 = true := by decide +kernel
theorem jmq_191 : jmQi jm_191 = true := by decide +kernel
theorem jmq_200 : jmQi jm_200 = true := by decide +kernel
theorem jmq_202 : jmQi jm_202 = true := by decide +kernel
theorem jmq_203 : jmQi jm_203 = true := by decide +kernel
theorem jmq_210 : jmQi jm_210 = true := by decide +kernel
theorem jmq_211 : jmQi jm_211 = true := by decide +kernel
theorem jmq_212 : jmQi jm_212 = true := by decide +kernel
theorem jmq_213 : jmQi jm_213 = true := by decide +kernel
theorem jmq_214 : jmQi jm_214 = true := by decide +kernel
theorem jmq_216 : jmQi jm_216 = true := by decide +kernel
theorem jmq_218 : jmQi jm_218 = true := by decide +kernel
theorem jmq_287 : jmQi jm_287 = true := by decide +kernel
theorem jmq_288 : jmQi jm_288 = true := by decide +kernel
theorem jmq_358 : jmQi jm_358 = true := by decide +kernel
theorem jmq_372 : jmQi jm_372 = true := by decide +kernel
theorem jmq_378 : jmQi jm_378 = true := by decide +kernel
theorem jmq_379 : jmQi jm_379 = true := by decide +kernel
theorem jmI_ok (m : Nat) : jmQi (jm m) = true := (jcond (P := fun x => jmQi x = true) (jcond (P := fun x => jmQi x = true) (jcond (P := fun x => jmQi x = true) (jcond (P := fun x => jmQi x = true) (jcond (P := fun x => jmQi x = true) (jcond (P := fun x => jmQi x = true) jmq_0 jmq_1) (jcond (P := fun x => jmQi x = true) jmq_2 jmq_3)) (jcond (P := fun x => jmQi x = true) (jcond (P := fun x => jmQi x = true) jmq_4 jmq_8) (jcond (P := fun x => jmQi x = true) jmq_9 (jcond (P := fun x => jmQi x = true) jmq_19 jmq_23)))) (jcond (P := fun x => jmQi x = true) (jcond (P := fun x => jmQi x = true) (jcond (P := fun x => jmQi x = true) jmq_27 jmq_28) (jcond (P := fun x => jmQi x = true) jmq_37 jmq_38)) (jcond (P := fun x => jmQi x = true) (jcond (P := fun x => jmQi x = true) jmq_39 jmq_40) (jcond (P := fun x => jmQi x = true) jmq_41 (jcond (P := fun x => jmQi x = true) jmq_42 jmq_50))))) (jcond (P := fun x => jmQi x = true) (jcond (P := fun x => jmQi x = true) (jcond (P := fun x => jmQi x = true) (jcond (P := fun x => jmQi x = true) jmq_52 jmq_53) (jcond (P := fun x => jmQi x = true) jmq_57 jmq_64)) (jcond (P := fun x => jmQi x = true) (jcond (P := fun x => jmQi x = true) jmq_65 jmq_80) (jcond (P := fun x => jmQi x = true) jmq_81 (jcond (P := fun x => jmQi x = true) jmq_82 jmq_83)))) (jcond (P := fun x => jmQi x = true) (jcond (P := fun x => jmQi x = true) (jcond (P := fun x => jmQi x = true) jmq_84 jmq_88) (jcond (P := fun x => jmQi x = true) jmq_90 jmq_91)) (jcond (P := fun x => jmQi x = true) (jcond (P := fun x => jmQi x = true) jmq_92 jmq_93) (jcond (P := fun x => jmQi x = true) jmq_94 (jcond (P := fun x => jmQi x = true) jmq_95 jmq_96)))))) (jcond (P := fun x => jmQi x = true) (jcond (P := fun x => jmQi x = true) (jcond (P := fun x => jmQi x = true) (jcond (P := fun x => jmQi x = true) (jcond (P := fun x => jmQi x = true) jmq_97 jmq_98) (jcond (P := fun x => jmQi x = true) jmq_115 jmq_116)) (jcond (P := fun x => jmQi x = true) (jcond (P := fun x => jmQi x = true) jmq_155 jmq_156) (jcond (P := fun x => jmQi x = true) jmq_175 (jcond (P := fun x => jmQi x = true) jmq_176 jmq_177)))) (jcond (P := fun x => jmQi x = true) (jcond (P := fun x => jmQi x = true) (jcond (P := fun x => jmQi x = true) jmq_178 jmq_179) (jcond (P := fun x => jmQi x = true) jmq_180 jmq_181)) (jcond (P := fun x => jmQi x = true) (jcond (P := fun x => jmQi x = true) jmq_182 jmq_183) (jcond (P := fun x => jmQi x = true) jmq_184 (jcond (P := fun x => jmQi x = true) jmq_185 jmq_188))))) (jcond (P := fun x => jmQi x = true) (jcond (P := fun x => jmQi x = true) (jcond (P := fun x => jmQi x = true) (jcond (P := fun x => jmQi x = true) jmq_189 jmq_190) (jcond (P := fun x => jmQi x = true) jmq_191 jmq_200)) (jcond (P := fun x => jmQi x = true) (jcond (P := fun x => jmQi x = true) jmq_202 jmq_203) (jcond (P := fun x => jmQi x = true) jmq_210 (jcond (P := fun x => jmQi x = true) jmq_211 jmq_212)))) (jcond (P := fun x => jmQi x = true) (jcond (P := fun x => jmQi x = true) (jcond (P := fun x => jmQi x = true) jmq_213 jmq_214) (jcond (P := fun x => jmQi x = true) jmq_216 (jcond (P := fun x => jmQi x = true) jmq_218 jmq_287))) (jcond (P := fun x => jmQi x = true) (jcond (P := fun x => jmQi x = true) jmq_288 jmq_358) (jcond (P := fun x => jmQi x = true) jmq_372 (jcond (P := fun x => jmQi x = true) jmq_378 jmq_379)))))))
theorem jmT_ok (m : Nat) : jtyr (jmT (jm m)) = jmR (jm m) := Nat.eq_of_beq_eq_true (Bool.and_eq_true_iff.mp (Bool.and_eq_true_iff.mp (jmP_ok m)).1).1
theorem jmN_4 {m : Nat} (h : jmF (jm m) = 4) : plainName (jmY (jm m)).cls = true := by
  have h1 := (Bool.and_eq_true_iff.mp (Bool.and_eq_true_iff.mp (jmP_ok m)).1).2
  rw [h] at h1
  exact h1
theorem jmC_v {m : Nat} (h : jmF (jm m) = 1 ∨ jmF (jm m) = 3) : 2 ≤ jmC (jm m) ∧ jmC (jm m) < 15 := by
  have h1 := (Bool.and_eq_true_iff.mp (jmP_ok m)).2
  have h2 : (Nat.ble 2 (jmC (jm m)) && Nat.blt (jmC (jm m)) 15) = true := by
    rcases h with h | h
    · rw [h] at h1; exact h1
    · rw [h] at h1; exact h1
  obtain ⟨q1, q2⟩ := Bool.and_eq_true_iff.mp h2
  exact ⟨Nat.le_of_ble_eq_true q1, Nat.le_of_ble_eq_true q2⟩
theorem jty_9 {t : Option FieldType} (h : jtyr t = 9) : t = none := by
  cases t with
  | none => rfl
  | some t => cases t <;> cases h
theorem jty_0 {t : Option FieldType} (h : jtyr t = 0) : t = some .int := by
  cases t with
  | none => cases h
  | some t => cases t <;> first | rfl | cases h
theorem jty_1 {t : Option FieldType} (h : jtyr t = 1) : t = some .long := by
  cases t with
  | none => cases h
  | some t => cases t <;> first | rfl | cases h
theorem jty_2 {t : Option FieldType} (h : jtyr t = 2) : t = some .float := by
  cases t with
  | none => cases h
  | some t => cases t <;> first | rfl | cases h
theorem jty_3 {t : Option FieldType} (h : jtyr t = 3) : t = some .double := by
  cases t with
  | none => cases h
  | some t => cases t <;> first | rfl | cases h
theorem jty_8 {t : Option FieldType} (h : jtyr t = 8) : t = some .boolean := by
  cases t with
  | none => cases h
  | some t => cases t <;> first | rfl | cases h
theorem jty_4 {t : Option FieldType} (h : jtyr t = 4) : ∃ rt, t = some rt ∧ ((∃ n, rt = .object n) ∨ ∃ u, rt = .array u) := by
  cases t with
  | none => cases h
  | some t =>
    cases t with
    | object n => exact ⟨_, rfl, Or.inl ⟨_, rfl⟩⟩
    | array n => exact ⟨_, rfl, Or.inr ⟨_, rfl⟩⟩
    | _ => cases h
