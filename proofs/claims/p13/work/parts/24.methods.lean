/-! the methods: bytes, instructions, locals, return, name, own class, sort (0 static, 1 virtual, 2 constructor, 3 virtual that may throw, 4 with a table, 5 the law) -/
def jm_0 : JM := (cX0_init, jc_0, 1, none, yX0_init, 2, 2, 0, 9, [])
theorem jmk_0 : jmOk jm_0 := ⟨jk_0, by decide +kernel, (jW (jt_1 (List.mem_of_getElem? (i := 77) (by rfl))) rfl), (jW (jt_1 (List.mem_of_getElem? (i := 5) (by rfl))) rfl), ⟨(jW (jt_1 (List.mem_of_getElem? (i := 76) (by rfl))) rfl), by decide +kernel⟩⟩
def jm_1 : JM := (cX0_start, jc_1, 3, none, yX0_start, 2, 1, 2, 9, [])
theorem jmk_1 : jmOk jm_1 := ⟨jk_1, by decide +kernel, (jW (jt_6 (List.mem_of_getElem? (i := 20) (by rfl))) rfl), (jW (jt_1 (List.mem_of_getElem? (i := 5) (by rfl))) rfl), ⟨(jW (jt_6 (List.mem_of_getElem? (i := 18) (by rfl))) rfl), (jW (jt_6 (List.mem_of_getElem? (i := 19) (by rfl))) rfl)⟩⟩
def jm_2 : JM := (cX0_next, jc_2, 4, (some .long), yX0_next, 2, 1, 0, 1, [])
theorem jmk_2 : jmOk jm_2 := ⟨jk_2, by decide +kernel, (jW (jt_6 (List.mem_of_getElem? (i := 35) (by rfl))) rfl), (jW (jt_1 (List.mem_of_getElem? (i := 5) (by rfl))) rfl), ⟨(jW (jt_6 (List.mem_of_getElem? (i := 33) (by rfl))) rfl), (jW (jt_6 (List.mem_of_getElem? (i := 34) (by rfl))) rfl)⟩⟩
def jm_3 : JM := (cX0_hasEnded, jc_3, 1, (some .boolean), yX0_hasEnded, 2, 1, 0, 8, [])
theorem jmk_3 : jmOk jm_3 := ⟨jk_3, by decide +kernel, (jW (jt_6 (List.mem_of_getElem? (i := 69) (by rfl))) rfl), (jW (jt_1 (List.mem_of_getElem? (i := 5) (by rfl))) rfl), ⟨(jW (jt_6 (List.mem_of_getElem? (i := 67) (by rfl))) rfl), (jW (jt_6 (List.mem_of_getElem? (i := 68) (by rfl))) rfl)⟩⟩
def jm_4 : JM := (cX1_init, jc_4, 2, none, yX1_init, 3, 2, 1, 9, [])
theorem jmk_4 : jmOk jm_4 := ⟨jk_4, by decide +kernel, (jW (jt_1 (List.mem_of_getElem? (i := 48) (by rfl))) rfl), (jW (jt_1 (List.mem_of_getElem? (i := 3) (by rfl))) rfl), ⟨(jW (jt_1 (List.mem_of_getElem? (i := 47) (by rfl))) rfl), by decide +kernel⟩⟩
def jm_8 : JM := (cX2_ofOctaves, jc_8, 5, (some (.object "Tuninghouse$Interval")), yX2_ofOctaves, 4, 0, 2, 4, [])
theorem jmk_8 : jmOk jm_8 := ⟨jk_8, by decide +kernel, (jW (jt_1 (List.mem_of_getElem? (i := 181) (by rfl))) rfl), (jW (jt_1 (List.mem_of_getElem? (i := 11) (by rfl))) rfl), (jW (jt_1 (List.mem_of_getElem? (i := 180) (by rfl))) rfl)⟩
def jm_9 : JM := (cX2_init, jc_9, 4, none, yX2_init, 4, 2, 2, 9, [])
theorem jmk_9 : jmOk jm_9 := ⟨jk_9, by decide +kernel, (jW (jt_1 (List.mem_of_getElem? (i := 186) (by rfl))) rfl), (jW (jt_1 (List.mem_of_getElem? (i := 11) (by rfl))) rfl), ⟨(jW (jt_1 (List.mem_of_getElem? (i := 185) (by rfl))) rfl), by decide +kernel⟩⟩
def jm_19 : JM := (cX3_init, jc_19, 3, none, yX3_init, 5, 2, 2, 9, [])
theorem jmk_19 : jmOk jm_19 := ⟨jk_19, by decide +kernel, (jW (jt_2 (List.mem_of_getElem? (i := 0) (by rfl))) rfl), (jW (jt_1 (List.mem_of_getElem? (i := 13) (by rfl))) rfl), ⟨(jW (jt_1 (List.mem_of_getElem? (i := 239) (by rfl))) rfl), by decide +kernel⟩⟩
def jm_23 : JM := (cX4_init, jc_23, 1, none, yX4_init, 6, 2, 0, 9, [])
theorem jmk_23 : jmOk jm_23 := ⟨jk_23, by decide +kernel, (jW (jt_1 (List.mem_of_getElem? (i := 103) (by rfl))) rfl), (jW (jt_1 (List.mem_of_getElem? (i := 7) (by rfl))) rfl), ⟨(jW (jt_1 (List.mem_of_getElem? (i := 102) (by rfl))) rfl), by decide +kernel⟩⟩
def jm_27 : JM := (cX5_of, jc_27, 4, (some (.object "Tuninghouse$Scale")), yX5_of, 7, 0, 2, 4, [])
theorem jmk_27 : jmOk jm_27 := ⟨jk_27, by decide +kernel, (jW (jt_1 (List.mem_of_getElem? (i := 212) (by rfl))) rfl), (jW (jt_1 (List.mem_of_getElem? (i := 12) (by rfl))) rfl), (jW (jt_1 (List.mem_of_getElem? (i := 211) (by rfl))) rfl)⟩
def jm_28 : JM := (cX5_init, jc_28, 2, none, yX5_init, 7, 2, 1, 9, [])
theorem jmk_28 : jmOk jm_28 := ⟨jk_28, by decide +kernel, (jW (jt_1 (List.mem_of_getElem? (i := 222) (by rfl))) rfl), (jW (jt_1 (List.mem_of_getElem? (i := 12) (by rfl))) rfl), ⟨(jW (jt_1 (List.mem_of_getElem? (i := 221) (by rfl))) rfl), by decide +kernel⟩⟩
def jm_37 : JM := (cX6_init, jc_37, 1, none, yX6_init, 8, 2, 0, 9, [])
theorem jmk_37 : jmOk jm_37 := ⟨jk_37, by decide +kernel, (jW (jt_1 (List.mem_of_getElem? (i := 42) (by rfl))) rfl), (jW (jt_1 (List.mem_of_getElem? (i := 2) (by rfl))) rfl), ⟨(jW (jt_1 (List.mem_of_getElem? (i := 41) (by rfl))) rfl), by decide +kernel⟩⟩
def jm_38 : JM := (cX6_sign, jc_38, 6, (some .int), yX6_sign, 8, 1, 1, 0, [])
theorem jmk_38 : jmOk jm_38 := ⟨jk_38, by decide +kernel, (jW (jt_2 (List.mem_of_getElem? (i := 225) (by rfl))) rfl), (jW (jt_1 (List.mem_of_getElem? (i := 2) (by rfl))) rfl), ⟨(jW (jt_2 (List.mem_of_getElem? (i := 223) (by rfl))) rfl), (jW (jt_2 (List.mem_of_getElem? (i := 224) (by rfl))) rfl)⟩⟩
def jm_39 : JM := (cX6_slackOf, jc_39, 5, (some .long), yX6_slackOf, 8, 1, 1, 1, [])
theorem jmk_39 : jmOk jm_39 := ⟨jk_39, by decide +kernel, (jW (jt_2 (List.mem_of_getElem? (i := 229) (by rfl))) rfl), (jW (jt_1 (List.mem_of_getElem? (i := 2) (by rfl))) rfl), ⟨(jW (jt_2 (List.mem_of_getElem? (i := 228) (by rfl))) rfl), (jW (jt_0 (List.mem_of_getElem? (i := 12) (by rfl))) rfl)⟩⟩
def jm_40 : JM := (cX6_isShort, jc_40, 4, (some .boolean), yX6_isShort, 8, 1, 2, 8, [])
theorem jmk_40 : jmOk jm_40 := ⟨jk_40, by decide +kernel, (jW (jt_2 (List.mem_of_getElem? (i := 239) (by rfl))) rfl), (jW (jt_1 (List.mem_of_getElem? (i := 2) (by rfl))) rfl), ⟨(jW (jt_2 (List.mem_of_getElem? (i := 238) (by rfl))) rfl), (jW (jt_0 (List.mem_of_getElem? (i := 13) (by rfl))) rfl)⟩⟩
def jm_41 : JM := (cX6_nearOf, jc_41, 5, (some .long), yX6_nearOf, 8, 1, 1, 1, [])
theorem jmk_41 : jmOk jm_41 := ⟨jk_41, by decide +kernel, (jW (jt_3 (List.mem_of_getElem? (i := 4) (by rfl))) rfl), (jW (jt_1 (List.mem_of_getElem? (i := 2) (by rfl))) rfl), ⟨(jW (jt_3 (List.mem_of_getElem? (i := 3) (by rfl))) rfl), (jW (jt_0 (List.mem_of_getElem? (i := 14) (by rfl))) rfl)⟩⟩
def jm_42 : JM := (cX6_measure, jc_42, 6, none, yX6_measure, 8, 1, 1, 9, [])
theorem jmk_42 : jmOk jm_42 := ⟨jk_42, by decide +kernel, (jW (jt_3 (List.mem_of_getElem? (i := 10) (by rfl))) rfl), (jW (jt_1 (List.mem_of_getElem? (i := 2) (by rfl))) rfl), ⟨(jW (jt_3 (List.mem_of_getElem? (i := 9) (by rfl))) rfl), (jW (jt_0 (List.mem_of_getElem? (i := 15) (by rfl))) rfl)⟩⟩
def jm_50 : JM := (cX6_putAmount, jc_50, 5, none, yX6_putAmount, 8, 1, 2, 9, [])
theorem jmk_50 : jmOk jm_50 := ⟨jk_50, by decide +kernel, (jW (jt_6 (List.mem_of_getElem? (i := 24) (by rfl))) rfl), (jW (jt_1 (List.mem_of_getElem? (i := 2) (by rfl))) rfl), ⟨(jW (jt_6 (List.mem_of_getElem? (i := 22) (by rfl))) rfl), (jW (jt_6 (List.mem_of_getElem? (i := 23) (by rfl))) rfl)⟩⟩
def jm_52 : JM := (cX7_first, jc_52, 4, (some (.object "Tuninghouse$State")), yX7_first, 9, 0, 0, 4, [])
theorem jmk_52 : jmOk jm_52 := ⟨jk_52, by decide +kernel, (jW (jt_1 (List.mem_of_getElem? (i := 178) (by rfl))) rfl), (jW (jt_1 (List.mem_of_getElem? (i := 10) (by rfl))) rfl), (jW (jt_1 (List.mem_of_getElem? (i := 177) (by rfl))) rfl)⟩
def jm_53 : JM := (cX7_init, jc_53, 6, none, yX7_init, 9, 2, 5, 9, [])
theorem jmk_53 : jmOk jm_53 := ⟨jk_53, by decide +kernel, (jW (jt_2 (List.mem_of_getElem? (i := 11) (by rfl))) rfl), (jW (jt_1 (List.mem_of_getElem? (i := 10) (by rfl))) rfl), ⟨(jW (jt_2 (List.mem_of_getElem? (i := 10) (by rfl))) rfl), by decide +kernel⟩⟩
def jm_57 : JM := (cX7_register, jc_57, 2, (some (.object "Tuninghouse$Interval")), yX7_register, 9, 1, 1, 4, [])
theorem jmk_57 : jmOk jm_57 := ⟨jk_57, by decide +kernel, (jW (jt_3 (List.mem_of_getElem? (i := 102) (by rfl))) rfl), (jW (jt_1 (List.mem_of_getElem? (i := 10) (by rfl))) rfl), ⟨(jW (jt_3 (List.mem_of_getElem? (i := 100) (by rfl))) rfl), (jW (jt_3 (List.mem_of_getElem? (i := 101) (by rfl))) rfl)⟩⟩
def jm_64 : JM := (cX8_init, jc_64, 1, none, yX8_init, 10, 2, 0, 9, [])
theorem jmk_64 : jmOk jm_64 := ⟨jk_64, by decide +kernel, (jW (jt_1 (List.mem_of_getElem? (i := 131) (by rfl))) rfl), (jW (jt_1 (List.mem_of_getElem? (i := 9) (by rfl))) rfl), ⟨(jW (jt_1 (List.mem_of_getElem? (i := 130) (by rfl))) rfl), by decide +kernel⟩⟩
def jm_65 : JM := (cX9_init, jc_65, 2, none, yX9_init, 11, 2, 0, 9, [])
theorem jmk_65 : jmOk jm_65 := ⟨jk_65, by decide +kernel, (jW (jt_1 (List.mem_of_getElem? (i := 124) (by rfl))) rfl), (jW (jt_1 (List.mem_of_getElem? (i := 8) (by rfl))) rfl), ⟨(jW (jt_1 (List.mem_of_getElem? (i := 123) (by rfl))) rfl), by decide +kernel⟩⟩
def jm_80 : JM := (cX10_init, jc_80, 1, none, yX10_init, 12, 2, 0, 9, [])
theorem jmk_80 : jmOk jm_80 := ⟨jk_80, by decide +kernel, (jW (jt_1 (List.mem_of_getElem? (i := 83) (by rfl))) rfl), (jW (jt_1 (List.mem_of_getElem? (i := 6) (by rfl))) rfl), ⟨(jW (jt_1 (List.mem_of_getElem? (i := 82) (by rfl))) rfl), by decide +kernel⟩⟩
def jm_81 : JM := (cX10_become, jc_81, 5, none, yX10_become, 12, 1, 1, 9, [])
theorem jmk_81 : jmOk jm_81 := ⟨jk_81, by decide +kernel, (jW (jt_5 (List.mem_of_getElem? (i := 120) (by rfl))) rfl), (jW (jt_1 (List.mem_of_getElem? (i := 6) (by rfl))) rfl), ⟨(jW (jt_5 (List.mem_of_getElem? (i := 118) (by rfl))) rfl), (jW (jt_5 (List.mem_of_getElem? (i := 119) (by rfl))) rfl)⟩⟩
def jm_82 : JM := (cX10_multiply, jc_82, 5, none, yX10_multiply, 12, 1, 1, 9, [])
theorem jmk_82 : jmOk jm_82 := ⟨jk_82, by decide +kernel, (jW (jt_5 (List.mem_of_getElem? (i := 126) (by rfl))) rfl), (jW (jt_1 (List.mem_of_getElem? (i := 6) (by rfl))) rfl), ⟨(jW (jt_5 (List.mem_of_getElem? (i := 124) (by rfl))) rfl), (jW (jt_5 (List.mem_of_getElem? (i := 125) (by rfl))) rfl)⟩⟩
def jm_83 : JM := (cX10_trim, jc_83, 1, none, yX10_trim, 12, 1, 0, 9, [])
theorem jmk_83 : jmOk jm_83 := ⟨jk_83, by decide +kernel, (jW (jt_5 (List.mem_of_getElem? (i := 130) (by rfl))) rfl), (jW (jt_1 (List.mem_of_getElem? (i := 6) (by rfl))) rfl), ⟨(jW (jt_5 (List.mem_of_getElem? (i := 129) (by rfl))) rfl), (jW (jt_0 (List.mem_of_getElem? (i := 30) (by rfl))) rfl)⟩⟩
def jm_84 : JM := (cX10_order, jc_84, 3, (some .int), yX10_order, 12, 1, 1, 0, [])
theorem jmk_84 : jmOk jm_84 := ⟨jk_84, by decide +kernel, (jW (jt_5 (List.mem_of_getElem? (i := 134) (by rfl))) rfl), (jW (jt_1 (List.mem_of_getElem? (i := 6) (by rfl))) rfl), ⟨(jW (jt_5 (List.mem_of_getElem? (i := 132) (by rfl))) rfl), (jW (jt_5 (List.mem_of_getElem? (i := 133) (by rfl))) rfl)⟩⟩
def jm_88 : JM := (cX10_binaryDigits, jc_88, 3, (some .int), yX10_binaryDigits, 12, 1, 0, 0, [])
theorem jmk_88 : jmOk jm_88 := ⟨jk_88, by decide +kernel, (jW (jt_5 (List.mem_of_getElem? (i := 160) (by rfl))) rfl), (jW (jt_1 (List.mem_of_getElem? (i := 6) (by rfl))) rfl), ⟨(jW (jt_5 (List.mem_of_getElem? (i := 158) (by rfl))) rfl), (jW (jt_5 (List.mem_of_getElem? (i := 159) (by rfl))) rfl)⟩⟩
def jm_90 : JM := (cX10_shift, jc_90, 4, none, yX10_shift, 12, 1, 2, 9, [])
theorem jmk_90 : jmOk jm_90 := ⟨jk_90, by decide +kernel, (jW (jt_6 (List.mem_of_getElem? (i := 29) (by rfl))) rfl), (jW (jt_1 (List.mem_of_getElem? (i := 6) (by rfl))) rfl), ⟨(jW (jt_6 (List.mem_of_getElem? (i := 27) (by rfl))) rfl), (jW (jt_6 (List.mem_of_getElem? (i := 28) (by rfl))) rfl)⟩⟩
def jm_91 : JM := (cX10_leave, jc_91, 8, (some .long), yX10_leave, 12, 1, 2, 1, [])
theorem jmk_91 : jmOk jm_91 := ⟨jk_91, by decide +kernel, (jW (jt_6 (List.mem_of_getElem? (i := 40) (by rfl))) rfl), (jW (jt_1 (List.mem_of_getElem? (i := 6) (by rfl))) rfl), ⟨(jW (jt_6 (List.mem_of_getElem? (i := 38) (by rfl))) rfl), (jW (jt_6 (List.mem_of_getElem? (i := 39) (by rfl))) rfl)⟩⟩
def jm_92 : JM := (cX10_isZero, jc_92, 1, (some .boolean), yX10_isZero, 12, 1, 0, 8, [])
theorem jmk_92 : jmOk jm_92 := ⟨jk_92, by decide +kernel, (jW (jt_6 (List.mem_of_getElem? (i := 45) (by rfl))) rfl), (jW (jt_1 (List.mem_of_getElem? (i := 6) (by rfl))) rfl), ⟨(jW (jt_6 (List.mem_of_getElem? (i := 43) (by rfl))) rfl), (jW (jt_6 (List.mem_of_getElem? (i := 44) (by rfl))) rfl)⟩⟩
def jm_93 : JM := (cX10_shiftBits, jc_93, 2, none, yX10_shiftBits, 12, 1, 1, 9, [])
theorem jmk_93 : jmOk jm_93 := ⟨jk_93, by decide +kernel, (jW (jt_6 (List.mem_of_getElem? (i := 49) (by rfl))) rfl), (jW (jt_1 (List.mem_of_getElem? (i := 6) (by rfl))) rfl), ⟨(jW (jt_6 (List.mem_of_getElem? (i := 48) (by rfl))) rfl), (jW (jt_0 (List.mem_of_getElem? (i := 34) (by rfl))) rfl)⟩⟩
def jm_94 : JM := (cX10_becomeDifference, jc_94, 11, none, yX10_becomeDifference, 12, 1, 1, 9, [])
theorem jmk_94 : jmOk jm_94 := ⟨jk_94, by decide +kernel, (jW (jt_6 (List.mem_of_getElem? (i := 60) (by rfl))) rfl), (jW (jt_1 (List.mem_of_getElem? (i := 6) (by rfl))) rfl), ⟨(jW (jt_6 (List.mem_of_getElem? (i := 58) (by rfl))) rfl), (jW (jt_6 (List.mem_of_getElem? (i := 59) (by rfl))) rfl)⟩⟩
def jm_95 : JM := (cX10_halve, jc_95, 4, none, yX10_halve, 12, 1, 0, 9, [])
theorem jmk_95 : jmOk jm_95 := ⟨jk_95, by decide +kernel, (jW (jt_6 (List.mem_of_getElem? (i := 65) (by rfl))) rfl), (jW (jt_1 (List.mem_of_getElem? (i := 6) (by rfl))) rfl), ⟨(jW (jt_6 (List.mem_of_getElem? (i := 64) (by rfl))) rfl), (jW (jt_0 (List.mem_of_getElem? (i := 35) (by rfl))) rfl)⟩⟩
def jm_96 : JM := (cX11_init, jc_96, 1, none, yX11_init, 13, 2, 0, 9, [])
theorem jmk_96 : jmOk jm_96 := ⟨jk_96, by decide +kernel, (jW (jt_1 (List.mem_of_getElem? (i := 34) (by rfl))) rfl), (jW (jt_1 (List.mem_of_getElem? (i := 1) (by rfl))) rfl), ⟨(jW (jt_1 (List.mem_of_getElem? (i := 33) (by rfl))) rfl), by decide +kernel⟩⟩
def jm_97 : JM := (cX11_reduce, jc_97, 6, (some .long), yX11_reduce, 13, 0, 2, 1, [])
theorem jmk_97 : jmOk jm_97 := ⟨jk_97, by decide +kernel, (jW (jt_1 (List.mem_of_getElem? (i := 190) (by rfl))) rfl), (jW (jt_1 (List.mem_of_getElem? (i := 1) (by rfl))) rfl), (jW (jt_1 (List.mem_of_getElem? (i := 189) (by rfl))) rfl)⟩
def jm_98 : JM := (cX11_divisorOf, jc_98, 11, (some .long), yX11_divisorOf, 13, 0, 2, 1, [])
theorem jmk_98 : jmOk jm_98 := ⟨jk_98, by decide +kernel, (jW (jt_1 (List.mem_of_getElem? (i := 193) (by rfl))) rfl), (jW (jt_1 (List.mem_of_getElem? (i := 1) (by rfl))) rfl), (jW (jt_1 (List.mem_of_getElem? (i := 192) (by rfl))) rfl)⟩
def jm_115 : JM := (cX11_needIndex, jc_115, 3, none, yX11_needIndex, 13, 3, 2, 9, [])
theorem jmk_115 : jmOk jm_115 := ⟨jk_115, by decide +kernel, (jW (jt_3 (List.mem_of_getElem? (i := 227) (by rfl))) rfl), (jW (jt_1 (List.mem_of_getElem? (i := 1) (by rfl))) rfl), ⟨(jW (jt_3 (List.mem_of_getElem? (i := 226) (by rfl))) rfl), (jW (jt_0 (List.mem_of_getElem? (i := 22) (by rfl))) rfl)⟩⟩
def jm_116 : JM := (cX11_needRange, jc_116, 4, none, yX11_needRange, 13, 3, 3, 9, [])
theorem jmk_116 : jmOk jm_116 := ⟨jk_116, by decide +kernel, (jW (jt_4 (List.mem_of_getElem? (i := 5) (by rfl))) rfl), (jW (jt_1 (List.mem_of_getElem? (i := 1) (by rfl))) rfl), ⟨(jW (jt_4 (List.mem_of_getElem? (i := 4) (by rfl))) rfl), (jW (jt_0 (List.mem_of_getElem? (i := 23) (by rfl))) rfl)⟩⟩
def jm_155 : JM := (cX11_nearest, jc_155, 6, (some .int), yX11_nearest, 13, 3, 3, 0, [])
theorem jmk_155 : jmOk jm_155 := ⟨jk_155, by decide +kernel, (jW (jt_6 (List.mem_of_getElem? (i := 11) (by rfl))) rfl), (jW (jt_1 (List.mem_of_getElem? (i := 1) (by rfl))) rfl), ⟨(jW (jt_6 (List.mem_of_getElem? (i := 9) (by rfl))) rfl), (jW (jt_6 (List.mem_of_getElem? (i := 10) (by rfl))) rfl)⟩⟩
def jm_156 : JM := (cX11_nearestMiss, jc_156, 14, (some .long), yX11_nearestMiss, 13, 1, 3, 1, [])
theorem jmk_156 : jmOk jm_156 := ⟨jk_156, by decide +kernel, (jW (jt_6 (List.mem_of_getElem? (i := 16) (by rfl))) rfl), (jW (jt_1 (List.mem_of_getElem? (i := 1) (by rfl))) rfl), ⟨(jW (jt_6 (List.mem_of_getElem? (i := 15) (by rfl))) rfl), (jW (jt_0 (List.mem_of_getElem? (i := 33) (by rfl))) rfl)⟩⟩
def jm_175 : JM := (cX12_init, jc_175, 2, none, yX12_init, 14, 2, 0, 9, [])
theorem jmk_175 : jmOk jm_175 := ⟨jk_175, by decide +kernel, (jW (jt_7 (List.mem_of_getElem? (i := 19) (by rfl))) rfl), (jW (jt_1 (List.mem_of_getElem? (i := 14) (by rfl))) rfl), ⟨(jW (jt_7 (List.mem_of_getElem? (i := 18) (by rfl))) rfl), by decide +kernel⟩⟩
def jm_176 : JM := (cX12_atanh, jc_176, 6, (some (.array .int)), yX12_atanh, 14, 0, 2, 4, [])
theorem jmk_176 : jmOk jm_176 := ⟨jk_176, by decide +kernel, (jW (jt_7 (List.mem_of_getElem? (i := 26) (by rfl))) rfl), (jW (jt_1 (List.mem_of_getElem? (i := 14) (by rfl))) rfl), (jW (jt_7 (List.mem_of_getElem? (i := 25) (by rfl))) rfl)⟩
def jm_177 : JM := (cX12_trims, jc_177, 2, none, yX12_trims, 14, 0, 2, 9, [])
theorem jmk_177 : jmOk jm_177 := ⟨jk_177, by decide +kernel, (jW (jt_7 (List.mem_of_getElem? (i := 29) (by rfl))) rfl), (jW (jt_1 (List.mem_of_getElem? (i := 14) (by rfl))) rfl), (jW (jt_7 (List.mem_of_getElem? (i := 28) (by rfl))) rfl)⟩
def jm_178 : JM := (cX12_big, jc_178, 5, (some (.array .int)), yX12_big, 14, 0, 1, 4, [])
theorem jmk_178 : jmOk jm_178 := ⟨jk_178, by decide +kernel, (jW (jt_7 (List.mem_of_getElem? (i := 32) (by rfl))) rfl), (jW (jt_1 (List.mem_of_getElem? (i := 14) (by rfl))) rfl), (jW (jt_7 (List.mem_of_getElem? (i := 31) (by rfl))) rfl)⟩
def jm_179 : JM := (cX12_product, jc_179, 9, (some (.array .int)), yX12_product, 14, 0, 2, 4, [])
theorem jmk_179 : jmOk jm_179 := ⟨jk_179, by decide +kernel, (jW (jt_7 (List.mem_of_getElem? (i := 40) (by rfl))) rfl), (jW (jt_1 (List.mem_of_getElem? (i := 14) (by rfl))) rfl), (jW (jt_7 (List.mem_of_getElem? (i := 39) (by rfl))) rfl)⟩
def jm_180 : JM := (cX12_divided, jc_180, 8, (some (.array .int)), yX12_divided, 14, 0, 2, 4, [])
theorem jmk_180 : jmOk jm_180 := ⟨jk_180, by decide +kernel, (jW (jt_7 (List.mem_of_getElem? (i := 43) (by rfl))) rfl), (jW (jt_1 (List.mem_of_getElem? (i := 14) (by rfl))) rfl), (jW (jt_7 (List.mem_of_getElem? (i := 42) (by rfl))) rfl)⟩
def jm_181 : JM := (cX12_added, jc_181, 10, (some (.array .int)), yX12_added, 14, 0, 2, 4, [])
theorem jmk_181 : jmOk jm_181 := ⟨jk_181, by decide +kernel, (jW (jt_7 (List.mem_of_getElem? (i := 46) (by rfl))) rfl), (jW (jt_1 (List.mem_of_getElem? (i := 14) (by rfl))) rfl), (jW (jt_7 (List.mem_of_getElem? (i := 45) (by rfl))) rfl)⟩
def jm_182 : JM := (cX12_comparesAmounts, jc_182, 3, (some .int), yX12_comparesAmounts, 14, 0, 2, 0, [])
theorem jmk_182 : jmOk jm_182 := ⟨jk_182, by decide +kernel, (jW (jt_7 (List.mem_of_getElem? (i := 49) (by rfl))) rfl), (jW (jt_1 (List.mem_of_getElem? (i := 14) (by rfl))) rfl), (jW (jt_7 (List.mem_of_getElem? (i := 48) (by rfl))) rfl)⟩
def jm_183 : JM := (cX12_doubled, jc_183, 1, (some (.array .int)), yX12_doubled, 14, 0, 1, 4, [])
theorem jmk_183 : jmOk jm_183 := ⟨jk_183, by decide +kernel, (jW (jt_7 (List.mem_of_getElem? (i := 53) (by rfl))) rfl), (jW (jt_1 (List.mem_of_getElem? (i := 14) (by rfl))) rfl), (jW (jt_7 (List.mem_of_getElem? (i := 52) (by rfl))) rfl)⟩
def jm_184 : JM := (cX12_negative, jc_184, 2, (some (.array .int)), yX12_negative, 14, 0, 1, 4, [])
theorem jmk_184 : jmOk jm_184 := ⟨jk_184, by decide +kernel, (jW (jt_7 (List.mem_of_getElem? (i := 56) (by rfl))) rfl), (jW (jt_1 (List.mem_of_getElem? (i := 14) (by rfl))) rfl), (jW (jt_7 (List.mem_of_getElem? (i := 55) (by rfl))) rfl)⟩
def jm_185 : JM := (cX12_copied, jc_185, 2, (some (.array .int)), yX12_copied, 14, 0, 1, 4, [])
theorem jmk_185 : jmOk jm_185 := ⟨jk_185, by decide +kernel, (jW (jt_7 (List.mem_of_getElem? (i := 59) (by rfl))) rfl), (jW (jt_1 (List.mem_of_getElem? (i := 14) (by rfl))) rfl), (jW (jt_7 (List.mem_of_getElem? (i := 58) (by rfl))) rfl)⟩
def jm_188 : JM := (cX12_isRegister, jc_188, 1, (some .boolean), yX12_isRegister, 14, 0, 1, 8, [])
theorem jmk_188 : jmOk jm_188 := ⟨jk_188, by decide +kernel, (jW (jt_7 (List.mem_of_getElem? (i := 156) (by rfl))) rfl), (jW (jt_1 (List.mem_of_getElem? (i := 14) (by rfl))) rfl), (jW (jt_7 (List.mem_of_getElem? (i := 155) (by rfl))) rfl)⟩
def jm_189 : JM := (cX12_in, jc_189, 6, (some .boolean), yX12_in, 14, 0, 3, 8, [])
theorem jmk_189 : jmOk jm_189 := ⟨jk_189, by decide +kernel, (jW (jt_7 (List.mem_of_getElem? (i := 160) (by rfl))) rfl), (jW (jt_1 (List.mem_of_getElem? (i := 14) (by rfl))) rfl), (jW (jt_7 (List.mem_of_getElem? (i := 159) (by rfl))) rfl)⟩
def jm_190 : JM := (cX12_lacks, jc_190, 2, (some .boolean), yX12_lacks, 14, 1, 1, 8, [])
theorem jmk_190 : jmOk jm_190 := ⟨jk_190, by decide +kernel, (jW (jt_7 (List.mem_of_getElem? (i := 164) (by rfl))) rfl), (jW (jt_1 (List.mem_of_getElem? (i := 14) (by rfl))) rfl), ⟨(jW (jt_7 (List.mem_of_getElem? (i := 163) (by rfl))) rfl), (jW (jt_0 (List.mem_of_getElem? (i := 42) (by rfl))) rfl)⟩⟩
def jm_191 : JM := (cX12_no, jc_191, 3, (some .boolean), yX12_no, 14, 1, 2, 8, [])
theorem jmk_191 : jmOk jm_191 := ⟨jk_191, by decide +kernel, (jW (jt_7 (List.mem_of_getElem? (i := 168) (by rfl))) rfl), (jW (jt_1 (List.mem_of_getElem? (i := 14) (by rfl))) rfl), ⟨(jW (jt_7 (List.mem_of_getElem? (i := 167) (by rfl))) rfl), (jW (jt_0 (List.mem_of_getElem? (i := 43) (by rfl))) rfl)⟩⟩
def jm_200 : JM := (cX12_isNothing, jc_200, 2, (some .boolean), yX12_isNothing, 14, 0, 1, 8, [])
theorem jmk_200 : jmOk jm_200 := ⟨jk_200, by decide +kernel, (jW (jt_7 (List.mem_of_getElem? (i := 208) (by rfl))) rfl), (jW (jt_1 (List.mem_of_getElem? (i := 14) (by rfl))) rfl), (jW (jt_7 (List.mem_of_getElem? (i := 207) (by rfl))) rfl)⟩
def jm_202 : JM := (cX12_takes_, jc_202, 2, none, yX12_takes_, 14, 1, 1, 9, [])
theorem jmk_202 : jmOk jm_202 := ⟨jk_202, by decide +kernel, (jW (jt_7 (List.mem_of_getElem? (i := 216) (by rfl))) rfl), (jW (jt_1 (List.mem_of_getElem? (i := 14) (by rfl))) rfl), ⟨(jW (jt_7 (List.mem_of_getElem? (i := 215) (by rfl))) rfl), (jW (jt_0 (List.mem_of_getElem? (i := 50) (by rfl))) rfl)⟩⟩
def jm_203 : JM := (cX12_takes, jc_203, 4, none, yX12_takes, 14, 1, 2, 9, [])
theorem jmk_203 : jmOk jm_203 := ⟨jk_203, by decide +kernel, (jW (jt_7 (List.mem_of_getElem? (i := 220) (by rfl))) rfl), (jW (jt_1 (List.mem_of_getElem? (i := 14) (by rfl))) rfl), ⟨(jW (jt_7 (List.mem_of_getElem? (i := 219) (by rfl))) rfl), (jW (jt_0 (List.mem_of_getElem? (i := 51) (by rfl))) rfl)⟩⟩
def jm_210 : JM := (cX12_piecesOf, jc_210, 6, (some .long), yX12_piecesOf, 14, 1, 2, 1, [])
theorem jmk_210 : jmOk jm_210 := ⟨jk_210, by decide +kernel, (jW (jt_8 (List.mem_of_getElem? (i := 14) (by rfl))) rfl), (jW (jt_1 (List.mem_of_getElem? (i := 14) (by rfl))) rfl), ⟨(jW (jt_8 (List.mem_of_getElem? (i := 13) (by rfl))) rfl), (jW (jt_0 (List.mem_of_getElem? (i := 56) (by rfl))) rfl)⟩⟩
def jm_211 : JM := (cX12_roughly, jc_211, 1, (some .double), yX12_roughly, 14, 0, 1, 3, [])
theorem jmk_211 : jmOk jm_211 := ⟨jk_211, by decide +kernel, (jW (jt_8 (List.mem_of_getElem? (i := 17) (by rfl))) rfl), (jW (jt_1 (List.mem_of_getElem? (i := 14) (by rfl))) rfl), (jW (jt_8 (List.mem_of_getElem? (i := 16) (by rfl))) rfl)⟩
def jm_212 : JM := (cX12_signWithout, jc_212, 5, (some .int), yX12_signWithout, 14, 1, 2, 0, [])
theorem jmk_212 : jmOk jm_212 := ⟨jk_212, by decide +kernel, (jW (jt_8 (List.mem_of_getElem? (i := 26) (by rfl))) rfl), (jW (jt_1 (List.mem_of_getElem? (i := 14) (by rfl))) rfl), ⟨(jW (jt_8 (List.mem_of_getElem? (i := 25) (by rfl))) rfl), (jW (jt_0 (List.mem_of_getElem? (i := 57) (by rfl))) rfl)⟩⟩
def jm_213 : JM := (cX12_signOf, jc_213, 2, (some .int), yX12_signOf, 14, 1, 1, 0, [])
theorem jmk_213 : jmOk jm_213 := ⟨jk_213, by decide +kernel, (jW (jt_8 (List.mem_of_getElem? (i := 30) (by rfl))) rfl), (jW (jt_1 (List.mem_of_getElem? (i := 14) (by rfl))) rfl), ⟨(jW (jt_8 (List.mem_of_getElem? (i := 29) (by rfl))) rfl), (jW (jt_0 (List.mem_of_getElem? (i := 58) (by rfl))) rfl)⟩⟩
def jm_214 : JM := (cX12_logarithmOf_, jc_214, 4, (some (.array .int)), yX12_logarithmOf_, 14, 1, 1, 4, [])
theorem jmk_214 : jmOk jm_214 := ⟨jk_214, by decide +kernel, (jW (jt_8 (List.mem_of_getElem? (i := 34) (by rfl))) rfl), (jW (jt_1 (List.mem_of_getElem? (i := 14) (by rfl))) rfl), ⟨(jW (jt_8 (List.mem_of_getElem? (i := 33) (by rfl))) rfl), (jW (jt_0 (List.mem_of_getElem? (i := 59) (by rfl))) rfl)⟩⟩
def jm_216 : JM := (cX12_nearestOf, jc_216, 6, (some .long), yX12_nearestOf, 14, 1, 2, 1, [])
theorem jmk_216 : jmOk jm_216 := ⟨jk_216, by decide +kernel, (jW (jt_8 (List.mem_of_getElem? (i := 43) (by rfl))) rfl), (jW (jt_1 (List.mem_of_getElem? (i := 14) (by rfl))) rfl), ⟨(jW (jt_8 (List.mem_of_getElem? (i := 42) (by rfl))) rfl), (jW (jt_0 (List.mem_of_getElem? (i := 60) (by rfl))) rfl)⟩⟩
def jm_218 : JM := (cX12_timesOf, jc_218, 5, (some (.array .long)), yX12_timesOf, 14, 1, 1, 4, [])
theorem jmk_218 : jmOk jm_218 := ⟨jk_218, by decide +kernel, (jW (jt_8 (List.mem_of_getElem? (i := 52) (by rfl))) rfl), (jW (jt_1 (List.mem_of_getElem? (i := 14) (by rfl))) rfl), ⟨(jW (jt_8 (List.mem_of_getElem? (i := 51) (by rfl))) rfl), (jW (jt_0 (List.mem_of_getElem? (i := 61) (by rfl))) rfl)⟩⟩
def jm_287 : JM := (cX12_nearest, jc_287, 8, (some .int), yX12_nearest, 14, 1, 3, 0, [])
theorem jmk_287 : jmOk jm_287 := ⟨jk_287, by decide +kernel, (jW (jt_9 (List.mem_of_getElem? (i := 109) (by rfl))) rfl), (jW (jt_1 (List.mem_of_getElem? (i := 14) (by rfl))) rfl), ⟨(jW (jt_9 (List.mem_of_getElem? (i := 107) (by rfl))) rfl), (jW (jt_9 (List.mem_of_getElem? (i := 108) (by rfl))) rfl)⟩⟩
def jm_288 : JM := (cX12_comparesAmounts_, jc_288, 9, (some .int), yX12_comparesAmounts_, 14, 1, 2, 0, [])
theorem jmk_288 : jmOk jm_288 := ⟨jk_288, by decide +kernel, (jW (jt_9 (List.mem_of_getElem? (i := 114) (by rfl))) rfl), (jW (jt_1 (List.mem_of_getElem? (i := 14) (by rfl))) rfl), ⟨(jW (jt_9 (List.mem_of_getElem? (i := 113) (by rfl))) rfl), (jW (jt_0 (List.mem_of_getElem? (i := 94) (by rfl))) rfl)⟩⟩
def jm_358 : JM := (cL_nearest, jc_358, 6, (some .int), yL_nearest, 15, 4, 5, 0, [(0, 12, 15, 13), (0, 12, 19, 15), (0, 12, 23, 128)])
theorem jmk_358 : jmOk jm_358 := ⟨jk_358, by decide +kernel, (jW (jt_6 (List.mem_of_getElem? (i := 6) (by rfl))) rfl), (jW (jt_1 (List.mem_of_getElem? (i := 0) (by rfl))) rfl), (jW (jt_6 (List.mem_of_getElem? (i := 5) (by rfl))) rfl)⟩
def jm_372 : JM := (cJ13_compare_74951, jc_372, 4, (some .int), yJ13_compare_74951, 17, 0, 2, 0, [])
theorem jmk_372 : jmOk jm_372 := ⟨jk_372, by decide +kernel, (jW (jt_2 (List.mem_of_getElem? (i := 235) (by rfl))) rfl), (jW (jt_1 (List.mem_of_getElem? (i := 15) (by rfl))) rfl), (jW (jt_2 (List.mem_of_getElem? (i := 234) (by rfl))) rfl)⟩
def jm_378 : JM := (cJ13_signum_95d88, jc_378, 2, (some .int), yJ13_signum_95d88, 17, 0, 1, 0, [])
theorem jmk_378 : jmOk jm_378 := ⟨jk_378, by decide +kernel, (jW (jt_7 (List.mem_of_getElem? (i := 35) (by rfl))) rfl), (jW (jt_1 (List.mem_of_getElem? (i := 15) (by rfl))) rfl), (jW (jt_7 (List.mem_of_getElem? (i := 34) (by rfl))) rfl)⟩
def jm_379 : JM := (cL_law, jc_379, 10, (some .boolean), ⟨RL, "law", "([I)Z"⟩, 15, 5, 1, 8, [])
theorem jmk_379 : jmOk jm_379 := ⟨jk_379, by decide +kernel⟩
def jm (m : Nat) : JM := (cond (Nat.blt m 97) (cond (Nat.blt m 52) (cond (Nat.blt m 27) (cond (Nat.blt m 4) (cond (Nat.blt m 2) (cond (Nat.blt m 1) jm_0 jm_1) (cond (Nat.blt m 3) jm_2 jm_3)) (cond (Nat.blt m 9) (cond (Nat.blt m 8) jm_4 jm_8) (cond (Nat.blt m 19) jm_9 (cond (Nat.blt m 23) jm_19 jm_23)))) (cond (Nat.blt m 39) (cond (Nat.blt m 37) (cond (Nat.blt m 28) jm_27 jm_28) (cond (Nat.blt m 38) jm_37 jm_38)) (cond (Nat.blt m 41) (cond (Nat.blt m 40) jm_39 jm_40) (cond (Nat.blt m 42) jm_41 (cond (Nat.blt m 50) jm_42 jm_50))))) (cond (Nat.blt m 84) (cond (Nat.blt m 65) (cond (Nat.blt m 57) (cond (Nat.blt m 53) jm_52 jm_53) (cond (Nat.blt m 64) jm_57 jm_64)) (cond (Nat.blt m 81) (cond (Nat.blt m 80) jm_65 jm_80) (cond (Nat.blt m 82) jm_81 (cond (Nat.blt m 83) jm_82 jm_83)))) (cond (Nat.blt m 92) (cond (Nat.blt m 90) (cond (Nat.blt m 88) jm_84 jm_88) (cond (Nat.blt m 91) jm_90 jm_91)) (cond (Nat.blt m 94) (cond (Nat.blt m 93) jm_92 jm_93) (cond (Nat.blt m 95) jm_94 (cond (Nat.blt m 96) jm_95 jm_96)))))) (cond (Nat.blt m 189) (cond (Nat.blt m 178) (cond (Nat.blt m 155) (cond (Nat.blt m 115) (cond (Nat.blt m 98) jm_97 jm_98) (cond (Nat.blt m 116) jm_115 jm_116)) (cond (Nat.blt m 175) (cond (Nat.blt m 156) jm_155 jm_156) (cond (Nat.blt m 176) jm_175 (cond (Nat.blt m 177) jm_176 jm_177)))) (cond (Nat.blt m 182) (cond (Nat.blt m 180) (cond (Nat.blt m 179) jm_178 jm_179) (cond (Nat.blt m 181) jm_180 jm_181)) (cond (Nat.blt m 184) (cond (Nat.blt m 183) jm_182 jm_183) (cond (Nat.blt m 185) jm_184 (cond (Nat.blt m 188) jm_185 jm_188))))) (cond (Nat.blt m 213) (cond (Nat.blt m 202) (cond (Nat.blt m 191) (cond (Nat.blt m 190) jm_189 jm_190) (cond (Nat.blt m 200) jm_191 jm_200)) (cond (Nat.blt m 210) (cond (Nat.blt m 203) jm_202 jm_203) (cond (Nat.blt m 211) jm_210 (cond (Nat.blt m 212) jm_211 jm_212)))) (cond (Nat.blt m 288) (cond (Nat.blt m 216) (cond (Nat.blt m 214) jm_213 jm_214) (cond (Nat.blt m 218) jm_216 (cond (Nat.blt m 287) jm_218 jm_287))) (cond (Nat.blt m 372) (cond (Nat.blt m 358) jm_288 jm_358) (cond (Nat.blt m 378) jm_372 (cond (Nat.blt m 379) jm_378 jm_379)))))))
theorem jm_ok (m : Nat) : jmOk (jm m) := (jcond (jcond (jcond (jcond (jcond (jcond jmk_0 jmk_1) (jcond jmk_2 jmk_3)) (jcond (jcond jmk_4 jmk_8) (jcond jmk_9 (jcond jmk_19 jmk_23)))) (jcond (jcond (jcond jmk_27 jmk_28) (jcond jmk_37 jmk_38)) (jcond (jcond jmk_39 jmk_40) (jcond jmk_41 (jcond jmk_42 jmk_50))))) (jcond (jcond (jcond (jcond jmk_52 jmk_53) (jcond jmk_57 jmk_64)) (jcond (jcond jmk_65 jmk_80) (jcond jmk_81 (jcond jmk_82 jmk_83)))) (jcond (jcond (jcond jmk_84 jmk_88) (jcond jmk_90 jmk_91)) (jcond (jcond jmk_92 jmk_93) (jcond jmk_94 (jcond jmk_95 jmk_96)))))) (jcond (jcond (jcond (jcond (jcond jmk_97 jmk_98) (jcond jmk_115 jmk_116)) (jcond (jcond jmk_155 jmk_156) (jcond jmk_175 (jcond jmk_176 jmk_177)))) (jcond (jcond (jcond jmk_178 jmk_179) (jcond jmk_180 jmk_181)) (jcond (jcond jmk_182 jmk_183) (jcond jmk_184 (jcond jmk_185 jmk_188))))) (jcond (jcond (jcond (jcond jmk_189 jmk_190) (jcond jmk_191 jmk_200)) (jcond (jcond jmk_202 jmk_203) (jcond jmk_210 (jcond jmk_211 jmk_212)))) (jcond (jcond (jcond jmk_213 jmk_214) (jcond jmk_216 (jcond jmk_218 jmk_287))) (jcond (jcond jmk_288 jmk_358) (jcond jmk_372 (jcond jmk_378 jmk_379)))))))
