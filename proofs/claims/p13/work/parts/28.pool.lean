/-! the pools -/
theorem jp_2_3 : jpOk 2 3 (10, 0, 0) := (jW (jt_1 (List.mem_of_getElem? (i := 78) (by decide +kernel))) rfl)
theorem jp_2_9 : jpOk 2 9 (6, 12, 0) := (jW (jt_1 (List.mem_of_getElem? (i := 79) (by decide +kernel))) rfl)
theorem jp_2_11 : jpOk 2 11 (5, 80, 0) := ⟨"Tuninghouse", jnw_189⟩
theorem jp_2_12 : jpOk 2 12 (1, 2, 0) := ⟨by decide, _, _, _, rfl, by decide, (jW (jt_1 (List.mem_of_getElem? (i := 92) (by decide +kernel))) rfl)⟩
theorem jp_2_18 : jpOk 2 18 (1, 2, 1) := ⟨by decide, _, _, _, rfl, by decide, (jW (jt_1 (List.mem_of_getElem? (i := 93) (by decide +kernel))) rfl)⟩
theorem jp_2_21 : jpOk 2 21 (4, 50, 0) := (jW (jt_6 (List.mem_of_getElem? (i := 21) (by decide +kernel))) rfl)
theorem jp_2_27 : jpOk 2 27 (2, 4, 1) := ⟨by decide, _, _, _, "Tuninghouse", rfl, by decide, jnw_306⟩
theorem jp_2_33 : jpOk 2 33 (4, 81, 0) := (jW (jt_6 (List.mem_of_getElem? (i := 30) (by decide +kernel))) rfl)
theorem jp_2_37 : jpOk 2 37 (4, 90, 0) := (jW (jt_6 (List.mem_of_getElem? (i := 31) (by decide +kernel))) rfl)
theorem jp_2_41 : jpOk 2 41 (4, 92, 0) := (jW (jt_6 (List.mem_of_getElem? (i := 70) (by decide +kernel))) rfl)
theorem jp_2_45 : jpOk 2 45 (8, 0, 1000000000000000000) := (jW (jt_6 (List.mem_of_getElem? (i := 36) (by decide +kernel))) rfl)
theorem jp_2_47 : jpOk 2 47 (4, 91, 0) := (jW (jt_6 (List.mem_of_getElem? (i := 37) (by decide +kernel))) rfl)
theorem jp_3_1 : jpOk 3 1 (10, 0, 0) := (jW (jt_1 (List.mem_of_getElem? (i := 49) (by decide +kernel))) rfl)
theorem jp_3_7 : jpOk 3 7 (11, 0, 0) := (jW (jt_1 (List.mem_of_getElem? (i := 50) (by decide +kernel))) rfl)
theorem jp_3_13 : jpOk 3 13 (1, 3, 0) := ⟨by decide, _, _, _, rfl, by decide, (jW (jt_1 (List.mem_of_getElem? (i := 53) (by decide +kernel))) rfl)⟩
theorem jp_4_3 : jpOk 4 3 (10, 0, 0) := (jW (jt_1 (List.mem_of_getElem? (i := 187) (by decide +kernel))) rfl)
theorem jp_4_9 : jpOk 4 9 (1, 4, 0) := ⟨by decide, _, _, _, rfl, by decide, (jW (jt_1 (List.mem_of_getElem? (i := 194) (by decide +kernel))) rfl)⟩
theorem jp_4_10 : jpOk 4 10 (6, 4, 0) := (jW (jt_1 (List.mem_of_getElem? (i := 182) (by decide +kernel))) rfl)
theorem jp_4_15 : jpOk 4 15 (5, 97, 0) := ⟨"Tuninghouse", jnw_296⟩
theorem jp_4_19 : jpOk 4 19 (1, 4, 1) := ⟨by decide, _, _, _, rfl, by decide, (jW (jt_1 (List.mem_of_getElem? (i := 197) (by decide +kernel))) rfl)⟩
theorem jp_4_23 : jpOk 4 23 (4, 9, 0) := (jW (jt_1 (List.mem_of_getElem? (i := 184) (by decide +kernel))) rfl)
theorem jp_5_3 : jpOk 5 3 (10, 0, 0) := (jW (jt_2 (List.mem_of_getElem? (i := 1) (by decide +kernel))) rfl)
theorem jp_5_9 : jpOk 5 9 (1, 5, 0) := ⟨by decide, _, _, _, rfl, by decide, (jW (jt_2 (List.mem_of_getElem? (i := 2) (by decide +kernel))) rfl)⟩
theorem jp_5_15 : jpOk 5 15 (1, 5, 1) := ⟨by decide, _, _, _, rfl, by decide, (jW (jt_2 (List.mem_of_getElem? (i := 3) (by decide +kernel))) rfl)⟩
theorem jp_6_1 : jpOk 6 1 (10, 0, 0) := (jW (jt_1 (List.mem_of_getElem? (i := 104) (by decide +kernel))) rfl)
theorem jp_6_9 : jpOk 6 9 (1, 6, 0) := ⟨by decide, _, _, _, rfl, by decide, (jW (jt_1 (List.mem_of_getElem? (i := 107) (by decide +kernel))) rfl)⟩
theorem jp_6_13 : jpOk 6 13 (1, 6, 1) := ⟨by decide, _, _, _, rfl, by decide, (jW (jt_1 (List.mem_of_getElem? (i := 108) (by decide +kernel))) rfl)⟩
theorem jp_6_16 : jpOk 6 16 (1, 6, 2) := ⟨by decide, _, _, _, rfl, by decide, (jW (jt_1 (List.mem_of_getElem? (i := 109) (by decide +kernel))) rfl)⟩
theorem jp_6_19 : jpOk 6 19 (6, 3, 0) := (jW (jt_1 (List.mem_of_getElem? (i := 105) (by decide +kernel))) rfl)
theorem jp_6_21 : jpOk 6 21 (4, 4, 0) := (jW (jt_1 (List.mem_of_getElem? (i := 106) (by decide +kernel))) rfl)
theorem jp_6_24 : jpOk 6 24 (1, 6, 3) := ⟨by decide, _, _, _, rfl, by decide, (jW (jt_1 (List.mem_of_getElem? (i := 110) (by decide +kernel))) rfl)⟩
theorem jp_7_1 : jpOk 7 1 (10, 0, 0) := (jW (jt_1 (List.mem_of_getElem? (i := 223) (by decide +kernel))) rfl)
theorem jp_7_7 : jpOk 7 7 (1, 7, 0) := ⟨by decide, _, _, _, rfl, by decide, (jW (jt_1 (List.mem_of_getElem? (i := 224) (by decide +kernel))) rfl)⟩
theorem jp_7_8 : jpOk 7 8 (6, 7, 0) := (jW (jt_1 (List.mem_of_getElem? (i := 218) (by decide +kernel))) rfl)
theorem jp_7_13 : jpOk 7 13 (11, 1, 0) := (jW (jt_1 (List.mem_of_getElem? (i := 213) (by decide +kernel))) rfl)
theorem jp_7_19 : jpOk 7 19 (11, 0, 0) := (jW (jt_1 (List.mem_of_getElem? (i := 216) (by decide +kernel))) rfl)
theorem jp_7_22 : jpOk 7 22 (6, 4, 0) := (jW (jt_1 (List.mem_of_getElem? (i := 217) (by decide +kernel))) rfl)
theorem jp_7_24 : jpOk 7 24 (4, 28, 0) := (jW (jt_1 (List.mem_of_getElem? (i := 220) (by decide +kernel))) rfl)
theorem jp_8_3 : jpOk 8 3 (10, 0, 0) := (jW (jt_1 (List.mem_of_getElem? (i := 43) (by decide +kernel))) rfl)
theorem jp_8_9 : jpOk 8 9 (6, 3, 0) := (jW (jt_1 (List.mem_of_getElem? (i := 44) (by decide +kernel))) rfl)
theorem jp_8_13 : jpOk 8 13 (4, 4, 0) := (jW (jt_1 (List.mem_of_getElem? (i := 46) (by decide +kernel))) rfl)
theorem jp_8_16 : jpOk 8 16 (1, 8, 0) := ⟨by decide, _, _, _, rfl, by decide, (jW (jt_1 (List.mem_of_getElem? (i := 65) (by decide +kernel))) rfl)⟩
theorem jp_8_20 : jpOk 8 20 (1, 8, 1) := ⟨by decide, _, _, _, rfl, by decide, (jW (jt_1 (List.mem_of_getElem? (i := 66) (by decide +kernel))) rfl)⟩
theorem jp_8_24 : jpOk 8 24 (4, 39, 0) := (jW (jt_2 (List.mem_of_getElem? (i := 226) (by decide +kernel))) rfl)
theorem jp_8_28 : jpOk 8 28 (4, 372, 0) := (jW (jt_2 (List.mem_of_getElem? (i := 233) (by decide +kernel))) rfl)
theorem jp_8_34 : jpOk 8 34 (4, 40, 0) := (jW (jt_2 (List.mem_of_getElem? (i := 236) (by decide +kernel))) rfl)
theorem jp_8_38 : jpOk 8 38 (4, 41, 0) := (jW (jt_3 (List.mem_of_getElem? (i := 1) (by decide +kernel))) rfl)
theorem jp_8_41 : jpOk 8 41 (4, 42, 0) := (jW (jt_3 (List.mem_of_getElem? (i := 7) (by decide +kernel))) rfl)
theorem jp_8_45 : jpOk 8 45 (2, 3, 1) := ⟨by decide, _, _, _, "Tuninghouse", rfl, by decide, jnw_165⟩
theorem jp_8_49 : jpOk 8 49 (2, 4, 0) := ⟨by decide, _, _, _, "Tuninghouse", rfl, by decide, jnw_303⟩
theorem jp_8_57 : jpOk 8 57 (4, 38, 0) := (jW (jt_3 (List.mem_of_getElem? (i := 79) (by decide +kernel))) rfl)
theorem jp_8_67 : jpOk 8 67 (11, 5, 0) := (jW (jt_2 (List.mem_of_getElem? (i := 230) (by decide +kernel))) rfl)
theorem jp_8_93 : jpOk 8 93 (2, 3, 0) := ⟨by decide, _, _, _, "Tuninghouse", rfl, by decide, jnw_163⟩
theorem jp_8_97 : jpOk 8 97 (4, 81, 0) := (jW (jt_6 (List.mem_of_getElem? (i := 25) (by decide +kernel))) rfl)
theorem jp_8_102 : jpOk 8 102 (4, 90, 0) := (jW (jt_6 (List.mem_of_getElem? (i := 26) (by decide +kernel))) rfl)
theorem jp_8_118 : jpOk 8 118 (8, 0, 16777216) := (jW (jt_3 (List.mem_of_getElem? (i := 0) (by decide +kernel))) rfl)
theorem jp_8_120 : jpOk 8 120 (3, 0, 0) := ⟨by decide, (jW (jt_3 (List.mem_of_getElem? (i := 5) (by decide +kernel))) rfl)⟩
theorem jp_8_123 : jpOk 8 123 (3, 1, 0) := ⟨by decide, (jW (jt_3 (List.mem_of_getElem? (i := 11) (by decide +kernel))) rfl)⟩
theorem jp_8_126 : jpOk 8 126 (8, 0, 65535) := (jW (jt_3 (List.mem_of_getElem? (i := 13) (by decide +kernel))) rfl)
theorem jp_8_128 : jpOk 8 128 (3, 2, 0) := ⟨by decide, (jW (jt_3 (List.mem_of_getElem? (i := 14) (by decide +kernel))) rfl)⟩
theorem jp_9_3 : jpOk 9 3 (10, 0, 0) := (jW (jt_2 (List.mem_of_getElem? (i := 12) (by decide +kernel))) rfl)
theorem jp_9_9 : jpOk 9 9 (1, 9, 0) := ⟨by decide, _, _, _, rfl, by decide, (jW (jt_2 (List.mem_of_getElem? (i := 13) (by decide +kernel))) rfl)⟩
theorem jp_9_10 : jpOk 9 10 (6, 9, 0) := (jW (jt_1 (List.mem_of_getElem? (i := 234) (by decide +kernel))) rfl)
theorem jp_9_15 : jpOk 9 15 (1, 9, 1) := ⟨by decide, _, _, _, rfl, by decide, (jW (jt_2 (List.mem_of_getElem? (i := 14) (by decide +kernel))) rfl)⟩
theorem jp_9_19 : jpOk 9 19 (1, 9, 2) := ⟨by decide, _, _, _, rfl, by decide, (jW (jt_2 (List.mem_of_getElem? (i := 15) (by decide +kernel))) rfl)⟩
theorem jp_9_23 : jpOk 9 23 (1, 9, 3) := ⟨by decide, _, _, _, rfl, by decide, (jW (jt_2 (List.mem_of_getElem? (i := 17) (by decide +kernel))) rfl)⟩
theorem jp_9_27 : jpOk 9 27 (1, 9, 4) := ⟨by decide, _, _, _, rfl, by decide, (jW (jt_2 (List.mem_of_getElem? (i := 18) (by decide +kernel))) rfl)⟩
theorem jp_9_30 : jpOk 9 30 (4, 8, 0) := (jW (jt_1 (List.mem_of_getElem? (i := 179) (by decide +kernel))) rfl)
theorem jp_9_31 : jpOk 9 31 (6, 4, 0) := (jW (jt_1 (List.mem_of_getElem? (i := 206) (by decide +kernel))) rfl)
theorem jp_9_36 : jpOk 9 36 (6, 7, 0) := (jW (jt_1 (List.mem_of_getElem? (i := 208) (by decide +kernel))) rfl)
theorem jp_9_38 : jpOk 9 38 (4, 27, 0) := (jW (jt_1 (List.mem_of_getElem? (i := 210) (by decide +kernel))) rfl)
theorem jp_9_42 : jpOk 9 42 (6, 5, 0) := (jW (jt_1 (List.mem_of_getElem? (i := 236) (by decide +kernel))) rfl)
theorem jp_9_44 : jpOk 9 44 (4, 19, 0) := (jW (jt_1 (List.mem_of_getElem? (i := 238) (by decide +kernel))) rfl)
theorem jp_9_47 : jpOk 9 47 (4, 53, 0) := (jW (jt_2 (List.mem_of_getElem? (i := 9) (by decide +kernel))) rfl)
theorem jp_10_1 : jpOk 10 1 (10, 0, 0) := (jW (jt_1 (List.mem_of_getElem? (i := 132) (by decide +kernel))) rfl)
theorem jp_11_3 : jpOk 11 3 (10, 0, 0) := (jW (jt_1 (List.mem_of_getElem? (i := 125) (by decide +kernel))) rfl)
theorem jp_11_11 : jpOk 11 11 (1, 11, 0) := ⟨by decide, _, _, _, rfl, by decide, (jW (jt_1 (List.mem_of_getElem? (i := 152) (by decide +kernel))) rfl)⟩
theorem jp_11_15 : jpOk 11 15 (6, 10, 0) := (jW (jt_1 (List.mem_of_getElem? (i := 126) (by decide +kernel))) rfl)
theorem jp_11_17 : jpOk 11 17 (1, 11, 1) := ⟨by decide, _, _, _, rfl, by decide, (jW (jt_1 (List.mem_of_getElem? (i := 153) (by decide +kernel))) rfl)⟩
theorem jp_11_21 : jpOk 11 21 (5, 64, 0) := ⟨"Tuninghouse", jnw_237⟩
theorem jp_12_3 : jpOk 12 3 (10, 0, 0) := (jW (jt_1 (List.mem_of_getElem? (i := 84) (by decide +kernel))) rfl)
theorem jp_12_11 : jpOk 12 11 (1, 12, 0) := ⟨by decide, _, _, _, rfl, by decide, (jW (jt_1 (List.mem_of_getElem? (i := 85) (by decide +kernel))) rfl)⟩
theorem jp_12_15 : jpOk 12 15 (1, 12, 1) := ⟨by decide, _, _, _, rfl, by decide, (jW (jt_1 (List.mem_of_getElem? (i := 86) (by decide +kernel))) rfl)⟩
theorem jp_12_19 : jpOk 12 19 (8, 0, 65535) := (jW (jt_5 (List.mem_of_getElem? (i := 121) (by decide +kernel))) rfl)
theorem jp_12_27 : jpOk 12 27 (4, 83, 0) := (jW (jt_5 (List.mem_of_getElem? (i := 127) (by decide +kernel))) rfl)
theorem jp_12_30 : jpOk 12 30 (4, 84, 0) := (jW (jt_6 (List.mem_of_getElem? (i := 56) (by decide +kernel))) rfl)
theorem jp_12_34 : jpOk 12 34 (11, 0, 0) := (jW (jt_6 (List.mem_of_getElem? (i := 61) (by decide +kernel))) rfl)
theorem jp_12_40 : jpOk 12 40 (4, 88, 0) := (jW (jt_6 (List.mem_of_getElem? (i := 41) (by decide +kernel))) rfl)
theorem jp_12_44 : jpOk 12 44 (4, 92, 0) := (jW (jt_6 (List.mem_of_getElem? (i := 42) (by decide +kernel))) rfl)
theorem jp_12_48 : jpOk 12 48 (4, 93, 0) := (jW (jt_6 (List.mem_of_getElem? (i := 46) (by decide +kernel))) rfl)
theorem jp_12_52 : jpOk 12 52 (8, 0, 2) := (jW (jt_6 (List.mem_of_getElem? (i := 52) (by decide +kernel))) rfl)
theorem jp_12_54 : jpOk 12 54 (11, 4, 0) := (jW (jt_6 (List.mem_of_getElem? (i := 53) (by decide +kernel))) rfl)
theorem jp_12_58 : jpOk 12 58 (4, 94, 0) := (jW (jt_6 (List.mem_of_getElem? (i := 57) (by decide +kernel))) rfl)
theorem jp_12_62 : jpOk 12 62 (4, 95, 0) := (jW (jt_6 (List.mem_of_getElem? (i := 62) (by decide +kernel))) rfl)
theorem jp_12_71 : jpOk 12 71 (4, 90, 0) := (jW (jt_6 (List.mem_of_getElem? (i := 50) (by decide +kernel))) rfl)
theorem jp_12_75 : jpOk 12 75 (4, 82, 0) := (jW (jt_6 (List.mem_of_getElem? (i := 51) (by decide +kernel))) rfl)
theorem jp_13_1 : jpOk 13 1 (10, 0, 0) := (jW (jt_1 (List.mem_of_getElem? (i := 35) (by decide +kernel))) rfl)
theorem jp_13_7 : jpOk 13 7 (6, 8, 0) := (jW (jt_1 (List.mem_of_getElem? (i := 38) (by decide +kernel))) rfl)
theorem jp_13_9 : jpOk 13 9 (5, 37, 0) := ⟨"Tuninghouse", jnw_148⟩
theorem jp_13_10 : jpOk 13 10 (1, 13, 0) := ⟨by decide, _, _, _, rfl, by decide, (jW (jt_2 (List.mem_of_getElem? (i := 31) (by decide +kernel))) rfl)⟩
theorem jp_13_16 : jpOk 13 16 (6, 2, 0) := (jW (jt_1 (List.mem_of_getElem? (i := 73) (by decide +kernel))) rfl)
theorem jp_13_18 : jpOk 13 18 (5, 0, 0) := ⟨"Tuninghouse", jnw_183⟩
theorem jp_13_19 : jpOk 13 19 (1, 13, 1) := ⟨by decide, _, _, _, rfl, by decide, (jW (jt_2 (List.mem_of_getElem? (i := 32) (by decide +kernel))) rfl)⟩
theorem jp_13_23 : jpOk 13 23 (6, 6, 0) := (jW (jt_1 (List.mem_of_getElem? (i := 99) (by decide +kernel))) rfl)
theorem jp_13_25 : jpOk 13 25 (5, 23, 0) := ⟨"Tuninghouse", jnw_209⟩
theorem jp_13_26 : jpOk 13 26 (1, 13, 2) := ⟨by decide, _, _, _, rfl, by decide, (jW (jt_2 (List.mem_of_getElem? (i := 33) (by decide +kernel))) rfl)⟩
theorem jp_13_30 : jpOk 13 30 (6, 11, 0) := (jW (jt_1 (List.mem_of_getElem? (i := 120) (by decide +kernel))) rfl)
theorem jp_13_32 : jpOk 13 32 (4, 65, 0) := (jW (jt_1 (List.mem_of_getElem? (i := 122) (by decide +kernel))) rfl)
theorem jp_13_33 : jpOk 13 33 (1, 13, 3) := ⟨by decide, _, _, _, rfl, by decide, (jW (jt_2 (List.mem_of_getElem? (i := 34) (by decide +kernel))) rfl)⟩
theorem jp_13_37 : jpOk 13 37 (6, 12, 0) := (jW (jt_1 (List.mem_of_getElem? (i := 172) (by decide +kernel))) rfl)
theorem jp_13_39 : jpOk 13 39 (5, 80, 0) := ⟨"Tuninghouse", jnw_281⟩
theorem jp_13_40 : jpOk 13 40 (1, 13, 4) := ⟨by decide, _, _, _, rfl, by decide, (jW (jt_2 (List.mem_of_getElem? (i := 35) (by decide +kernel))) rfl)⟩
theorem jp_13_44 : jpOk 13 44 (1, 13, 5) := ⟨by decide, _, _, _, rfl, by decide, (jW (jt_2 (List.mem_of_getElem? (i := 36) (by decide +kernel))) rfl)⟩
theorem jp_13_47 : jpOk 13 47 (1, 13, 6) := ⟨by decide, _, _, _, rfl, by decide, (jW (jt_2 (List.mem_of_getElem? (i := 37) (by decide +kernel))) rfl)⟩
theorem jp_13_50 : jpOk 13 50 (1, 13, 7) := ⟨by decide, _, _, _, rfl, by decide, (jW (jt_2 (List.mem_of_getElem? (i := 38) (by decide +kernel))) rfl)⟩
theorem jp_13_54 : jpOk 13 54 (1, 13, 8) := ⟨by decide, _, _, _, rfl, by decide, (jW (jt_2 (List.mem_of_getElem? (i := 39) (by decide +kernel))) rfl)⟩
theorem jp_13_57 : jpOk 13 57 (6, 9, 0) := (jW (jt_1 (List.mem_of_getElem? (i := 174) (by decide +kernel))) rfl)
theorem jp_13_59 : jpOk 13 59 (1, 13, 9) := ⟨by decide, _, _, _, rfl, by decide, (jW (jt_2 (List.mem_of_getElem? (i := 40) (by decide +kernel))) rfl)⟩
theorem jp_13_63 : jpOk 13 63 (4, 52, 0) := (jW (jt_1 (List.mem_of_getElem? (i := 176) (by decide +kernel))) rfl)
theorem jp_13_67 : jpOk 13 67 (1, 13, 11) := ⟨by decide, _, _, _, rfl, by decide, (jW (jt_2 (List.mem_of_getElem? (i := 42) (by decide +kernel))) rfl)⟩
theorem jp_13_71 : jpOk 13 71 (4, 115, 0) := (jW (jt_3 (List.mem_of_getElem? (i := 224) (by decide +kernel))) rfl)
theorem jp_13_76 : jpOk 13 76 (4, 116, 0) := (jW (jt_4 (List.mem_of_getElem? (i := 2) (by decide +kernel))) rfl)
theorem jp_13_106 : jpOk 13 106 (4, 57, 0) := (jW (jt_3 (List.mem_of_getElem? (i := 99) (by decide +kernel))) rfl)
theorem jp_13_129 : jpOk 13 129 (13, 1, 0) := (jW (jt_4 (List.mem_of_getElem? (i := 6) (by decide +kernel))) rfl)
theorem jp_13_324 : jpOk 13 324 (14, 0, 0) := ⟨rfl, rfl, by decide⟩
theorem jp_13_326 : jpOk 13 326 (4, 156, 0) := (jW (jt_6 (List.mem_of_getElem? (i := 13) (by decide +kernel))) rfl)
theorem jp_13_329 : jpOk 13 329 (8, 0, (-1)) := (jW (jt_3 (List.mem_of_getElem? (i := 16) (by decide +kernel))) rfl)
theorem jp_13_331 : jpOk 13 331 (13, 4, 0) := (jW (jt_6 (List.mem_of_getElem? (i := 72) (by decide +kernel))) rfl)
theorem jp_13_333 : jpOk 13 333 (14, 1, 0) := ⟨rfl, rfl, by decide⟩
theorem jp_13_342 : jpOk 13 342 (4, 1, 0) := (jW (jt_6 (List.mem_of_getElem? (i := 17) (by decide +kernel))) rfl)
theorem jp_13_346 : jpOk 13 346 (4, 3, 0) := (jW (jt_6 (List.mem_of_getElem? (i := 66) (by decide +kernel))) rfl)
theorem jp_13_351 : jpOk 13 351 (4, 2, 0) := (jW (jt_6 (List.mem_of_getElem? (i := 32) (by decide +kernel))) rfl)
theorem jp_13_355 : jpOk 13 355 (8, 0, 1000000000000000000) := (jW (jt_6 (List.mem_of_getElem? (i := 71) (by decide +kernel))) rfl)
theorem jp_13_378 : jpOk 13 378 (13, 0, 0) := (jW (jt_3 (List.mem_of_getElem? (i := 228) (by decide +kernel))) rfl)
theorem jp_13_434 : jpOk 13 434 (4, 98, 0) := (jW (jt_1 (List.mem_of_getElem? (i := 191) (by decide +kernel))) rfl)
theorem jp_13_464 : jpOk 13 464 (14, 2, 0) := ⟨rfl, rfl, by decide⟩
theorem jp_13_466 : jpOk 13 466 (14, 3, 0) := ⟨rfl, rfl, by decide⟩
theorem jp_14_1 : jpOk 14 1 (10, 0, 0) := (jW (jt_7 (List.mem_of_getElem? (i := 20) (by decide +kernel))) rfl)
theorem jp_14_9 : jpOk 14 9 (1, 14, 1) := ⟨by decide, _, _, _, rfl, by decide, (jW (jt_7 (List.mem_of_getElem? (i := 62) (by decide +kernel))) rfl)⟩
theorem jp_14_13 : jpOk 14 13 (1, 14, 2) := ⟨by decide, _, _, _, rfl, by decide, (jW (jt_7 (List.mem_of_getElem? (i := 63) (by decide +kernel))) rfl)⟩
theorem jp_14_16 : jpOk 14 16 (6, 130, 0) := (jW (jt_7 (List.mem_of_getElem? (i := 21) (by decide +kernel))) rfl)
theorem jp_14_18 : jpOk 14 18 (1, 14, 3) := ⟨by decide, _, _, _, rfl, by decide, (jW (jt_7 (List.mem_of_getElem? (i := 64) (by decide +kernel))) rfl)⟩
theorem jp_14_21 : jpOk 14 21 (6, 100, 0) := (jW (jt_7 (List.mem_of_getElem? (i := 23) (by decide +kernel))) rfl)
theorem jp_14_22 : jpOk 14 22 (1, 14, 4) := ⟨by decide, _, _, _, rfl, by decide, (jW (jt_7 (List.mem_of_getElem? (i := 65) (by decide +kernel))) rfl)⟩
theorem jp_14_25 : jpOk 14 25 (1, 14, 6) := ⟨by decide, _, _, _, rfl, by decide, (jW (jt_7 (List.mem_of_getElem? (i := 67) (by decide +kernel))) rfl)⟩
theorem jp_14_28 : jpOk 14 28 (1, 14, 8) := ⟨by decide, _, _, _, rfl, by decide, (jW (jt_7 (List.mem_of_getElem? (i := 69) (by decide +kernel))) rfl)⟩
theorem jp_14_31 : jpOk 14 31 (1, 14, 9) := ⟨by decide, _, _, _, rfl, by decide, (jW (jt_7 (List.mem_of_getElem? (i := 70) (by decide +kernel))) rfl)⟩
theorem jp_14_35 : jpOk 14 35 (1, 14, 10) := ⟨by decide, _, _, _, rfl, by decide, (jW (jt_7 (List.mem_of_getElem? (i := 71) (by decide +kernel))) rfl)⟩
theorem jp_14_39 : jpOk 14 39 (1, 14, 11) := ⟨by decide, _, _, _, rfl, by decide, (jW (jt_7 (List.mem_of_getElem? (i := 72) (by decide +kernel))) rfl)⟩
theorem jp_14_42 : jpOk 14 42 (1, 14, 13) := ⟨by decide, _, _, _, rfl, by decide, (jW (jt_7 (List.mem_of_getElem? (i := 74) (by decide +kernel))) rfl)⟩
theorem jp_14_45 : jpOk 14 45 (1, 14, 21) := ⟨by decide, _, _, _, rfl, by decide, (jW (jt_7 (List.mem_of_getElem? (i := 82) (by decide +kernel))) rfl)⟩
theorem jp_14_48 : jpOk 14 48 (1, 14, 22) := ⟨by decide, _, _, _, rfl, by decide, (jW (jt_7 (List.mem_of_getElem? (i := 83) (by decide +kernel))) rfl)⟩
theorem jp_14_51 : jpOk 14 51 (1, 14, 23) := ⟨by decide, _, _, _, rfl, by decide, (jW (jt_7 (List.mem_of_getElem? (i := 84) (by decide +kernel))) rfl)⟩
theorem jp_14_54 : jpOk 14 54 (1, 14, 24) := ⟨by decide, _, _, _, rfl, by decide, (jW (jt_7 (List.mem_of_getElem? (i := 85) (by decide +kernel))) rfl)⟩
theorem jp_14_57 : jpOk 14 57 (1, 14, 25) := ⟨by decide, _, _, _, rfl, by decide, (jW (jt_7 (List.mem_of_getElem? (i := 86) (by decide +kernel))) rfl)⟩
theorem jp_14_60 : jpOk 14 60 (1, 14, 26) := ⟨by decide, _, _, _, rfl, by decide, (jW (jt_7 (List.mem_of_getElem? (i := 87) (by decide +kernel))) rfl)⟩
theorem jp_14_63 : jpOk 14 63 (4, 176, 0) := (jW (jt_7 (List.mem_of_getElem? (i := 24) (by decide +kernel))) rfl)
theorem jp_14_67 : jpOk 14 67 (4, 183, 0) := (jW (jt_7 (List.mem_of_getElem? (i := 51) (by decide +kernel))) rfl)
theorem jp_14_71 : jpOk 14 71 (4, 181, 0) := (jW (jt_7 (List.mem_of_getElem? (i := 44) (by decide +kernel))) rfl)
theorem jp_14_75 : jpOk 14 75 (4, 184, 0) := (jW (jt_7 (List.mem_of_getElem? (i := 54) (by decide +kernel))) rfl)
theorem jp_14_78 : jpOk 14 78 (1, 14, 0) := ⟨by decide, _, _, _, rfl, by decide, (jW (jt_7 (List.mem_of_getElem? (i := 61) (by decide +kernel))) rfl)⟩
theorem jp_14_82 : jpOk 14 82 (4, 191, 0) := (jW (jt_7 (List.mem_of_getElem? (i := 165) (by decide +kernel))) rfl)
theorem jp_14_86 : jpOk 14 86 (8, 0, 7) := (jW (jt_7 (List.mem_of_getElem? (i := 157) (by decide +kernel))) rfl)
theorem jp_14_88 : jpOk 14 88 (4, 189, 0) := (jW (jt_7 (List.mem_of_getElem? (i := 158) (by decide +kernel))) rfl)
theorem jp_14_94 : jpOk 14 94 (11, 5, 0) := (jW (jt_7 (List.mem_of_getElem? (i := 36) (by decide +kernel))) rfl)
theorem jp_14_104 : jpOk 14 104 (4, 378, 0) := (jW (jt_7 (List.mem_of_getElem? (i := 33) (by decide +kernel))) rfl)
theorem jp_14_110 : jpOk 14 110 (8, 0, 1000000000) := (jW (jt_7 (List.mem_of_getElem? (i := 37) (by decide +kernel))) rfl)
theorem jp_14_112 : jpOk 14 112 (11, 6, 0) := (jW (jt_7 (List.mem_of_getElem? (i := 60) (by decide +kernel))) rfl)
theorem jp_14_118 : jpOk 14 118 (4, 185, 0) := (jW (jt_7 (List.mem_of_getElem? (i := 57) (by decide +kernel))) rfl)
theorem jp_14_121 : jpOk 14 121 (4, 182, 0) := (jW (jt_7 (List.mem_of_getElem? (i := 47) (by decide +kernel))) rfl)
theorem jp_14_125 : jpOk 14 125 (7, 0, 1000000000) := (jW (jt_7 (List.mem_of_getElem? (i := 50) (by decide +kernel))) rfl)
theorem jp_14_126 : jpOk 14 126 (4, 177, 0) := (jW (jt_7 (List.mem_of_getElem? (i := 27) (by decide +kernel))) rfl)
theorem jp_14_130 : jpOk 14 130 (4, 180, 0) := (jW (jt_7 (List.mem_of_getElem? (i := 41) (by decide +kernel))) rfl)
theorem jp_14_134 : jpOk 14 134 (4, 178, 0) := (jW (jt_7 (List.mem_of_getElem? (i := 30) (by decide +kernel))) rfl)
theorem jp_14_138 : jpOk 14 138 (4, 179, 0) := (jW (jt_7 (List.mem_of_getElem? (i := 38) (by decide +kernel))) rfl)
theorem jp_14_141 : jpOk 14 141 (8, 0, 2) := (jW (jt_8 (List.mem_of_getElem? (i := 44) (by decide +kernel))) rfl)
theorem jp_14_143 : jpOk 14 143 (4, 200, 0) := (jW (jt_7 (List.mem_of_getElem? (i := 206) (by decide +kernel))) rfl)
theorem jp_14_147 : jpOk 14 147 (4, 214, 0) := (jW (jt_8 (List.mem_of_getElem? (i := 31) (by decide +kernel))) rfl)
theorem jp_14_151 : jpOk 14 151 (4, 213, 0) := (jW (jt_8 (List.mem_of_getElem? (i := 27) (by decide +kernel))) rfl)
theorem jp_14_155 : jpOk 14 155 (9, 0, 4609816855700290920) := (jW (jt_8 (List.mem_of_getElem? (i := 18) (by decide +kernel))) rfl)
theorem jp_14_157 : jpOk 14 157 (9, 0, 4612410936051475313) := (jW (jt_8 (List.mem_of_getElem? (i := 19) (by decide +kernel))) rfl)
theorem jp_14_159 : jpOk 14 159 (9, 0, 4613504020090455085) := (jW (jt_8 (List.mem_of_getElem? (i := 20) (by decide +kernel))) rfl)
theorem jp_14_161 : jpOk 14 161 (9, 0, 4614972366274321729) := (jW (jt_8 (List.mem_of_getElem? (i := 21) (by decide +kernel))) rfl)
theorem jp_14_163 : jpOk 14 163 (9, 0, 4615515068267881011) := (jW (jt_8 (List.mem_of_getElem? (i := 22) (by decide +kernel))) rfl)
theorem jp_14_165 : jpOk 14 165 (4, 211, 0) := (jW (jt_8 (List.mem_of_getElem? (i := 15) (by decide +kernel))) rfl)
theorem jp_14_169 : jpOk 14 169 (4, 212, 0) := (jW (jt_8 (List.mem_of_getElem? (i := 23) (by decide +kernel))) rfl)
theorem jp_14_173 : jpOk 14 173 (4, 210, 0) := (jW (jt_8 (List.mem_of_getElem? (i := 11) (by decide +kernel))) rfl)
theorem jp_14_177 : jpOk 14 177 (8, 0, (-1)) := (jW (jt_7 (List.mem_of_getElem? (i := 221) (by decide +kernel))) rfl)
theorem jp_14_179 : jpOk 14 179 (4, 203, 0) := (jW (jt_7 (List.mem_of_getElem? (i := 217) (by decide +kernel))) rfl)
theorem jp_14_203 : jpOk 14 203 (4, 188, 0) := (jW (jt_7 (List.mem_of_getElem? (i := 154) (by decide +kernel))) rfl)
theorem jp_14_207 : jpOk 14 207 (4, 190, 0) := (jW (jt_7 (List.mem_of_getElem? (i := 161) (by decide +kernel))) rfl)
theorem jp_14_228 : jpOk 14 228 (4, 202, 0) := (jW (jt_7 (List.mem_of_getElem? (i := 213) (by decide +kernel))) rfl)
theorem jp_14_255 : jpOk 14 255 (4, 216, 0) := (jW (jt_8 (List.mem_of_getElem? (i := 40) (by decide +kernel))) rfl)
theorem jp_14_258 : jpOk 14 258 (4, 218, 0) := (jW (jt_8 (List.mem_of_getElem? (i := 49) (by decide +kernel))) rfl)
theorem jp_14_411 : jpOk 14 411 (8, 0, 2000) := (jW (jt_9 (List.mem_of_getElem? (i := 110) (by decide +kernel))) rfl)
theorem jp_14_413 : jpOk 14 413 (4, 288, 0) := (jW (jt_9 (List.mem_of_getElem? (i := 111) (by decide +kernel))) rfl)
theorem jp_15_8 : jpOk 15 8 (6, 13, 0) := (jW (jt_1 (List.mem_of_getElem? (i := 30) (by decide +kernel))) rfl)
theorem jp_15_13 : jpOk 15 13 (13, 0, 0) := (jW (jt_3 (List.mem_of_getElem? (i := 127) (by decide +kernel))) rfl)
theorem jp_15_15 : jpOk 15 15 (13, 1, 0) := (jW (jt_3 (List.mem_of_getElem? (i := 205) (by decide +kernel))) rfl)
theorem jp_15_125 : jpOk 15 125 (4, 155, 0) := (jW (jt_6 (List.mem_of_getElem? (i := 8) (by decide +kernel))) rfl)
theorem jp_15_128 : jpOk 15 128 (13, 4, 0) := (jW (jt_6 (List.mem_of_getElem? (i := 7) (by decide +kernel))) rfl)
theorem jp_15_173 : jpOk 15 173 (4, 96, 0) := (jW (jt_1 (List.mem_of_getElem? (i := 32) (by decide +kernel))) rfl)
theorem jp_15_174 : jpOk 15 174 (6, 14, 0) := (jW (jt_7 (List.mem_of_getElem? (i := 15) (by decide +kernel))) rfl)
theorem jp_15_176 : jpOk 15 176 (4, 175, 0) := (jW (jt_7 (List.mem_of_getElem? (i := 17) (by decide +kernel))) rfl)
theorem jp_15_294 : jpOk 15 294 (4, 358, 0) := (jW (jt_6 (List.mem_of_getElem? (i := 4) (by decide +kernel))) rfl)
theorem jp_15_296 : jpOk 15 296 (4, 287, 0) := (jW (jt_9 (List.mem_of_getElem? (i := 106) (by decide +kernel))) rfl)
def jp_2 (i : Nat) : Nat × Nat × Int := (cond (Nat.blt i 27) (cond (Nat.blt i 12) (cond (Nat.blt i 9) (cond (Nat.beq i 3) (10, 0, 0) (0, 0, 0)) (cond (Nat.blt i 11) (cond (Nat.beq i 9) (6, 12, 0) (0, 0, 0)) (cond (Nat.beq i 11) (5, 80, 0) (0, 0, 0)))) (cond (Nat.blt i 18) (cond (Nat.beq i 12) (1, 2, 0) (0, 0, 0)) (cond (Nat.blt i 21) (cond (Nat.beq i 18) (1, 2, 1) (0, 0, 0)) (cond (Nat.beq i 21) (4, 50, 0) (0, 0, 0))))) (cond (Nat.blt i 41) (cond (Nat.blt i 33) (cond (Nat.beq i 27) (2, 4, 1) (0, 0, 0)) (cond (Nat.blt i 37) (cond (Nat.beq i 33) (4, 81, 0) (0, 0, 0)) (cond (Nat.beq i 37) (4, 90, 0) (0, 0, 0)))) (cond (Nat.blt i 45) (cond (Nat.beq i 41) (4, 92, 0) (0, 0, 0)) (cond (Nat.blt i 47) (cond (Nat.beq i 45) (8, 0, 1000000000000000000) (0, 0, 0)) (cond (Nat.beq i 47) (4, 91, 0) (0, 0, 0))))))
theorem jp_2_ok (i : Nat) : jpOk 2 i (jp_2 i) := (jcond (jcond (jcond (jpOk_leaf jp_2_3) (jcond (jpOk_leaf jp_2_9) (jpOk_leaf jp_2_11))) (jcond (jpOk_leaf jp_2_12) (jcond (jpOk_leaf jp_2_18) (jpOk_leaf jp_2_21)))) (jcond (jcond (jpOk_leaf jp_2_27) (jcond (jpOk_leaf jp_2_33) (jpOk_leaf jp_2_37))) (jcond (jpOk_leaf jp_2_41) (jcond (jpOk_leaf jp_2_45) (jpOk_leaf jp_2_47)))))
def jp_3 (i : Nat) : Nat × Nat × Int := (cond (Nat.blt i 7) (cond (Nat.beq i 1) (10, 0, 0) (0, 0, 0)) (cond (Nat.blt i 13) (cond (Nat.beq i 7) (11, 0, 0) (0, 0, 0)) (cond (Nat.beq i 13) (1, 3, 0) (0, 0, 0))))
theorem jp_3_ok (i : Nat) : jpOk 3 i (jp_3 i) := (jcond (jpOk_leaf jp_3_1) (jcond (jpOk_leaf jp_3_7) (jpOk_leaf jp_3_13)))
def jp_4 (i : Nat) : Nat × Nat × Int := (cond (Nat.blt i 15) (cond (Nat.blt i 9) (cond (Nat.beq i 3) (10, 0, 0) (0, 0, 0)) (cond (Nat.blt i 10) (cond (Nat.beq i 9) (1, 4, 0) (0, 0, 0)) (cond (Nat.beq i 10) (6, 4, 0) (0, 0, 0)))) (cond (Nat.blt i 19) (cond (Nat.beq i 15) (5, 97, 0) (0, 0, 0)) (cond (Nat.blt i 23) (cond (Nat.beq i 19) (1, 4, 1) (0, 0, 0)) (cond (Nat.beq i 23) (4, 9, 0) (0, 0, 0)))))
theorem jp_4_ok (i : Nat) : jpOk 4 i (jp_4 i) := (jcond (jcond (jpOk_leaf jp_4_3) (jcond (jpOk_leaf jp_4_9) (jpOk_leaf jp_4_10))) (jcond (jpOk_leaf jp_4_15) (jcond (jpOk_leaf jp_4_19) (jpOk_leaf jp_4_23))))
def jp_5 (i : Nat) : Nat × Nat × Int := (cond (Nat.blt i 9) (cond (Nat.beq i 3) (10, 0, 0) (0, 0, 0)) (cond (Nat.blt i 15) (cond (Nat.beq i 9) (1, 5, 0) (0, 0, 0)) (cond (Nat.beq i 15) (1, 5, 1) (0, 0, 0))))
theorem jp_5_ok (i : Nat) : jpOk 5 i (jp_5 i) := (jcond (jpOk_leaf jp_5_3) (jcond (jpOk_leaf jp_5_9) (jpOk_leaf jp_5_15)))
def jp_6 (i : Nat) : Nat × Nat × Int := (cond (Nat.blt i 16) (cond (Nat.blt i 9) (cond (Nat.beq i 1) (10, 0, 0) (0, 0, 0)) (cond (Nat.blt i 13) (cond (Nat.beq i 9) (1, 6, 0) (0, 0, 0)) (cond (Nat.beq i 13) (1, 6, 1) (0, 0, 0)))) (cond (Nat.blt i 21) (cond (Nat.blt i 19) (cond (Nat.beq i 16) (1, 6, 2) (0, 0, 0)) (cond (Nat.beq i 19) (6, 3, 0) (0, 0, 0))) (cond (Nat.blt i 24) (cond (Nat.beq i 21) (4, 4, 0) (0, 0, 0)) (cond (Nat.beq i 24) (1, 6, 3) (0, 0, 0)))))
theorem jp_6_ok (i : Nat) : jpOk 6 i (jp_6 i) := (jcond (jcond (jpOk_leaf jp_6_1) (jcond (jpOk_leaf jp_6_9) (jpOk_leaf jp_6_13))) (jcond (jcond (jpOk_leaf jp_6_16) (jpOk_leaf jp_6_19)) (jcond (jpOk_leaf jp_6_21) (jpOk_leaf jp_6_24))))
def jp_7 (i : Nat) : Nat × Nat × Int := (cond (Nat.blt i 13) (cond (Nat.blt i 7) (cond (Nat.beq i 1) (10, 0, 0) (0, 0, 0)) (cond (Nat.blt i 8) (cond (Nat.beq i 7) (1, 7, 0) (0, 0, 0)) (cond (Nat.beq i 8) (6, 7, 0) (0, 0, 0)))) (cond (Nat.blt i 22) (cond (Nat.blt i 19) (cond (Nat.beq i 13) (11, 1, 0) (0, 0, 0)) (cond (Nat.beq i 19) (11, 0, 0) (0, 0, 0))) (cond (Nat.blt i 24) (cond (Nat.beq i 22) (6, 4, 0) (0, 0, 0)) (cond (Nat.beq i 24) (4, 28, 0) (0, 0, 0)))))
theorem jp_7_ok (i : Nat) : jpOk 7 i (jp_7 i) := (jcond (jcond (jpOk_leaf jp_7_1) (jcond (jpOk_leaf jp_7_7) (jpOk_leaf jp_7_8))) (jcond (jcond (jpOk_leaf jp_7_13) (jpOk_leaf jp_7_19)) (jcond (jpOk_leaf jp_7_22) (jpOk_leaf jp_7_24))))
def jp_8 (i : Nat) : Nat × Nat × Int := (cond (Nat.blt i 49) (cond (Nat.blt i 24) (cond (Nat.blt i 13) (cond (Nat.blt i 9) (cond (Nat.beq i 3) (10, 0, 0) (0, 0, 0)) (cond (Nat.beq i 9) (6, 3, 0) (0, 0, 0))) (cond (Nat.blt i 16) (cond (Nat.beq i 13) (4, 4, 0) (0, 0, 0)) (cond (Nat.blt i 20) (cond (Nat.beq i 16) (1, 8, 0) (0, 0, 0)) (cond (Nat.beq i 20) (1, 8, 1) (0, 0, 0))))) (cond (Nat.blt i 38) (cond (Nat.blt i 28) (cond (Nat.beq i 24) (4, 39, 0) (0, 0, 0)) (cond (Nat.blt i 34) (cond (Nat.beq i 28) (4, 372, 0) (0, 0, 0)) (cond (Nat.beq i 34) (4, 40, 0) (0, 0, 0)))) (cond (Nat.blt i 41) (cond (Nat.beq i 38) (4, 41, 0) (0, 0, 0)) (cond (Nat.blt i 45) (cond (Nat.beq i 41) (4, 42, 0) (0, 0, 0)) (cond (Nat.beq i 45) (2, 3, 1) (0, 0, 0)))))) (cond (Nat.blt i 102) (cond (Nat.blt i 67) (cond (Nat.blt i 57) (cond (Nat.beq i 49) (2, 4, 0) (0, 0, 0)) (cond (Nat.beq i 57) (4, 38, 0) (0, 0, 0))) (cond (Nat.blt i 93) (cond (Nat.beq i 67) (11, 5, 0) (0, 0, 0)) (cond (Nat.blt i 97) (cond (Nat.beq i 93) (2, 3, 0) (0, 0, 0)) (cond (Nat.beq i 97) (4, 81, 0) (0, 0, 0))))) (cond (Nat.blt i 123) (cond (Nat.blt i 118) (cond (Nat.beq i 102) (4, 90, 0) (0, 0, 0)) (cond (Nat.blt i 120) (cond (Nat.beq i 118) (8, 0, 16777216) (0, 0, 0)) (cond (Nat.beq i 120) (3, 0, 0) (0, 0, 0)))) (cond (Nat.blt i 126) (cond (Nat.beq i 123) (3, 1, 0) (0, 0, 0)) (cond (Nat.blt i 128) (cond (Nat.beq i 126) (8, 0, 65535) (0, 0, 0)) (cond (Nat.beq i 128) (3, 2, 0) (0, 0, 0)))))))
theorem jp_8_ok (i : Nat) : jpOk 8 i (jp_8 i) := (jcond (jcond (jcond (jcond (jpOk_leaf jp_8_3) (jpOk_leaf jp_8_9)) (jcond (jpOk_leaf jp_8_13) (jcond (jpOk_leaf jp_8_16) (jpOk_leaf jp_8_20)))) (jcond (jcond (jpOk_leaf jp_8_24) (jcond (jpOk_leaf jp_8_28) (jpOk_leaf jp_8_34))) (jcond (jpOk_leaf jp_8_38) (jcond (jpOk_leaf jp_8_41) (jpOk_leaf jp_8_45))))) (jcond (jcond (jcond (jpOk_leaf jp_8_49) (jpOk_leaf jp_8_57)) (jcond (jpOk_leaf jp_8_67) (jcond (jpOk_leaf jp_8_93) (jpOk_leaf jp_8_97)))) (jcond (jcond (jpOk_leaf jp_8_102) (jcond (jpOk_leaf jp_8_118) (jpOk_leaf jp_8_120))) (jcond (jpOk_leaf jp_8_123) (jcond (jpOk_leaf jp_8_126) (jpOk_leaf jp_8_128))))))
def jp_9 (i : Nat) : Nat × Nat × Int := (cond (Nat.blt i 30) (cond (Nat.blt i 15) (cond (Nat.blt i 9) (cond (Nat.beq i 3) (10, 0, 0) (0, 0, 0)) (cond (Nat.blt i 10) (cond (Nat.beq i 9) (1, 9, 0) (0, 0, 0)) (cond (Nat.beq i 10) (6, 9, 0) (0, 0, 0)))) (cond (Nat.blt i 23) (cond (Nat.blt i 19) (cond (Nat.beq i 15) (1, 9, 1) (0, 0, 0)) (cond (Nat.beq i 19) (1, 9, 2) (0, 0, 0))) (cond (Nat.blt i 27) (cond (Nat.beq i 23) (1, 9, 3) (0, 0, 0)) (cond (Nat.beq i 27) (1, 9, 4) (0, 0, 0))))) (cond (Nat.blt i 38) (cond (Nat.blt i 31) (cond (Nat.beq i 30) (4, 8, 0) (0, 0, 0)) (cond (Nat.blt i 36) (cond (Nat.beq i 31) (6, 4, 0) (0, 0, 0)) (cond (Nat.beq i 36) (6, 7, 0) (0, 0, 0)))) (cond (Nat.blt i 44) (cond (Nat.blt i 42) (cond (Nat.beq i 38) (4, 27, 0) (0, 0, 0)) (cond (Nat.beq i 42) (6, 5, 0) (0, 0, 0))) (cond (Nat.blt i 47) (cond (Nat.beq i 44) (4, 19, 0) (0, 0, 0)) (cond (Nat.beq i 47) (4, 53, 0) (0, 0, 0))))))
theorem jp_9_ok (i : Nat) : jpOk 9 i (jp_9 i) := (jcond (jcond (jcond (jpOk_leaf jp_9_3) (jcond (jpOk_leaf jp_9_9) (jpOk_leaf jp_9_10))) (jcond (jcond (jpOk_leaf jp_9_15) (jpOk_leaf jp_9_19)) (jcond (jpOk_leaf jp_9_23) (jpOk_leaf jp_9_27)))) (jcond (jcond (jpOk_leaf jp_9_30) (jcond (jpOk_leaf jp_9_31) (jpOk_leaf jp_9_36))) (jcond (jcond (jpOk_leaf jp_9_38) (jpOk_leaf jp_9_42)) (jcond (jpOk_leaf jp_9_44) (jpOk_leaf jp_9_47)))))
def jp_10 (i : Nat) : Nat × Nat × Int := (cond (Nat.beq i 1) (10, 0, 0) (0, 0, 0))
theorem jp_10_ok (i : Nat) : jpOk 10 i (jp_10 i) := (jpOk_leaf jp_10_1)
def jp_11 (i : Nat) : Nat × Nat × Int := (cond (Nat.blt i 15) (cond (Nat.blt i 11) (cond (Nat.beq i 3) (10, 0, 0) (0, 0, 0)) (cond (Nat.beq i 11) (1, 11, 0) (0, 0, 0))) (cond (Nat.blt i 17) (cond (Nat.beq i 15) (6, 10, 0) (0, 0, 0)) (cond (Nat.blt i 21) (cond (Nat.beq i 17) (1, 11, 1) (0, 0, 0)) (cond (Nat.beq i 21) (5, 64, 0) (0, 0, 0)))))
theorem jp_11_ok (i : Nat) : jpOk 11 i (jp_11 i) := (jcond (jcond (jpOk_leaf jp_11_3) (jpOk_leaf jp_11_11)) (jcond (jpOk_leaf jp_11_15) (jcond (jpOk_leaf jp_11_17) (jpOk_leaf jp_11_21))))
def jp_12 (i : Nat) : Nat × Nat × Int := (cond (Nat.blt i 44) (cond (Nat.blt i 27) (cond (Nat.blt i 15) (cond (Nat.blt i 11) (cond (Nat.beq i 3) (10, 0, 0) (0, 0, 0)) (cond (Nat.beq i 11) (1, 12, 0) (0, 0, 0))) (cond (Nat.blt i 19) (cond (Nat.beq i 15) (1, 12, 1) (0, 0, 0)) (cond (Nat.beq i 19) (8, 0, 65535) (0, 0, 0)))) (cond (Nat.blt i 34) (cond (Nat.blt i 30) (cond (Nat.beq i 27) (4, 83, 0) (0, 0, 0)) (cond (Nat.beq i 30) (4, 84, 0) (0, 0, 0))) (cond (Nat.blt i 40) (cond (Nat.beq i 34) (11, 0, 0) (0, 0, 0)) (cond (Nat.beq i 40) (4, 88, 0) (0, 0, 0))))) (cond (Nat.blt i 58) (cond (Nat.blt i 52) (cond (Nat.blt i 48) (cond (Nat.beq i 44) (4, 92, 0) (0, 0, 0)) (cond (Nat.beq i 48) (4, 93, 0) (0, 0, 0))) (cond (Nat.blt i 54) (cond (Nat.beq i 52) (8, 0, 2) (0, 0, 0)) (cond (Nat.beq i 54) (11, 4, 0) (0, 0, 0)))) (cond (Nat.blt i 71) (cond (Nat.blt i 62) (cond (Nat.beq i 58) (4, 94, 0) (0, 0, 0)) (cond (Nat.beq i 62) (4, 95, 0) (0, 0, 0))) (cond (Nat.blt i 75) (cond (Nat.beq i 71) (4, 90, 0) (0, 0, 0)) (cond (Nat.beq i 75) (4, 82, 0) (0, 0, 0))))))
theorem jp_12_ok (i : Nat) : jpOk 12 i (jp_12 i) := (jcond (jcond (jcond (jcond (jpOk_leaf jp_12_3) (jpOk_leaf jp_12_11)) (jcond (jpOk_leaf jp_12_15) (jpOk_leaf jp_12_19))) (jcond (jcond (jpOk_leaf jp_12_27) (jpOk_leaf jp_12_30)) (jcond (jpOk_leaf jp_12_34) (jpOk_leaf jp_12_40)))) (jcond (jcond (jcond (jpOk_leaf jp_12_44) (jpOk_leaf jp_12_48)) (jcond (jpOk_leaf jp_12_52) (jpOk_leaf jp_12_54))) (jcond (jcond (jpOk_leaf jp_12_58) (jpOk_leaf jp_12_62)) (jcond (jpOk_leaf jp_12_71) (jpOk_leaf jp_12_75)))))
def jp_13 (i : Nat) : Nat × Nat × Int := (cond (Nat.blt i 57) (cond (Nat.blt i 30) (cond (Nat.blt i 18) (cond (Nat.blt i 9) (cond (Nat.blt i 7) (cond (Nat.beq i 1) (10, 0, 0) (0, 0, 0)) (cond (Nat.beq i 7) (6, 8, 0) (0, 0, 0))) (cond (Nat.blt i 10) (cond (Nat.beq i 9) (5, 37, 0) (0, 0, 0)) (cond (Nat.blt i 16) (cond (Nat.beq i 10) (1, 13, 0) (0, 0, 0)) (cond (Nat.beq i 16) (6, 2, 0) (0, 0, 0))))) (cond (Nat.blt i 23) (cond (Nat.blt i 19) (cond (Nat.beq i 18) (5, 0, 0) (0, 0, 0)) (cond (Nat.beq i 19) (1, 13, 1) (0, 0, 0))) (cond (Nat.blt i 25) (cond (Nat.beq i 23) (6, 6, 0) (0, 0, 0)) (cond (Nat.blt i 26) (cond (Nat.beq i 25) (5, 23, 0) (0, 0, 0)) (cond (Nat.beq i 26) (1, 13, 2) (0, 0, 0)))))) (cond (Nat.blt i 40) (cond (Nat.blt i 33) (cond (Nat.blt i 32) (cond (Nat.beq i 30) (6, 11, 0) (0, 0, 0)) (cond (Nat.beq i 32) (4, 65, 0) (0, 0, 0))) (cond (Nat.blt i 37) (cond (Nat.beq i 33) (1, 13, 3) (0, 0, 0)) (cond (Nat.blt i 39) (cond (Nat.beq i 37) (6, 12, 0) (0, 0, 0)) (cond (Nat.beq i 39) (5, 80, 0) (0, 0, 0))))) (cond (Nat.blt i 47) (cond (Nat.blt i 44) (cond (Nat.beq i 40) (1, 13, 4) (0, 0, 0)) (cond (Nat.beq i 44) (1, 13, 5) (0, 0, 0))) (cond (Nat.blt i 50) (cond (Nat.beq i 47) (1, 13, 6) (0, 0, 0)) (cond (Nat.blt i 54) (cond (Nat.beq i 50) (1, 13, 7) (0, 0, 0)) (cond (Nat.beq i 54) (1, 13, 8) (0, 0, 0))))))) (cond (Nat.blt i 329) (cond (Nat.blt i 76) (cond (Nat.blt i 63) (cond (Nat.blt i 59) (cond (Nat.beq i 57) (6, 9, 0) (0, 0, 0)) (cond (Nat.beq i 59) (1, 13, 9) (0, 0, 0))) (cond (Nat.blt i 67) (cond (Nat.beq i 63) (4, 52, 0) (0, 0, 0)) (cond (Nat.blt i 71) (cond (Nat.beq i 67) (1, 13, 11) (0, 0, 0)) (cond (Nat.beq i 71) (4, 115, 0) (0, 0, 0))))) (cond (Nat.blt i 129) (cond (Nat.blt i 106) (cond (Nat.beq i 76) (4, 116, 0) (0, 0, 0)) (cond (Nat.beq i 106) (4, 57, 0) (0, 0, 0))) (cond (Nat.blt i 324) (cond (Nat.beq i 129) (13, 1, 0) (0, 0, 0)) (cond (Nat.blt i 326) (cond (Nat.beq i 324) (14, 0, 0) (0, 0, 0)) (cond (Nat.beq i 326) (4, 156, 0) (0, 0, 0)))))) (cond (Nat.blt i 351) (cond (Nat.blt i 333) (cond (Nat.blt i 331) (cond (Nat.beq i 329) (8, 0, (-1)) (0, 0, 0)) (cond (Nat.beq i 331) (13, 4, 0) (0, 0, 0))) (cond (Nat.blt i 342) (cond (Nat.beq i 333) (14, 1, 0) (0, 0, 0)) (cond (Nat.blt i 346) (cond (Nat.beq i 342) (4, 1, 0) (0, 0, 0)) (cond (Nat.beq i 346) (4, 3, 0) (0, 0, 0))))) (cond (Nat.blt i 434) (cond (Nat.blt i 355) (cond (Nat.beq i 351) (4, 2, 0) (0, 0, 0)) (cond (Nat.blt i 378) (cond (Nat.beq i 355) (8, 0, 1000000000000000000) (0, 0, 0)) (cond (Nat.beq i 378) (13, 0, 0) (0, 0, 0)))) (cond (Nat.blt i 464) (cond (Nat.beq i 434) (4, 98, 0) (0, 0, 0)) (cond (Nat.blt i 466) (cond (Nat.beq i 464) (14, 2, 0) (0, 0, 0)) (cond (Nat.beq i 466) (14, 3, 0) (0, 0, 0))))))))
theorem jp_13_ok (i : Nat) : jpOk 13 i (jp_13 i) := (jcond (jcond (jcond (jcond (jcond (jpOk_leaf jp_13_1) (jpOk_leaf jp_13_7)) (jcond (jpOk_leaf jp_13_9) (jcond (jpOk_leaf jp_13_10) (jpOk_leaf jp_13_16)))) (jcond (jcond (jpOk_leaf jp_13_18) (jpOk_leaf jp_13_19)) (jcond (jpOk_leaf jp_13_23) (jcond (jpOk_leaf jp_13_25) (jpOk_leaf jp_13_26))))) (jcond (jcond (jcond (jpOk_leaf jp_13_30) (jpOk_leaf jp_13_32)) (jcond (jpOk_leaf jp_13_33) (jcond (jpOk_leaf jp_13_37) (jpOk_leaf jp_13_39)))) (jcond (jcond (jpOk_leaf jp_13_40) (jpOk_leaf jp_13_44)) (jcond (jpOk_leaf jp_13_47) (jcond (jpOk_leaf jp_13_50) (jpOk_leaf jp_13_54)))))) (jcond (jcond (jcond (jcond (jpOk_leaf jp_13_57) (jpOk_leaf jp_13_59)) (jcond (jpOk_leaf jp_13_63) (jcond (jpOk_leaf jp_13_67) (jpOk_leaf jp_13_71)))) (jcond (jcond (jpOk_leaf jp_13_76) (jpOk_leaf jp_13_106)) (jcond (jpOk_leaf jp_13_129) (jcond (jpOk_leaf jp_13_324) (jpOk_leaf jp_13_326))))) (jcond (jcond (jcond (jpOk_leaf jp_13_329) (jpOk_leaf jp_13_331)) (jcond (jpOk_leaf jp_13_333) (jcond (jpOk_leaf jp_13_342) (jpOk_leaf jp_13_346)))) (jcond (jcond (jpOk_leaf jp_13_351) (jcond (jpOk_leaf jp_13_355) (jpOk_leaf jp_13_378))) (jcond (jpOk_leaf jp_13_434) (jcond (jpOk_leaf jp_13_464) (jpOk_leaf jp_13_466)))))))
def jp_14 (i : Nat) : Nat × Nat × Int := (cond (Nat.blt i 110) (cond (Nat.blt i 48) (cond (Nat.blt i 25) (cond (Nat.blt i 16) (cond (Nat.blt i 9) (cond (Nat.beq i 1) (10, 0, 0) (0, 0, 0)) (cond (Nat.blt i 13) (cond (Nat.beq i 9) (1, 14, 1) (0, 0, 0)) (cond (Nat.beq i 13) (1, 14, 2) (0, 0, 0)))) (cond (Nat.blt i 21) (cond (Nat.blt i 18) (cond (Nat.beq i 16) (6, 130, 0) (0, 0, 0)) (cond (Nat.beq i 18) (1, 14, 3) (0, 0, 0))) (cond (Nat.blt i 22) (cond (Nat.beq i 21) (6, 100, 0) (0, 0, 0)) (cond (Nat.beq i 22) (1, 14, 4) (0, 0, 0))))) (cond (Nat.blt i 35) (cond (Nat.blt i 28) (cond (Nat.beq i 25) (1, 14, 6) (0, 0, 0)) (cond (Nat.blt i 31) (cond (Nat.beq i 28) (1, 14, 8) (0, 0, 0)) (cond (Nat.beq i 31) (1, 14, 9) (0, 0, 0)))) (cond (Nat.blt i 42) (cond (Nat.blt i 39) (cond (Nat.beq i 35) (1, 14, 10) (0, 0, 0)) (cond (Nat.beq i 39) (1, 14, 11) (0, 0, 0))) (cond (Nat.blt i 45) (cond (Nat.beq i 42) (1, 14, 13) (0, 0, 0)) (cond (Nat.beq i 45) (1, 14, 21) (0, 0, 0)))))) (cond (Nat.blt i 71) (cond (Nat.blt i 57) (cond (Nat.blt i 51) (cond (Nat.beq i 48) (1, 14, 22) (0, 0, 0)) (cond (Nat.blt i 54) (cond (Nat.beq i 51) (1, 14, 23) (0, 0, 0)) (cond (Nat.beq i 54) (1, 14, 24) (0, 0, 0)))) (cond (Nat.blt i 63) (cond (Nat.blt i 60) (cond (Nat.beq i 57) (1, 14, 25) (0, 0, 0)) (cond (Nat.beq i 60) (1, 14, 26) (0, 0, 0))) (cond (Nat.blt i 67) (cond (Nat.beq i 63) (4, 176, 0) (0, 0, 0)) (cond (Nat.beq i 67) (4, 183, 0) (0, 0, 0))))) (cond (Nat.blt i 86) (cond (Nat.blt i 78) (cond (Nat.blt i 75) (cond (Nat.beq i 71) (4, 181, 0) (0, 0, 0)) (cond (Nat.beq i 75) (4, 184, 0) (0, 0, 0))) (cond (Nat.blt i 82) (cond (Nat.beq i 78) (1, 14, 0) (0, 0, 0)) (cond (Nat.beq i 82) (4, 191, 0) (0, 0, 0)))) (cond (Nat.blt i 94) (cond (Nat.blt i 88) (cond (Nat.beq i 86) (8, 0, 7) (0, 0, 0)) (cond (Nat.beq i 88) (4, 189, 0) (0, 0, 0))) (cond (Nat.blt i 104) (cond (Nat.beq i 94) (11, 5, 0) (0, 0, 0)) (cond (Nat.beq i 104) (4, 378, 0) (0, 0, 0))))))) (cond (Nat.blt i 159) (cond (Nat.blt i 134) (cond (Nat.blt i 121) (cond (Nat.blt i 112) (cond (Nat.beq i 110) (8, 0, 1000000000) (0, 0, 0)) (cond (Nat.blt i 118) (cond (Nat.beq i 112) (11, 6, 0) (0, 0, 0)) (cond (Nat.beq i 118) (4, 185, 0) (0, 0, 0)))) (cond (Nat.blt i 126) (cond (Nat.blt i 125) (cond (Nat.beq i 121) (4, 182, 0) (0, 0, 0)) (cond (Nat.beq i 125) (7, 0, 1000000000) (0, 0, 0))) (cond (Nat.blt i 130) (cond (Nat.beq i 126) (4, 177, 0) (0, 0, 0)) (cond (Nat.beq i 130) (4, 180, 0) (0, 0, 0))))) (cond (Nat.blt i 147) (cond (Nat.blt i 141) (cond (Nat.blt i 138) (cond (Nat.beq i 134) (4, 178, 0) (0, 0, 0)) (cond (Nat.beq i 138) (4, 179, 0) (0, 0, 0))) (cond (Nat.blt i 143) (cond (Nat.beq i 141) (8, 0, 2) (0, 0, 0)) (cond (Nat.beq i 143) (4, 200, 0) (0, 0, 0)))) (cond (Nat.blt i 155) (cond (Nat.blt i 151) (cond (Nat.beq i 147) (4, 214, 0) (0, 0, 0)) (cond (Nat.beq i 151) (4, 213, 0) (0, 0, 0))) (cond (Nat.blt i 157) (cond (Nat.beq i 155) (9, 0, 4609816855700290920) (0, 0, 0)) (cond (Nat.beq i 157) (9, 0, 4612410936051475313) (0, 0, 0)))))) (cond (Nat.blt i 179) (cond (Nat.blt i 165) (cond (Nat.blt i 161) (cond (Nat.beq i 159) (9, 0, 4613504020090455085) (0, 0, 0)) (cond (Nat.blt i 163) (cond (Nat.beq i 161) (9, 0, 4614972366274321729) (0, 0, 0)) (cond (Nat.beq i 163) (9, 0, 4615515068267881011) (0, 0, 0)))) (cond (Nat.blt i 173) (cond (Nat.blt i 169) (cond (Nat.beq i 165) (4, 211, 0) (0, 0, 0)) (cond (Nat.beq i 169) (4, 212, 0) (0, 0, 0))) (cond (Nat.blt i 177) (cond (Nat.beq i 173) (4, 210, 0) (0, 0, 0)) (cond (Nat.beq i 177) (8, 0, (-1)) (0, 0, 0))))) (cond (Nat.blt i 255) (cond (Nat.blt i 207) (cond (Nat.blt i 203) (cond (Nat.beq i 179) (4, 203, 0) (0, 0, 0)) (cond (Nat.beq i 203) (4, 188, 0) (0, 0, 0))) (cond (Nat.blt i 228) (cond (Nat.beq i 207) (4, 190, 0) (0, 0, 0)) (cond (Nat.beq i 228) (4, 202, 0) (0, 0, 0)))) (cond (Nat.blt i 411) (cond (Nat.blt i 258) (cond (Nat.beq i 255) (4, 216, 0) (0, 0, 0)) (cond (Nat.beq i 258) (4, 218, 0) (0, 0, 0))) (cond (Nat.blt i 413) (cond (Nat.beq i 411) (8, 0, 2000) (0, 0, 0)) (cond (Nat.beq i 413) (4, 288, 0) (0, 0, 0))))))))
theorem jp_14_ok (i : Nat) : jpOk 14 i (jp_14 i) := (jcond (jcond (jcond (jcond (jcond (jpOk_leaf jp_14_1) (jcond (jpOk_leaf jp_14_9) (jpOk_leaf jp_14_13))) (jcond (jcond (jpOk_leaf jp_14_16) (jpOk_leaf jp_14_18)) (jcond (jpOk_leaf jp_14_21) (jpOk_leaf jp_14_22)))) (jcond (jcond (jpOk_leaf jp_14_25) (jcond (jpOk_leaf jp_14_28) (jpOk_leaf jp_14_31))) (jcond (jcond (jpOk_leaf jp_14_35) (jpOk_leaf jp_14_39)) (jcond (jpOk_leaf jp_14_42) (jpOk_leaf jp_14_45))))) (jcond (jcond (jcond (jpOk_leaf jp_14_48) (jcond (jpOk_leaf jp_14_51) (jpOk_leaf jp_14_54))) (jcond (jcond (jpOk_leaf jp_14_57) (jpOk_leaf jp_14_60)) (jcond (jpOk_leaf jp_14_63) (jpOk_leaf jp_14_67)))) (jcond (jcond (jcond (jpOk_leaf jp_14_71) (jpOk_leaf jp_14_75)) (jcond (jpOk_leaf jp_14_78) (jpOk_leaf jp_14_82))) (jcond (jcond (jpOk_leaf jp_14_86) (jpOk_leaf jp_14_88)) (jcond (jpOk_leaf jp_14_94) (jpOk_leaf jp_14_104)))))) (jcond (jcond (jcond (jcond (jpOk_leaf jp_14_110) (jcond (jpOk_leaf jp_14_112) (jpOk_leaf jp_14_118))) (jcond (jcond (jpOk_leaf jp_14_121) (jpOk_leaf jp_14_125)) (jcond (jpOk_leaf jp_14_126) (jpOk_leaf jp_14_130)))) (jcond (jcond (jcond (jpOk_leaf jp_14_134) (jpOk_leaf jp_14_138)) (jcond (jpOk_leaf jp_14_141) (jpOk_leaf jp_14_143))) (jcond (jcond (jpOk_leaf jp_14_147) (jpOk_leaf jp_14_151)) (jcond (jpOk_leaf jp_14_155) (jpOk_leaf jp_14_157))))) (jcond (jcond (jcond (jpOk_leaf jp_14_159) (jcond (jpOk_leaf jp_14_161) (jpOk_leaf jp_14_163))) (jcond (jcond (jpOk_leaf jp_14_165) (jpOk_leaf jp_14_169)) (jcond (jpOk_leaf jp_14_173) (jpOk_leaf jp_14_177)))) (jcond (jcond (jcond (jpOk_leaf jp_14_179) (jpOk_leaf jp_14_203)) (jcond (jpOk_leaf jp_14_207) (jpOk_leaf jp_14_228))) (jcond (jcond (jpOk_leaf jp_14_255) (jpOk_leaf jp_14_258)) (jcond (jpOk_leaf jp_14_411) (jpOk_leaf jp_14_413)))))))
def jp_15 (i : Nat) : Nat × Nat × Int := (cond (Nat.blt i 173) (cond (Nat.blt i 15) (cond (Nat.blt i 13) (cond (Nat.beq i 8) (6, 13, 0) (0, 0, 0)) (cond (Nat.beq i 13) (13, 0, 0) (0, 0, 0))) (cond (Nat.blt i 125) (cond (Nat.beq i 15) (13, 1, 0) (0, 0, 0)) (cond (Nat.blt i 128) (cond (Nat.beq i 125) (4, 155, 0) (0, 0, 0)) (cond (Nat.beq i 128) (13, 4, 0) (0, 0, 0))))) (cond (Nat.blt i 176) (cond (Nat.blt i 174) (cond (Nat.beq i 173) (4, 96, 0) (0, 0, 0)) (cond (Nat.beq i 174) (6, 14, 0) (0, 0, 0))) (cond (Nat.blt i 294) (cond (Nat.beq i 176) (4, 175, 0) (0, 0, 0)) (cond (Nat.blt i 296) (cond (Nat.beq i 294) (4, 358, 0) (0, 0, 0)) (cond (Nat.beq i 296) (4, 287, 0) (0, 0, 0))))))
theorem jp_15_ok (i : Nat) : jpOk 15 i (jp_15 i) := (jcond (jcond (jcond (jpOk_leaf jp_15_8) (jpOk_leaf jp_15_13)) (jcond (jpOk_leaf jp_15_15) (jcond (jpOk_leaf jp_15_125) (jpOk_leaf jp_15_128)))) (jcond (jcond (jpOk_leaf jp_15_173) (jpOk_leaf jp_15_174)) (jcond (jpOk_leaf jp_15_176) (jcond (jpOk_leaf jp_15_294) (jpOk_leaf jp_15_296)))))
def jpool (c i : Nat) : Nat × Nat × Int := (cond (Nat.blt c 9) (cond (Nat.blt c 5) (cond (Nat.blt c 3) (cond (Nat.beq c 2) (jp_2 i) (0, 0, 0)) (cond (Nat.blt c 4) (cond (Nat.beq c 3) (jp_3 i) (0, 0, 0)) (cond (Nat.beq c 4) (jp_4 i) (0, 0, 0)))) (cond (Nat.blt c 7) (cond (Nat.blt c 6) (cond (Nat.beq c 5) (jp_5 i) (0, 0, 0)) (cond (Nat.beq c 6) (jp_6 i) (0, 0, 0))) (cond (Nat.blt c 8) (cond (Nat.beq c 7) (jp_7 i) (0, 0, 0)) (cond (Nat.beq c 8) (jp_8 i) (0, 0, 0))))) (cond (Nat.blt c 12) (cond (Nat.blt c 10) (cond (Nat.beq c 9) (jp_9 i) (0, 0, 0)) (cond (Nat.blt c 11) (cond (Nat.beq c 10) (jp_10 i) (0, 0, 0)) (cond (Nat.beq c 11) (jp_11 i) (0, 0, 0)))) (cond (Nat.blt c 14) (cond (Nat.blt c 13) (cond (Nat.beq c 12) (jp_12 i) (0, 0, 0)) (cond (Nat.beq c 13) (jp_13 i) (0, 0, 0))) (cond (Nat.blt c 15) (cond (Nat.beq c 14) (jp_14 i) (0, 0, 0)) (cond (Nat.beq c 15) (jp_15 i) (0, 0, 0))))))
theorem jpool_ok (c i : Nat) : jpOk c i (jpool c i) := (jcond (jcond (jcond (jpOk_cls jp_2_ok c i) (jcond (jpOk_cls jp_3_ok c i) (jpOk_cls jp_4_ok c i))) (jcond (jcond (jpOk_cls jp_5_ok c i) (jpOk_cls jp_6_ok c i)) (jcond (jpOk_cls jp_7_ok c i) (jpOk_cls jp_8_ok c i)))) (jcond (jcond (jpOk_cls jp_9_ok c i) (jcond (jpOk_cls jp_10_ok c i) (jpOk_cls jp_11_ok c i))) (jcond (jcond (jpOk_cls jp_12_ok c i) (jpOk_cls jp_13_ok c i)) (jcond (jpOk_cls jp_14_ok c i) (jpOk_cls jp_15_ok c i)))))
