set_option maxRecDepth 20000 in
theorem fX9_10 : FOk RX9 10 9 0 := ⟨_, rfl, by decide, (lwg_of (List.mem_append_right _ (List.mem_of_getElem? (i := 233) rfl)) rfl)⟩
set_option maxRecDepth 20000 in
theorem fX9_19 : FOk RX9 19 9 1 := ⟨_, rfl, by decide, (lwg_of (List.mem_append_right _ (List.mem_of_getElem? (i := 234) rfl)) rfl)⟩
set_option maxRecDepth 20000 in
theorem fX9_25 : FOk RX9 25 9 2 := ⟨_, rfl, by decide, (lwg_of (List.mem_append_right _ (List.mem_of_getElem? (i := 235) rfl)) rfl)⟩
set_option maxRecDepth 20000 in
theorem fX9_32 : FOk RX9 32 9 3 := ⟨_, rfl, by decide, (lwg_of (List.mem_append_right _ (List.mem_of_getElem? (i := 236) rfl)) rfl)⟩
set_option maxRecDepth 20000 in
theorem fX9_36 : FOk RX9 36 9 4 := ⟨_, rfl, by decide, (lwg_of (List.mem_append_right _ (List.mem_of_getElem? (i := 237) rfl)) rfl)⟩
set_option maxRecDepth 20000 in
theorem fX9_42 : FOk RX9 42 9 5 := ⟨_, rfl, by decide, (lwg_of (List.mem_append_right _ (List.mem_of_getElem? (i := 238) rfl)) rfl)⟩
set_option maxRecDepth 20000 in
theorem fX9_49 : FOk RX9 49 9 6 := ⟨_, rfl, by decide, (lwg_of (List.mem_append_right _ (List.mem_of_getElem? (i := 239) rfl)) rfl)⟩
set_option maxRecDepth 20000 in
theorem fX9_56 : FOk RX9 56 9 7 := ⟨_, rfl, by decide, (lwg_of (List.mem_append_right _ (List.mem_of_getElem? (i := 240) rfl)) rfl)⟩
set_option maxRecDepth 20000 in
theorem fX9_63 : FOk RX9 63 9 8 := ⟨_, rfl, by decide, (lwg_of (List.mem_append_right _ (List.mem_of_getElem? (i := 241) rfl)) rfl)⟩
set_option maxRecDepth 20000 in
theorem gX9_63 : FPut RX9 63 9 8 (.object "HandedLens$Line") := ⟨_, rfl, by decide, (lwg_of (List.mem_append_right _ (List.mem_of_getElem? (i := 241) rfl)) rfl), rfl, by decide +kernel⟩
set_option maxRecDepth 20000 in
theorem fX9_67 : FOk RX9 67 9 9 := ⟨_, rfl, by decide, (lwg_of (List.mem_append_right _ (List.mem_of_getElem? (i := 242) rfl)) rfl)⟩
set_option maxRecDepth 20000 in
theorem gX9_67 : FPut RX9 67 9 9 (.object "HandedLens$Line") := ⟨_, rfl, by decide, (lwg_of (List.mem_append_right _ (List.mem_of_getElem? (i := 242) rfl)) rfl), rfl, by decide +kernel⟩
set_option maxRecDepth 20000 in
theorem fX9_70 : FOk RX9 70 9 10 := ⟨_, rfl, by decide, (lwg_of (List.mem_append_right _ (List.mem_of_getElem? (i := 243) rfl)) rfl)⟩
set_option maxRecDepth 20000 in
theorem gX9_70 : FPut RX9 70 9 10 .int := ⟨_, rfl, by decide, (lwg_of (List.mem_append_right _ (List.mem_of_getElem? (i := 243) rfl)) rfl), rfl, by decide +kernel⟩
set_option maxRecDepth 20000 in
theorem fX9_74 : FOk RX9 74 9 11 := ⟨_, rfl, by decide, (lwg_of (List.mem_append_right _ (List.mem_of_getElem? (i := 244) rfl)) rfl)⟩
set_option maxRecDepth 20000 in
theorem gX9_74 : FPut RX9 74 9 11 .int := ⟨_, rfl, by decide, (lwg_of (List.mem_append_right _ (List.mem_of_getElem? (i := 244) rfl)) rfl), rfl, by decide +kernel⟩
set_option maxRecDepth 20000 in
theorem fX9_79 : FOk RX9 79 7 1 := ⟨_, rfl, by decide, (lwg_of (List.mem_append_right _ (List.mem_of_getElem? (i := 31) rfl)) rfl)⟩
set_option maxRecDepth 20000 in
theorem fX9_91 : FOk RX9 91 7 4 := ⟨_, rfl, by decide, (lwg_of (List.mem_append_right _ (List.mem_of_getElem? (i := 35) rfl)) rfl)⟩
set_option maxRecDepth 20000 in
theorem fX9_101 : FOk RX9 101 2 2 := ⟨_, rfl, by decide, (lwg_of (List.mem_append_right _ (List.mem_of_getElem? (i := 225) rfl)) rfl)⟩
set_option maxRecDepth 20000 in
theorem gX9_101 : FPut RX9 101 2 2 .boolean := ⟨_, rfl, by decide, (lwg_of (List.mem_append_right _ (List.mem_of_getElem? (i := 225) rfl)) rfl), rfl, by decide +kernel⟩
set_option maxRecDepth 20000 in
theorem fX9_107 : FOk RX9 107 3 5 := ⟨_, rfl, by decide, (lwg_of (List.mem_append_right _ (List.mem_of_getElem? (i := 193) rfl)) rfl)⟩
set_option maxRecDepth 20000 in
theorem fX9_110 : FOk RX9 110 3 4 := ⟨_, rfl, by decide, (lwg_of (List.mem_append_right _ (List.mem_of_getElem? (i := 191) rfl)) rfl)⟩
set_option maxRecDepth 20000 in
theorem fX9_113 : FOk RX9 113 3 6 := ⟨_, rfl, by decide, (lwg_of (List.mem_append_right _ (List.mem_of_getElem? (i := 197) rfl)) rfl)⟩
set_option maxRecDepth 20000 in
theorem fX9_116 : FOk RX9 116 6 7 := ⟨_, rfl, by decide, (lwg_of (List.mem_append_right _ (List.mem_of_getElem? (i := 92) rfl)) rfl)⟩
set_option maxRecDepth 20000 in
theorem fX9_119 : FOk RX9 119 6 6 := ⟨_, rfl, by decide, (lwg_of (List.mem_append_right _ (List.mem_of_getElem? (i := 90) rfl)) rfl)⟩
set_option maxRecDepth 20000 in
theorem gX9_119 : FPut RX9 119 6 6 .int := ⟨_, rfl, by decide, (lwg_of (List.mem_append_right _ (List.mem_of_getElem? (i := 90) rfl)) rfl), rfl, by decide +kernel⟩
set_option maxRecDepth 20000 in
theorem fX9_122 : FOk RX9 122 6 5 := ⟨_, rfl, by decide, (lwg_of (List.mem_append_right _ (List.mem_of_getElem? (i := 88) rfl)) rfl)⟩
set_option maxRecDepth 20000 in
theorem fX9_142 : FOk RX9 142 6 4 := ⟨_, rfl, by decide, (lwg_of (List.mem_append_right _ (List.mem_of_getElem? (i := 86) rfl)) rfl)⟩
set_option maxRecDepth 20000 in
theorem fX9_146 : FOk RX9 146 4 2 := ⟨_, rfl, by decide, (lwg_of (List.mem_append_right _ (List.mem_of_getElem? (i := 70) rfl)) rfl)⟩
set_option maxRecDepth 20000 in
theorem fX9_151 : FOk RX9 151 5 2 := ⟨_, rfl, by decide, (lwg_of (List.mem_append_right _ (List.mem_of_getElem? (i := 149) rfl)) rfl)⟩
set_option maxRecDepth 20000 in
theorem fX9_152 : FOk RX9 152 0 2 := ⟨_, rfl, by decide, (lwg_of (List.mem_append_right _ (List.mem_of_getElem? (i := 169) rfl)) rfl)⟩
set_option maxRecDepth 20000 in
theorem fX9_153 : FOk RX9 153 1 2 := ⟨_, rfl, by decide, (lwg_of (List.mem_append_right _ (List.mem_of_getElem? (i := 113) rfl)) rfl)⟩
set_option maxRecDepth 20000 in
theorem fX9_196 : FOk RX9 196 6 0 := ⟨_, rfl, by decide, (lwg_of (List.mem_append_right _ (List.mem_of_getElem? (i := 79) rfl)) rfl)⟩
set_option maxRecDepth 20000 in
theorem fX9_200 : FOk RX9 200 6 1 := ⟨_, rfl, by decide, (lwg_of (List.mem_append_right _ (List.mem_of_getElem? (i := 81) rfl)) rfl)⟩
set_option maxRecDepth 20000 in
theorem fX9_203 : FOk RX9 203 6 2 := ⟨_, rfl, by decide, (lwg_of (List.mem_append_right _ (List.mem_of_getElem? (i := 83) rfl)) rfl)⟩
set_option maxRecDepth 20000 in
theorem fX9_298 : FOk RX9 298 0 0 := ⟨_, rfl, by decide, (lwg_of (List.mem_append_right _ (List.mem_of_getElem? (i := 165) rfl)) rfl)⟩
set_option maxRecDepth 20000 in
theorem fX9_300 : FOk RX9 300 0 1 := ⟨_, rfl, by decide, (lwg_of (List.mem_append_right _ (List.mem_of_getElem? (i := 167) rfl)) rfl)⟩
set_option maxRecDepth 20000 in
theorem fX9_303 : FOk RX9 303 2 0 := ⟨_, rfl, by decide, (lwg_of (List.mem_append_right _ (List.mem_of_getElem? (i := 221) rfl)) rfl)⟩
set_option maxRecDepth 20000 in
theorem fX9_307 : FOk RX9 307 2 1 := ⟨_, rfl, by decide, (lwg_of (List.mem_append_right _ (List.mem_of_getElem? (i := 223) rfl)) rfl)⟩
set_option maxRecDepth 20000 in
theorem gX9_307 : FPut RX9 307 2 1 .int := ⟨_, rfl, by decide, (lwg_of (List.mem_append_right _ (List.mem_of_getElem? (i := 223) rfl)) rfl), rfl, by decide +kernel⟩
set_option maxRecDepth 20000 in
theorem fX9_309 : FOk RX9 309 8 1 := ⟨_, rfl, by decide, (lwg_of (List.mem_append_right _ (List.mem_of_getElem? (i := 134) rfl)) rfl)⟩
set_option maxRecDepth 20000 in
theorem fX9_310 : FOk RX9 310 8 0 := ⟨_, rfl, by decide, (lwg_of (List.mem_append_right _ (List.mem_of_getElem? (i := 132) rfl)) rfl)⟩
set_option maxRecDepth 20000 in
theorem fX0_9 : FOk RX0 9 0 0 := ⟨_, rfl, by decide, (lwg_of (List.mem_append_right _ (List.mem_of_getElem? (i := 164) rfl)) rfl)⟩
set_option maxRecDepth 20000 in
theorem fX0_15 : FOk RX0 15 0 1 := ⟨_, rfl, by decide, (lwg_of (List.mem_append_right _ (List.mem_of_getElem? (i := 166) rfl)) rfl)⟩
set_option maxRecDepth 20000 in
theorem fX0_18 : FOk RX0 18 0 2 := ⟨_, rfl, by decide, (lwg_of (List.mem_append_right _ (List.mem_of_getElem? (i := 168) rfl)) rfl)⟩
set_option maxRecDepth 20000 in
theorem gX0_18 : FPut RX0 18 0 2 .int := ⟨_, rfl, by decide, (lwg_of (List.mem_append_right _ (List.mem_of_getElem? (i := 168) rfl)) rfl), rfl, by decide +kernel⟩
set_option maxRecDepth 20000 in
theorem fX1_11 : FOk RX1 11 1 0 := ⟨_, rfl, by decide, (lwg_of (List.mem_append_right _ (List.mem_of_getElem? (i := 110) rfl)) rfl)⟩
set_option maxRecDepth 20000 in
theorem fX1_17 : FOk RX1 17 1 1 := ⟨_, rfl, by decide, (lwg_of (List.mem_append_right _ (List.mem_of_getElem? (i := 111) rfl)) rfl)⟩
set_option maxRecDepth 20000 in
theorem gX1_17 : FPut RX1 17 1 1 .int := ⟨_, rfl, by decide, (lwg_of (List.mem_append_right _ (List.mem_of_getElem? (i := 111) rfl)) rfl), rfl, by decide +kernel⟩
set_option maxRecDepth 20000 in
theorem fX1_21 : FOk RX1 21 1 2 := ⟨_, rfl, by decide, (lwg_of (List.mem_append_right _ (List.mem_of_getElem? (i := 112) rfl)) rfl)⟩
set_option maxRecDepth 20000 in
theorem gX1_21 : FPut RX1 21 1 2 .int := ⟨_, rfl, by decide, (lwg_of (List.mem_append_right _ (List.mem_of_getElem? (i := 112) rfl)) rfl), rfl, by decide +kernel⟩
set_option maxRecDepth 20000 in
theorem fX2_10 : FOk RX2 10 2 0 := ⟨_, rfl, by decide, (lwg_of (List.mem_append_right _ (List.mem_of_getElem? (i := 220) rfl)) rfl)⟩
set_option maxRecDepth 20000 in
theorem fX2_16 : FOk RX2 16 2 1 := ⟨_, rfl, by decide, (lwg_of (List.mem_append_right _ (List.mem_of_getElem? (i := 222) rfl)) rfl)⟩
set_option maxRecDepth 20000 in
theorem gX2_16 : FPut RX2 16 2 1 .int := ⟨_, rfl, by decide, (lwg_of (List.mem_append_right _ (List.mem_of_getElem? (i := 222) rfl)) rfl), rfl, by decide +kernel⟩
set_option maxRecDepth 20000 in
theorem fX2_20 : FOk RX2 20 2 2 := ⟨_, rfl, by decide, (lwg_of (List.mem_append_right _ (List.mem_of_getElem? (i := 224) rfl)) rfl)⟩
set_option maxRecDepth 20000 in
theorem gX2_20 : FPut RX2 20 2 2 .boolean := ⟨_, rfl, by decide, (lwg_of (List.mem_append_right _ (List.mem_of_getElem? (i := 224) rfl)) rfl), rfl, by decide +kernel⟩
set_option maxRecDepth 20000 in
theorem fX3_9 : FOk RX3 9 3 0 := ⟨_, rfl, by decide, (lwg_of (List.mem_append_right _ (List.mem_of_getElem? (i := 185) rfl)) rfl)⟩
set_option maxRecDepth 20000 in
theorem fX3_15 : FOk RX3 15 3 1 := ⟨_, rfl, by decide, (lwg_of (List.mem_append_right _ (List.mem_of_getElem? (i := 186) rfl)) rfl)⟩
set_option maxRecDepth 20000 in
theorem fX3_18 : FOk RX3 18 3 2 := ⟨_, rfl, by decide, (lwg_of (List.mem_append_right _ (List.mem_of_getElem? (i := 187) rfl)) rfl)⟩
set_option maxRecDepth 20000 in
theorem fX3_23 : FOk RX3 23 3 3 := ⟨_, rfl, by decide, (lwg_of (List.mem_append_right _ (List.mem_of_getElem? (i := 188) rfl)) rfl)⟩
set_option maxRecDepth 20000 in
theorem fX3_26 : FOk RX3 26 3 4 := ⟨_, rfl, by decide, (lwg_of (List.mem_append_right _ (List.mem_of_getElem? (i := 189) rfl)) rfl)⟩
set_option maxRecDepth 20000 in
theorem gX3_26 : FPut RX3 26 3 4 .int := ⟨_, rfl, by decide, (lwg_of (List.mem_append_right _ (List.mem_of_getElem? (i := 189) rfl)) rfl), rfl, by decide +kernel⟩
set_option maxRecDepth 20000 in
theorem fX3_30 : FOk RX3 30 3 5 := ⟨_, rfl, by decide, (lwg_of (List.mem_append_right _ (List.mem_of_getElem? (i := 192) rfl)) rfl)⟩
set_option maxRecDepth 20000 in
theorem gX3_30 : FPut RX3 30 3 5 .int := ⟨_, rfl, by decide, (lwg_of (List.mem_append_right _ (List.mem_of_getElem? (i := 192) rfl)) rfl), rfl, by decide +kernel⟩
set_option maxRecDepth 20000 in
theorem fX3_33 : FOk RX3 33 3 6 := ⟨_, rfl, by decide, (lwg_of (List.mem_append_right _ (List.mem_of_getElem? (i := 195) rfl)) rfl)⟩
set_option maxRecDepth 20000 in
theorem gX3_33 : FPut RX3 33 3 6 .int := ⟨_, rfl, by decide, (lwg_of (List.mem_append_right _ (List.mem_of_getElem? (i := 195) rfl)) rfl), rfl, by decide +kernel⟩
set_option maxRecDepth 20000 in
theorem fX4_9 : FOk RX4 9 4 0 := ⟨_, rfl, by decide, (lwg_of (List.mem_append_right _ (List.mem_of_getElem? (i := 67) rfl)) rfl)⟩
set_option maxRecDepth 20000 in
theorem fX4_15 : FOk RX4 15 4 1 := ⟨_, rfl, by decide, (lwg_of (List.mem_append_right _ (List.mem_of_getElem? (i := 68) rfl)) rfl)⟩
set_option maxRecDepth 20000 in
theorem gX4_15 : FPut RX4 15 4 1 .int := ⟨_, rfl, by decide, (lwg_of (List.mem_append_right _ (List.mem_of_getElem? (i := 68) rfl)) rfl), rfl, by decide +kernel⟩
set_option maxRecDepth 20000 in
theorem fX4_19 : FOk RX4 19 4 2 := ⟨_, rfl, by decide, (lwg_of (List.mem_append_right _ (List.mem_of_getElem? (i := 69) rfl)) rfl)⟩
set_option maxRecDepth 20000 in
theorem gX4_19 : FPut RX4 19 4 2 .int := ⟨_, rfl, by decide, (lwg_of (List.mem_append_right _ (List.mem_of_getElem? (i := 69) rfl)) rfl), rfl, by decide +kernel⟩
set_option maxRecDepth 20000 in
theorem fX5_9 : FOk RX5 9 5 0 := ⟨_, rfl, by decide, (lwg_of (List.mem_append_right _ (List.mem_of_getElem? (i := 146) rfl)) rfl)⟩
set_option maxRecDepth 20000 in
theorem fX5_15 : FOk RX5 15 5 1 := ⟨_, rfl, by decide, (lwg_of (List.mem_append_right _ (List.mem_of_getElem? (i := 147) rfl)) rfl)⟩
set_option maxRecDepth 20000 in
theorem fX5_19 : FOk RX5 19 5 2 := ⟨_, rfl, by decide, (lwg_of (List.mem_append_right _ (List.mem_of_getElem? (i := 148) rfl)) rfl)⟩
set_option maxRecDepth 20000 in
theorem gX5_19 : FPut RX5 19 5 2 .int := ⟨_, rfl, by decide, (lwg_of (List.mem_append_right _ (List.mem_of_getElem? (i := 148) rfl)) rfl), rfl, by decide +kernel⟩
set_option maxRecDepth 20000 in
theorem fX6_9 : FOk RX6 9 6 0 := ⟨_, rfl, by decide, (lwg_of (List.mem_append_right _ (List.mem_of_getElem? (i := 78) rfl)) rfl)⟩
set_option maxRecDepth 20000 in
theorem fX6_15 : FOk RX6 15 6 1 := ⟨_, rfl, by decide, (lwg_of (List.mem_append_right _ (List.mem_of_getElem? (i := 80) rfl)) rfl)⟩
set_option maxRecDepth 20000 in
theorem fX6_18 : FOk RX6 18 6 2 := ⟨_, rfl, by decide, (lwg_of (List.mem_append_right _ (List.mem_of_getElem? (i := 82) rfl)) rfl)⟩
set_option maxRecDepth 20000 in
theorem fX6_21 : FOk RX6 21 6 3 := ⟨_, rfl, by decide, (lwg_of (List.mem_append_right _ (List.mem_of_getElem? (i := 84) rfl)) rfl)⟩
set_option maxRecDepth 20000 in
theorem fX6_27 : FOk RX6 27 6 4 := ⟨_, rfl, by decide, (lwg_of (List.mem_append_right _ (List.mem_of_getElem? (i := 85) rfl)) rfl)⟩
set_option maxRecDepth 20000 in
theorem fX6_31 : FOk RX6 31 6 5 := ⟨_, rfl, by decide, (lwg_of (List.mem_append_right _ (List.mem_of_getElem? (i := 87) rfl)) rfl)⟩
set_option maxRecDepth 20000 in
theorem gX6_31 : FPut RX6 31 6 5 .int := ⟨_, rfl, by decide, (lwg_of (List.mem_append_right _ (List.mem_of_getElem? (i := 87) rfl)) rfl), rfl, by decide +kernel⟩
set_option maxRecDepth 20000 in
theorem fX6_35 : FOk RX6 35 6 6 := ⟨_, rfl, by decide, (lwg_of (List.mem_append_right _ (List.mem_of_getElem? (i := 89) rfl)) rfl)⟩
set_option maxRecDepth 20000 in
theorem gX6_35 : FPut RX6 35 6 6 .int := ⟨_, rfl, by decide, (lwg_of (List.mem_append_right _ (List.mem_of_getElem? (i := 89) rfl)) rfl), rfl, by decide +kernel⟩
set_option maxRecDepth 20000 in
theorem fX6_38 : FOk RX6 38 6 7 := ⟨_, rfl, by decide, (lwg_of (List.mem_append_right _ (List.mem_of_getElem? (i := 91) rfl)) rfl)⟩
set_option maxRecDepth 20000 in
theorem gX6_38 : FPut RX6 38 6 7 .int := ⟨_, rfl, by decide, (lwg_of (List.mem_append_right _ (List.mem_of_getElem? (i := 91) rfl)) rfl), rfl, by decide +kernel⟩
set_option maxRecDepth 20000 in
theorem fX7_9 : FOk RX7 9 7 0 := ⟨_, rfl, by decide, (lwg_of (List.mem_append_right _ (List.mem_of_getElem? (i := 29) rfl)) rfl)⟩
set_option maxRecDepth 20000 in
theorem fX7_15 : FOk RX7 15 7 1 := ⟨_, rfl, by decide, (lwg_of (List.mem_append_right _ (List.mem_of_getElem? (i := 30) rfl)) rfl)⟩
set_option maxRecDepth 20000 in
theorem gX7_15 : FPut RX7 15 7 1 .int := ⟨_, rfl, by decide, (lwg_of (List.mem_append_right _ (List.mem_of_getElem? (i := 30) rfl)) rfl), rfl, by decide +kernel⟩
set_option maxRecDepth 20000 in
theorem fX7_19 : FOk RX7 19 7 2 := ⟨_, rfl, by decide, (lwg_of (List.mem_append_right _ (List.mem_of_getElem? (i := 32) rfl)) rfl)⟩
set_option maxRecDepth 20000 in
theorem gX7_19 : FPut RX7 19 7 2 .int := ⟨_, rfl, by decide, (lwg_of (List.mem_append_right _ (List.mem_of_getElem? (i := 32) rfl)) rfl), rfl, by decide +kernel⟩
set_option maxRecDepth 20000 in
theorem fX7_22 : FOk RX7 22 7 3 := ⟨_, rfl, by decide, (lwg_of (List.mem_append_right _ (List.mem_of_getElem? (i := 33) rfl)) rfl)⟩
set_option maxRecDepth 20000 in
theorem gX7_22 : FPut RX7 22 7 3 .int := ⟨_, rfl, by decide, (lwg_of (List.mem_append_right _ (List.mem_of_getElem? (i := 33) rfl)) rfl), rfl, by decide +kernel⟩
set_option maxRecDepth 20000 in
theorem fX7_25 : FOk RX7 25 7 4 := ⟨_, rfl, by decide, (lwg_of (List.mem_append_right _ (List.mem_of_getElem? (i := 34) rfl)) rfl)⟩
set_option maxRecDepth 20000 in
theorem gX7_25 : FPut RX7 25 7 4 .int := ⟨_, rfl, by decide, (lwg_of (List.mem_append_right _ (List.mem_of_getElem? (i := 34) rfl)) rfl), rfl, by decide +kernel⟩
set_option maxRecDepth 20000 in
theorem fX7_44 : FOk RX7 44 3 4 := ⟨_, rfl, by decide, (lwg_of (List.mem_append_right _ (List.mem_of_getElem? (i := 190) rfl)) rfl)⟩
set_option maxRecDepth 20000 in
theorem gX7_44 : FPut RX7 44 3 4 .int := ⟨_, rfl, by decide, (lwg_of (List.mem_append_right _ (List.mem_of_getElem? (i := 190) rfl)) rfl), rfl, by decide +kernel⟩
set_option maxRecDepth 20000 in
theorem fX7_54 : FOk RX7 54 3 5 := ⟨_, rfl, by decide, (lwg_of (List.mem_append_right _ (List.mem_of_getElem? (i := 194) rfl)) rfl)⟩
set_option maxRecDepth 20000 in
theorem fX7_60 : FOk RX7 60 3 6 := ⟨_, rfl, by decide, (lwg_of (List.mem_append_right _ (List.mem_of_getElem? (i := 196) rfl)) rfl)⟩
set_option maxRecDepth 20000 in
theorem fX8_9 : FOk RX8 9 8 0 := ⟨_, rfl, by decide, (lwg_of (List.mem_append_right _ (List.mem_of_getElem? (i := 131) rfl)) rfl)⟩
set_option maxRecDepth 20000 in
theorem fX8_15 : FOk RX8 15 8 1 := ⟨_, rfl, by decide, (lwg_of (List.mem_append_right _ (List.mem_of_getElem? (i := 133) rfl)) rfl)⟩
set_option maxRecDepth 20000 in
theorem gX8_15 : FPut RX8 15 8 1 .int := ⟨_, rfl, by decide, (lwg_of (List.mem_append_right _ (List.mem_of_getElem? (i := 133) rfl)) rfl), rfl, by decide +kernel⟩
set_option maxRecDepth 20000 in
theorem fX10_7 : FOk RX10 7 10 0 := ⟨_, rfl, by decide, (lwg_of (List.mem_append_right _ (List.mem_of_getElem? (i := 747) rfl)) rfl)⟩
set_option maxRecDepth 20000 in
theorem fX10_13 : FOk RX10 13 10 1 := ⟨_, rfl, by decide, (lwg_of (List.mem_append_right _ (List.mem_of_getElem? (i := 748) rfl)) rfl)⟩
set_option maxRecDepth 20000 in
theorem fX10_16 : FOk RX10 16 10 2 := ⟨_, rfl, by decide, (lwg_of (List.mem_append_right _ (List.mem_of_getElem? (i := 749) rfl)) rfl)⟩
set_option maxRecDepth 20000 in
theorem fX10_19 : FOk RX10 19 10 3 := ⟨_, rfl, by decide, (lwg_of (List.mem_append_right _ (List.mem_of_getElem? (i := 750) rfl)) rfl)⟩
set_option maxRecDepth 20000 in
theorem fX10_22 : FOk RX10 22 10 4 := ⟨_, rfl, by decide, (lwg_of (List.mem_append_right _ (List.mem_of_getElem? (i := 751) rfl)) rfl)⟩
set_option maxRecDepth 20000 in
theorem fX10_25 : FOk RX10 25 10 6 := ⟨_, rfl, by decide, (lwg_of (List.mem_append_right _ (List.mem_of_getElem? (i := 753) rfl)) rfl)⟩
set_option maxRecDepth 20000 in
theorem fX10_28 : FOk RX10 28 10 7 := ⟨_, rfl, by decide, (lwg_of (List.mem_append_right _ (List.mem_of_getElem? (i := 754) rfl)) rfl)⟩
set_option maxRecDepth 20000 in
theorem fX10_32 : FOk RX10 32 10 9 := ⟨_, rfl, by decide, (lwg_of (List.mem_append_right _ (List.mem_of_getElem? (i := 756) rfl)) rfl)⟩
set_option maxRecDepth 20000 in
theorem fX10_35 : FOk RX10 35 10 11 := ⟨_, rfl, by decide, (lwg_of (List.mem_append_right _ (List.mem_of_getElem? (i := 758) rfl)) rfl)⟩
set_option maxRecDepth 20000 in
theorem gX10_35 : FPut RX10 35 10 11 .int := ⟨_, rfl, by decide, (lwg_of (List.mem_append_right _ (List.mem_of_getElem? (i := 758) rfl)) rfl), rfl, by decide +kernel⟩
set_option maxRecDepth 20000 in
theorem fX10_39 : FOk RX10 39 10 12 := ⟨_, rfl, by decide, (lwg_of (List.mem_append_right _ (List.mem_of_getElem? (i := 759) rfl)) rfl)⟩
set_option maxRecDepth 20000 in
theorem fX10_42 : FOk RX10 42 10 14 := ⟨_, rfl, by decide, (lwg_of (List.mem_append_right _ (List.mem_of_getElem? (i := 761) rfl)) rfl)⟩
set_option maxRecDepth 20000 in
theorem fX10_45 : FOk RX10 45 10 22 := ⟨_, rfl, by decide, (lwg_of (List.mem_append_right _ (List.mem_of_getElem? (i := 769) rfl)) rfl)⟩
set_option maxRecDepth 20000 in
theorem fX10_48 : FOk RX10 48 10 5 := ⟨_, rfl, by decide, (lwg_of (List.mem_append_right _ (List.mem_of_getElem? (i := 752) rfl)) rfl)⟩
set_option maxRecDepth 20000 in
theorem gX10_48 : FPut RX10 48 10 5 .int := ⟨_, rfl, by decide, (lwg_of (List.mem_append_right _ (List.mem_of_getElem? (i := 752) rfl)) rfl), rfl, by decide +kernel⟩
set_option maxRecDepth 20000 in
theorem fX10_51 : FOk RX10 51 10 13 := ⟨_, rfl, by decide, (lwg_of (List.mem_append_right _ (List.mem_of_getElem? (i := 760) rfl)) rfl)⟩
set_option maxRecDepth 20000 in
theorem gX10_51 : FPut RX10 51 10 13 .int := ⟨_, rfl, by decide, (lwg_of (List.mem_append_right _ (List.mem_of_getElem? (i := 760) rfl)) rfl), rfl, by decide +kernel⟩
set_option maxRecDepth 20000 in
theorem fX10_54 : FOk RX10 54 10 15 := ⟨_, rfl, by decide, (lwg_of (List.mem_append_right _ (List.mem_of_getElem? (i := 762) rfl)) rfl)⟩
set_option maxRecDepth 20000 in
theorem gX10_54 : FPut RX10 54 10 15 .int := ⟨_, rfl, by decide, (lwg_of (List.mem_append_right _ (List.mem_of_getElem? (i := 762) rfl)) rfl), rfl, by decide +kernel⟩
set_option maxRecDepth 20000 in
theorem fX10_64 : FOk RX10 64 10 10 := ⟨_, rfl, by decide, (lwg_of (List.mem_append_right _ (List.mem_of_getElem? (i := 757) rfl)) rfl)⟩
set_option maxRecDepth 20000 in
theorem gX10_64 : FPut RX10 64 10 10 .int := ⟨_, rfl, by decide, (lwg_of (List.mem_append_right _ (List.mem_of_getElem? (i := 757) rfl)) rfl), rfl, by decide +kernel⟩
set_option maxRecDepth 20000 in
theorem fX10_68 : FOk RX10 68 10 16 := ⟨_, rfl, by decide, (lwg_of (List.mem_append_right _ (List.mem_of_getElem? (i := 763) rfl)) rfl)⟩
set_option maxRecDepth 20000 in
theorem gX10_68 : FPut RX10 68 10 16 .int := ⟨_, rfl, by decide, (lwg_of (List.mem_append_right _ (List.mem_of_getElem? (i := 763) rfl)) rfl), rfl, by decide +kernel⟩
set_option maxRecDepth 20000 in
theorem fX10_75 : FOk RX10 75 10 17 := ⟨_, rfl, by decide, (lwg_of (List.mem_append_right _ (List.mem_of_getElem? (i := 764) rfl)) rfl)⟩
set_option maxRecDepth 20000 in
theorem gX10_75 : FPut RX10 75 10 17 .int := ⟨_, rfl, by decide, (lwg_of (List.mem_append_right _ (List.mem_of_getElem? (i := 764) rfl)) rfl), rfl, by decide +kernel⟩
set_option maxRecDepth 20000 in
theorem fX10_78 : FOk RX10 78 10 18 := ⟨_, rfl, by decide, (lwg_of (List.mem_append_right _ (List.mem_of_getElem? (i := 765) rfl)) rfl)⟩
set_option maxRecDepth 20000 in
theorem gX10_78 : FPut RX10 78 10 18 .int := ⟨_, rfl, by decide, (lwg_of (List.mem_append_right _ (List.mem_of_getElem? (i := 765) rfl)) rfl), rfl, by decide +kernel⟩
set_option maxRecDepth 20000 in
theorem fX10_81 : FOk RX10 81 10 19 := ⟨_, rfl, by decide, (lwg_of (List.mem_append_right _ (List.mem_of_getElem? (i := 766) rfl)) rfl)⟩
set_option maxRecDepth 20000 in
theorem gX10_81 : FPut RX10 81 10 19 .int := ⟨_, rfl, by decide, (lwg_of (List.mem_append_right _ (List.mem_of_getElem? (i := 766) rfl)) rfl), rfl, by decide +kernel⟩
set_option maxRecDepth 20000 in
theorem fX10_84 : FOk RX10 84 10 20 := ⟨_, rfl, by decide, (lwg_of (List.mem_append_right _ (List.mem_of_getElem? (i := 767) rfl)) rfl)⟩
set_option maxRecDepth 20000 in
theorem gX10_84 : FPut RX10 84 10 20 .int := ⟨_, rfl, by decide, (lwg_of (List.mem_append_right _ (List.mem_of_getElem? (i := 767) rfl)) rfl), rfl, by decide +kernel⟩
set_option maxRecDepth 20000 in
theorem fX10_91 : FOk RX10 91 10 21 := ⟨_, rfl, by decide, (lwg_of (List.mem_append_right _ (List.mem_of_getElem? (i := 768) rfl)) rfl)⟩
set_option maxRecDepth 20000 in
theorem gX10_91 : FPut RX10 91 10 21 .int := ⟨_, rfl, by decide, (lwg_of (List.mem_append_right _ (List.mem_of_getElem? (i := 768) rfl)) rfl), rfl, by decide +kernel⟩
set_option maxRecDepth 20000 in
theorem fX10_230 : FOk RX10 230 10 8 := ⟨_, rfl, by decide, (lwg_of (List.mem_append_right _ (List.mem_of_getElem? (i := 755) rfl)) rfl)⟩
set_option maxRecDepth 20000 in
theorem gX10_230 : FPut RX10 230 10 8 .long := ⟨_, rfl, by decide, (lwg_of (List.mem_append_right _ (List.mem_of_getElem? (i := 755) rfl)) rfl), rfl, by decide +kernel⟩
set_option maxRecDepth 20000 in
theorem kX9_78 : Jvm.Cond.constant RX9 78 (Int32.ofInt (-1000000002)) ∈ lwg := (lwg_of (List.mem_append_right _ (List.mem_of_getElem? (i := 274) rfl)) rfl)
set_option maxRecDepth 20000 in
theorem kX9_82 : Jvm.Cond.constant RX9 82 (Int32.ofInt (-1000000004)) ∈ lwg := (lwg_of (List.mem_append_right _ (List.mem_of_getElem? (i := 275) rfl)) rfl)
set_option maxRecDepth 20000 in
theorem kX9_158 : Jvm.Cond.constant RX9 158 (Int32.ofInt (-1000000001)) ∈ lwg := (lwg_of (List.mem_append_right _ (List.mem_of_getElem? (i := 415) rfl)) rfl)
set_option maxRecDepth 20000 in
theorem kX9_220 : Jvm.Cond.constant RX9 220 (Int32.ofInt (-1000000003)) ∈ lwg := (lwg_of (List.mem_append_right _ (List.mem_of_getElem? (i := 497) rfl)) rfl)
set_option maxRecDepth 20000 in
theorem kX9_308 : Jvm.Cond.constant RX9 308 (Int32.ofInt (90000)) ∈ lwg := (lwg_of (List.mem_append_right _ (List.mem_of_getElem? (i := 498) rfl)) rfl)
set_option maxRecDepth 20000 in
theorem kX9_319 : Jvm.Cond.constant RX9 319 (Int32.ofInt (65536)) ∈ lwg := (lwg_of (List.mem_append_right _ (List.mem_of_getElem? (i := 599) rfl)) rfl)
set_option maxRecDepth 20000 in
theorem kX10_63 : Jvm.Cond.constant RX10 63 (Int32.ofInt (-1000000002)) ∈ lwg := (lwg_of (List.mem_append_right _ (List.mem_of_getElem? (i := 825) rfl)) rfl)
set_option maxRecDepth 20000 in
theorem kX10_67 : Jvm.Cond.constant RX10 67 (Int32.ofInt (-1000000004)) ∈ lwg := (lwg_of (List.mem_append_right _ (List.mem_of_getElem? (i := 826) rfl)) rfl)
set_option maxRecDepth 20000 in
theorem kX10_197 : Jvm.Cond.constant RX10 197 (Int32.ofInt (-1000000001)) ∈ lwg := (lwg_of (List.mem_append_right _ (List.mem_of_getElem? (i := 919) rfl)) rfl)
set_option maxRecDepth 20000 in
theorem kX10_216 : Jvm.Cond.constant RX10 216 (Int32.ofInt (-1000000003)) ∈ lwg := (lwg_of (List.mem_append_right _ (List.mem_of_getElem? (i := 981) rfl)) rfl)
set_option maxRecDepth 20000 in
theorem kX10_217 : Jvm.Cond.constant RX10 217 (Int32.ofInt (90000)) ∈ lwg := (lwg_of (List.mem_append_right _ (List.mem_of_getElem? (i := 982) rfl)) rfl)
set_option maxRecDepth 20000 in
theorem kX10_261 : Jvm.Cond.constant RX10 261 (Int32.ofInt (100000000)) ∈ lwg := (lwg_of (List.mem_append_right _ (List.mem_of_getElem? (i := 1090) rfl)) rfl)
set_option maxRecDepth 20000 in
theorem kJ6_265 : Jvm.Cond.constant RJ6 265 (Int32.ofInt (1431655765)) ∈ lwg := (lwg_of (List.mem_append_right _ (List.mem_of_getElem? (i := 468) rfl)) rfl)
set_option maxRecDepth 20000 in
theorem kJ6_266 : Jvm.Cond.constant RJ6 266 (Int32.ofInt (858993459)) ∈ lwg := (lwg_of (List.mem_append_right _ (List.mem_of_getElem? (i := 469) rfl)) rfl)
set_option maxRecDepth 20000 in
theorem kJ6_267 : Jvm.Cond.constant RJ6 267 (Int32.ofInt (252645135)) ∈ lwg := (lwg_of (List.mem_append_right _ (List.mem_of_getElem? (i := 470) rfl)) rfl)
set_option maxRecDepth 20000 in
theorem kX9_276 : Jvm.Cond.constantLong RX9 276 (Int64.ofInt (1000000000)) ∈ lwg := (lwg_of (List.mem_append_right _ (List.mem_of_getElem? (i := 688) rfl)) rfl)
set_option maxRecDepth 20000 in
theorem kX9_278 : Jvm.Cond.constantLong RX9 278 (Int64.ofInt (100)) ∈ lwg := (lwg_of (List.mem_append_right _ (List.mem_of_getElem? (i := 689) rfl)) rfl)
set_option maxRecDepth 20000 in
theorem kX9_313 : Jvm.Cond.constantLong RX9 313 (Int64.ofInt (1103515245)) ∈ lwg := (lwg_of (List.mem_append_right _ (List.mem_of_getElem? (i := 596) rfl)) rfl)
set_option maxRecDepth 20000 in
theorem kX9_315 : Jvm.Cond.constantLong RX9 315 (Int64.ofInt (12345)) ∈ lwg := (lwg_of (List.mem_append_right _ (List.mem_of_getElem? (i := 597) rfl)) rfl)
set_option maxRecDepth 20000 in
theorem kX9_317 : Jvm.Cond.constantLong RX9 317 (Int64.ofInt (2147483648)) ∈ lwg := (lwg_of (List.mem_append_right _ (List.mem_of_getElem? (i := 598) rfl)) rfl)
set_option maxRecDepth 20000 in
theorem kX10_57 : Jvm.Cond.constantLong RX10 57 (Int64.ofInt (255)) ∈ lwg := (lwg_of (List.mem_append_right _ (List.mem_of_getElem? (i := 821) rfl)) rfl)
set_option maxRecDepth 20000 in
theorem kX10_87 : Jvm.Cond.constantLong RX10 87 (Int64.ofInt (48)) ∈ lwg := (lwg_of (List.mem_append_right _ (List.mem_of_getElem? (i := 839) rfl)) rfl)
set_option maxRecDepth 20000 in
theorem kX10_89 : Jvm.Cond.constantLong RX10 89 (Int64.ofInt (57)) ∈ lwg := (lwg_of (List.mem_append_right _ (List.mem_of_getElem? (i := 840) rfl)) rfl)
set_option maxRecDepth 20000 in
theorem kX10_210 : Jvm.Cond.constantLong RX10 210 (Int64.ofInt (2)) ∈ lwg := (lwg_of (List.mem_append_right _ (List.mem_of_getElem? (i := 966) rfl)) rfl)
set_option maxRecDepth 20000 in
theorem kX10_212 : Jvm.Cond.constantLong RX10 212 (Int64.ofInt (3)) ∈ lwg := (lwg_of (List.mem_append_right _ (List.mem_of_getElem? (i := 971) rfl)) rfl)
set_option maxRecDepth 20000 in
theorem kX10_214 : Jvm.Cond.constantLong RX10 214 (Int64.ofInt (30)) ∈ lwg := (lwg_of (List.mem_append_right _ (List.mem_of_getElem? (i := 980) rfl)) rfl)
set_option maxRecDepth 20000 in
theorem kX10_228 : Jvm.Cond.constantLong RX10 228 (Int64.ofInt (99)) ∈ lwg := (lwg_of (List.mem_append_right _ (List.mem_of_getElem? (i := 1027) rfl)) rfl)
set_option maxRecDepth 20000 in
theorem kX10_234 : Jvm.Cond.constantLong RX10 234 (Int64.ofInt (1103515245)) ∈ lwg := (lwg_of (List.mem_append_right _ (List.mem_of_getElem? (i := 1040) rfl)) rfl)
set_option maxRecDepth 20000 in
theorem kX10_236 : Jvm.Cond.constantLong RX10 236 (Int64.ofInt (12345)) ∈ lwg := (lwg_of (List.mem_append_right _ (List.mem_of_getElem? (i := 1041) rfl)) rfl)
set_option maxRecDepth 20000 in
theorem kX10_238 : Jvm.Cond.constantLong RX10 238 (Int64.ofInt (2147483648)) ∈ lwg := (lwg_of (List.mem_append_right _ (List.mem_of_getElem? (i := 1042) rfl)) rfl)
set_option maxRecDepth 20000 in
theorem kX10_240 : Jvm.Cond.constantLong RX10 240 (Int64.ofInt (65536)) ∈ lwg := (lwg_of (List.mem_append_right _ (List.mem_of_getElem? (i := 1043) rfl)) rfl)
set_option maxRecDepth 20000 in
theorem kX10_248 : Jvm.Cond.constantLong RX10 248 (Int64.ofInt (60)) ∈ lwg := (lwg_of (List.mem_append_right _ (List.mem_of_getElem? (i := 1056) rfl)) rfl)
set_option maxRecDepth 20000 in
theorem kX10_259 : Jvm.Cond.constantLong RX10 259 (Int64.ofInt (5)) ∈ lwg := (lwg_of (List.mem_append_right _ (List.mem_of_getElem? (i := 1089) rfl)) rfl)
set_option maxRecDepth 20000 in
theorem kX10_265 : Jvm.Cond.constantLong RX10 265 (Int64.ofInt (100)) ∈ lwg := (lwg_of (List.mem_append_right _ (List.mem_of_getElem? (i := 1103) rfl)) rfl)
set_option maxRecDepth 20000 in
theorem kX10_267 : Jvm.Cond.constantLong RX10 267 (Int64.ofInt (1000000000)) ∈ lwg := (lwg_of (List.mem_append_right _ (List.mem_of_getElem? (i := 1104) rfl)) rfl)
set_option maxRecDepth 20000 in
theorem vmX9_areSeenWithout : VM mX9_areSeenWithout 2 := ⟨(lwg_of (List.mem_append_right _ (List.mem_of_getElem? (i := 642) rfl)) rfl), (lwg_of (List.mem_append_left _ (List.mem_of_getElem? (i := 8) rfl)) rfl), (lwg_of (List.mem_append_right _ (List.mem_of_getElem? (i := 1) rfl)) rfl), (lwg_of (List.mem_append_right _ (List.mem_of_getElem? (i := 643) rfl)) rfl), ⟨by decide, by decide, by decide⟩⟩
set_option maxRecDepth 20000 in
theorem vmX9_ask : VM mX9_ask 0 := ⟨(lwg_of (List.mem_append_right _ (List.mem_of_getElem? (i := 707) rfl)) rfl), (lwg_of (List.mem_append_right _ (List.mem_of_getElem? (i := 708) rfl)) rfl), (lwg_of (List.mem_append_right _ (List.mem_of_getElem? (i := 1) rfl)) rfl), (lwg_of (List.mem_append_right _ (List.mem_of_getElem? (i := 709) rfl)) rfl), ⟨by decide, by decide, by decide⟩⟩
set_option maxRecDepth 20000 in
theorem vmX9_chip : VM mX9_chip 2 := ⟨(lwg_of (List.mem_append_right _ (List.mem_of_getElem? (i := 580) rfl)) rfl), (lwg_of (List.mem_append_right _ (List.mem_of_getElem? (i := 581) rfl)) rfl), (lwg_of (List.mem_append_right _ (List.mem_of_getElem? (i := 1) rfl)) rfl), (lwg_of (List.mem_append_right _ (List.mem_of_getElem? (i := 582) rfl)) rfl), ⟨by decide, by decide, by decide⟩⟩
set_option maxRecDepth 20000 in
theorem vmX9_couldBe : VM mX9_couldBe 0 := ⟨(lwg_of (List.mem_append_right _ (List.mem_of_getElem? (i := 699) rfl)) rfl), (lwg_of (List.mem_append_right _ (List.mem_of_getElem? (i := 700) rfl)) rfl), (lwg_of (List.mem_append_right _ (List.mem_of_getElem? (i := 1) rfl)) rfl), (lwg_of (List.mem_append_right _ (List.mem_of_getElem? (i := 701) rfl)) rfl), ⟨by decide, by decide, by decide⟩⟩
set_option maxRecDepth 20000 in
theorem vmX9_dark : VM mX9_dark 1 := ⟨(lwg_of (List.mem_append_right _ (List.mem_of_getElem? (i := 613) rfl)) rfl), (lwg_of (List.mem_append_right _ (List.mem_of_getElem? (i := 614) rfl)) rfl), (lwg_of (List.mem_append_right _ (List.mem_of_getElem? (i := 1) rfl)) rfl), (lwg_of (List.mem_append_right _ (List.mem_of_getElem? (i := 615) rfl)) rfl), ⟨by decide, by decide, by decide⟩⟩
set_option maxRecDepth 20000 in
theorem vmX9_darkBehindTurns : VM mX9_darkBehindTurns 0 := ⟨(lwg_of (List.mem_append_right _ (List.mem_of_getElem? (i := 662) rfl)) rfl), (lwg_of (List.mem_append_left _ (List.mem_of_getElem? (i := 9) rfl)) rfl), (lwg_of (List.mem_append_right _ (List.mem_of_getElem? (i := 1) rfl)) rfl), (lwg_of (List.mem_append_right _ (List.mem_of_getElem? (i := 663) rfl)) rfl), ⟨by decide, by decide, by decide⟩⟩
set_option maxRecDepth 20000 in
theorem vmX9_doByDraw : VM mX9_doByDraw 0 := ⟨(lwg_of (List.mem_append_right _ (List.mem_of_getElem? (i := 590) rfl)) rfl), (lwg_of (List.mem_append_left _ (List.mem_of_getElem? (i := 5) rfl)) rfl), (lwg_of (List.mem_append_right _ (List.mem_of_getElem? (i := 1) rfl)) rfl), (lwg_of (List.mem_append_right _ (List.mem_of_getElem? (i := 591) rfl)) rfl), ⟨by decide, by decide, by decide⟩⟩
set_option maxRecDepth 20000 in
theorem vmX9_drawOf : VM mX9_drawOf 1 := ⟨(lwg_of (List.mem_append_right _ (List.mem_of_getElem? (i := 594) rfl)) rfl), (lwg_of (List.mem_append_left _ (List.mem_of_getElem? (i := 6) rfl)) rfl), (lwg_of (List.mem_append_right _ (List.mem_of_getElem? (i := 1) rfl)) rfl), (lwg_of (List.mem_append_right _ (List.mem_of_getElem? (i := 595) rfl)) rfl), ⟨by decide, by decide, by decide⟩⟩
set_option maxRecDepth 20000 in
theorem vmX9_drift : VM mX9_drift 1 := ⟨(lwg_of (List.mem_append_right _ (List.mem_of_getElem? (i := 585) rfl)) rfl), (lwg_of (List.mem_append_right _ (List.mem_of_getElem? (i := 586) rfl)) rfl), (lwg_of (List.mem_append_right _ (List.mem_of_getElem? (i := 1) rfl)) rfl), (lwg_of (List.mem_append_right _ (List.mem_of_getElem? (i := 587) rfl)) rfl), ⟨by decide, by decide, by decide⟩⟩
set_option maxRecDepth 20000 in
theorem vmX9_fault : VM mX9_fault 0 := ⟨(lwg_of (List.mem_append_right _ (List.mem_of_getElem? (i := 373) rfl)) rfl), (lwg_of (List.mem_append_right _ (List.mem_of_getElem? (i := 374) rfl)) rfl), (lwg_of (List.mem_append_right _ (List.mem_of_getElem? (i := 1) rfl)) rfl), (lwg_of (List.mem_append_right _ (List.mem_of_getElem? (i := 375) rfl)) rfl), ⟨by decide, by decide, by decide⟩⟩
set_option maxRecDepth 20000 in
theorem vmX9_feed : VM mX9_feed 1 := ⟨(lwg_of (List.mem_append_right _ (List.mem_of_getElem? (i := 271) rfl)) rfl), (lwg_of (List.mem_append_right _ (List.mem_of_getElem? (i := 272) rfl)) rfl), (lwg_of (List.mem_append_right _ (List.mem_of_getElem? (i := 1) rfl)) rfl), (lwg_of (List.mem_append_right _ (List.mem_of_getElem? (i := 273) rfl)) rfl), ⟨by decide, by decide, by decide⟩⟩
set_option maxRecDepth 20000 in
theorem vmX9_goBack : VM mX9_goBack 1 := ⟨(lwg_of (List.mem_append_right _ (List.mem_of_getElem? (i := 738) rfl)) rfl), (lwg_of (List.mem_append_right _ (List.mem_of_getElem? (i := 739) rfl)) rfl), (lwg_of (List.mem_append_right _ (List.mem_of_getElem? (i := 1) rfl)) rfl), (lwg_of (List.mem_append_right _ (List.mem_of_getElem? (i := 740) rfl)) rfl), ⟨by decide, by decide, by decide⟩⟩
set_option maxRecDepth 20000 in
theorem vmX9_ground : VM mX9_ground 1 := ⟨(lwg_of (List.mem_append_right _ (List.mem_of_getElem? (i := 681) rfl)) rfl), (lwg_of (List.mem_append_right _ (List.mem_of_getElem? (i := 682) rfl)) rfl), (lwg_of (List.mem_append_right _ (List.mem_of_getElem? (i := 1) rfl)) rfl), (lwg_of (List.mem_append_right _ (List.mem_of_getElem? (i := 683) rfl)) rfl), ⟨by decide, by decide, by decide⟩⟩
set_option maxRecDepth 20000 in
theorem vmX9_judge : VM mX9_judge 0 := ⟨(lwg_of (List.mem_append_right _ (List.mem_of_getElem? (i := 721) rfl)) rfl), (lwg_of (List.mem_append_right _ (List.mem_of_getElem? (i := 722) rfl)) rfl), (lwg_of (List.mem_append_right _ (List.mem_of_getElem? (i := 1) rfl)) rfl), (lwg_of (List.mem_append_right _ (List.mem_of_getElem? (i := 723) rfl)) rfl), ⟨by decide, by decide, by decide⟩⟩
set_option maxRecDepth 20000 in
theorem vmX9_keep : VM mX9_keep 1 := ⟨(lwg_of (List.mem_append_right _ (List.mem_of_getElem? (i := 733) rfl)) rfl), (lwg_of (List.mem_append_right _ (List.mem_of_getElem? (i := 734) rfl)) rfl), (lwg_of (List.mem_append_right _ (List.mem_of_getElem? (i := 1) rfl)) rfl), (lwg_of (List.mem_append_right _ (List.mem_of_getElem? (i := 735) rfl)) rfl), ⟨by decide, by decide, by decide⟩⟩
set_option maxRecDepth 20000 in
theorem vmX9_kinOf : VM mX9_kinOf 1 := ⟨(lwg_of (List.mem_append_right _ (List.mem_of_getElem? (i := 463) rfl)) rfl), (lwg_of (List.mem_append_left _ (List.mem_of_getElem? (i := 3) rfl)) rfl), (lwg_of (List.mem_append_right _ (List.mem_of_getElem? (i := 1) rfl)) rfl), (lwg_of (List.mem_append_right _ (List.mem_of_getElem? (i := 464) rfl)) rfl), ⟨by decide, by decide, by decide⟩⟩
set_option maxRecDepth 20000 in
theorem vmX9_layer : VM mX9_layer 2 := ⟨(lwg_of (List.mem_append_right _ (List.mem_of_getElem? (i := 477) rfl)) rfl), (lwg_of (List.mem_append_right _ (List.mem_of_getElem? (i := 478) rfl)) rfl), (lwg_of (List.mem_append_right _ (List.mem_of_getElem? (i := 1) rfl)) rfl), (lwg_of (List.mem_append_right _ (List.mem_of_getElem? (i := 479) rfl)) rfl), ⟨by decide, by decide, by decide⟩⟩
set_option maxRecDepth 20000 in
theorem vmX9_line : VM mX9_line 0 := ⟨(lwg_of (List.mem_append_right _ (List.mem_of_getElem? (i := 281) rfl)) rfl), (lwg_of (List.mem_append_right _ (List.mem_of_getElem? (i := 282) rfl)) rfl), (lwg_of (List.mem_append_right _ (List.mem_of_getElem? (i := 1) rfl)) rfl), (lwg_of (List.mem_append_right _ (List.mem_of_getElem? (i := 283) rfl)) rfl), ⟨by decide, by decide, by decide⟩⟩
set_option maxRecDepth 20000 in
theorem vmX9_logged : VM mX9_logged 2 := ⟨(lwg_of (List.mem_append_right _ (List.mem_of_getElem? (i := 482) rfl)) rfl), (lwg_of (List.mem_append_right _ (List.mem_of_getElem? (i := 483) rfl)) rfl), (lwg_of (List.mem_append_right _ (List.mem_of_getElem? (i := 1) rfl)) rfl), (lwg_of (List.mem_append_right _ (List.mem_of_getElem? (i := 484) rfl)) rfl), ⟨by decide, by decide, by decide⟩⟩
set_option maxRecDepth 20000 in
theorem vmX9_meet : VM mX9_meet 2 := ⟨(lwg_of (List.mem_append_right _ (List.mem_of_getElem? (i := 691) rfl)) rfl), (lwg_of (List.mem_append_right _ (List.mem_of_getElem? (i := 692) rfl)) rfl), (lwg_of (List.mem_append_right _ (List.mem_of_getElem? (i := 1) rfl)) rfl), (lwg_of (List.mem_append_right _ (List.mem_of_getElem? (i := 693) rfl)) rfl), ⟨by decide, by decide, by decide⟩⟩
set_option maxRecDepth 20000 in
theorem vmX9_mist : VM mX9_mist 2 := ⟨(lwg_of (List.mem_append_right _ (List.mem_of_getElem? (i := 685) rfl)) rfl), (lwg_of (List.mem_append_right _ (List.mem_of_getElem? (i := 686) rfl)) rfl), (lwg_of (List.mem_append_right _ (List.mem_of_getElem? (i := 1) rfl)) rfl), (lwg_of (List.mem_append_right _ (List.mem_of_getElem? (i := 687) rfl)) rfl), ⟨by decide, by decide, by decide⟩⟩
set_option maxRecDepth 20000 in
theorem vmX9_only : VM mX9_only 2 := ⟨(lwg_of (List.mem_append_right _ (List.mem_of_getElem? (i := 645) rfl)) rfl), (lwg_of (List.mem_append_right _ (List.mem_of_getElem? (i := 646) rfl)) rfl), (lwg_of (List.mem_append_right _ (List.mem_of_getElem? (i := 1) rfl)) rfl), (lwg_of (List.mem_append_right _ (List.mem_of_getElem? (i := 647) rfl)) rfl), ⟨by decide, by decide, by decide⟩⟩
set_option maxRecDepth 20000 in
theorem vmX9_order : VM mX9_order 2 := ⟨(lwg_of (List.mem_append_right _ (List.mem_of_getElem? (i := 653) rfl)) rfl), (lwg_of (List.mem_append_right _ (List.mem_of_getElem? (i := 654) rfl)) rfl), (lwg_of (List.mem_append_right _ (List.mem_of_getElem? (i := 1) rfl)) rfl), (lwg_of (List.mem_append_right _ (List.mem_of_getElem? (i := 655) rfl)) rfl), ⟨by decide, by decide, by decide⟩⟩
set_option maxRecDepth 20000 in
theorem vmX9_refusalOfYears : VM mX9_refusalOfYears 1 := ⟨(lwg_of (List.mem_append_right _ (List.mem_of_getElem? (i := 495) rfl)) rfl), (lwg_of (List.mem_append_left _ (List.mem_of_getElem? (i := 4) rfl)) rfl), (lwg_of (List.mem_append_right _ (List.mem_of_getElem? (i := 1) rfl)) rfl), (lwg_of (List.mem_append_right _ (List.mem_of_getElem? (i := 496) rfl)) rfl), ⟨by decide, by decide, by decide⟩⟩
set_option maxRecDepth 20000 in
theorem vmX9_scene : VM mX9_scene 2 := ⟨(lwg_of (List.mem_append_right _ (List.mem_of_getElem? (i := 408) rfl)) rfl), (lwg_of (List.mem_append_right _ (List.mem_of_getElem? (i := 409) rfl)) rfl), (lwg_of (List.mem_append_right _ (List.mem_of_getElem? (i := 1) rfl)) rfl), (lwg_of (List.mem_append_right _ (List.mem_of_getElem? (i := 410) rfl)) rfl), ⟨by decide, by decide, by decide⟩⟩
set_option maxRecDepth 20000 in
theorem vmX9_scenesOfAll : VM mX9_scenesOfAll 0 := ⟨(lwg_of (List.mem_append_right _ (List.mem_of_getElem? (i := 386) rfl)) rfl), (lwg_of (List.mem_append_left _ (List.mem_of_getElem? (i := 0) rfl)) rfl), (lwg_of (List.mem_append_right _ (List.mem_of_getElem? (i := 1) rfl)) rfl), (lwg_of (List.mem_append_right _ (List.mem_of_getElem? (i := 387) rfl)) rfl), ⟨by decide, by decide, by decide⟩⟩
set_option maxRecDepth 20000 in
theorem vmX9_scenesTakenFor : VM mX9_scenesTakenFor 1 := ⟨(lwg_of (List.mem_append_right _ (List.mem_of_getElem? (i := 432) rfl)) rfl), (lwg_of (List.mem_append_left _ (List.mem_of_getElem? (i := 1) rfl)) rfl), (lwg_of (List.mem_append_right _ (List.mem_of_getElem? (i := 1) rfl)) rfl), (lwg_of (List.mem_append_right _ (List.mem_of_getElem? (i := 433) rfl)) rfl), ⟨by decide, by decide, by decide⟩⟩
set_option maxRecDepth 20000 in
theorem vmX9_seed : VM mX9_seed 1 := ⟨(lwg_of (List.mem_append_right _ (List.mem_of_getElem? (i := 729) rfl)) rfl), (lwg_of (List.mem_append_right _ (List.mem_of_getElem? (i := 730) rfl)) rfl), (lwg_of (List.mem_append_right _ (List.mem_of_getElem? (i := 1) rfl)) rfl), (lwg_of (List.mem_append_right _ (List.mem_of_getElem? (i := 731) rfl)) rfl), ⟨by decide, by decide, by decide⟩⟩
set_option maxRecDepth 20000 in
theorem vmX9_takeOff : VM mX9_takeOff 0 := ⟨(lwg_of (List.mem_append_right _ (List.mem_of_getElem? (i := 571) rfl)) rfl), (lwg_of (List.mem_append_right _ (List.mem_of_getElem? (i := 572) rfl)) rfl), (lwg_of (List.mem_append_right _ (List.mem_of_getElem? (i := 1) rfl)) rfl), (lwg_of (List.mem_append_right _ (List.mem_of_getElem? (i := 573) rfl)) rfl), ⟨by decide, by decide, by decide⟩⟩
set_option maxRecDepth 20000 in
theorem vmX9_takenNow : VM mX9_takenNow 1 := ⟨(lwg_of (List.mem_append_right _ (List.mem_of_getElem? (i := 436) rfl)) rfl), (lwg_of (List.mem_append_left _ (List.mem_of_getElem? (i := 2) rfl)) rfl), (lwg_of (List.mem_append_right _ (List.mem_of_getElem? (i := 1) rfl)) rfl), (lwg_of (List.mem_append_right _ (List.mem_of_getElem? (i := 437) rfl)) rfl), ⟨by decide, by decide, by decide⟩⟩
set_option maxRecDepth 20000 in
theorem vmX9_takes : VM mX9_takes 1 := ⟨(lwg_of (List.mem_append_right _ (List.mem_of_getElem? (i := 609) rfl)) rfl), (lwg_of (List.mem_append_right _ (List.mem_of_getElem? (i := 610) rfl)) rfl), (lwg_of (List.mem_append_right _ (List.mem_of_getElem? (i := 1) rfl)) rfl), (lwg_of (List.mem_append_right _ (List.mem_of_getElem? (i := 611) rfl)) rfl), ⟨by decide, by decide, by decide⟩⟩
set_option maxRecDepth 20000 in
theorem vmX9_tear : VM mX9_tear 0 := ⟨(lwg_of (List.mem_append_right _ (List.mem_of_getElem? (i := 725) rfl)) rfl), (lwg_of (List.mem_append_right _ (List.mem_of_getElem? (i := 726) rfl)) rfl), (lwg_of (List.mem_append_right _ (List.mem_of_getElem? (i := 1) rfl)) rfl), (lwg_of (List.mem_append_right _ (List.mem_of_getElem? (i := 727) rfl)) rfl), ⟨by decide, by decide, by decide⟩⟩
set_option maxRecDepth 20000 in
theorem vmX9_toWipe : VM mX9_toWipe 2 := ⟨(lwg_of (List.mem_append_right _ (List.mem_of_getElem? (i := 634) rfl)) rfl), (lwg_of (List.mem_append_right _ (List.mem_of_getElem? (i := 635) rfl)) rfl), (lwg_of (List.mem_append_right _ (List.mem_of_getElem? (i := 1) rfl)) rfl), (lwg_of (List.mem_append_right _ (List.mem_of_getElem? (i := 636) rfl)) rfl), ⟨by decide, by decide, by decide⟩⟩
set_option maxRecDepth 20000 in
theorem vmX9_told : VM mX9_told 1 := ⟨(lwg_of (List.mem_append_right _ (List.mem_of_getElem? (i := 377) rfl)) rfl), (lwg_of (List.mem_append_right _ (List.mem_of_getElem? (i := 378) rfl)) rfl), (lwg_of (List.mem_append_right _ (List.mem_of_getElem? (i := 1) rfl)) rfl), (lwg_of (List.mem_append_right _ (List.mem_of_getElem? (i := 379) rfl)) rfl), ⟨by decide, by decide, by decide⟩⟩
set_option maxRecDepth 20000 in
theorem vmX9_tooDark : VM mX9_tooDark 1 := ⟨(lwg_of (List.mem_append_right _ (List.mem_of_getElem? (i := 622) rfl)) rfl), (lwg_of (List.mem_append_right _ (List.mem_of_getElem? (i := 623) rfl)) rfl), (lwg_of (List.mem_append_right _ (List.mem_of_getElem? (i := 1) rfl)) rfl), (lwg_of (List.mem_append_right _ (List.mem_of_getElem? (i := 624) rfl)) rfl), ⟨by decide, by decide, by decide⟩⟩
set_option maxRecDepth 20000 in
theorem vmX9_tryYears : VM mX9_tryYears 1 := ⟨(lwg_of (List.mem_append_right _ (List.mem_of_getElem? (i := 618) rfl)) rfl), (lwg_of (List.mem_append_left _ (List.mem_of_getElem? (i := 7) rfl)) rfl), (lwg_of (List.mem_append_right _ (List.mem_of_getElem? (i := 1) rfl)) rfl), (lwg_of (List.mem_append_right _ (List.mem_of_getElem? (i := 619) rfl)) rfl), ⟨by decide, by decide, by decide⟩⟩
set_option maxRecDepth 20000 in
theorem vmX9_undo : VM mX9_undo 1 := ⟨(lwg_of (List.mem_append_right _ (List.mem_of_getElem? (i := 601) rfl)) rfl), (lwg_of (List.mem_append_right _ (List.mem_of_getElem? (i := 602) rfl)) rfl), (lwg_of (List.mem_append_right _ (List.mem_of_getElem? (i := 1) rfl)) rfl), (lwg_of (List.mem_append_right _ (List.mem_of_getElem? (i := 603) rfl)) rfl), ⟨by decide, by decide, by decide⟩⟩
set_option maxRecDepth 20000 in
theorem vmX9_wear : VM mX9_wear 1 := ⟨(lwg_of (List.mem_append_right _ (List.mem_of_getElem? (i := 567) rfl)) rfl), (lwg_of (List.mem_append_right _ (List.mem_of_getElem? (i := 568) rfl)) rfl), (lwg_of (List.mem_append_right _ (List.mem_of_getElem? (i := 1) rfl)) rfl), (lwg_of (List.mem_append_right _ (List.mem_of_getElem? (i := 569) rfl)) rfl), ⟨by decide, by decide, by decide⟩⟩
set_option maxRecDepth 20000 in
theorem vmX9_wearer : VM mX9_wearer 2 := ⟨(lwg_of (List.mem_append_right _ (List.mem_of_getElem? (i := 449) rfl)) rfl), (lwg_of (List.mem_append_right _ (List.mem_of_getElem? (i := 450) rfl)) rfl), (lwg_of (List.mem_append_right _ (List.mem_of_getElem? (i := 1) rfl)) rfl), (lwg_of (List.mem_append_right _ (List.mem_of_getElem? (i := 451) rfl)) rfl), ⟨by decide, by decide, by decide⟩⟩
set_option maxRecDepth 20000 in
theorem vmX9_willShow : VM mX9_willShow 2 := ⟨(lwg_of (List.mem_append_right _ (List.mem_of_getElem? (i := 626) rfl)) rfl), (lwg_of (List.mem_append_right _ (List.mem_of_getElem? (i := 627) rfl)) rfl), (lwg_of (List.mem_append_right _ (List.mem_of_getElem? (i := 1) rfl)) rfl), (lwg_of (List.mem_append_right _ (List.mem_of_getElem? (i := 628) rfl)) rfl), ⟨by decide, by decide, by decide⟩⟩
set_option maxRecDepth 20000 in
theorem vmX9_wipe : VM mX9_wipe 1 := ⟨(lwg_of (List.mem_append_right _ (List.mem_of_getElem? (i := 575) rfl)) rfl), (lwg_of (List.mem_append_right _ (List.mem_of_getElem? (i := 576) rfl)) rfl), (lwg_of (List.mem_append_right _ (List.mem_of_getElem? (i := 1) rfl)) rfl), (lwg_of (List.mem_append_right _ (List.mem_of_getElem? (i := 577) rfl)) rfl), ⟨by decide, by decide, by decide⟩⟩
set_option maxRecDepth 20000 in
theorem vmX9_write : VM mX9_write 2 := ⟨(lwg_of (List.mem_append_right _ (List.mem_of_getElem? (i := 713) rfl)) rfl), (lwg_of (List.mem_append_right _ (List.mem_of_getElem? (i := 714) rfl)) rfl), (lwg_of (List.mem_append_right _ (List.mem_of_getElem? (i := 1) rfl)) rfl), (lwg_of (List.mem_append_right _ (List.mem_of_getElem? (i := 715) rfl)) rfl), ⟨by decide, by decide, by decide⟩⟩
set_option maxRecDepth 20000 in
theorem vmX9_year : VM mX9_year 1 := ⟨(lwg_of (List.mem_append_right _ (List.mem_of_getElem? (i := 490) rfl)) rfl), (lwg_of (List.mem_append_right _ (List.mem_of_getElem? (i := 491) rfl)) rfl), (lwg_of (List.mem_append_right _ (List.mem_of_getElem? (i := 1) rfl)) rfl), (lwg_of (List.mem_append_right _ (List.mem_of_getElem? (i := 492) rfl)) rfl), ⟨by decide, by decide, by decide⟩⟩
set_option maxRecDepth 20000 in
theorem vmX0_add : VM mX0_add 2 := ⟨(lwg_of (List.mem_append_right _ (List.mem_of_getElem? (i := 717) rfl)) rfl), (lwg_of (List.mem_append_right _ (List.mem_of_getElem? (i := 718) rfl)) rfl), (lwg_of (List.mem_append_right _ (List.mem_of_getElem? (i := 8) rfl)) rfl), (lwg_of (List.mem_append_right _ (List.mem_of_getElem? (i := 719) rfl)) rfl), ⟨by decide, by decide, by decide⟩⟩
set_option maxRecDepth 20000 in
theorem vmX0_forget : VM mX0_forget 0 := ⟨(lwg_of (List.mem_append_right _ (List.mem_of_getElem? (i := 369) rfl)) rfl), (lwg_of (List.mem_append_right _ (List.mem_of_getElem? (i := 370) rfl)) rfl), (lwg_of (List.mem_append_right _ (List.mem_of_getElem? (i := 8) rfl)) rfl), (lwg_of (List.mem_append_right _ (List.mem_of_getElem? (i := 371) rfl)) rfl), ⟨by decide, by decide, by decide⟩⟩
set_option maxRecDepth 20000 in
theorem vmX1_forget : VM mX1_forget 0 := ⟨(lwg_of (List.mem_append_right _ (List.mem_of_getElem? (i := 361) rfl)) rfl), (lwg_of (List.mem_append_right _ (List.mem_of_getElem? (i := 362) rfl)) rfl), (lwg_of (List.mem_append_right _ (List.mem_of_getElem? (i := 3) rfl)) rfl), (lwg_of (List.mem_append_right _ (List.mem_of_getElem? (i := 363) rfl)) rfl), ⟨by decide, by decide, by decide⟩⟩
set_option maxRecDepth 20000 in
theorem vmX1_remember : VM mX1_remember 1 := ⟨(lwg_of (List.mem_append_right _ (List.mem_of_getElem? (i := 500) rfl)) rfl), (lwg_of (List.mem_append_right _ (List.mem_of_getElem? (i := 501) rfl)) rfl), (lwg_of (List.mem_append_right _ (List.mem_of_getElem? (i := 3) rfl)) rfl), (lwg_of (List.mem_append_right _ (List.mem_of_getElem? (i := 502) rfl)) rfl), ⟨by decide, by decide, by decide⟩⟩
set_option maxRecDepth 20000 in
theorem vmX1_restore : VM mX1_restore 2 := ⟨(lwg_of (List.mem_append_right _ (List.mem_of_getElem? (i := 605) rfl)) rfl), (lwg_of (List.mem_append_right _ (List.mem_of_getElem? (i := 606) rfl)) rfl), (lwg_of (List.mem_append_right _ (List.mem_of_getElem? (i := 3) rfl)) rfl), (lwg_of (List.mem_append_right _ (List.mem_of_getElem? (i := 607) rfl)) rfl), ⟨by decide, by decide, by decide⟩⟩
set_option maxRecDepth 20000 in
theorem vmX3_addLook : VM mX3_addLook 1 := ⟨(lwg_of (List.mem_append_right _ (List.mem_of_getElem? (i := 341) rfl)) rfl), (lwg_of (List.mem_append_right _ (List.mem_of_getElem? (i := 342) rfl)) rfl), (lwg_of (List.mem_append_right _ (List.mem_of_getElem? (i := 9) rfl)) rfl), (lwg_of (List.mem_append_right _ (List.mem_of_getElem? (i := 343) rfl)) rfl), ⟨by decide, by decide, by decide⟩⟩
set_option maxRecDepth 20000 in
theorem vmX3_addScene : VM mX3_addScene 2 := ⟨(lwg_of (List.mem_append_right _ (List.mem_of_getElem? (i := 329) rfl)) rfl), (lwg_of (List.mem_append_right _ (List.mem_of_getElem? (i := 330) rfl)) rfl), (lwg_of (List.mem_append_right _ (List.mem_of_getElem? (i := 9) rfl)) rfl), (lwg_of (List.mem_append_right _ (List.mem_of_getElem? (i := 331) rfl)) rfl), ⟨by decide, by decide, by decide⟩⟩
set_option maxRecDepth 20000 in
theorem vmX3_addWearer : VM mX3_addWearer 0 := ⟨(lwg_of (List.mem_append_right _ (List.mem_of_getElem? (i := 337) rfl)) rfl), (lwg_of (List.mem_append_right _ (List.mem_of_getElem? (i := 338) rfl)) rfl), (lwg_of (List.mem_append_right _ (List.mem_of_getElem? (i := 9) rfl)) rfl), (lwg_of (List.mem_append_right _ (List.mem_of_getElem? (i := 339) rfl)) rfl), ⟨by decide, by decide, by decide⟩⟩
set_option maxRecDepth 20000 in
theorem vmX3_brightOf : VM mX3_brightOf 1 := ⟨(lwg_of (List.mem_append_right _ (List.mem_of_getElem? (i := 422) rfl)) rfl), (lwg_of (List.mem_append_right _ (List.mem_of_getElem? (i := 423) rfl)) rfl), (lwg_of (List.mem_append_right _ (List.mem_of_getElem? (i := 9) rfl)) rfl), (lwg_of (List.mem_append_right _ (List.mem_of_getElem? (i := 424) rfl)) rfl), ⟨by decide, by decide, by decide⟩⟩
set_option maxRecDepth 20000 in
theorem vmX3_forget : VM mX3_forget 0 := ⟨(lwg_of (List.mem_append_right _ (List.mem_of_getElem? (i := 289) rfl)) rfl), (lwg_of (List.mem_append_right _ (List.mem_of_getElem? (i := 290) rfl)) rfl), (lwg_of (List.mem_append_right _ (List.mem_of_getElem? (i := 9) rfl)) rfl), (lwg_of (List.mem_append_right _ (List.mem_of_getElem? (i := 291) rfl)) rfl), ⟨by decide, by decide, by decide⟩⟩
set_option maxRecDepth 20000 in
theorem vmX3_gain : VM mX3_gain 1 := ⟨(lwg_of (List.mem_append_right _ (List.mem_of_getElem? (i := 531) rfl)) rfl), (lwg_of (List.mem_append_right _ (List.mem_of_getElem? (i := 532) rfl)) rfl), (lwg_of (List.mem_append_right _ (List.mem_of_getElem? (i := 9) rfl)) rfl), (lwg_of (List.mem_append_right _ (List.mem_of_getElem? (i := 533) rfl)) rfl), ⟨by decide, by decide, by decide⟩⟩
set_option maxRecDepth 20000 in
theorem vmX3_hasScene : VM mX3_hasScene 1 := ⟨(lwg_of (List.mem_append_right _ (List.mem_of_getElem? (i := 412) rfl)) rfl), (lwg_of (List.mem_append_right _ (List.mem_of_getElem? (i := 413) rfl)) rfl), (lwg_of (List.mem_append_right _ (List.mem_of_getElem? (i := 9) rfl)) rfl), (lwg_of (List.mem_append_right _ (List.mem_of_getElem? (i := 414) rfl)) rfl), ⟨by decide, by decide, by decide⟩⟩
set_option maxRecDepth 20000 in
theorem vmX3_hasWearer : VM mX3_hasWearer 1 := ⟨(lwg_of (List.mem_append_right _ (List.mem_of_getElem? (i := 345) rfl)) rfl), (lwg_of (List.mem_append_right _ (List.mem_of_getElem? (i := 346) rfl)) rfl), (lwg_of (List.mem_append_right _ (List.mem_of_getElem? (i := 9) rfl)) rfl), (lwg_of (List.mem_append_right _ (List.mem_of_getElem? (i := 347) rfl)) rfl), ⟨by decide, by decide, by decide⟩⟩
set_option maxRecDepth 20000 in
theorem vmX3_kindOf : VM mX3_kindOf 1 := ⟨(lwg_of (List.mem_append_right _ (List.mem_of_getElem? (i := 417) rfl)) rfl), (lwg_of (List.mem_append_right _ (List.mem_of_getElem? (i := 418) rfl)) rfl), (lwg_of (List.mem_append_right _ (List.mem_of_getElem? (i := 9) rfl)) rfl), (lwg_of (List.mem_append_right _ (List.mem_of_getElem? (i := 419) rfl)) rfl), ⟨by decide, by decide, by decide⟩⟩
set_option maxRecDepth 20000 in
theorem vmX3_looksOf : VM mX3_looksOf 1 := ⟨(lwg_of (List.mem_append_right _ (List.mem_of_getElem? (i := 454) rfl)) rfl), (lwg_of (List.mem_append_right _ (List.mem_of_getElem? (i := 455) rfl)) rfl), (lwg_of (List.mem_append_right _ (List.mem_of_getElem? (i := 9) rfl)) rfl), (lwg_of (List.mem_append_right _ (List.mem_of_getElem? (i := 456) rfl)) rfl), ⟨by decide, by decide, by decide⟩⟩
set_option maxRecDepth 20000 in
theorem vmX3_sceneInYear : VM mX3_sceneInYear 2 := ⟨(lwg_of (List.mem_append_right _ (List.mem_of_getElem? (i := 472) rfl)) rfl), (lwg_of (List.mem_append_right _ (List.mem_of_getElem? (i := 473) rfl)) rfl), (lwg_of (List.mem_append_right _ (List.mem_of_getElem? (i := 9) rfl)) rfl), (lwg_of (List.mem_append_right _ (List.mem_of_getElem? (i := 474) rfl)) rfl), ⟨by decide, by decide, by decide⟩⟩
set_option maxRecDepth 20000 in
theorem vmX3_veil : VM mX3_veil 2 := ⟨(lwg_of (List.mem_append_right _ (List.mem_of_getElem? (i := 426) rfl)) rfl), (lwg_of (List.mem_append_right _ (List.mem_of_getElem? (i := 427) rfl)) rfl), (lwg_of (List.mem_append_right _ (List.mem_of_getElem? (i := 9) rfl)) rfl), (lwg_of (List.mem_append_right _ (List.mem_of_getElem? (i := 428) rfl)) rfl), ⟨by decide, by decide, by decide⟩⟩
set_option maxRecDepth 20000 in
theorem vmX4_add : VM mX4_add 4 := ⟨(lwg_of (List.mem_append_right _ (List.mem_of_getElem? (i := 527) rfl)) rfl), (lwg_of (List.mem_append_right _ (List.mem_of_getElem? (i := 528) rfl)) rfl), (lwg_of (List.mem_append_right _ (List.mem_of_getElem? (i := 5) rfl)) rfl), (lwg_of (List.mem_append_right _ (List.mem_of_getElem? (i := 529) rfl)) rfl), ⟨by decide, by decide, by decide⟩⟩
set_option maxRecDepth 20000 in
theorem vmX4_at : VM mX4_at 2 := ⟨(lwg_of (List.mem_append_right _ (List.mem_of_getElem? (i := 486) rfl)) rfl), (lwg_of (List.mem_append_right _ (List.mem_of_getElem? (i := 487) rfl)) rfl), (lwg_of (List.mem_append_right _ (List.mem_of_getElem? (i := 5) rfl)) rfl), (lwg_of (List.mem_append_right _ (List.mem_of_getElem? (i := 488) rfl)) rfl), ⟨by decide, by decide, by decide⟩⟩
set_option maxRecDepth 20000 in
theorem vmX4_copyAll : VM mX4_copyAll 1 := ⟨(lwg_of (List.mem_append_right _ (List.mem_of_getElem? (i := 515) rfl)) rfl), (lwg_of (List.mem_append_right _ (List.mem_of_getElem? (i := 516) rfl)) rfl), (lwg_of (List.mem_append_right _ (List.mem_of_getElem? (i := 5) rfl)) rfl), (lwg_of (List.mem_append_right _ (List.mem_of_getElem? (i := 517) rfl)) rfl), ⟨by decide, by decide, by decide⟩⟩
set_option maxRecDepth 20000 in
theorem vmX4_forget : VM mX4_forget 0 := ⟨(lwg_of (List.mem_append_right _ (List.mem_of_getElem? (i := 357) rfl)) rfl), (lwg_of (List.mem_append_right _ (List.mem_of_getElem? (i := 358) rfl)) rfl), (lwg_of (List.mem_append_right _ (List.mem_of_getElem? (i := 5) rfl)) rfl), (lwg_of (List.mem_append_right _ (List.mem_of_getElem? (i := 359) rfl)) rfl), ⟨by decide, by decide, by decide⟩⟩
set_option maxRecDepth 20000 in
theorem vmX5_add : VM mX5_add 2 := ⟨(lwg_of (List.mem_append_right _ (List.mem_of_getElem? (i := 695) rfl)) rfl), (lwg_of (List.mem_append_right _ (List.mem_of_getElem? (i := 696) rfl)) rfl), (lwg_of (List.mem_append_right _ (List.mem_of_getElem? (i := 7) rfl)) rfl), (lwg_of (List.mem_append_right _ (List.mem_of_getElem? (i := 697) rfl)) rfl), ⟨by decide, by decide, by decide⟩⟩
set_option maxRecDepth 20000 in
theorem vmX5_fits : VM mX5_fits 1 := ⟨(lwg_of (List.mem_append_right _ (List.mem_of_getElem? (i := 703) rfl)) rfl), (lwg_of (List.mem_append_right _ (List.mem_of_getElem? (i := 704) rfl)) rfl), (lwg_of (List.mem_append_right _ (List.mem_of_getElem? (i := 7) rfl)) rfl), (lwg_of (List.mem_append_right _ (List.mem_of_getElem? (i := 705) rfl)) rfl), ⟨by decide, by decide, by decide⟩⟩
set_option maxRecDepth 20000 in
theorem vmX5_forget : VM mX5_forget 0 := ⟨(lwg_of (List.mem_append_right _ (List.mem_of_getElem? (i := 365) rfl)) rfl), (lwg_of (List.mem_append_right _ (List.mem_of_getElem? (i := 366) rfl)) rfl), (lwg_of (List.mem_append_right _ (List.mem_of_getElem? (i := 7) rfl)) rfl), (lwg_of (List.mem_append_right _ (List.mem_of_getElem? (i := 367) rfl)) rfl), ⟨by decide, by decide, by decide⟩⟩
set_option maxRecDepth 20000 in
theorem vmX6_copyAll : VM mX6_copyAll 1 := ⟨(lwg_of (List.mem_append_right _ (List.mem_of_getElem? (i := 504) rfl)) rfl), (lwg_of (List.mem_append_right _ (List.mem_of_getElem? (i := 505) rfl)) rfl), (lwg_of (List.mem_append_right _ (List.mem_of_getElem? (i := 4) rfl)) rfl), (lwg_of (List.mem_append_right _ (List.mem_of_getElem? (i := 506) rfl)) rfl), ⟨by decide, by decide, by decide⟩⟩
set_option maxRecDepth 20000 in
theorem vmX6_copyGlass : VM mX6_copyGlass 1 := ⟨(lwg_of (List.mem_append_right _ (List.mem_of_getElem? (i := 508) rfl)) rfl), (lwg_of (List.mem_append_right _ (List.mem_of_getElem? (i := 509) rfl)) rfl), (lwg_of (List.mem_append_right _ (List.mem_of_getElem? (i := 4) rfl)) rfl), (lwg_of (List.mem_append_right _ (List.mem_of_getElem? (i := 510) rfl)) rfl), ⟨by decide, by decide, by decide⟩⟩
set_option maxRecDepth 20000 in
theorem vmX6_darkness : VM mX6_darkness 0 := ⟨(lwg_of (List.mem_append_right _ (List.mem_of_getElem? (i := 381) rfl)) rfl), (lwg_of (List.mem_append_right _ (List.mem_of_getElem? (i := 382) rfl)) rfl), (lwg_of (List.mem_append_right _ (List.mem_of_getElem? (i := 4) rfl)) rfl), (lwg_of (List.mem_append_right _ (List.mem_of_getElem? (i := 383) rfl)) rfl), ⟨by decide, by decide, by decide⟩⟩
set_option maxRecDepth 20000 in
theorem vmX6_deepen : VM mX6_deepen 2 := ⟨(lwg_of (List.mem_append_right _ (List.mem_of_getElem? (i := 535) rfl)) rfl), (lwg_of (List.mem_append_right _ (List.mem_of_getElem? (i := 536) rfl)) rfl), (lwg_of (List.mem_append_right _ (List.mem_of_getElem? (i := 4) rfl)) rfl), (lwg_of (List.mem_append_right _ (List.mem_of_getElem? (i := 537) rfl)) rfl), ⟨by decide, by decide, by decide⟩⟩
set_option maxRecDepth 20000 in
theorem vmX6_fadeBut : VM mX6_fadeBut 2 := ⟨(lwg_of (List.mem_append_right _ (List.mem_of_getElem? (i := 558) rfl)) rfl), (lwg_of (List.mem_append_right _ (List.mem_of_getElem? (i := 559) rfl)) rfl), (lwg_of (List.mem_append_right _ (List.mem_of_getElem? (i := 4) rfl)) rfl), (lwg_of (List.mem_append_right _ (List.mem_of_getElem? (i := 560) rfl)) rfl), ⟨by decide, by decide, by decide⟩⟩
set_option maxRecDepth 20000 in
theorem vmX6_fading : VM mX6_fading 2 := ⟨(lwg_of (List.mem_append_right _ (List.mem_of_getElem? (i := 563) rfl)) rfl), (lwg_of (List.mem_append_right _ (List.mem_of_getElem? (i := 564) rfl)) rfl), (lwg_of (List.mem_append_right _ (List.mem_of_getElem? (i := 4) rfl)) rfl), (lwg_of (List.mem_append_right _ (List.mem_of_getElem? (i := 565) rfl)) rfl), ⟨by decide, by decide, by decide⟩⟩
set_option maxRecDepth 20000 in
theorem vmX6_find : VM mX6_find 2 := ⟨(lwg_of (List.mem_append_right _ (List.mem_of_getElem? (i := 539) rfl)) rfl), (lwg_of (List.mem_append_right _ (List.mem_of_getElem? (i := 540) rfl)) rfl), (lwg_of (List.mem_append_right _ (List.mem_of_getElem? (i := 4) rfl)) rfl), (lwg_of (List.mem_append_right _ (List.mem_of_getElem? (i := 541) rfl)) rfl), ⟨by decide, by decide, by decide⟩⟩
set_option maxRecDepth 20000 in
theorem vmX6_hasLayer : VM mX6_hasLayer 1 := ⟨(lwg_of (List.mem_append_right _ (List.mem_of_getElem? (i := 444) rfl)) rfl), (lwg_of (List.mem_append_right _ (List.mem_of_getElem? (i := 445) rfl)) rfl), (lwg_of (List.mem_append_right _ (List.mem_of_getElem? (i := 4) rfl)) rfl), (lwg_of (List.mem_append_right _ (List.mem_of_getElem? (i := 446) rfl)) rfl), ⟨by decide, by decide, by decide⟩⟩
set_option maxRecDepth 20000 in
theorem vmX6_lay : VM mX6_lay 3 := ⟨(lwg_of (List.mem_append_right _ (List.mem_of_getElem? (i := 543) rfl)) rfl), (lwg_of (List.mem_append_right _ (List.mem_of_getElem? (i := 544) rfl)) rfl), (lwg_of (List.mem_append_right _ (List.mem_of_getElem? (i := 4) rfl)) rfl), (lwg_of (List.mem_append_right _ (List.mem_of_getElem? (i := 545) rfl)) rfl), ⟨by decide, by decide, by decide⟩⟩
set_option maxRecDepth 20000 in
theorem vmX6_layersBefore : VM mX6_layersBefore 1 := ⟨(lwg_of (List.mem_append_right _ (List.mem_of_getElem? (i := 649) rfl)) rfl), (lwg_of (List.mem_append_right _ (List.mem_of_getElem? (i := 650) rfl)) rfl), (lwg_of (List.mem_append_right _ (List.mem_of_getElem? (i := 4) rfl)) rfl), (lwg_of (List.mem_append_right _ (List.mem_of_getElem? (i := 651) rfl)) rfl), ⟨by decide, by decide, by decide⟩⟩
set_option maxRecDepth 20000 in
theorem vmX6_lowestOfWearers : VM mX6_lowestOfWearers 0 := ⟨(lwg_of (List.mem_append_right _ (List.mem_of_getElem? (i := 393) rfl)) rfl), (lwg_of (List.mem_append_right _ (List.mem_of_getElem? (i := 394) rfl)) rfl), (lwg_of (List.mem_append_right _ (List.mem_of_getElem? (i := 4) rfl)) rfl), (lwg_of (List.mem_append_right _ (List.mem_of_getElem? (i := 395) rfl)) rfl), ⟨by decide, by decide, by decide⟩⟩
set_option maxRecDepth 20000 in
theorem vmX6_passYear : VM mX6_passYear 1 := ⟨(lwg_of (List.mem_append_right _ (List.mem_of_getElem? (i := 520) rfl)) rfl), (lwg_of (List.mem_append_right _ (List.mem_of_getElem? (i := 521) rfl)) rfl), (lwg_of (List.mem_append_right _ (List.mem_of_getElem? (i := 4) rfl)) rfl), (lwg_of (List.mem_append_right _ (List.mem_of_getElem? (i := 522) rfl)) rfl), ⟨by decide, by decide, by decide⟩⟩
set_option maxRecDepth 20000 in
theorem vmX6_remove : VM mX6_remove 1 := ⟨(lwg_of (List.mem_append_right _ (List.mem_of_getElem? (i := 551) rfl)) rfl), (lwg_of (List.mem_append_right _ (List.mem_of_getElem? (i := 552) rfl)) rfl), (lwg_of (List.mem_append_right _ (List.mem_of_getElem? (i := 4) rfl)) rfl), (lwg_of (List.mem_append_right _ (List.mem_of_getElem? (i := 553) rfl)) rfl), ⟨by decide, by decide, by decide⟩⟩
set_option maxRecDepth 20000 in
theorem vmX6_reset : VM mX6_reset 0 := ⟨(lwg_of (List.mem_append_right _ (List.mem_of_getElem? (i := 353) rfl)) rfl), (lwg_of (List.mem_append_right _ (List.mem_of_getElem? (i := 354) rfl)) rfl), (lwg_of (List.mem_append_right _ (List.mem_of_getElem? (i := 4) rfl)) rfl), (lwg_of (List.mem_append_right _ (List.mem_of_getElem? (i := 355) rfl)) rfl), ⟨by decide, by decide, by decide⟩⟩
set_option maxRecDepth 20000 in
theorem vmX6_scenesOf : VM mX6_scenesOf 1 := ⟨(lwg_of (List.mem_append_right _ (List.mem_of_getElem? (i := 389) rfl)) rfl), (lwg_of (List.mem_append_right _ (List.mem_of_getElem? (i := 390) rfl)) rfl), (lwg_of (List.mem_append_right _ (List.mem_of_getElem? (i := 4) rfl)) rfl), (lwg_of (List.mem_append_right _ (List.mem_of_getElem? (i := 391) rfl)) rfl), ⟨by decide, by decide, by decide⟩⟩
set_option maxRecDepth 20000 in
theorem vmX6_strengthOfScene : VM mX6_strengthOfScene 1 := ⟨(lwg_of (List.mem_append_right _ (List.mem_of_getElem? (i := 630) rfl)) rfl), (lwg_of (List.mem_append_right _ (List.mem_of_getElem? (i := 631) rfl)) rfl), (lwg_of (List.mem_append_right _ (List.mem_of_getElem? (i := 4) rfl)) rfl), (lwg_of (List.mem_append_right _ (List.mem_of_getElem? (i := 632) rfl)) rfl), ⟨by decide, by decide, by decide⟩⟩
set_option maxRecDepth 20000 in
theorem vmX6_strongestBut : VM mX6_strongestBut 1 := ⟨(lwg_of (List.mem_append_right _ (List.mem_of_getElem? (i := 397) rfl)) rfl), (lwg_of (List.mem_append_right _ (List.mem_of_getElem? (i := 398) rfl)) rfl), (lwg_of (List.mem_append_right _ (List.mem_of_getElem? (i := 4) rfl)) rfl), (lwg_of (List.mem_append_right _ (List.mem_of_getElem? (i := 399) rfl)) rfl), ⟨by decide, by decide, by decide⟩⟩
set_option maxRecDepth 20000 in
theorem vmX6_takenFor : VM mX6_takenFor 4 := ⟨(lwg_of (List.mem_append_right _ (List.mem_of_getElem? (i := 439) rfl)) rfl), (lwg_of (List.mem_append_right _ (List.mem_of_getElem? (i := 440) rfl)) rfl), (lwg_of (List.mem_append_right _ (List.mem_of_getElem? (i := 4) rfl)) rfl), (lwg_of (List.mem_append_right _ (List.mem_of_getElem? (i := 441) rfl)) rfl), ⟨by decide, by decide, by decide⟩⟩
set_option maxRecDepth 20000 in
theorem vmX6_thickest : VM mX6_thickest 0 := ⟨(lwg_of (List.mem_append_right _ (List.mem_of_getElem? (i := 401) rfl)) rfl), (lwg_of (List.mem_append_right _ (List.mem_of_getElem? (i := 402) rfl)) rfl), (lwg_of (List.mem_append_right _ (List.mem_of_getElem? (i := 4) rfl)) rfl), (lwg_of (List.mem_append_right _ (List.mem_of_getElem? (i := 403) rfl)) rfl), ⟨by decide, by decide, by decide⟩⟩
set_option maxRecDepth 20000 in
theorem vmX6_weakest : VM mX6_weakest 0 := ⟨(lwg_of (List.mem_append_right _ (List.mem_of_getElem? (i := 547) rfl)) rfl), (lwg_of (List.mem_append_right _ (List.mem_of_getElem? (i := 548) rfl)) rfl), (lwg_of (List.mem_append_right _ (List.mem_of_getElem? (i := 4) rfl)) rfl), (lwg_of (List.mem_append_right _ (List.mem_of_getElem? (i := 549) rfl)) rfl), ⟨by decide, by decide, by decide⟩⟩
set_option maxRecDepth 20000 in
theorem vmX6_yearsOf : VM mX6_yearsOf 1 := ⟨(lwg_of (List.mem_append_right _ (List.mem_of_getElem? (i := 458) rfl)) rfl), (lwg_of (List.mem_append_right _ (List.mem_of_getElem? (i := 459) rfl)) rfl), (lwg_of (List.mem_append_right _ (List.mem_of_getElem? (i := 4) rfl)) rfl), (lwg_of (List.mem_append_right _ (List.mem_of_getElem? (i := 460) rfl)) rfl), ⟨by decide, by decide, by decide⟩⟩
set_option maxRecDepth 20000 in
theorem vmX7_accept : VM mX7_accept 2 := ⟨(lwg_of (List.mem_append_right _ (List.mem_of_getElem? (i := 305) rfl)) rfl), (lwg_of (List.mem_append_right _ (List.mem_of_getElem? (i := 306) rfl)) rfl), (lwg_of (List.mem_append_right _ (List.mem_of_getElem? (i := 2) rfl)) rfl), (lwg_of (List.mem_append_right _ (List.mem_of_getElem? (i := 307) rfl)) rfl), ⟨by decide, by decide, by decide⟩⟩
set_option maxRecDepth 20000 in
theorem vmX7_append : VM mX7_append 1 := ⟨(lwg_of (List.mem_append_right _ (List.mem_of_getElem? (i := 277) rfl)) rfl), (lwg_of (List.mem_append_right _ (List.mem_of_getElem? (i := 278) rfl)) rfl), (lwg_of (List.mem_append_right _ (List.mem_of_getElem? (i := 2) rfl)) rfl), (lwg_of (List.mem_append_right _ (List.mem_of_getElem? (i := 279) rfl)) rfl), ⟨by decide, by decide, by decide⟩⟩
set_option maxRecDepth 20000 in
theorem vmX7_blame : VM mX7_blame 2 := ⟨(lwg_of (List.mem_append_right _ (List.mem_of_getElem? (i := 309) rfl)) rfl), (lwg_of (List.mem_append_right _ (List.mem_of_getElem? (i := 310) rfl)) rfl), (lwg_of (List.mem_append_right _ (List.mem_of_getElem? (i := 2) rfl)) rfl), (lwg_of (List.mem_append_right _ (List.mem_of_getElem? (i := 311) rfl)) rfl), ⟨by decide, by decide, by decide⟩⟩
set_option maxRecDepth 20000 in
theorem vmX7_empty : VM mX7_empty 0 := ⟨(lwg_of (List.mem_append_right _ (List.mem_of_getElem? (i := 349) rfl)) rfl), (lwg_of (List.mem_append_right _ (List.mem_of_getElem? (i := 350) rfl)) rfl), (lwg_of (List.mem_append_right _ (List.mem_of_getElem? (i := 2) rfl)) rfl), (lwg_of (List.mem_append_right _ (List.mem_of_getElem? (i := 351) rfl)) rfl), ⟨by decide, by decide, by decide⟩⟩
set_option maxRecDepth 20000 in
theorem vmX7_isFigure : VM mX7_isFigure 1 := ⟨(lwg_of (List.mem_append_right _ (List.mem_of_getElem? (i := 321) rfl)) rfl), (lwg_of (List.mem_append_right _ (List.mem_of_getElem? (i := 322) rfl)) rfl), (lwg_of (List.mem_append_right _ (List.mem_of_getElem? (i := 2) rfl)) rfl), (lwg_of (List.mem_append_right _ (List.mem_of_getElem? (i := 323) rfl)) rfl), ⟨by decide, by decide, by decide⟩⟩
set_option maxRecDepth 20000 in
theorem vmX7_letterHere : VM mX7_letterHere 0 := ⟨(lwg_of (List.mem_append_right _ (List.mem_of_getElem? (i := 301) rfl)) rfl), (lwg_of (List.mem_append_right _ (List.mem_of_getElem? (i := 302) rfl)) rfl), (lwg_of (List.mem_append_right _ (List.mem_of_getElem? (i := 2) rfl)) rfl), (lwg_of (List.mem_append_right _ (List.mem_of_getElem? (i := 303) rfl)) rfl), ⟨by decide, by decide, by decide⟩⟩
set_option maxRecDepth 20000 in
theorem vmX7_readClause : VM mX7_readClause 1 := ⟨(lwg_of (List.mem_append_right _ (List.mem_of_getElem? (i := 297) rfl)) rfl), (lwg_of (List.mem_append_right _ (List.mem_of_getElem? (i := 298) rfl)) rfl), (lwg_of (List.mem_append_right _ (List.mem_of_getElem? (i := 2) rfl)) rfl), (lwg_of (List.mem_append_right _ (List.mem_of_getElem? (i := 299) rfl)) rfl), ⟨by decide, by decide, by decide⟩⟩
set_option maxRecDepth 20000 in
theorem vmX7_readClear : VM mX7_readClear 1 := ⟨(lwg_of (List.mem_append_right _ (List.mem_of_getElem? (i := 313) rfl)) rfl), (lwg_of (List.mem_append_right _ (List.mem_of_getElem? (i := 314) rfl)) rfl), (lwg_of (List.mem_append_right _ (List.mem_of_getElem? (i := 2) rfl)) rfl), (lwg_of (List.mem_append_right _ (List.mem_of_getElem? (i := 315) rfl)) rfl), ⟨by decide, by decide, by decide⟩⟩
set_option maxRecDepth 20000 in
theorem vmX7_readInto : VM mX7_readInto 1 := ⟨(lwg_of (List.mem_append_right _ (List.mem_of_getElem? (i := 285) rfl)) rfl), (lwg_of (List.mem_append_right _ (List.mem_of_getElem? (i := 286) rfl)) rfl), (lwg_of (List.mem_append_right _ (List.mem_of_getElem? (i := 2) rfl)) rfl), (lwg_of (List.mem_append_right _ (List.mem_of_getElem? (i := 287) rfl)) rfl), ⟨by decide, by decide, by decide⟩⟩
set_option maxRecDepth 20000 in
theorem vmX7_readNumber : VM mX7_readNumber 2 := ⟨(lwg_of (List.mem_append_right _ (List.mem_of_getElem? (i := 317) rfl)) rfl), (lwg_of (List.mem_append_right _ (List.mem_of_getElem? (i := 318) rfl)) rfl), (lwg_of (List.mem_append_right _ (List.mem_of_getElem? (i := 2) rfl)) rfl), (lwg_of (List.mem_append_right _ (List.mem_of_getElem? (i := 319) rfl)) rfl), ⟨by decide, by decide, by decide⟩⟩
set_option maxRecDepth 20000 in
theorem vmX7_readScene : VM mX7_readScene 1 := ⟨(lwg_of (List.mem_append_right _ (List.mem_of_getElem? (i := 325) rfl)) rfl), (lwg_of (List.mem_append_right _ (List.mem_of_getElem? (i := 326) rfl)) rfl), (lwg_of (List.mem_append_right _ (List.mem_of_getElem? (i := 2) rfl)) rfl), (lwg_of (List.mem_append_right _ (List.mem_of_getElem? (i := 327) rfl)) rfl), ⟨by decide, by decide, by decide⟩⟩
set_option maxRecDepth 20000 in
theorem vmX7_readWearer : VM mX7_readWearer 1 := ⟨(lwg_of (List.mem_append_right _ (List.mem_of_getElem? (i := 333) rfl)) rfl), (lwg_of (List.mem_append_right _ (List.mem_of_getElem? (i := 334) rfl)) rfl), (lwg_of (List.mem_append_right _ (List.mem_of_getElem? (i := 2) rfl)) rfl), (lwg_of (List.mem_append_right _ (List.mem_of_getElem? (i := 335) rfl)) rfl), ⟨by decide, by decide, by decide⟩⟩
set_option maxRecDepth 20000 in
theorem vmX7_skipBlanks : VM mX7_skipBlanks 0 := ⟨(lwg_of (List.mem_append_right _ (List.mem_of_getElem? (i := 293) rfl)) rfl), (lwg_of (List.mem_append_right _ (List.mem_of_getElem? (i := 294) rfl)) rfl), (lwg_of (List.mem_append_right _ (List.mem_of_getElem? (i := 2) rfl)) rfl), (lwg_of (List.mem_append_right _ (List.mem_of_getElem? (i := 295) rfl)) rfl), ⟨by decide, by decide, by decide⟩⟩
set_option maxRecDepth 20000 in
theorem vmX8_advance : VM mX8_advance 0 := ⟨(lwg_of (List.mem_append_right _ (List.mem_of_getElem? (i := 669) rfl)) rfl), (lwg_of (List.mem_append_right _ (List.mem_of_getElem? (i := 670) rfl)) rfl), (lwg_of (List.mem_append_right _ (List.mem_of_getElem? (i := 6) rfl)) rfl), (lwg_of (List.mem_append_right _ (List.mem_of_getElem? (i := 671) rfl)) rfl), ⟨by decide, by decide, by decide⟩⟩
set_option maxRecDepth 20000 in
theorem vmX8_begin : VM mX8_begin 1 := ⟨(lwg_of (List.mem_append_right _ (List.mem_of_getElem? (i := 657) rfl)) rfl), (lwg_of (List.mem_append_right _ (List.mem_of_getElem? (i := 658) rfl)) rfl), (lwg_of (List.mem_append_right _ (List.mem_of_getElem? (i := 6) rfl)) rfl), (lwg_of (List.mem_append_right _ (List.mem_of_getElem? (i := 659) rfl)) rfl), ⟨by decide, by decide, by decide⟩⟩
set_option maxRecDepth 20000 in
theorem vmX8_figures : VM mX8_figures 0 := ⟨(lwg_of (List.mem_append_right _ (List.mem_of_getElem? (i := 665) rfl)) rfl), (lwg_of (List.mem_append_right _ (List.mem_of_getElem? (i := 666) rfl)) rfl), (lwg_of (List.mem_append_right _ (List.mem_of_getElem? (i := 6) rfl)) rfl), (lwg_of (List.mem_append_right _ (List.mem_of_getElem? (i := 667) rfl)) rfl), ⟨by decide, by decide, by decide⟩⟩
set_option maxRecDepth 20000 in
theorem vmX8_lastRise : VM mX8_lastRise 0 := ⟨(lwg_of (List.mem_append_right _ (List.mem_of_getElem? (i := 673) rfl)) rfl), (lwg_of (List.mem_append_right _ (List.mem_of_getElem? (i := 674) rfl)) rfl), (lwg_of (List.mem_append_right _ (List.mem_of_getElem? (i := 6) rfl)) rfl), (lwg_of (List.mem_append_right _ (List.mem_of_getElem? (i := 675) rfl)) rfl), ⟨by decide, by decide, by decide⟩⟩
set_option maxRecDepth 20000 in
theorem vmX8_swap : VM mX8_swap 2 := ⟨(lwg_of (List.mem_append_right _ (List.mem_of_getElem? (i := 677) rfl)) rfl), (lwg_of (List.mem_append_right _ (List.mem_of_getElem? (i := 678) rfl)) rfl), (lwg_of (List.mem_append_right _ (List.mem_of_getElem? (i := 6) rfl)) rfl), (lwg_of (List.mem_append_right _ (List.mem_of_getElem? (i := 679) rfl)) rfl), ⟨by decide, by decide, by decide⟩⟩
set_option maxRecDepth 20000 in
theorem vmX10_areThemselves : VM mX10_areThemselves 2 := ⟨(lwg_of (List.mem_append_right _ (List.mem_of_getElem? (i := 1079) rfl)) rfl), (lwg_of (List.mem_append_left _ (List.mem_of_getElem? (i := 44) rfl)) rfl), (lwg_of (List.mem_append_right _ (List.mem_of_getElem? (i := 11) rfl)) rfl), (lwg_of (List.mem_append_right _ (List.mem_of_getElem? (i := 1080) rfl)) rfl), ⟨by decide, by decide, by decide⟩⟩
set_option maxRecDepth 20000 in
theorem vmX10_ask : VM mX10_ask 0 := ⟨(lwg_of (List.mem_append_right _ (List.mem_of_getElem? (i := 1114) rfl)) rfl), (lwg_of (List.mem_append_right _ (List.mem_of_getElem? (i := 1115) rfl)) rfl), (lwg_of (List.mem_append_right _ (List.mem_of_getElem? (i := 11) rfl)) rfl), (lwg_of (List.mem_append_right _ (List.mem_of_getElem? (i := 1116) rfl)) rfl), ⟨by decide, by decide, by decide⟩⟩
set_option maxRecDepth 20000 in
theorem vmX10_begins : VM mX10_begins 0 := ⟨(lwg_of (List.mem_append_right _ (List.mem_of_getElem? (i := 870) rfl)) rfl), (lwg_of (List.mem_append_left _ (List.mem_of_getElem? (i := 18) rfl)) rfl), (lwg_of (List.mem_append_right _ (List.mem_of_getElem? (i := 11) rfl)) rfl), (lwg_of (List.mem_append_right _ (List.mem_of_getElem? (i := 871) rfl)) rfl), ⟨by decide, by decide, by decide⟩⟩
set_option maxRecDepth 20000 in
theorem vmX10_chip : VM mX10_chip 2 := ⟨(lwg_of (List.mem_append_right _ (List.mem_of_getElem? (i := 1024) rfl)) rfl), (lwg_of (List.mem_append_right _ (List.mem_of_getElem? (i := 1025) rfl)) rfl), (lwg_of (List.mem_append_right _ (List.mem_of_getElem? (i := 11) rfl)) rfl), (lwg_of (List.mem_append_right _ (List.mem_of_getElem? (i := 1026) rfl)) rfl), ⟨by decide, by decide, by decide⟩⟩
set_option maxRecDepth 20000 in
theorem vmX10_couldBe : VM mX10_couldBe 0 := ⟨(lwg_of (List.mem_append_right _ (List.mem_of_getElem? (i := 1110) rfl)) rfl), (lwg_of (List.mem_append_right _ (List.mem_of_getElem? (i := 1111) rfl)) rfl), (lwg_of (List.mem_append_right _ (List.mem_of_getElem? (i := 11) rfl)) rfl), (lwg_of (List.mem_append_right _ (List.mem_of_getElem? (i := 1112) rfl)) rfl), ⟨by decide, by decide, by decide⟩⟩
set_option maxRecDepth 20000 in
theorem vmX10_dark : VM mX10_dark 1 := ⟨(lwg_of (List.mem_append_right _ (List.mem_of_getElem? (i := 1053) rfl)) rfl), (lwg_of (List.mem_append_right _ (List.mem_of_getElem? (i := 1054) rfl)) rfl), (lwg_of (List.mem_append_right _ (List.mem_of_getElem? (i := 11) rfl)) rfl), (lwg_of (List.mem_append_right _ (List.mem_of_getElem? (i := 1055) rfl)) rfl), ⟨by decide, by decide, by decide⟩⟩
set_option maxRecDepth 20000 in
theorem vmX10_darkOn : VM mX10_darkOn 1 := ⟨(lwg_of (List.mem_append_right _ (List.mem_of_getElem? (i := 882) rfl)) rfl), (lwg_of (List.mem_append_left _ (List.mem_of_getElem? (i := 19) rfl)) rfl), (lwg_of (List.mem_append_right _ (List.mem_of_getElem? (i := 11) rfl)) rfl), (lwg_of (List.mem_append_right _ (List.mem_of_getElem? (i := 883) rfl)) rfl), ⟨by decide, by decide, by decide⟩⟩
set_option maxRecDepth 20000 in
theorem vmX10_draw : VM mX10_draw 1 := ⟨(lwg_of (List.mem_append_right _ (List.mem_of_getElem? (i := 1038) rfl)) rfl), (lwg_of (List.mem_append_left _ (List.mem_of_getElem? (i := 41) rfl)) rfl), (lwg_of (List.mem_append_right _ (List.mem_of_getElem? (i := 11) rfl)) rfl), (lwg_of (List.mem_append_right _ (List.mem_of_getElem? (i := 1039) rfl)) rfl), ⟨by decide, by decide, by decide⟩⟩
set_option maxRecDepth 20000 in
theorem vmX10_draws : VM mX10_draws 0 := ⟨(lwg_of (List.mem_append_right _ (List.mem_of_getElem? (i := 1034) rfl)) rfl), (lwg_of (List.mem_append_left _ (List.mem_of_getElem? (i := 40) rfl)) rfl), (lwg_of (List.mem_append_right _ (List.mem_of_getElem? (i := 11) rfl)) rfl), (lwg_of (List.mem_append_right _ (List.mem_of_getElem? (i := 1035) rfl)) rfl), ⟨by decide, by decide, by decide⟩⟩
set_option maxRecDepth 20000 in
theorem vmX10_drift : VM mX10_drift 1 := ⟨(lwg_of (List.mem_append_right _ (List.mem_of_getElem? (i := 1029) rfl)) rfl), (lwg_of (List.mem_append_right _ (List.mem_of_getElem? (i := 1030) rfl)) rfl), (lwg_of (List.mem_append_right _ (List.mem_of_getElem? (i := 11) rfl)) rfl), (lwg_of (List.mem_append_right _ (List.mem_of_getElem? (i := 1031) rfl)) rfl), ⟨by decide, by decide, by decide⟩⟩
set_option maxRecDepth 20000 in
theorem vmX10_ends : VM mX10_ends 0 := ⟨(lwg_of (List.mem_append_right _ (List.mem_of_getElem? (i := 855) rfl)) rfl), (lwg_of (List.mem_append_left _ (List.mem_of_getElem? (i := 15) rfl)) rfl), (lwg_of (List.mem_append_right _ (List.mem_of_getElem? (i := 11) rfl)) rfl), (lwg_of (List.mem_append_right _ (List.mem_of_getElem? (i := 856) rfl)) rfl), ⟨by decide, by decide, by decide⟩⟩
set_option maxRecDepth 20000 in
theorem vmX10_eyes : VM mX10_eyes 0 := ⟨(lwg_of (List.mem_append_right _ (List.mem_of_getElem? (i := 898) rfl)) rfl), (lwg_of (List.mem_append_left _ (List.mem_of_getElem? (i := 23) rfl)) rfl), (lwg_of (List.mem_append_right _ (List.mem_of_getElem? (i := 11) rfl)) rfl), (lwg_of (List.mem_append_right _ (List.mem_of_getElem? (i := 899) rfl)) rfl), ⟨by decide, by decide, by decide⟩⟩
set_option maxRecDepth 20000 in
theorem vmX10_fading : VM mX10_fading 3 := ⟨(lwg_of (List.mem_append_right _ (List.mem_of_getElem? (i := 1009) rfl)) rfl), (lwg_of (List.mem_append_left _ (List.mem_of_getElem? (i := 39) rfl)) rfl), (lwg_of (List.mem_append_right _ (List.mem_of_getElem? (i := 11) rfl)) rfl), (lwg_of (List.mem_append_right _ (List.mem_of_getElem? (i := 1010) rfl)) rfl), ⟨by decide, by decide, by decide⟩⟩
set_option maxRecDepth 20000 in
theorem vmX10_fails : VM mX10_fails 1 := ⟨(lwg_of (List.mem_append_right _ (List.mem_of_getElem? (i := 847) rfl)) rfl), (lwg_of (List.mem_append_left _ (List.mem_of_getElem? (i := 13) rfl)) rfl), (lwg_of (List.mem_append_right _ (List.mem_of_getElem? (i := 11) rfl)) rfl), (lwg_of (List.mem_append_right _ (List.mem_of_getElem? (i := 848) rfl)) rfl), ⟨by decide, by decide, by decide⟩⟩
set_option maxRecDepth 20000 in
theorem vmX10_fault : VM mX10_fault 0 := ⟨(lwg_of (List.mem_append_right _ (List.mem_of_getElem? (i := 873) rfl)) rfl), (lwg_of (List.mem_append_right _ (List.mem_of_getElem? (i := 874) rfl)) rfl), (lwg_of (List.mem_append_right _ (List.mem_of_getElem? (i := 11) rfl)) rfl), (lwg_of (List.mem_append_right _ (List.mem_of_getElem? (i := 875) rfl)) rfl), ⟨by decide, by decide, by decide⟩⟩
set_option maxRecDepth 20000 in
theorem vmX10_feed : VM mX10_feed 1 := ⟨(lwg_of (List.mem_append_right _ (List.mem_of_getElem? (i := 818) rfl)) rfl), (lwg_of (List.mem_append_right _ (List.mem_of_getElem? (i := 819) rfl)) rfl), (lwg_of (List.mem_append_right _ (List.mem_of_getElem? (i := 11) rfl)) rfl), (lwg_of (List.mem_append_right _ (List.mem_of_getElem? (i := 820) rfl)) rfl), ⟨by decide, by decide, by decide⟩⟩
set_option maxRecDepth 20000 in
theorem vmX10_goBack : VM mX10_goBack 1 := ⟨(lwg_of (List.mem_append_right _ (List.mem_of_getElem? (i := 1139) rfl)) rfl), (lwg_of (List.mem_append_right _ (List.mem_of_getElem? (i := 1140) rfl)) rfl), (lwg_of (List.mem_append_right _ (List.mem_of_getElem? (i := 11) rfl)) rfl), (lwg_of (List.mem_append_right _ (List.mem_of_getElem? (i := 1141) rfl)) rfl), ⟨by decide, by decide, by decide⟩⟩
set_option maxRecDepth 20000 in
theorem vmX10_ground : VM mX10_ground 1 := ⟨(lwg_of (List.mem_append_right _ (List.mem_of_getElem? (i := 1096) rfl)) rfl), (lwg_of (List.mem_append_right _ (List.mem_of_getElem? (i := 1097) rfl)) rfl), (lwg_of (List.mem_append_right _ (List.mem_of_getElem? (i := 11) rfl)) rfl), (lwg_of (List.mem_append_right _ (List.mem_of_getElem? (i := 1098) rfl)) rfl), ⟨by decide, by decide, by decide⟩⟩
set_option maxRecDepth 20000 in
theorem vmX10_half : VM mX10_half 2 := ⟨(lwg_of (List.mem_append_right _ (List.mem_of_getElem? (i := 922) rfl)) rfl), (lwg_of (List.mem_append_left _ (List.mem_of_getElem? (i := 27) rfl)) rfl), (lwg_of (List.mem_append_right _ (List.mem_of_getElem? (i := 11) rfl)) rfl), (lwg_of (List.mem_append_right _ (List.mem_of_getElem? (i := 923) rfl)) rfl), ⟨by decide, by decide, by decide⟩⟩
set_option maxRecDepth 20000 in
theorem vmX10_here : VM mX10_here 0 := ⟨(lwg_of (List.mem_append_right _ (List.mem_of_getElem? (i := 837) rfl)) rfl), (lwg_of (List.mem_append_left _ (List.mem_of_getElem? (i := 11) rfl)) rfl), (lwg_of (List.mem_append_right _ (List.mem_of_getElem? (i := 11) rfl)) rfl), (lwg_of (List.mem_append_right _ (List.mem_of_getElem? (i := 838) rfl)) rfl), ⟨by decide, by decide, by decide⟩⟩
set_option maxRecDepth 20000 in
theorem vmX10_isLayer : VM mX10_isLayer 1 := ⟨(lwg_of (List.mem_append_right _ (List.mem_of_getElem? (i := 964) rfl)) rfl), (lwg_of (List.mem_append_left _ (List.mem_of_getElem? (i := 34) rfl)) rfl), (lwg_of (List.mem_append_right _ (List.mem_of_getElem? (i := 11) rfl)) rfl), (lwg_of (List.mem_append_right _ (List.mem_of_getElem? (i := 965) rfl)) rfl), ⟨by decide, by decide, by decide⟩⟩
set_option maxRecDepth 20000 in
theorem vmX10_isScene : VM mX10_isScene 1 := ⟨(lwg_of (List.mem_append_right _ (List.mem_of_getElem? (i := 917) rfl)) rfl), (lwg_of (List.mem_append_left _ (List.mem_of_getElem? (i := 26) rfl)) rfl), (lwg_of (List.mem_append_right _ (List.mem_of_getElem? (i := 11) rfl)) rfl), (lwg_of (List.mem_append_right _ (List.mem_of_getElem? (i := 918) rfl)) rfl), ⟨by decide, by decide, by decide⟩⟩
set_option maxRecDepth 20000 in
theorem vmX10_isWearer : VM mX10_isWearer 1 := ⟨(lwg_of (List.mem_append_right _ (List.mem_of_getElem? (i := 945) rfl)) rfl), (lwg_of (List.mem_append_left _ (List.mem_of_getElem? (i := 31) rfl)) rfl), (lwg_of (List.mem_append_right _ (List.mem_of_getElem? (i := 11) rfl)) rfl), (lwg_of (List.mem_append_right _ (List.mem_of_getElem? (i := 946) rfl)) rfl), ⟨by decide, by decide, by decide⟩⟩
set_option maxRecDepth 20000 in
theorem vmX10_judge : VM mX10_judge 0 := ⟨(lwg_of (List.mem_append_right _ (List.mem_of_getElem? (i := 1123) rfl)) rfl), (lwg_of (List.mem_append_right _ (List.mem_of_getElem? (i := 1124) rfl)) rfl), (lwg_of (List.mem_append_right _ (List.mem_of_getElem? (i := 11) rfl)) rfl), (lwg_of (List.mem_append_right _ (List.mem_of_getElem? (i := 1125) rfl)) rfl), ⟨by decide, by decide, by decide⟩⟩
set_option maxRecDepth 20000 in
theorem vmX10_keep : VM mX10_keep 1 := ⟨(lwg_of (List.mem_append_right _ (List.mem_of_getElem? (i := 1135) rfl)) rfl), (lwg_of (List.mem_append_right _ (List.mem_of_getElem? (i := 1136) rfl)) rfl), (lwg_of (List.mem_append_right _ (List.mem_of_getElem? (i := 11) rfl)) rfl), (lwg_of (List.mem_append_right _ (List.mem_of_getElem? (i := 1137) rfl)) rfl), ⟨by decide, by decide, by decide⟩⟩
set_option maxRecDepth 20000 in
theorem vmX10_kin : VM mX10_kin 1 := ⟨(lwg_of (List.mem_append_right _ (List.mem_of_getElem? (i := 949) rfl)) rfl), (lwg_of (List.mem_append_left _ (List.mem_of_getElem? (i := 32) rfl)) rfl), (lwg_of (List.mem_append_right _ (List.mem_of_getElem? (i := 11) rfl)) rfl), (lwg_of (List.mem_append_right _ (List.mem_of_getElem? (i := 950) rfl)) rfl), ⟨by decide, by decide, by decide⟩⟩
set_option maxRecDepth 20000 in
theorem vmX10_layAside : VM mX10_layAside 0 := ⟨(lwg_of (List.mem_append_right _ (List.mem_of_getElem? (i := 1059) rfl)) rfl), (lwg_of (List.mem_append_left _ (List.mem_of_getElem? (i := 42) rfl)) rfl), (lwg_of (List.mem_append_right _ (List.mem_of_getElem? (i := 11) rfl)) rfl), (lwg_of (List.mem_append_right _ (List.mem_of_getElem? (i := 1060) rfl)) rfl), ⟨by decide, by decide, by decide⟩⟩
set_option maxRecDepth 20000 in
theorem vmX10_layer : VM mX10_layer 2 := ⟨(lwg_of (List.mem_append_right _ (List.mem_of_getElem? (i := 959) rfl)) rfl), (lwg_of (List.mem_append_right _ (List.mem_of_getElem? (i := 960) rfl)) rfl), (lwg_of (List.mem_append_right _ (List.mem_of_getElem? (i := 11) rfl)) rfl), (lwg_of (List.mem_append_right _ (List.mem_of_getElem? (i := 961) rfl)) rfl), ⟨by decide, by decide, by decide⟩⟩
set_option maxRecDepth 20000 in
theorem vmX10_line : VM mX10_line 0 := ⟨(lwg_of (List.mem_append_right _ (List.mem_of_getElem? (i := 828) rfl)) rfl), (lwg_of (List.mem_append_right _ (List.mem_of_getElem? (i := 829) rfl)) rfl), (lwg_of (List.mem_append_right _ (List.mem_of_getElem? (i := 11) rfl)) rfl), (lwg_of (List.mem_append_right _ (List.mem_of_getElem? (i := 830) rfl)) rfl), ⟨by decide, by decide, by decide⟩⟩
set_option maxRecDepth 20000 in
theorem vmX10_logged : VM mX10_logged 2 := ⟨(lwg_of (List.mem_append_right _ (List.mem_of_getElem? (i := 968) rfl)) rfl), (lwg_of (List.mem_append_right _ (List.mem_of_getElem? (i := 969) rfl)) rfl), (lwg_of (List.mem_append_right _ (List.mem_of_getElem? (i := 11) rfl)) rfl), (lwg_of (List.mem_append_right _ (List.mem_of_getElem? (i := 970) rfl)) rfl), ⟨by decide, by decide, by decide⟩⟩
set_option maxRecDepth 20000 in
theorem vmX10_lookFor : VM mX10_lookFor 1 := ⟨(lwg_of (List.mem_append_right _ (List.mem_of_getElem? (i := 926) rfl)) rfl), (lwg_of (List.mem_append_left _ (List.mem_of_getElem? (i := 28) rfl)) rfl), (lwg_of (List.mem_append_right _ (List.mem_of_getElem? (i := 11) rfl)) rfl), (lwg_of (List.mem_append_right _ (List.mem_of_getElem? (i := 927) rfl)) rfl), ⟨by decide, by decide, by decide⟩⟩
set_option maxRecDepth 20000 in
theorem vmX10_looks : VM mX10_looks 2 := ⟨(lwg_of (List.mem_append_right _ (List.mem_of_getElem? (i := 993) rfl)) rfl), (lwg_of (List.mem_append_left _ (List.mem_of_getElem? (i := 38) rfl)) rfl), (lwg_of (List.mem_append_right _ (List.mem_of_getElem? (i := 11) rfl)) rfl), (lwg_of (List.mem_append_right _ (List.mem_of_getElem? (i := 994) rfl)) rfl), ⟨by decide, by decide, by decide⟩⟩
set_option maxRecDepth 20000 in
theorem vmX10_loss : VM mX10_loss 1 := ⟨(lwg_of (List.mem_append_right _ (List.mem_of_getElem? (i := 1075) rfl)) rfl), (lwg_of (List.mem_append_left _ (List.mem_of_getElem? (i := 43) rfl)) rfl), (lwg_of (List.mem_append_right _ (List.mem_of_getElem? (i := 11) rfl)) rfl), (lwg_of (List.mem_append_right _ (List.mem_of_getElem? (i := 1076) rfl)) rfl), ⟨by decide, by decide, by decide⟩⟩
set_option maxRecDepth 20000 in
theorem vmX10_meet : VM mX10_meet 2 := ⟨(lwg_of (List.mem_append_right _ (List.mem_of_getElem? (i := 1106) rfl)) rfl), (lwg_of (List.mem_append_right _ (List.mem_of_getElem? (i := 1107) rfl)) rfl), (lwg_of (List.mem_append_right _ (List.mem_of_getElem? (i := 11) rfl)) rfl), (lwg_of (List.mem_append_right _ (List.mem_of_getElem? (i := 1108) rfl)) rfl), ⟨by decide, by decide, by decide⟩⟩
set_option maxRecDepth 20000 in
theorem vmX10_mist : VM mX10_mist 2 := ⟨(lwg_of (List.mem_append_right _ (List.mem_of_getElem? (i := 1100) rfl)) rfl), (lwg_of (List.mem_append_right _ (List.mem_of_getElem? (i := 1101) rfl)) rfl), (lwg_of (List.mem_append_right _ (List.mem_of_getElem? (i := 11) rfl)) rfl), (lwg_of (List.mem_append_right _ (List.mem_of_getElem? (i := 1102) rfl)) rfl), ⟨by decide, by decide, by decide⟩⟩
set_option maxRecDepth 20000 in
theorem vmX10_nextOrder : VM mX10_nextOrder 1 := ⟨(lwg_of (List.mem_append_right _ (List.mem_of_getElem? (i := 1093) rfl)) rfl), (lwg_of (List.mem_append_left _ (List.mem_of_getElem? (i := 45) rfl)) rfl), (lwg_of (List.mem_append_right _ (List.mem_of_getElem? (i := 11) rfl)) rfl), (lwg_of (List.mem_append_right _ (List.mem_of_getElem? (i := 1094) rfl)) rfl), ⟨by decide, by decide, by decide⟩⟩
set_option maxRecDepth 20000 in
theorem vmX10_nextScene : VM mX10_nextScene 2 := ⟨(lwg_of (List.mem_append_right _ (List.mem_of_getElem? (i := 956) rfl)) rfl), (lwg_of (List.mem_append_left _ (List.mem_of_getElem? (i := 33) rfl)) rfl), (lwg_of (List.mem_append_right _ (List.mem_of_getElem? (i := 11) rfl)) rfl), (lwg_of (List.mem_append_right _ (List.mem_of_getElem? (i := 957) rfl)) rfl), ⟨by decide, by decide, by decide⟩⟩
set_option maxRecDepth 20000 in
theorem vmX10_number : VM mX10_number 3 := ⟨(lwg_of (List.mem_append_right _ (List.mem_of_getElem? (i := 851) rfl)) rfl), (lwg_of (List.mem_append_left _ (List.mem_of_getElem? (i := 14) rfl)) rfl), (lwg_of (List.mem_append_right _ (List.mem_of_getElem? (i := 11) rfl)) rfl), (lwg_of (List.mem_append_right _ (List.mem_of_getElem? (i := 852) rfl)) rfl), ⟨by decide, by decide, by decide⟩⟩
set_option maxRecDepth 20000 in
theorem vmX10_only : VM mX10_only 2 := ⟨(lwg_of (List.mem_append_right _ (List.mem_of_getElem? (i := 1082) rfl)) rfl), (lwg_of (List.mem_append_right _ (List.mem_of_getElem? (i := 1083) rfl)) rfl), (lwg_of (List.mem_append_right _ (List.mem_of_getElem? (i := 11) rfl)) rfl), (lwg_of (List.mem_append_right _ (List.mem_of_getElem? (i := 1084) rfl)) rfl), ⟨by decide, by decide, by decide⟩⟩
set_option maxRecDepth 20000 in
theorem vmX10_order : VM mX10_order 2 := ⟨(lwg_of (List.mem_append_right _ (List.mem_of_getElem? (i := 1086) rfl)) rfl), (lwg_of (List.mem_append_right _ (List.mem_of_getElem? (i := 1087) rfl)) rfl), (lwg_of (List.mem_append_right _ (List.mem_of_getElem? (i := 11) rfl)) rfl), (lwg_of (List.mem_append_right _ (List.mem_of_getElem? (i := 1088) rfl)) rfl), ⟨by decide, by decide, by decide⟩⟩
set_option maxRecDepth 20000 in
theorem vmX10_readsClause : VM mX10_readsClause 0 := ⟨(lwg_of (List.mem_append_right _ (List.mem_of_getElem? (i := 843) rfl)) rfl), (lwg_of (List.mem_append_left _ (List.mem_of_getElem? (i := 12) rfl)) rfl), (lwg_of (List.mem_append_right _ (List.mem_of_getElem? (i := 11) rfl)) rfl), (lwg_of (List.mem_append_right _ (List.mem_of_getElem? (i := 844) rfl)) rfl), ⟨by decide, by decide, by decide⟩⟩
set_option maxRecDepth 20000 in
theorem vmX10_readsScene : VM mX10_readsScene 0 := ⟨(lwg_of (List.mem_append_right _ (List.mem_of_getElem? (i := 859) rfl)) rfl), (lwg_of (List.mem_append_left _ (List.mem_of_getElem? (i := 16) rfl)) rfl), (lwg_of (List.mem_append_right _ (List.mem_of_getElem? (i := 11) rfl)) rfl), (lwg_of (List.mem_append_right _ (List.mem_of_getElem? (i := 860) rfl)) rfl), ⟨by decide, by decide, by decide⟩⟩
set_option maxRecDepth 20000 in
theorem vmX10_readsWearer : VM mX10_readsWearer 0 := ⟨(lwg_of (List.mem_append_right _ (List.mem_of_getElem? (i := 863) rfl)) rfl), (lwg_of (List.mem_append_left _ (List.mem_of_getElem? (i := 17) rfl)) rfl), (lwg_of (List.mem_append_right _ (List.mem_of_getElem? (i := 11) rfl)) rfl), (lwg_of (List.mem_append_right _ (List.mem_of_getElem? (i := 864) rfl)) rfl), ⟨by decide, by decide, by decide⟩⟩
set_option maxRecDepth 20000 in
theorem vmX10_refuses : VM mX10_refuses 1 := ⟨(lwg_of (List.mem_append_right _ (List.mem_of_getElem? (i := 978) rfl)) rfl), (lwg_of (List.mem_append_left _ (List.mem_of_getElem? (i := 35) rfl)) rfl), (lwg_of (List.mem_append_right _ (List.mem_of_getElem? (i := 11) rfl)) rfl), (lwg_of (List.mem_append_right _ (List.mem_of_getElem? (i := 979) rfl)) rfl), ⟨by decide, by decide, by decide⟩⟩
set_option maxRecDepth 20000 in
theorem vmX10_remember : VM mX10_remember 0 := ⟨(lwg_of (List.mem_append_right _ (List.mem_of_getElem? (i := 985) rfl)) rfl), (lwg_of (List.mem_append_left _ (List.mem_of_getElem? (i := 36) rfl)) rfl), (lwg_of (List.mem_append_right _ (List.mem_of_getElem? (i := 11) rfl)) rfl), (lwg_of (List.mem_append_right _ (List.mem_of_getElem? (i := 986) rfl)) rfl), ⟨by decide, by decide, by decide⟩⟩
set_option maxRecDepth 20000 in
theorem vmX10_sawBy : VM mX10_sawBy 1 := ⟨(lwg_of (List.mem_append_right _ (List.mem_of_getElem? (i := 894) rfl)) rfl), (lwg_of (List.mem_append_left _ (List.mem_of_getElem? (i := 22) rfl)) rfl), (lwg_of (List.mem_append_right _ (List.mem_of_getElem? (i := 11) rfl)) rfl), (lwg_of (List.mem_append_right _ (List.mem_of_getElem? (i := 895) rfl)) rfl), ⟨by decide, by decide, by decide⟩⟩
set_option maxRecDepth 20000 in
theorem vmX10_scene : VM mX10_scene 2 := ⟨(lwg_of (List.mem_append_right _ (List.mem_of_getElem? (i := 912) rfl)) rfl), (lwg_of (List.mem_append_right _ (List.mem_of_getElem? (i := 913) rfl)) rfl), (lwg_of (List.mem_append_right _ (List.mem_of_getElem? (i := 11) rfl)) rfl), (lwg_of (List.mem_append_right _ (List.mem_of_getElem? (i := 914) rfl)) rfl), ⟨by decide, by decide, by decide⟩⟩
set_option maxRecDepth 20000 in
theorem vmX10_seed : VM mX10_seed 1 := ⟨(lwg_of (List.mem_append_right _ (List.mem_of_getElem? (i := 1131) rfl)) rfl), (lwg_of (List.mem_append_right _ (List.mem_of_getElem? (i := 1132) rfl)) rfl), (lwg_of (List.mem_append_right _ (List.mem_of_getElem? (i := 11) rfl)) rfl), (lwg_of (List.mem_append_right _ (List.mem_of_getElem? (i := 1133) rfl)) rfl), ⟨by decide, by decide, by decide⟩⟩
set_option maxRecDepth 20000 in
theorem vmX10_seenByAll : VM mX10_seenByAll 0 := ⟨(lwg_of (List.mem_append_right _ (List.mem_of_getElem? (i := 890) rfl)) rfl), (lwg_of (List.mem_append_left _ (List.mem_of_getElem? (i := 21) rfl)) rfl), (lwg_of (List.mem_append_right _ (List.mem_of_getElem? (i := 11) rfl)) rfl), (lwg_of (List.mem_append_right _ (List.mem_of_getElem? (i := 891) rfl)) rfl), ⟨by decide, by decide, by decide⟩⟩
set_option maxRecDepth 20000 in
theorem vmX10_step : VM mX10_step 0 := ⟨(lwg_of (List.mem_append_right _ (List.mem_of_getElem? (i := 833) rfl)) rfl), (lwg_of (List.mem_append_left _ (List.mem_of_getElem? (i := 10) rfl)) rfl), (lwg_of (List.mem_append_right _ (List.mem_of_getElem? (i := 11) rfl)) rfl), (lwg_of (List.mem_append_right _ (List.mem_of_getElem? (i := 834) rfl)) rfl), ⟨by decide, by decide, by decide⟩⟩
set_option maxRecDepth 20000 in
theorem vmX10_strengthOn : VM mX10_strengthOn 2 := ⟨(lwg_of (List.mem_append_right _ (List.mem_of_getElem? (i := 886) rfl)) rfl), (lwg_of (List.mem_append_left _ (List.mem_of_getElem? (i := 20) rfl)) rfl), (lwg_of (List.mem_append_right _ (List.mem_of_getElem? (i := 11) rfl)) rfl), (lwg_of (List.mem_append_right _ (List.mem_of_getElem? (i := 887) rfl)) rfl), ⟨by decide, by decide, by decide⟩⟩
set_option maxRecDepth 20000 in
theorem vmX10_strongest : VM mX10_strongest 0 := ⟨(lwg_of (List.mem_append_right _ (List.mem_of_getElem? (i := 902) rfl)) rfl), (lwg_of (List.mem_append_left _ (List.mem_of_getElem? (i := 24) rfl)) rfl), (lwg_of (List.mem_append_right _ (List.mem_of_getElem? (i := 11) rfl)) rfl), (lwg_of (List.mem_append_right _ (List.mem_of_getElem? (i := 903) rfl)) rfl), ⟨by decide, by decide, by decide⟩⟩
set_option maxRecDepth 20000 in
theorem vmX10_takeOff : VM mX10_takeOff 0 := ⟨(lwg_of (List.mem_append_right _ (List.mem_of_getElem? (i := 1016) rfl)) rfl), (lwg_of (List.mem_append_right _ (List.mem_of_getElem? (i := 1017) rfl)) rfl), (lwg_of (List.mem_append_right _ (List.mem_of_getElem? (i := 11) rfl)) rfl), (lwg_of (List.mem_append_right _ (List.mem_of_getElem? (i := 1018) rfl)) rfl), ⟨by decide, by decide, by decide⟩⟩
set_option maxRecDepth 20000 in
theorem vmX10_takes : VM mX10_takes 1 := ⟨(lwg_of (List.mem_append_right _ (List.mem_of_getElem? (i := 1049) rfl)) rfl), (lwg_of (List.mem_append_right _ (List.mem_of_getElem? (i := 1050) rfl)) rfl), (lwg_of (List.mem_append_right _ (List.mem_of_getElem? (i := 11) rfl)) rfl), (lwg_of (List.mem_append_right _ (List.mem_of_getElem? (i := 1051) rfl)) rfl), ⟨by decide, by decide, by decide⟩⟩
set_option maxRecDepth 20000 in
theorem vmX10_takesBy : VM mX10_takesBy 4 := ⟨(lwg_of (List.mem_append_right _ (List.mem_of_getElem? (i := 934) rfl)) rfl), (lwg_of (List.mem_append_left _ (List.mem_of_getElem? (i := 30) rfl)) rfl), (lwg_of (List.mem_append_right _ (List.mem_of_getElem? (i := 11) rfl)) rfl), (lwg_of (List.mem_append_right _ (List.mem_of_getElem? (i := 935) rfl)) rfl), ⟨by decide, by decide, by decide⟩⟩
set_option maxRecDepth 20000 in
theorem vmX10_takesNow : VM mX10_takesNow 1 := ⟨(lwg_of (List.mem_append_right _ (List.mem_of_getElem? (i := 930) rfl)) rfl), (lwg_of (List.mem_append_left _ (List.mem_of_getElem? (i := 29) rfl)) rfl), (lwg_of (List.mem_append_right _ (List.mem_of_getElem? (i := 11) rfl)) rfl), (lwg_of (List.mem_append_right _ (List.mem_of_getElem? (i := 931) rfl)) rfl), ⟨by decide, by decide, by decide⟩⟩
set_option maxRecDepth 20000 in
theorem vmX10_tear : VM mX10_tear 0 := ⟨(lwg_of (List.mem_append_right _ (List.mem_of_getElem? (i := 1127) rfl)) rfl), (lwg_of (List.mem_append_right _ (List.mem_of_getElem? (i := 1128) rfl)) rfl), (lwg_of (List.mem_append_right _ (List.mem_of_getElem? (i := 11) rfl)) rfl), (lwg_of (List.mem_append_right _ (List.mem_of_getElem? (i := 1129) rfl)) rfl), ⟨by decide, by decide, by decide⟩⟩
set_option maxRecDepth 20000 in
theorem vmX10_thick : VM mX10_thick 0 := ⟨(lwg_of (List.mem_append_right _ (List.mem_of_getElem? (i := 906) rfl)) rfl), (lwg_of (List.mem_append_left _ (List.mem_of_getElem? (i := 25) rfl)) rfl), (lwg_of (List.mem_append_right _ (List.mem_of_getElem? (i := 11) rfl)) rfl), (lwg_of (List.mem_append_right _ (List.mem_of_getElem? (i := 907) rfl)) rfl), ⟨by decide, by decide, by decide⟩⟩
set_option maxRecDepth 20000 in
theorem vmX10_toWipe : VM mX10_toWipe 2 := ⟨(lwg_of (List.mem_append_right _ (List.mem_of_getElem? (i := 1070) rfl)) rfl), (lwg_of (List.mem_append_right _ (List.mem_of_getElem? (i := 1071) rfl)) rfl), (lwg_of (List.mem_append_right _ (List.mem_of_getElem? (i := 11) rfl)) rfl), (lwg_of (List.mem_append_right _ (List.mem_of_getElem? (i := 1072) rfl)) rfl), ⟨by decide, by decide, by decide⟩⟩
set_option maxRecDepth 20000 in
theorem vmX10_told : VM mX10_told 1 := ⟨(lwg_of (List.mem_append_right _ (List.mem_of_getElem? (i := 877) rfl)) rfl), (lwg_of (List.mem_append_right _ (List.mem_of_getElem? (i := 878) rfl)) rfl), (lwg_of (List.mem_append_right _ (List.mem_of_getElem? (i := 11) rfl)) rfl), (lwg_of (List.mem_append_right _ (List.mem_of_getElem? (i := 879) rfl)) rfl), ⟨by decide, by decide, by decide⟩⟩
set_option maxRecDepth 20000 in
theorem vmX10_tooDark : VM mX10_tooDark 1 := ⟨(lwg_of (List.mem_append_right _ (List.mem_of_getElem? (i := 1062) rfl)) rfl), (lwg_of (List.mem_append_right _ (List.mem_of_getElem? (i := 1063) rfl)) rfl), (lwg_of (List.mem_append_right _ (List.mem_of_getElem? (i := 11) rfl)) rfl), (lwg_of (List.mem_append_right _ (List.mem_of_getElem? (i := 1064) rfl)) rfl), ⟨by decide, by decide, by decide⟩⟩
set_option maxRecDepth 20000 in
theorem vmX10_undo : VM mX10_undo 1 := ⟨(lwg_of (List.mem_append_right _ (List.mem_of_getElem? (i := 1045) rfl)) rfl), (lwg_of (List.mem_append_right _ (List.mem_of_getElem? (i := 1046) rfl)) rfl), (lwg_of (List.mem_append_right _ (List.mem_of_getElem? (i := 11) rfl)) rfl), (lwg_of (List.mem_append_right _ (List.mem_of_getElem? (i := 1047) rfl)) rfl), ⟨by decide, by decide, by decide⟩⟩
set_option maxRecDepth 20000 in
theorem vmX10_wear : VM mX10_wear 1 := ⟨(lwg_of (List.mem_append_right _ (List.mem_of_getElem? (i := 1012) rfl)) rfl), (lwg_of (List.mem_append_right _ (List.mem_of_getElem? (i := 1013) rfl)) rfl), (lwg_of (List.mem_append_right _ (List.mem_of_getElem? (i := 11) rfl)) rfl), (lwg_of (List.mem_append_right _ (List.mem_of_getElem? (i := 1014) rfl)) rfl), ⟨by decide, by decide, by decide⟩⟩
set_option maxRecDepth 20000 in
theorem vmX10_wearer : VM mX10_wearer 2 := ⟨(lwg_of (List.mem_append_right _ (List.mem_of_getElem? (i := 940) rfl)) rfl), (lwg_of (List.mem_append_right _ (List.mem_of_getElem? (i := 941) rfl)) rfl), (lwg_of (List.mem_append_right _ (List.mem_of_getElem? (i := 11) rfl)) rfl), (lwg_of (List.mem_append_right _ (List.mem_of_getElem? (i := 942) rfl)) rfl), ⟨by decide, by decide, by decide⟩⟩
set_option maxRecDepth 20000 in
theorem vmX10_willShow : VM mX10_willShow 2 := ⟨(lwg_of (List.mem_append_right _ (List.mem_of_getElem? (i := 1066) rfl)) rfl), (lwg_of (List.mem_append_right _ (List.mem_of_getElem? (i := 1067) rfl)) rfl), (lwg_of (List.mem_append_right _ (List.mem_of_getElem? (i := 11) rfl)) rfl), (lwg_of (List.mem_append_right _ (List.mem_of_getElem? (i := 1068) rfl)) rfl), ⟨by decide, by decide, by decide⟩⟩
set_option maxRecDepth 20000 in
theorem vmX10_wipe : VM mX10_wipe 1 := ⟨(lwg_of (List.mem_append_right _ (List.mem_of_getElem? (i := 1020) rfl)) rfl), (lwg_of (List.mem_append_right _ (List.mem_of_getElem? (i := 1021) rfl)) rfl), (lwg_of (List.mem_append_right _ (List.mem_of_getElem? (i := 11) rfl)) rfl), (lwg_of (List.mem_append_right _ (List.mem_of_getElem? (i := 1022) rfl)) rfl), ⟨by decide, by decide, by decide⟩⟩
set_option maxRecDepth 20000 in
theorem vmX10_write : VM mX10_write 2 := ⟨(lwg_of (List.mem_append_right _ (List.mem_of_getElem? (i := 1119) rfl)) rfl), (lwg_of (List.mem_append_right _ (List.mem_of_getElem? (i := 1120) rfl)) rfl), (lwg_of (List.mem_append_right _ (List.mem_of_getElem? (i := 11) rfl)) rfl), (lwg_of (List.mem_append_right _ (List.mem_of_getElem? (i := 1121) rfl)) rfl), ⟨by decide, by decide, by decide⟩⟩
set_option maxRecDepth 20000 in
theorem vmX10_year : VM mX10_year 1 := ⟨(lwg_of (List.mem_append_right _ (List.mem_of_getElem? (i := 973) rfl)) rfl), (lwg_of (List.mem_append_right _ (List.mem_of_getElem? (i := 974) rfl)) rfl), (lwg_of (List.mem_append_right _ (List.mem_of_getElem? (i := 11) rfl)) rfl), (lwg_of (List.mem_append_right _ (List.mem_of_getElem? (i := 975) rfl)) rfl), ⟨by decide, by decide, by decide⟩⟩
set_option maxRecDepth 20000 in
theorem vmX10_yearGoes : VM mX10_yearGoes 1 := ⟨(lwg_of (List.mem_append_right _ (List.mem_of_getElem? (i := 989) rfl)) rfl), (lwg_of (List.mem_append_left _ (List.mem_of_getElem? (i := 37) rfl)) rfl), (lwg_of (List.mem_append_right _ (List.mem_of_getElem? (i := 11) rfl)) rfl), (lwg_of (List.mem_append_right _ (List.mem_of_getElem? (i := 990) rfl)) rfl), ⟨by decide, by decide, by decide⟩⟩
set_option maxRecDepth 20000 in
theorem smX9_isSetOf : SM mX9_isSetOf 2 := ⟨(lwg_of (List.mem_append_right _ (List.mem_of_getElem? (i := 638) rfl)) rfl), (lwg_of (List.mem_append_right _ (List.mem_of_getElem? (i := 1) rfl)) rfl), (lwg_of (List.mem_append_right _ (List.mem_of_getElem? (i := 639) rfl)) rfl), ⟨by decide, by decide, by decide⟩⟩
set_option maxRecDepth 20000 in
theorem smX10_bits : SM mX10_bits 1 := ⟨(lwg_of (List.mem_append_right _ (List.mem_of_getElem? (i := 952) rfl)) rfl), (lwg_of (List.mem_append_right _ (List.mem_of_getElem? (i := 11) rfl)) rfl), (lwg_of (List.mem_append_right _ (List.mem_of_getElem? (i := 953) rfl)) rfl), ⟨by decide, by decide, by decide⟩⟩
set_option maxRecDepth 20000 in
theorem smX10_copies : SM mX10_copies 5 := ⟨(lwg_of (List.mem_append_right _ (List.mem_of_getElem? (i := 866) rfl)) rfl), (lwg_of (List.mem_append_right _ (List.mem_of_getElem? (i := 11) rfl)) rfl), (lwg_of (List.mem_append_right _ (List.mem_of_getElem? (i := 867) rfl)) rfl), ⟨by decide, by decide, by decide⟩⟩
set_option maxRecDepth 20000 in
theorem smX10_greater : SM mX10_greater 2 := ⟨(lwg_of (List.mem_append_right _ (List.mem_of_getElem? (i := 909) rfl)) rfl), (lwg_of (List.mem_append_right _ (List.mem_of_getElem? (i := 11) rfl)) rfl), (lwg_of (List.mem_append_right _ (List.mem_of_getElem? (i := 910) rfl)) rfl), ⟨by decide, by decide, by decide⟩⟩
set_option maxRecDepth 20000 in
theorem smX10_has : SM mX10_has 2 := ⟨(lwg_of (List.mem_append_right _ (List.mem_of_getElem? (i := 937) rfl)) rfl), (lwg_of (List.mem_append_right _ (List.mem_of_getElem? (i := 11) rfl)) rfl), (lwg_of (List.mem_append_right _ (List.mem_of_getElem? (i := 938) rfl)) rfl), ⟨by decide, by decide, by decide⟩⟩
set_option maxRecDepth 20000 in
theorem smX10_in : SM mX10_in 3 := ⟨(lwg_of (List.mem_append_right _ (List.mem_of_getElem? (i := 823) rfl)) rfl), (lwg_of (List.mem_append_right _ (List.mem_of_getElem? (i := 11) rfl)) rfl), (lwg_of (List.mem_append_right _ (List.mem_of_getElem? (i := 824) rfl)) rfl), ⟨by decide, by decide, by decide⟩⟩
set_option maxRecDepth 20000 in
theorem smX10_lays : SM mX10_lays 4 := ⟨(lwg_of (List.mem_append_right _ (List.mem_of_getElem? (i := 1002) rfl)) rfl), (lwg_of (List.mem_append_right _ (List.mem_of_getElem? (i := 11) rfl)) rfl), (lwg_of (List.mem_append_right _ (List.mem_of_getElem? (i := 1003) rfl)) rfl), ⟨by decide, by decide, by decide⟩⟩
set_option maxRecDepth 20000 in
theorem smX10_lesser : SM mX10_lesser 2 := ⟨(lwg_of (List.mem_append_right _ (List.mem_of_getElem? (i := 999) rfl)) rfl), (lwg_of (List.mem_append_right _ (List.mem_of_getElem? (i := 11) rfl)) rfl), (lwg_of (List.mem_append_right _ (List.mem_of_getElem? (i := 1000) rfl)) rfl), ⟨by decide, by decide, by decide⟩⟩
set_option maxRecDepth 20000 in
theorem smX10_logs : SM mX10_logs 4 := ⟨(lwg_of (List.mem_append_right _ (List.mem_of_getElem? (i := 996) rfl)) rfl), (lwg_of (List.mem_append_right _ (List.mem_of_getElem? (i := 11) rfl)) rfl), (lwg_of (List.mem_append_right _ (List.mem_of_getElem? (i := 997) rfl)) rfl), ⟨by decide, by decide, by decide⟩⟩
set_option maxRecDepth 20000 in
theorem smX10_removes : SM mX10_removes 2 := ⟨(lwg_of (List.mem_append_right _ (List.mem_of_getElem? (i := 1005) rfl)) rfl), (lwg_of (List.mem_append_right _ (List.mem_of_getElem? (i := 11) rfl)) rfl), (lwg_of (List.mem_append_right _ (List.mem_of_getElem? (i := 1006) rfl)) rfl), ⟨by decide, by decide, by decide⟩⟩
set_option maxRecDepth 20000 in
theorem smJ6_bitCount_0f7a4 : SM mJ6_bitCount_0f7a4 1 := ⟨(lwg_of (List.mem_append_right _ (List.mem_of_getElem? (i := 466) rfl)) rfl), (lwg_of (List.mem_append_right _ (List.mem_of_getElem? (i := 13) rfl)) rfl), (lwg_of (List.mem_append_right _ (List.mem_of_getElem? (i := 467) rfl)) rfl), ⟨by decide, by decide, by decide⟩⟩
set_option maxRecDepth 20000 in
theorem smJ9_max_7cf53 : SM mJ9_max_7cf53 2 := ⟨(lwg_of (List.mem_append_right _ (List.mem_of_getElem? (i := 405) rfl)) rfl), (lwg_of (List.mem_append_right _ (List.mem_of_getElem? (i := 12) rfl)) rfl), (lwg_of (List.mem_append_right _ (List.mem_of_getElem? (i := 406) rfl)) rfl), ⟨by decide, by decide, by decide⟩⟩
set_option maxRecDepth 20000 in
theorem smJ9_min_7cf53 : SM mJ9_min_7cf53 2 := ⟨(lwg_of (List.mem_append_right _ (List.mem_of_getElem? (i := 555) rfl)) rfl), (lwg_of (List.mem_append_right _ (List.mem_of_getElem? (i := 12) rfl)) rfl), (lwg_of (List.mem_append_right _ (List.mem_of_getElem? (i := 556) rfl)) rfl), ⟨by decide, by decide, by decide⟩⟩
set_option maxRecDepth 20000 in
theorem lX9_83 : VL RX9 83 mX7_append 1 := ⟨(lwg_of (List.mem_append_right _ (List.mem_of_getElem? (i := 276) rfl)) rfl), vmX7_append⟩
set_option maxRecDepth 20000 in
theorem lX9_87 : VL RX9 87 mX7_readInto 1 := ⟨(lwg_of (List.mem_append_right _ (List.mem_of_getElem? (i := 284) rfl)) rfl), vmX7_readInto⟩
set_option maxRecDepth 20000 in
theorem lX9_92 : VL RX9 92 mX7_empty 0 := ⟨(lwg_of (List.mem_append_right _ (List.mem_of_getElem? (i := 348) rfl)) rfl), vmX7_empty⟩
set_option maxRecDepth 20000 in
theorem lX9_95 : VL RX9 95 mX6_reset 0 := ⟨(lwg_of (List.mem_append_right _ (List.mem_of_getElem? (i := 352) rfl)) rfl), vmX6_reset⟩
set_option maxRecDepth 20000 in
theorem lX9_98 : VL RX9 98 mX1_forget 0 := ⟨(lwg_of (List.mem_append_right _ (List.mem_of_getElem? (i := 360) rfl)) rfl), vmX1_forget⟩
set_option maxRecDepth 20000 in
theorem lX9_105 : VL RX9 105 mX5_forget 0 := ⟨(lwg_of (List.mem_append_right _ (List.mem_of_getElem? (i := 364) rfl)) rfl), vmX5_forget⟩
set_option maxRecDepth 20000 in
theorem lX9_106 : VL RX9 106 mX0_forget 0 := ⟨(lwg_of (List.mem_append_right _ (List.mem_of_getElem? (i := 368) rfl)) rfl), vmX0_forget⟩
set_option maxRecDepth 20000 in
theorem lX9_125 : VL RX9 125 mX6_darkness 0 := ⟨(lwg_of (List.mem_append_right _ (List.mem_of_getElem? (i := 380) rfl)) rfl), vmX6_darkness⟩
set_option maxRecDepth 20000 in
theorem lX9_129 : VL RX9 129 mX9_scenesOfAll 0 := ⟨(lwg_of (List.mem_append_right _ (List.mem_of_getElem? (i := 384) rfl)) rfl), vmX9_scenesOfAll⟩
set_option maxRecDepth 20000 in
theorem lX9_132 : VL RX9 132 mX6_lowestOfWearers 0 := ⟨(lwg_of (List.mem_append_right _ (List.mem_of_getElem? (i := 392) rfl)) rfl), vmX6_lowestOfWearers⟩
set_option maxRecDepth 20000 in
theorem lX9_135 : VL RX9 135 mX6_strongestBut 1 := ⟨(lwg_of (List.mem_append_right _ (List.mem_of_getElem? (i := 396) rfl)) rfl), vmX6_strongestBut⟩
set_option maxRecDepth 20000 in
theorem lX9_139 : VL RX9 139 mX6_thickest 0 := ⟨(lwg_of (List.mem_append_right _ (List.mem_of_getElem? (i := 400) rfl)) rfl), vmX6_thickest⟩
set_option maxRecDepth 20000 in
theorem lX9_154 : VL RX9 154 mX3_hasScene 1 := ⟨(lwg_of (List.mem_append_right _ (List.mem_of_getElem? (i := 411) rfl)) rfl), vmX3_hasScene⟩
set_option maxRecDepth 20000 in
theorem lX9_159 : VL RX9 159 mX3_kindOf 1 := ⟨(lwg_of (List.mem_append_right _ (List.mem_of_getElem? (i := 416) rfl)) rfl), vmX3_kindOf⟩
set_option maxRecDepth 20000 in
theorem lX9_162 : VL RX9 162 mX3_brightOf 1 := ⟨(lwg_of (List.mem_append_right _ (List.mem_of_getElem? (i := 421) rfl)) rfl), vmX3_brightOf⟩
set_option maxRecDepth 20000 in
theorem lX9_165 : VL RX9 165 mX3_veil 2 := ⟨(lwg_of (List.mem_append_right _ (List.mem_of_getElem? (i := 425) rfl)) rfl), vmX3_veil⟩
set_option maxRecDepth 20000 in
theorem lX9_169 : VL RX9 169 mX9_scenesTakenFor 1 := ⟨(lwg_of (List.mem_append_right _ (List.mem_of_getElem? (i := 430) rfl)) rfl), vmX9_scenesTakenFor⟩
set_option maxRecDepth 20000 in
theorem lX9_172 : VL RX9 172 mX3_hasWearer 1 := ⟨(lwg_of (List.mem_append_right _ (List.mem_of_getElem? (i := 452) rfl)) rfl), vmX3_hasWearer⟩
set_option maxRecDepth 20000 in
theorem lX9_175 : VL RX9 175 mX3_looksOf 1 := ⟨(lwg_of (List.mem_append_right _ (List.mem_of_getElem? (i := 453) rfl)) rfl), vmX3_looksOf⟩
set_option maxRecDepth 20000 in
theorem lX9_178 : VL RX9 178 mX6_yearsOf 1 := ⟨(lwg_of (List.mem_append_right _ (List.mem_of_getElem? (i := 457) rfl)) rfl), vmX6_yearsOf⟩
set_option maxRecDepth 20000 in
theorem lX9_181 : VL RX9 181 mX6_scenesOf 1 := ⟨(lwg_of (List.mem_append_right _ (List.mem_of_getElem? (i := 388) rfl)) rfl), vmX6_scenesOf⟩
set_option maxRecDepth 20000 in
theorem lX9_184 : VL RX9 184 mX9_kinOf 1 := ⟨(lwg_of (List.mem_append_right _ (List.mem_of_getElem? (i := 461) rfl)) rfl), vmX9_kinOf⟩
set_option maxRecDepth 20000 in
theorem lX9_187 : VL RX9 187 mX3_sceneInYear 2 := ⟨(lwg_of (List.mem_append_right _ (List.mem_of_getElem? (i := 471) rfl)) rfl), vmX3_sceneInYear⟩
set_option maxRecDepth 20000 in
theorem lX9_190 : VL RX9 190 mX9_takenNow 1 := ⟨(lwg_of (List.mem_append_right _ (List.mem_of_getElem? (i := 434) rfl)) rfl), vmX9_takenNow⟩
set_option maxRecDepth 20000 in
theorem lX9_193 : VL RX9 193 mX6_hasLayer 1 := ⟨(lwg_of (List.mem_append_right _ (List.mem_of_getElem? (i := 480) rfl)) rfl), vmX6_hasLayer⟩
set_option maxRecDepth 20000 in
theorem lX9_206 : VL RX9 206 mX4_at 2 := ⟨(lwg_of (List.mem_append_right _ (List.mem_of_getElem? (i := 485) rfl)) rfl), vmX4_at⟩
set_option maxRecDepth 20000 in
theorem lX9_209 : VL RX9 209 mX9_refusalOfYears 1 := ⟨(lwg_of (List.mem_append_right _ (List.mem_of_getElem? (i := 493) rfl)) rfl), vmX9_refusalOfYears⟩
set_option maxRecDepth 20000 in
theorem lX9_212 : VL RX9 212 mX1_remember 1 := ⟨(lwg_of (List.mem_append_right _ (List.mem_of_getElem? (i := 499) rfl)) rfl), vmX1_remember⟩
set_option maxRecDepth 20000 in
theorem lX9_216 : VL RX9 216 mX6_passYear 1 := ⟨(lwg_of (List.mem_append_right _ (List.mem_of_getElem? (i := 519) rfl)) rfl), vmX6_passYear⟩
set_option maxRecDepth 20000 in
theorem lX9_221 : VL RX9 221 mX6_remove 1 := ⟨(lwg_of (List.mem_append_right _ (List.mem_of_getElem? (i := 578) rfl)) rfl), vmX6_remove⟩
set_option maxRecDepth 20000 in
theorem lX9_224 : VL RX9 224 mX6_lay 3 := ⟨(lwg_of (List.mem_append_right _ (List.mem_of_getElem? (i := 583) rfl)) rfl), vmX6_lay⟩
set_option maxRecDepth 20000 in
theorem lX9_228 : VL RX9 228 mX9_doByDraw 0 := ⟨(lwg_of (List.mem_append_right _ (List.mem_of_getElem? (i := 588) rfl)) rfl), vmX9_doByDraw⟩
set_option maxRecDepth 20000 in
theorem lX9_231 : VL RX9 231 mX1_restore 2 := ⟨(lwg_of (List.mem_append_right _ (List.mem_of_getElem? (i := 604) rfl)) rfl), vmX1_restore⟩
set_option maxRecDepth 20000 in
theorem lX9_235 : VL RX9 235 mX9_tryYears 1 := ⟨(lwg_of (List.mem_append_right _ (List.mem_of_getElem? (i := 616) rfl)) rfl), vmX9_tryYears⟩
set_option maxRecDepth 20000 in
theorem lX9_238 : VL RX9 238 mX6_copyGlass 1 := ⟨(lwg_of (List.mem_append_right _ (List.mem_of_getElem? (i := 620) rfl)) rfl), vmX6_copyGlass⟩
set_option maxRecDepth 20000 in
theorem lX9_241 : VL RX9 241 mX6_strengthOfScene 1 := ⟨(lwg_of (List.mem_append_right _ (List.mem_of_getElem? (i := 629) rfl)) rfl), vmX6_strengthOfScene⟩
set_option maxRecDepth 20000 in
theorem lX9_248 : VL RX9 248 mX9_areSeenWithout 2 := ⟨(lwg_of (List.mem_append_right _ (List.mem_of_getElem? (i := 640) rfl)) rfl), vmX9_areSeenWithout⟩
set_option maxRecDepth 20000 in
theorem lX9_256 : VL RX9 256 mX6_layersBefore 1 := ⟨(lwg_of (List.mem_append_right _ (List.mem_of_getElem? (i := 648) rfl)) rfl), vmX6_layersBefore⟩
set_option maxRecDepth 20000 in
theorem lX9_259 : VL RX9 259 mX8_begin 1 := ⟨(lwg_of (List.mem_append_right _ (List.mem_of_getElem? (i := 656) rfl)) rfl), vmX8_begin⟩
set_option maxRecDepth 20000 in
theorem lX9_262 : VL RX9 262 mX9_darkBehindTurns 0 := ⟨(lwg_of (List.mem_append_right _ (List.mem_of_getElem? (i := 660) rfl)) rfl), vmX9_darkBehindTurns⟩
set_option maxRecDepth 20000 in
theorem lX9_265 : VL RX9 265 mX8_figures 0 := ⟨(lwg_of (List.mem_append_right _ (List.mem_of_getElem? (i := 664) rfl)) rfl), vmX8_figures⟩
set_option maxRecDepth 20000 in
theorem lX9_268 : VL RX9 268 mX8_advance 0 := ⟨(lwg_of (List.mem_append_right _ (List.mem_of_getElem? (i := 668) rfl)) rfl), vmX8_advance⟩
set_option maxRecDepth 20000 in
theorem lX9_272 : VL RX9 272 mX6_takenFor 4 := ⟨(lwg_of (List.mem_append_right _ (List.mem_of_getElem? (i := 438) rfl)) rfl), vmX6_takenFor⟩
set_option maxRecDepth 20000 in
theorem lX9_280 : VL RX9 280 mX5_add 2 := ⟨(lwg_of (List.mem_append_right _ (List.mem_of_getElem? (i := 694) rfl)) rfl), vmX5_add⟩
set_option maxRecDepth 20000 in
theorem lX9_284 : VL RX9 284 mX5_fits 1 := ⟨(lwg_of (List.mem_append_right _ (List.mem_of_getElem? (i := 702) rfl)) rfl), vmX5_fits⟩
set_option maxRecDepth 20000 in
theorem lX9_287 : VL RX9 287 mX9_couldBe 0 := ⟨(lwg_of (List.mem_append_right _ (List.mem_of_getElem? (i := 710) rfl)) rfl), vmX9_couldBe⟩
set_option maxRecDepth 20000 in
theorem lX9_295 : VL RX9 295 mX0_add 2 := ⟨(lwg_of (List.mem_append_right _ (List.mem_of_getElem? (i := 716) rfl)) rfl), vmX0_add⟩
set_option maxRecDepth 20000 in
theorem lX9_304 : VL RX9 304 mX6_copyAll 1 := ⟨(lwg_of (List.mem_append_right _ (List.mem_of_getElem? (i := 736) rfl)) rfl), vmX6_copyAll⟩
set_option maxRecDepth 20000 in
theorem lX9_320 : VL RX9 320 mX9_drawOf 1 := ⟨(lwg_of (List.mem_append_right _ (List.mem_of_getElem? (i := 592) rfl)) rfl), vmX9_drawOf⟩
set_option maxRecDepth 20000 in
theorem lX1_25 : VL RX1 25 mX6_copyAll 1 := ⟨(lwg_of (List.mem_append_right _ (List.mem_of_getElem? (i := 503) rfl)) rfl), vmX6_copyAll⟩
set_option maxRecDepth 20000 in
theorem lX3_36 : VL RX3 36 mX3_hasWearer 1 := ⟨(lwg_of (List.mem_append_right _ (List.mem_of_getElem? (i := 344) rfl)) rfl), vmX3_hasWearer⟩
set_option maxRecDepth 20000 in
theorem lX3_40 : VL RX3 40 mX3_hasScene 1 := ⟨(lwg_of (List.mem_append_right _ (List.mem_of_getElem? (i := 420) rfl)) rfl), vmX3_hasScene⟩
set_option maxRecDepth 20000 in
theorem lX3_43 : VL RX3 43 mX3_looksOf 1 := ⟨(lwg_of (List.mem_append_right _ (List.mem_of_getElem? (i := 475) rfl)) rfl), vmX3_looksOf⟩
set_option maxRecDepth 20000 in
theorem lX3_47 : VL RX3 47 mX3_brightOf 1 := ⟨(lwg_of (List.mem_append_right _ (List.mem_of_getElem? (i := 429) rfl)) rfl), vmX3_brightOf⟩
set_option maxRecDepth 20000 in
theorem lX6_41 : VL RX6 41 mX4_forget 0 := ⟨(lwg_of (List.mem_append_right _ (List.mem_of_getElem? (i := 356) rfl)) rfl), vmX4_forget⟩
set_option maxRecDepth 20000 in
theorem lX6_44 : VL RX6 44 mX6_copyGlass 1 := ⟨(lwg_of (List.mem_append_right _ (List.mem_of_getElem? (i := 507) rfl)) rfl), vmX6_copyGlass⟩
set_option maxRecDepth 20000 in
theorem lX6_48 : VL RX6 48 mX4_copyAll 1 := ⟨(lwg_of (List.mem_append_right _ (List.mem_of_getElem? (i := 514) rfl)) rfl), vmX4_copyAll⟩
set_option maxRecDepth 20000 in
theorem lX6_58 : VL RX6 58 mX3_hasWearer 1 := ⟨(lwg_of (List.mem_append_right _ (List.mem_of_getElem? (i := 523) rfl)) rfl), vmX3_hasWearer⟩
set_option maxRecDepth 20000 in
theorem lX6_64 : VL RX6 64 mX3_sceneInYear 2 := ⟨(lwg_of (List.mem_append_right _ (List.mem_of_getElem? (i := 524) rfl)) rfl), vmX3_sceneInYear⟩
set_option maxRecDepth 20000 in
theorem lX6_68 : VL RX6 68 mX6_takenFor 4 := ⟨(lwg_of (List.mem_append_right _ (List.mem_of_getElem? (i := 525) rfl)) rfl), vmX6_takenFor⟩
set_option maxRecDepth 20000 in
theorem lX6_72 : VL RX6 72 mX4_add 4 := ⟨(lwg_of (List.mem_append_right _ (List.mem_of_getElem? (i := 526) rfl)) rfl), vmX4_add⟩
set_option maxRecDepth 20000 in
theorem lX6_76 : VL RX6 76 mX3_gain 1 := ⟨(lwg_of (List.mem_append_right _ (List.mem_of_getElem? (i := 530) rfl)) rfl), vmX3_gain⟩
set_option maxRecDepth 20000 in
theorem lX6_80 : VL RX6 80 mX6_deepen 2 := ⟨(lwg_of (List.mem_append_right _ (List.mem_of_getElem? (i := 534) rfl)) rfl), vmX6_deepen⟩
set_option maxRecDepth 20000 in
theorem lX6_83 : VL RX6 83 mX6_fadeBut 2 := ⟨(lwg_of (List.mem_append_right _ (List.mem_of_getElem? (i := 557) rfl)) rfl), vmX6_fadeBut⟩
set_option maxRecDepth 20000 in
theorem lX6_87 : VL RX6 87 mX6_find 2 := ⟨(lwg_of (List.mem_append_right _ (List.mem_of_getElem? (i := 538) rfl)) rfl), vmX6_find⟩
set_option maxRecDepth 20000 in
theorem lX6_90 : VL RX6 90 mX6_hasLayer 1 := ⟨(lwg_of (List.mem_append_right _ (List.mem_of_getElem? (i := 443) rfl)) rfl), vmX6_hasLayer⟩
set_option maxRecDepth 20000 in
theorem lX6_93 : VL RX6 93 mX6_lay 3 := ⟨(lwg_of (List.mem_append_right _ (List.mem_of_getElem? (i := 542) rfl)) rfl), vmX6_lay⟩
set_option maxRecDepth 20000 in
theorem lX6_102 : VL RX6 102 mX6_weakest 0 := ⟨(lwg_of (List.mem_append_right _ (List.mem_of_getElem? (i := 546) rfl)) rfl), vmX6_weakest⟩
set_option maxRecDepth 20000 in
theorem lX6_106 : VL RX6 106 mX6_remove 1 := ⟨(lwg_of (List.mem_append_right _ (List.mem_of_getElem? (i := 550) rfl)) rfl), vmX6_remove⟩
set_option maxRecDepth 20000 in
theorem lX6_110 : VL RX6 110 mX3_kindOf 1 := ⟨(lwg_of (List.mem_append_right _ (List.mem_of_getElem? (i := 561) rfl)) rfl), vmX3_kindOf⟩
set_option maxRecDepth 20000 in
theorem lX6_113 : VL RX6 113 mX6_fading 2 := ⟨(lwg_of (List.mem_append_right _ (List.mem_of_getElem? (i := 562) rfl)) rfl), vmX6_fading⟩
set_option maxRecDepth 20000 in
theorem lX6_116 : VL RX6 116 mX6_strongestBut 1 := ⟨(lwg_of (List.mem_append_right _ (List.mem_of_getElem? (i := 442) rfl)) rfl), vmX6_strongestBut⟩
set_option maxRecDepth 20000 in
theorem lX6_119 : VL RX6 119 mX3_veil 2 := ⟨(lwg_of (List.mem_append_right _ (List.mem_of_getElem? (i := 447) rfl)) rfl), vmX3_veil⟩
set_option maxRecDepth 20000 in
theorem lX7_28 : VL RX7 28 mX3_forget 0 := ⟨(lwg_of (List.mem_append_right _ (List.mem_of_getElem? (i := 288) rfl)) rfl), vmX3_forget⟩
set_option maxRecDepth 20000 in
theorem lX7_33 : VL RX7 33 mX7_skipBlanks 0 := ⟨(lwg_of (List.mem_append_right _ (List.mem_of_getElem? (i := 292) rfl)) rfl), vmX7_skipBlanks⟩
set_option maxRecDepth 20000 in
theorem lX7_36 : VL RX7 36 mX7_readClause 1 := ⟨(lwg_of (List.mem_append_right _ (List.mem_of_getElem? (i := 296) rfl)) rfl), vmX7_readClause⟩
set_option maxRecDepth 20000 in
theorem lX7_40 : VL RX7 40 mX7_letterHere 0 := ⟨(lwg_of (List.mem_append_right _ (List.mem_of_getElem? (i := 300) rfl)) rfl), vmX7_letterHere⟩
set_option maxRecDepth 20000 in
theorem lX7_47 : VL RX7 47 mX7_accept 2 := ⟨(lwg_of (List.mem_append_right _ (List.mem_of_getElem? (i := 304) rfl)) rfl), vmX7_accept⟩
set_option maxRecDepth 20000 in
theorem lX7_51 : VL RX7 51 mX7_readClear 1 := ⟨(lwg_of (List.mem_append_right _ (List.mem_of_getElem? (i := 312) rfl)) rfl), vmX7_readClear⟩
set_option maxRecDepth 20000 in
theorem lX7_57 : VL RX7 57 mX7_readScene 1 := ⟨(lwg_of (List.mem_append_right _ (List.mem_of_getElem? (i := 324) rfl)) rfl), vmX7_readScene⟩
set_option maxRecDepth 20000 in
theorem lX7_63 : VL RX7 63 mX7_readWearer 1 := ⟨(lwg_of (List.mem_append_right _ (List.mem_of_getElem? (i := 332) rfl)) rfl), vmX7_readWearer⟩
set_option maxRecDepth 20000 in
theorem lX7_66 : VL RX7 66 mX7_blame 2 := ⟨(lwg_of (List.mem_append_right _ (List.mem_of_getElem? (i := 308) rfl)) rfl), vmX7_blame⟩
set_option maxRecDepth 20000 in
theorem lX7_70 : VL RX7 70 mX7_readNumber 2 := ⟨(lwg_of (List.mem_append_right _ (List.mem_of_getElem? (i := 316) rfl)) rfl), vmX7_readNumber⟩
set_option maxRecDepth 20000 in
theorem lX7_74 : VL RX7 74 mX3_addScene 2 := ⟨(lwg_of (List.mem_append_right _ (List.mem_of_getElem? (i := 328) rfl)) rfl), vmX3_addScene⟩
set_option maxRecDepth 20000 in
theorem lX7_77 : VL RX7 77 mX3_addWearer 0 := ⟨(lwg_of (List.mem_append_right _ (List.mem_of_getElem? (i := 336) rfl)) rfl), vmX3_addWearer⟩
set_option maxRecDepth 20000 in
theorem lX7_80 : VL RX7 80 mX3_addLook 1 := ⟨(lwg_of (List.mem_append_right _ (List.mem_of_getElem? (i := 340) rfl)) rfl), vmX3_addLook⟩
set_option maxRecDepth 20000 in
theorem lX7_84 : VL RX7 84 mX7_isFigure 1 := ⟨(lwg_of (List.mem_append_right _ (List.mem_of_getElem? (i := 320) rfl)) rfl), vmX7_isFigure⟩
set_option maxRecDepth 20000 in
theorem lX8_19 : VL RX8 19 mX8_lastRise 0 := ⟨(lwg_of (List.mem_append_right _ (List.mem_of_getElem? (i := 672) rfl)) rfl), vmX8_lastRise⟩
set_option maxRecDepth 20000 in
theorem lX8_23 : VL RX8 23 mX8_swap 2 := ⟨(lwg_of (List.mem_append_right _ (List.mem_of_getElem? (i := 676) rfl)) rfl), vmX8_swap⟩
set_option maxRecDepth 20000 in
theorem lL_13 : VL RL 13 mX9_feed 1 := ⟨(lwg_of (List.mem_append_right _ (List.mem_of_getElem? (i := 270) rfl)) rfl), vmX9_feed⟩
set_option maxRecDepth 20000 in
theorem lL_17 : VL RL 17 mX10_feed 1 := ⟨(lwg_of (List.mem_append_right _ (List.mem_of_getElem? (i := 817) rfl)) rfl), vmX10_feed⟩
set_option maxRecDepth 20000 in
theorem lL_18 : VL RL 18 mX9_line 0 := ⟨(lwg_of (List.mem_append_right _ (List.mem_of_getElem? (i := 280) rfl)) rfl), vmX9_line⟩
set_option maxRecDepth 20000 in
theorem lL_22 : VL RL 22 mX10_line 0 := ⟨(lwg_of (List.mem_append_right _ (List.mem_of_getElem? (i := 827) rfl)) rfl), vmX10_line⟩
set_option maxRecDepth 20000 in
theorem lL_23 : VL RL 23 mX9_fault 0 := ⟨(lwg_of (List.mem_append_right _ (List.mem_of_getElem? (i := 372) rfl)) rfl), vmX9_fault⟩
set_option maxRecDepth 20000 in
theorem lL_26 : VL RL 26 mX10_fault 0 := ⟨(lwg_of (List.mem_append_right _ (List.mem_of_getElem? (i := 872) rfl)) rfl), vmX10_fault⟩
set_option maxRecDepth 20000 in
theorem lL_27 : VL RL 27 mX9_told 1 := ⟨(lwg_of (List.mem_append_right _ (List.mem_of_getElem? (i := 376) rfl)) rfl), vmX9_told⟩
set_option maxRecDepth 20000 in
theorem lL_30 : VL RL 30 mX10_told 1 := ⟨(lwg_of (List.mem_append_right _ (List.mem_of_getElem? (i := 876) rfl)) rfl), vmX10_told⟩
set_option maxRecDepth 20000 in
theorem lL_31 : VL RL 31 mX9_scene 2 := ⟨(lwg_of (List.mem_append_right _ (List.mem_of_getElem? (i := 407) rfl)) rfl), vmX9_scene⟩
set_option maxRecDepth 20000 in
theorem lL_35 : VL RL 35 mX10_scene 2 := ⟨(lwg_of (List.mem_append_right _ (List.mem_of_getElem? (i := 911) rfl)) rfl), vmX10_scene⟩
set_option maxRecDepth 20000 in
theorem lL_36 : VL RL 36 mX9_wearer 2 := ⟨(lwg_of (List.mem_append_right _ (List.mem_of_getElem? (i := 448) rfl)) rfl), vmX9_wearer⟩
set_option maxRecDepth 20000 in
theorem lL_39 : VL RL 39 mX10_wearer 2 := ⟨(lwg_of (List.mem_append_right _ (List.mem_of_getElem? (i := 939) rfl)) rfl), vmX10_wearer⟩
set_option maxRecDepth 20000 in
theorem lL_40 : VL RL 40 mX9_layer 2 := ⟨(lwg_of (List.mem_append_right _ (List.mem_of_getElem? (i := 476) rfl)) rfl), vmX9_layer⟩
set_option maxRecDepth 20000 in
theorem lL_43 : VL RL 43 mX10_layer 2 := ⟨(lwg_of (List.mem_append_right _ (List.mem_of_getElem? (i := 958) rfl)) rfl), vmX10_layer⟩
set_option maxRecDepth 20000 in
theorem lL_44 : VL RL 44 mX9_logged 2 := ⟨(lwg_of (List.mem_append_right _ (List.mem_of_getElem? (i := 481) rfl)) rfl), vmX9_logged⟩
set_option maxRecDepth 20000 in
theorem lL_47 : VL RL 47 mX10_logged 2 := ⟨(lwg_of (List.mem_append_right _ (List.mem_of_getElem? (i := 967) rfl)) rfl), vmX10_logged⟩
set_option maxRecDepth 20000 in
theorem lL_48 : VL RL 48 mX9_year 1 := ⟨(lwg_of (List.mem_append_right _ (List.mem_of_getElem? (i := 489) rfl)) rfl), vmX9_year⟩
set_option maxRecDepth 20000 in
theorem lL_51 : VL RL 51 mX10_year 1 := ⟨(lwg_of (List.mem_append_right _ (List.mem_of_getElem? (i := 972) rfl)) rfl), vmX10_year⟩
set_option maxRecDepth 20000 in
theorem lL_52 : VL RL 52 mX9_wear 1 := ⟨(lwg_of (List.mem_append_right _ (List.mem_of_getElem? (i := 566) rfl)) rfl), vmX9_wear⟩
set_option maxRecDepth 20000 in
theorem lL_55 : VL RL 55 mX10_wear 1 := ⟨(lwg_of (List.mem_append_right _ (List.mem_of_getElem? (i := 1011) rfl)) rfl), vmX10_wear⟩
set_option maxRecDepth 20000 in
theorem lL_56 : VL RL 56 mX9_takeOff 0 := ⟨(lwg_of (List.mem_append_right _ (List.mem_of_getElem? (i := 570) rfl)) rfl), vmX9_takeOff⟩
set_option maxRecDepth 20000 in
theorem lL_59 : VL RL 59 mX10_takeOff 0 := ⟨(lwg_of (List.mem_append_right _ (List.mem_of_getElem? (i := 1015) rfl)) rfl), vmX10_takeOff⟩
set_option maxRecDepth 20000 in
theorem lL_60 : VL RL 60 mX9_wipe 1 := ⟨(lwg_of (List.mem_append_right _ (List.mem_of_getElem? (i := 574) rfl)) rfl), vmX9_wipe⟩
set_option maxRecDepth 20000 in
theorem lL_63 : VL RL 63 mX10_wipe 1 := ⟨(lwg_of (List.mem_append_right _ (List.mem_of_getElem? (i := 1019) rfl)) rfl), vmX10_wipe⟩
set_option maxRecDepth 20000 in
theorem lL_64 : VL RL 64 mX9_chip 2 := ⟨(lwg_of (List.mem_append_right _ (List.mem_of_getElem? (i := 579) rfl)) rfl), vmX9_chip⟩
set_option maxRecDepth 20000 in
theorem lL_67 : VL RL 67 mX10_chip 2 := ⟨(lwg_of (List.mem_append_right _ (List.mem_of_getElem? (i := 1023) rfl)) rfl), vmX10_chip⟩
set_option maxRecDepth 20000 in
theorem lL_68 : VL RL 68 mX9_drift 1 := ⟨(lwg_of (List.mem_append_right _ (List.mem_of_getElem? (i := 584) rfl)) rfl), vmX9_drift⟩
set_option maxRecDepth 20000 in
theorem lL_71 : VL RL 71 mX10_drift 1 := ⟨(lwg_of (List.mem_append_right _ (List.mem_of_getElem? (i := 1028) rfl)) rfl), vmX10_drift⟩
set_option maxRecDepth 20000 in
theorem lL_72 : VL RL 72 mX9_undo 1 := ⟨(lwg_of (List.mem_append_right _ (List.mem_of_getElem? (i := 600) rfl)) rfl), vmX9_undo⟩
set_option maxRecDepth 20000 in
theorem lL_75 : VL RL 75 mX10_undo 1 := ⟨(lwg_of (List.mem_append_right _ (List.mem_of_getElem? (i := 1044) rfl)) rfl), vmX10_undo⟩
set_option maxRecDepth 20000 in
theorem lL_76 : VL RL 76 mX9_takes 1 := ⟨(lwg_of (List.mem_append_right _ (List.mem_of_getElem? (i := 608) rfl)) rfl), vmX9_takes⟩
set_option maxRecDepth 20000 in
theorem lL_79 : VL RL 79 mX10_takes 1 := ⟨(lwg_of (List.mem_append_right _ (List.mem_of_getElem? (i := 1048) rfl)) rfl), vmX10_takes⟩
set_option maxRecDepth 20000 in
theorem lL_80 : VL RL 80 mX9_dark 1 := ⟨(lwg_of (List.mem_append_right _ (List.mem_of_getElem? (i := 612) rfl)) rfl), vmX9_dark⟩
set_option maxRecDepth 20000 in
theorem lL_83 : VL RL 83 mX10_dark 1 := ⟨(lwg_of (List.mem_append_right _ (List.mem_of_getElem? (i := 1052) rfl)) rfl), vmX10_dark⟩
set_option maxRecDepth 20000 in
theorem lL_84 : VL RL 84 mX9_tooDark 1 := ⟨(lwg_of (List.mem_append_right _ (List.mem_of_getElem? (i := 621) rfl)) rfl), vmX9_tooDark⟩
set_option maxRecDepth 20000 in
theorem lL_87 : VL RL 87 mX10_tooDark 1 := ⟨(lwg_of (List.mem_append_right _ (List.mem_of_getElem? (i := 1061) rfl)) rfl), vmX10_tooDark⟩
set_option maxRecDepth 20000 in
theorem lL_88 : VL RL 88 mX9_willShow 2 := ⟨(lwg_of (List.mem_append_right _ (List.mem_of_getElem? (i := 625) rfl)) rfl), vmX9_willShow⟩
set_option maxRecDepth 20000 in
theorem lL_91 : VL RL 91 mX10_willShow 2 := ⟨(lwg_of (List.mem_append_right _ (List.mem_of_getElem? (i := 1065) rfl)) rfl), vmX10_willShow⟩
set_option maxRecDepth 20000 in
theorem lL_92 : VL RL 92 mX9_toWipe 2 := ⟨(lwg_of (List.mem_append_right _ (List.mem_of_getElem? (i := 633) rfl)) rfl), vmX9_toWipe⟩
set_option maxRecDepth 20000 in
theorem lL_95 : VL RL 95 mX10_toWipe 2 := ⟨(lwg_of (List.mem_append_right _ (List.mem_of_getElem? (i := 1069) rfl)) rfl), vmX10_toWipe⟩
set_option maxRecDepth 20000 in
theorem lL_96 : VL RL 96 mX9_only 2 := ⟨(lwg_of (List.mem_append_right _ (List.mem_of_getElem? (i := 644) rfl)) rfl), vmX9_only⟩
set_option maxRecDepth 20000 in
theorem lL_99 : VL RL 99 mX10_only 2 := ⟨(lwg_of (List.mem_append_right _ (List.mem_of_getElem? (i := 1081) rfl)) rfl), vmX10_only⟩
set_option maxRecDepth 20000 in
theorem lL_100 : VL RL 100 mX9_order 2 := ⟨(lwg_of (List.mem_append_right _ (List.mem_of_getElem? (i := 652) rfl)) rfl), vmX9_order⟩
set_option maxRecDepth 20000 in
theorem lL_103 : VL RL 103 mX10_order 2 := ⟨(lwg_of (List.mem_append_right _ (List.mem_of_getElem? (i := 1085) rfl)) rfl), vmX10_order⟩
set_option maxRecDepth 20000 in
theorem lL_104 : VL RL 104 mX9_ground 1 := ⟨(lwg_of (List.mem_append_right _ (List.mem_of_getElem? (i := 680) rfl)) rfl), vmX9_ground⟩
set_option maxRecDepth 20000 in
theorem lL_107 : VL RL 107 mX10_ground 1 := ⟨(lwg_of (List.mem_append_right _ (List.mem_of_getElem? (i := 1095) rfl)) rfl), vmX10_ground⟩
set_option maxRecDepth 20000 in
theorem lL_108 : VL RL 108 mX9_mist 2 := ⟨(lwg_of (List.mem_append_right _ (List.mem_of_getElem? (i := 684) rfl)) rfl), vmX9_mist⟩
set_option maxRecDepth 20000 in
theorem lL_111 : VL RL 111 mX10_mist 2 := ⟨(lwg_of (List.mem_append_right _ (List.mem_of_getElem? (i := 1099) rfl)) rfl), vmX10_mist⟩
set_option maxRecDepth 20000 in
theorem lL_112 : VL RL 112 mX9_meet 2 := ⟨(lwg_of (List.mem_append_right _ (List.mem_of_getElem? (i := 690) rfl)) rfl), vmX9_meet⟩
set_option maxRecDepth 20000 in
theorem lL_116 : VL RL 116 mX10_meet 2 := ⟨(lwg_of (List.mem_append_right _ (List.mem_of_getElem? (i := 1105) rfl)) rfl), vmX10_meet⟩
set_option maxRecDepth 20000 in
theorem lL_117 : VL RL 117 mX9_couldBe 0 := ⟨(lwg_of (List.mem_append_right _ (List.mem_of_getElem? (i := 698) rfl)) rfl), vmX9_couldBe⟩
set_option maxRecDepth 20000 in
theorem lL_120 : VL RL 120 mX10_couldBe 0 := ⟨(lwg_of (List.mem_append_right _ (List.mem_of_getElem? (i := 1109) rfl)) rfl), vmX10_couldBe⟩
set_option maxRecDepth 20000 in
theorem lL_121 : VL RL 121 mX9_ask 0 := ⟨(lwg_of (List.mem_append_right _ (List.mem_of_getElem? (i := 706) rfl)) rfl), vmX9_ask⟩
set_option maxRecDepth 20000 in
theorem lL_124 : VL RL 124 mX10_ask 0 := ⟨(lwg_of (List.mem_append_right _ (List.mem_of_getElem? (i := 1113) rfl)) rfl), vmX10_ask⟩
set_option maxRecDepth 20000 in
theorem lL_125 : VL RL 125 mX9_write 2 := ⟨(lwg_of (List.mem_append_right _ (List.mem_of_getElem? (i := 712) rfl)) rfl), vmX9_write⟩
set_option maxRecDepth 20000 in
theorem lL_128 : VL RL 128 mX10_write 2 := ⟨(lwg_of (List.mem_append_right _ (List.mem_of_getElem? (i := 1118) rfl)) rfl), vmX10_write⟩
set_option maxRecDepth 20000 in
theorem lL_129 : VL RL 129 mX9_judge 0 := ⟨(lwg_of (List.mem_append_right _ (List.mem_of_getElem? (i := 720) rfl)) rfl), vmX9_judge⟩
set_option maxRecDepth 20000 in
theorem lL_132 : VL RL 132 mX10_judge 0 := ⟨(lwg_of (List.mem_append_right _ (List.mem_of_getElem? (i := 1122) rfl)) rfl), vmX10_judge⟩
set_option maxRecDepth 20000 in
theorem lL_133 : VL RL 133 mX9_tear 0 := ⟨(lwg_of (List.mem_append_right _ (List.mem_of_getElem? (i := 724) rfl)) rfl), vmX9_tear⟩
set_option maxRecDepth 20000 in
theorem lL_136 : VL RL 136 mX10_tear 0 := ⟨(lwg_of (List.mem_append_right _ (List.mem_of_getElem? (i := 1126) rfl)) rfl), vmX10_tear⟩
set_option maxRecDepth 20000 in
theorem lL_137 : VL RL 137 mX9_seed 1 := ⟨(lwg_of (List.mem_append_right _ (List.mem_of_getElem? (i := 728) rfl)) rfl), vmX9_seed⟩
set_option maxRecDepth 20000 in
theorem lL_140 : VL RL 140 mX10_seed 1 := ⟨(lwg_of (List.mem_append_right _ (List.mem_of_getElem? (i := 1130) rfl)) rfl), vmX10_seed⟩
set_option maxRecDepth 20000 in
theorem lL_141 : VL RL 141 mX9_keep 1 := ⟨(lwg_of (List.mem_append_right _ (List.mem_of_getElem? (i := 732) rfl)) rfl), vmX9_keep⟩
set_option maxRecDepth 20000 in
theorem lL_144 : VL RL 144 mX10_keep 1 := ⟨(lwg_of (List.mem_append_right _ (List.mem_of_getElem? (i := 1134) rfl)) rfl), vmX10_keep⟩
set_option maxRecDepth 20000 in
theorem lL_145 : VL RL 145 mX9_goBack 1 := ⟨(lwg_of (List.mem_append_right _ (List.mem_of_getElem? (i := 737) rfl)) rfl), vmX9_goBack⟩
set_option maxRecDepth 20000 in
theorem lL_148 : VL RL 148 mX10_goBack 1 := ⟨(lwg_of (List.mem_append_right _ (List.mem_of_getElem? (i := 1138) rfl)) rfl), vmX10_goBack⟩
set_option maxRecDepth 20000 in
theorem lX10_71 : VL RX10 71 mX10_here 0 := ⟨(lwg_of (List.mem_append_right _ (List.mem_of_getElem? (i := 835) rfl)) rfl), vmX10_here⟩
set_option maxRecDepth 20000 in
theorem lX10_94 : VL RX10 94 mX10_step 0 := ⟨(lwg_of (List.mem_append_right _ (List.mem_of_getElem? (i := 831) rfl)) rfl), vmX10_step⟩
set_option maxRecDepth 20000 in
theorem lX10_97 : VL RX10 97 mX10_fails 1 := ⟨(lwg_of (List.mem_append_right _ (List.mem_of_getElem? (i := 845) rfl)) rfl), vmX10_fails⟩
set_option maxRecDepth 20000 in
theorem lX10_101 : VL RX10 101 mX10_number 3 := ⟨(lwg_of (List.mem_append_right _ (List.mem_of_getElem? (i := 849) rfl)) rfl), vmX10_number⟩
set_option maxRecDepth 20000 in
theorem lX10_105 : VL RX10 105 mX10_ends 0 := ⟨(lwg_of (List.mem_append_right _ (List.mem_of_getElem? (i := 853) rfl)) rfl), vmX10_ends⟩
set_option maxRecDepth 20000 in
theorem lX10_109 : VL RX10 109 mX10_readsScene 0 := ⟨(lwg_of (List.mem_append_right _ (List.mem_of_getElem? (i := 857) rfl)) rfl), vmX10_readsScene⟩
set_option maxRecDepth 20000 in
theorem lX10_112 : VL RX10 112 mX10_readsWearer 0 := ⟨(lwg_of (List.mem_append_right _ (List.mem_of_getElem? (i := 861) rfl)) rfl), vmX10_readsWearer⟩
set_option maxRecDepth 20000 in
theorem lX10_115 : VL RX10 115 mX10_readsClause 0 := ⟨(lwg_of (List.mem_append_right _ (List.mem_of_getElem? (i := 841) rfl)) rfl), vmX10_readsClause⟩
set_option maxRecDepth 20000 in
theorem lX10_122 : VL RX10 122 mX10_begins 0 := ⟨(lwg_of (List.mem_append_right _ (List.mem_of_getElem? (i := 868) rfl)) rfl), vmX10_begins⟩
set_option maxRecDepth 20000 in
theorem lX10_129 : VL RX10 129 mX10_half 2 := ⟨(lwg_of (List.mem_append_right _ (List.mem_of_getElem? (i := 920) rfl)) rfl), vmX10_half⟩
set_option maxRecDepth 20000 in
theorem lX10_133 : VL RX10 133 mX10_takesBy 4 := ⟨(lwg_of (List.mem_append_right _ (List.mem_of_getElem? (i := 932) rfl)) rfl), vmX10_takesBy⟩
set_option maxRecDepth 20000 in
theorem lX10_137 : VL RX10 137 mX10_strengthOn 2 := ⟨(lwg_of (List.mem_append_right _ (List.mem_of_getElem? (i := 884) rfl)) rfl), vmX10_strengthOn⟩
set_option maxRecDepth 20000 in
theorem lX10_145 : VL RX10 145 mX10_nextScene 2 := ⟨(lwg_of (List.mem_append_right _ (List.mem_of_getElem? (i := 954) rfl)) rfl), vmX10_nextScene⟩
set_option maxRecDepth 20000 in
theorem lX10_158 : VL RX10 158 mX10_looks 2 := ⟨(lwg_of (List.mem_append_right _ (List.mem_of_getElem? (i := 991) rfl)) rfl), vmX10_looks⟩
set_option maxRecDepth 20000 in
theorem lX10_161 : VL RX10 161 mX10_fading 3 := ⟨(lwg_of (List.mem_append_right _ (List.mem_of_getElem? (i := 1007) rfl)) rfl), vmX10_fading⟩
set_option maxRecDepth 20000 in
theorem lX10_165 : VL RX10 165 mX10_sawBy 1 := ⟨(lwg_of (List.mem_append_right _ (List.mem_of_getElem? (i := 892) rfl)) rfl), vmX10_sawBy⟩
set_option maxRecDepth 20000 in
theorem lX10_175 : VL RX10 175 mX10_darkOn 1 := ⟨(lwg_of (List.mem_append_right _ (List.mem_of_getElem? (i := 880) rfl)) rfl), vmX10_darkOn⟩
set_option maxRecDepth 20000 in
theorem lX10_179 : VL RX10 179 mX10_seenByAll 0 := ⟨(lwg_of (List.mem_append_right _ (List.mem_of_getElem? (i := 888) rfl)) rfl), vmX10_seenByAll⟩
set_option maxRecDepth 20000 in
theorem lX10_182 : VL RX10 182 mX10_eyes 0 := ⟨(lwg_of (List.mem_append_right _ (List.mem_of_getElem? (i := 896) rfl)) rfl), vmX10_eyes⟩
set_option maxRecDepth 20000 in
theorem lX10_185 : VL RX10 185 mX10_strongest 0 := ⟨(lwg_of (List.mem_append_right _ (List.mem_of_getElem? (i := 900) rfl)) rfl), vmX10_strongest⟩
set_option maxRecDepth 20000 in
theorem lX10_188 : VL RX10 188 mX10_thick 0 := ⟨(lwg_of (List.mem_append_right _ (List.mem_of_getElem? (i := 904) rfl)) rfl), vmX10_thick⟩
set_option maxRecDepth 20000 in
theorem lX10_191 : VL RX10 191 mX10_takesNow 1 := ⟨(lwg_of (List.mem_append_right _ (List.mem_of_getElem? (i := 928) rfl)) rfl), vmX10_takesNow⟩
set_option maxRecDepth 20000 in
theorem lX10_194 : VL RX10 194 mX10_isScene 1 := ⟨(lwg_of (List.mem_append_right _ (List.mem_of_getElem? (i := 915) rfl)) rfl), vmX10_isScene⟩
set_option maxRecDepth 20000 in
theorem lX10_198 : VL RX10 198 mX10_lookFor 1 := ⟨(lwg_of (List.mem_append_right _ (List.mem_of_getElem? (i := 924) rfl)) rfl), vmX10_lookFor⟩
set_option maxRecDepth 20000 in
theorem lX10_201 : VL RX10 201 mX10_isWearer 1 := ⟨(lwg_of (List.mem_append_right _ (List.mem_of_getElem? (i := 943) rfl)) rfl), vmX10_isWearer⟩
set_option maxRecDepth 20000 in
theorem lX10_204 : VL RX10 204 mX10_kin 1 := ⟨(lwg_of (List.mem_append_right _ (List.mem_of_getElem? (i := 947) rfl)) rfl), vmX10_kin⟩
set_option maxRecDepth 20000 in
theorem lX10_207 : VL RX10 207 mX10_isLayer 1 := ⟨(lwg_of (List.mem_append_right _ (List.mem_of_getElem? (i := 962) rfl)) rfl), vmX10_isLayer⟩
set_option maxRecDepth 20000 in
theorem lX10_218 : VL RX10 218 mX10_refuses 1 := ⟨(lwg_of (List.mem_append_right _ (List.mem_of_getElem? (i := 976) rfl)) rfl), vmX10_refuses⟩
set_option maxRecDepth 20000 in
theorem lX10_221 : VL RX10 221 mX10_remember 0 := ⟨(lwg_of (List.mem_append_right _ (List.mem_of_getElem? (i := 983) rfl)) rfl), vmX10_remember⟩
set_option maxRecDepth 20000 in
theorem lX10_224 : VL RX10 224 mX10_yearGoes 1 := ⟨(lwg_of (List.mem_append_right _ (List.mem_of_getElem? (i := 987) rfl)) rfl), vmX10_yearGoes⟩
set_option maxRecDepth 20000 in
theorem lX10_242 : VL RX10 242 mX10_draw 1 := ⟨(lwg_of (List.mem_append_right _ (List.mem_of_getElem? (i := 1036) rfl)) rfl), vmX10_draw⟩
set_option maxRecDepth 20000 in
theorem lX10_245 : VL RX10 245 mX10_draws 0 := ⟨(lwg_of (List.mem_append_right _ (List.mem_of_getElem? (i := 1032) rfl)) rfl), vmX10_draws⟩
set_option maxRecDepth 20000 in
theorem lX10_250 : VL RX10 250 mX10_layAside 0 := ⟨(lwg_of (List.mem_append_right _ (List.mem_of_getElem? (i := 1057) rfl)) rfl), vmX10_layAside⟩
set_option maxRecDepth 20000 in
theorem lX10_253 : VL RX10 253 mX10_loss 1 := ⟨(lwg_of (List.mem_append_right _ (List.mem_of_getElem? (i := 1073) rfl)) rfl), vmX10_loss⟩
set_option maxRecDepth 20000 in
theorem lX10_256 : VL RX10 256 mX10_areThemselves 2 := ⟨(lwg_of (List.mem_append_right _ (List.mem_of_getElem? (i := 1077) rfl)) rfl), vmX10_areThemselves⟩
set_option maxRecDepth 20000 in
theorem lX10_262 : VL RX10 262 mX10_nextOrder 1 := ⟨(lwg_of (List.mem_append_right _ (List.mem_of_getElem? (i := 1091) rfl)) rfl), vmX10_nextOrder⟩
set_option maxRecDepth 20000 in
theorem lX10_269 : VL RX10 269 mX10_couldBe 0 := ⟨(lwg_of (List.mem_append_right _ (List.mem_of_getElem? (i := 1117) rfl)) rfl), vmX10_couldBe⟩
set_option maxRecDepth 20000 in
theorem lX9_244 : SL RX9 244 mX9_isSetOf 2 := ⟨(lwg_of (List.mem_append_right _ (List.mem_of_getElem? (i := 637) rfl)) rfl), smX9_isSetOf⟩
set_option maxRecDepth 20000 in
theorem lX9_251 : SL RX9 251 mJ6_bitCount_0f7a4 1 := ⟨(lwg_of (List.mem_append_right _ (List.mem_of_getElem? (i := 465) rfl)) rfl), smJ6_bitCount_0f7a4⟩
set_option maxRecDepth 20000 in
theorem lX9_290 : SL RX9 290 mJ9_max_7cf53 2 := ⟨(lwg_of (List.mem_append_right _ (List.mem_of_getElem? (i := 711) rfl)) rfl), smJ9_max_7cf53⟩
set_option maxRecDepth 20000 in
theorem lX6_97 : SL RX6 97 mJ9_min_7cf53 2 := ⟨(lwg_of (List.mem_append_right _ (List.mem_of_getElem? (i := 554) rfl)) rfl), smJ9_min_7cf53⟩
set_option maxRecDepth 20000 in
theorem lX6_122 : SL RX6 122 mJ9_max_7cf53 2 := ⟨(lwg_of (List.mem_append_right _ (List.mem_of_getElem? (i := 404) rfl)) rfl), smJ9_max_7cf53⟩
set_option maxRecDepth 20000 in
theorem lX10_59 : SL RX10 59 mX10_in 3 := ⟨(lwg_of (List.mem_append_right _ (List.mem_of_getElem? (i := 822) rfl)) rfl), smX10_in⟩
set_option maxRecDepth 20000 in
theorem lX10_118 : SL RX10 118 mX10_copies 5 := ⟨(lwg_of (List.mem_append_right _ (List.mem_of_getElem? (i := 865) rfl)) rfl), smX10_copies⟩
set_option maxRecDepth 20000 in
theorem lX10_125 : SL RX10 125 mX10_has 2 := ⟨(lwg_of (List.mem_append_right _ (List.mem_of_getElem? (i := 936) rfl)) rfl), smX10_has⟩
set_option maxRecDepth 20000 in
theorem lX10_141 : SL RX10 141 mX10_removes 2 := ⟨(lwg_of (List.mem_append_right _ (List.mem_of_getElem? (i := 1004) rfl)) rfl), smX10_removes⟩
set_option maxRecDepth 20000 in
theorem lX10_148 : SL RX10 148 mX10_logs 4 := ⟨(lwg_of (List.mem_append_right _ (List.mem_of_getElem? (i := 995) rfl)) rfl), smX10_logs⟩
set_option maxRecDepth 20000 in
theorem lX10_152 : SL RX10 152 mX10_lesser 2 := ⟨(lwg_of (List.mem_append_right _ (List.mem_of_getElem? (i := 998) rfl)) rfl), smX10_lesser⟩
set_option maxRecDepth 20000 in
theorem lX10_155 : SL RX10 155 mX10_lays 4 := ⟨(lwg_of (List.mem_append_right _ (List.mem_of_getElem? (i := 1001) rfl)) rfl), smX10_lays⟩
set_option maxRecDepth 20000 in
theorem lX10_169 : SL RX10 169 mX10_bits 1 := ⟨(lwg_of (List.mem_append_right _ (List.mem_of_getElem? (i := 951) rfl)) rfl), smX10_bits⟩
set_option maxRecDepth 20000 in
theorem lX10_172 : SL RX10 172 mX10_greater 2 := ⟨(lwg_of (List.mem_append_right _ (List.mem_of_getElem? (i := 908) rfl)) rfl), smX10_greater⟩
set_option maxRecDepth 20000 in
theorem lX4_22 : Jvm.Cond.methodLink RX4 22 arraycopyName ∈ lwg := (lwg_of (List.mem_append_right _ (List.mem_of_getElem? (i := 518) rfl)) rfl)
set_option maxRecDepth 20000 in
theorem lX6_52 : Jvm.Cond.methodLink RX6 52 arraycopyName ∈ lwg := (lwg_of (List.mem_append_right _ (List.mem_of_getElem? (i := 511) rfl)) rfl)
set_option maxRecDepth 20000 in
theorem w_copy : Jvm.Cond.native arraycopyName ∈ lwg ∧ Jvm.Cond.static arraycopyName ∈ lwg ∧ Jvm.Cond.initialized "java/lang/System" ∈ lwg := ⟨(lwg_of (List.mem_append_right _ (List.mem_of_getElem? (i := 513) rfl)) rfl), (lwg_of (List.mem_append_right _ (List.mem_of_getElem? (i := 512) rfl)) rfl), (lwg_of (List.mem_append_right _ (List.mem_of_getElem? (i := 14) rfl)) rfl)⟩
