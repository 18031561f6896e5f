theorem cf_0 : mw_CF RX0 TX0 2 tyX0 := ⟨by decide +kernel, by decide +kernel, tyX0_ok, nmX0⟩
theorem cf_1 : mw_CF RX1 TX1 4 tyX1 := ⟨by decide +kernel, by decide +kernel, tyX1_ok, nmX1⟩
theorem cf_2 : mw_CF RX2 TX2 10 tyX2 := ⟨by decide +kernel, by decide +kernel, tyX2_ok, nmX2⟩
theorem cf_3 : mw_CF RX3 TX3 2 tyX3 := ⟨by decide +kernel, by decide +kernel, tyX3_ok, nmX3⟩
theorem cf_4 : mw_CF RX4 TX4 4 tyX4 := ⟨by decide +kernel, by decide +kernel, tyX4_ok, nmX4⟩
theorem cf_5 : mw_CF RX5 TX5 5 tyX5 := ⟨by decide +kernel, by decide +kernel, tyX5_ok, nmX5⟩
theorem cf_6 : mw_CF RX6 TX6 11 tyX6 := ⟨by decide +kernel, by decide +kernel, tyX6_ok, nmX6⟩
theorem cf_7 : mw_CF RX7 TX7 23 tyX7 := ⟨by decide +kernel, by decide +kernel, tyX7_ok, nmX7⟩
theorem fk_X0_9 : mw_F RX0 9 0 0 (.array .byte) true := ⟨RX0, TX0, 2, tyX0, rfl, cf_0, by decide, rfl, rfl, rfl, List.mem_of_getElem? (i := 95) (by decide +kernel)⟩
theorem fk_X0_15 : mw_F RX0 15 0 1 (.int) false := ⟨RX0, TX0, 2, tyX0, rfl, cf_0, by decide, rfl, rfl, rfl, List.mem_of_getElem? (i := 96) (by decide +kernel)⟩
theorem fk_X1_12 : mw_F RX1 12 1 0 (.object "Schemabridge$Fields") true := ⟨RX1, TX1, 4, tyX1, rfl, cf_1, by decide, rfl, rfl, rfl, List.mem_of_getElem? (i := 172) (by decide +kernel)⟩
theorem fk_X1_18 : mw_F RX1 18 1 1 (.array .int) true := ⟨RX1, TX1, 4, tyX1, rfl, cf_1, by decide, rfl, rfl, rfl, List.mem_of_getElem? (i := 173) (by decide +kernel)⟩
theorem fk_X1_22 : mw_F RX1 22 1 2 (.array .int) true := ⟨RX1, TX1, 4, tyX1, rfl, cf_1, by decide, rfl, rfl, rfl, List.mem_of_getElem? (i := 174) (by decide +kernel)⟩
theorem fk_X1_39 : mw_F RX1 39 1 3 (.int) false := ⟨RX1, TX1, 4, tyX1, rfl, cf_1, by decide, rfl, rfl, rfl, List.mem_of_getElem? (i := 175) (by decide +kernel)⟩
theorem fk_X2_9 : mw_F RX2 9 2 0 (.array .int) true := ⟨RX2, TX2, 10, tyX2, rfl, cf_2, by decide, rfl, rfl, rfl, List.mem_of_getElem? (i := 132) (by decide +kernel)⟩
theorem fk_X2_15 : mw_F RX2 15 2 1 (.array .int) true := ⟨RX2, TX2, 10, tyX2, rfl, cf_2, by decide, rfl, rfl, rfl, List.mem_of_getElem? (i := 133) (by decide +kernel)⟩
theorem fk_X2_18 : mw_F RX2 18 2 2 (.array .int) true := ⟨RX2, TX2, 10, tyX2, rfl, cf_2, by decide, rfl, rfl, rfl, List.mem_of_getElem? (i := 134) (by decide +kernel)⟩
theorem fk_X2_21 : mw_F RX2 21 2 3 (.array .int) true := ⟨RX2, TX2, 10, tyX2, rfl, cf_2, by decide, rfl, rfl, rfl, List.mem_of_getElem? (i := 135) (by decide +kernel)⟩
theorem fk_X2_27 : mw_F RX2 27 2 5 (.object "Schemabridge$Bytes") false := ⟨RX2, TX2, 10, tyX2, rfl, cf_2, by decide, rfl, rfl, rfl, List.mem_of_getElem? (i := 137) (by decide +kernel)⟩
theorem fk_X2_31 : mw_F RX2 31 2 9 (.int) false := ⟨RX2, TX2, 10, tyX2, rfl, cf_2, by decide, rfl, rfl, rfl, List.mem_of_getElem? (i := 141) (by decide +kernel)⟩
theorem fk_X2_35 : mw_F RX2 35 2 6 (.int) false := ⟨RX2, TX2, 10, tyX2, rfl, cf_2, by decide, rfl, rfl, rfl, List.mem_of_getElem? (i := 138) (by decide +kernel)⟩
theorem fk_X2_38 : mw_F RX2 38 2 7 (.int) false := ⟨RX2, TX2, 10, tyX2, rfl, cf_2, by decide, rfl, rfl, rfl, List.mem_of_getElem? (i := 139) (by decide +kernel)⟩
theorem fk_X2_41 : mw_F RX2 41 2 4 (.int) false := ⟨RX2, TX2, 10, tyX2, rfl, cf_2, by decide, rfl, rfl, rfl, List.mem_of_getElem? (i := 136) (by decide +kernel)⟩
theorem fk_X2_44 : mw_F RX2 44 2 8 (.int) false := ⟨RX2, TX2, 10, tyX2, rfl, cf_2, by decide, rfl, rfl, rfl, List.mem_of_getElem? (i := 140) (by decide +kernel)⟩
theorem fk_X3_10 : mw_F RX3 10 3 1 (.object "Schemabridge$Bytes") true := ⟨RX3, TX3, 2, tyX3, rfl, cf_3, by decide, rfl, rfl, rfl, List.mem_of_getElem? (i := 543) (by decide +kernel)⟩
theorem fk_X3_16 : mw_F RX3 16 3 0 (.object "Schemabridge$Schema") true := ⟨RX3, TX3, 2, tyX3, rfl, cf_3, by decide, rfl, rfl, rfl, List.mem_of_getElem? (i := 541) (by decide +kernel)⟩
theorem fk_X4_11 : mw_F RX4 11 4 0 (.array (.object "Schemabridge$Schema")) true := ⟨RX4, TX4, 4, tyX4, rfl, cf_4, by decide, rfl, rfl, rfl, List.mem_of_getElem? (i := 110) (by decide +kernel)⟩
theorem fk_X4_17 : mw_F RX4 17 4 1 (.array (.object "Schemabridge$Schema")) true := ⟨RX4, TX4, 4, tyX4, rfl, cf_4, by decide, rfl, rfl, rfl, List.mem_of_getElem? (i := 111) (by decide +kernel)⟩
theorem fk_X4_20 : mw_F RX4 20 4 2 (.array .boolean) true := ⟨RX4, TX4, 4, tyX4, rfl, cf_4, by decide, rfl, rfl, rfl, List.mem_of_getElem? (i := 112) (by decide +kernel)⟩
theorem fk_X4_39 : mw_F RX4 39 4 3 (.int) false := ⟨RX4, TX4, 4, tyX4, rfl, cf_4, by decide, rfl, rfl, rfl, List.mem_of_getElem? (i := 113) (by decide +kernel)⟩
theorem fk_X4_55 : mw_F RX4 55 5 0 (.int) true := ⟨RX5, TX5, 5, tyX5, rfl, cf_5, by decide, rfl, rfl, rfl, List.mem_of_getElem? (i := 371) (by decide +kernel)⟩
theorem fk_X5_9 : mw_F RX5 9 5 1 (.array .int) true := ⟨RX5, TX5, 5, tyX5, rfl, cf_5, by decide, rfl, rfl, rfl, List.mem_of_getElem? (i := 373) (by decide +kernel)⟩
theorem fk_X5_15 : mw_F RX5 15 5 2 (.array .int) true := ⟨RX5, TX5, 5, tyX5, rfl, cf_5, by decide, rfl, rfl, rfl, List.mem_of_getElem? (i := 374) (by decide +kernel)⟩
theorem fk_X5_18 : mw_F RX5 18 5 3 (.array .int) true := ⟨RX5, TX5, 5, tyX5, rfl, cf_5, by decide, rfl, rfl, rfl, List.mem_of_getElem? (i := 375) (by decide +kernel)⟩
theorem fk_X5_21 : mw_F RX5 21 5 4 (.array (.object "Schemabridge$Schema")) true := ⟨RX5, TX5, 5, tyX5, rfl, cf_5, by decide, rfl, rfl, rfl, List.mem_of_getElem? (i := 376) (by decide +kernel)⟩
theorem fk_X5_25 : mw_F RX5 25 5 0 (.int) true := ⟨RX5, TX5, 5, tyX5, rfl, cf_5, by decide, rfl, rfl, rfl, List.mem_of_getElem? (i := 370) (by decide +kernel)⟩
theorem fk_X6_11 : mw_F RX6 11 6 0 (.array (.object "Schemabridge$Schema")) true := ⟨RX6, TX6, 11, tyX6, rfl, cf_6, by decide, rfl, rfl, rfl, List.mem_of_getElem? (i := 185) (by decide +kernel)⟩
theorem fk_X6_17 : mw_F RX6 17 6 1 (.array (.object "Schemabridge$Message")) true := ⟨RX6, TX6, 11, tyX6, rfl, cf_6, by decide, rfl, rfl, rfl, List.mem_of_getElem? (i := 186) (by decide +kernel)⟩
theorem fk_X6_24 : mw_F RX6 24 6 2 (.object "Schemabridge$Bytes") true := ⟨RX6, TX6, 11, tyX6, rfl, cf_6, by decide, rfl, rfl, rfl, List.mem_of_getElem? (i := 187) (by decide +kernel)⟩
theorem fk_X6_31 : mw_F RX6 31 6 4 (.object "Schemabridge$PairSearch") true := ⟨RX6, TX6, 11, tyX6, rfl, cf_6, by decide, rfl, rfl, rfl, List.mem_of_getElem? (i := 189) (by decide +kernel)⟩
theorem fk_X6_38 : mw_F RX6 38 6 5 (.object "Schemabridge$Fields") true := ⟨RX6, TX6, 11, tyX6, rfl, cf_6, by decide, rfl, rfl, rfl, List.mem_of_getElem? (i := 190) (by decide +kernel)⟩
theorem fk_X6_45 : mw_F RX6 45 6 6 (.object "Schemabridge$Canon") true := ⟨RX6, TX6, 11, tyX6, rfl, cf_6, by decide, rfl, rfl, rfl, List.mem_of_getElem? (i := 191) (by decide +kernel)⟩
theorem fk_X6_49 : mw_F RX6 49 6 7 (.object "Schemabridge$Canon") true := ⟨RX6, TX6, 11, tyX6, rfl, cf_6, by decide, rfl, rfl, rfl, List.mem_of_getElem? (i := 192) (by decide +kernel)⟩
theorem fk_X6_52 : mw_F RX6 52 6 8 (.object "Schemabridge$Bytes") true := ⟨RX6, TX6, 11, tyX6, rfl, cf_6, by decide, rfl, rfl, rfl, List.mem_of_getElem? (i := 193) (by decide +kernel)⟩
theorem fk_X6_55 : mw_F RX6 55 6 9 (.object "Schemabridge$Bytes") true := ⟨RX6, TX6, 11, tyX6, rfl, cf_6, by decide, rfl, rfl, rfl, List.mem_of_getElem? (i := 194) (by decide +kernel)⟩
theorem fk_X6_58 : mw_F RX6 58 6 10 (.object "Schemabridge$Bytes") true := ⟨RX6, TX6, 11, tyX6, rfl, cf_6, by decide, rfl, rfl, rfl, List.mem_of_getElem? (i := 195) (by decide +kernel)⟩
theorem fk_X6_61 : mw_F RX6 61 6 3 (.int) false := ⟨RX6, TX6, 11, tyX6, rfl, cf_6, by decide, rfl, rfl, rfl, List.mem_of_getElem? (i := 188) (by decide +kernel)⟩
theorem fk_X6_123 : mw_F RX6 123 3 1 (.object "Schemabridge$Bytes") true := ⟨RX3, TX3, 2, tyX3, rfl, cf_3, by decide, rfl, rfl, rfl, List.mem_of_getElem? (i := 544) (by decide +kernel)⟩
theorem fk_X6_141 : mw_F RX6 141 3 0 (.object "Schemabridge$Schema") true := ⟨RX3, TX3, 2, tyX3, rfl, cf_3, by decide, rfl, rfl, rfl, List.mem_of_getElem? (i := 542) (by decide +kernel)⟩
theorem fk_X6_218 : mw_F RX6 218 5 0 (.int) true := ⟨RX5, TX5, 5, tyX5, rfl, cf_5, by decide, rfl, rfl, rfl, List.mem_of_getElem? (i := 372) (by decide +kernel)⟩
theorem fk_X7_7 : mw_F RX7 7 7 2 (.array .int) true := ⟨RX7, TX7, 23, tyX7, rfl, cf_7, by decide, rfl, rfl, rfl, List.mem_of_getElem? (i := 957) (by decide +kernel)⟩
theorem fk_X7_13 : mw_F RX7 13 7 3 (.array .int) true := ⟨RX7, TX7, 23, tyX7, rfl, cf_7, by decide, rfl, rfl, rfl, List.mem_of_getElem? (i := 958) (by decide +kernel)⟩
theorem fk_X7_16 : mw_F RX7 16 7 4 (.array .int) true := ⟨RX7, TX7, 23, tyX7, rfl, cf_7, by decide, rfl, rfl, rfl, List.mem_of_getElem? (i := 959) (by decide +kernel)⟩
theorem fk_X7_19 : mw_F RX7 19 7 5 (.array .boolean) true := ⟨RX7, TX7, 23, tyX7, rfl, cf_7, by decide, rfl, rfl, rfl, List.mem_of_getElem? (i := 960) (by decide +kernel)⟩
theorem fk_X7_23 : mw_F RX7 23 7 6 (.array .int) true := ⟨RX7, TX7, 23, tyX7, rfl, cf_7, by decide, rfl, rfl, rfl, List.mem_of_getElem? (i := 961) (by decide +kernel)⟩
theorem fk_X7_26 : mw_F RX7 26 7 7 (.array .int) true := ⟨RX7, TX7, 23, tyX7, rfl, cf_7, by decide, rfl, rfl, rfl, List.mem_of_getElem? (i := 962) (by decide +kernel)⟩
theorem fk_X7_29 : mw_F RX7 29 7 8 (.array .int) true := ⟨RX7, TX7, 23, tyX7, rfl, cf_7, by decide, rfl, rfl, rfl, List.mem_of_getElem? (i := 963) (by decide +kernel)⟩
theorem fk_X7_32 : mw_F RX7 32 7 10 (.array .int) true := ⟨RX7, TX7, 23, tyX7, rfl, cf_7, by decide, rfl, rfl, rfl, List.mem_of_getElem? (i := 965) (by decide +kernel)⟩
theorem fk_X7_35 : mw_F RX7 35 7 19 (.array .int) true := ⟨RX7, TX7, 23, tyX7, rfl, cf_7, by decide, rfl, rfl, rfl, List.mem_of_getElem? (i := 974) (by decide +kernel)⟩
theorem fk_X7_38 : mw_F RX7 38 7 21 (.array .int) true := ⟨RX7, TX7, 23, tyX7, rfl, cf_7, by decide, rfl, rfl, rfl, List.mem_of_getElem? (i := 976) (by decide +kernel)⟩
theorem fk_X7_41 : mw_F RX7 41 7 22 (.array .boolean) true := ⟨RX7, TX7, 23, tyX7, rfl, cf_7, by decide, rfl, rfl, rfl, List.mem_of_getElem? (i := 977) (by decide +kernel)⟩
theorem fk_X7_44 : mw_F RX7 44 7 0 (.int) false := ⟨RX7, TX7, 23, tyX7, rfl, cf_7, by decide, rfl, rfl, rfl, List.mem_of_getElem? (i := 955) (by decide +kernel)⟩
theorem fk_X7_48 : mw_F RX7 48 7 1 (.int) false := ⟨RX7, TX7, 23, tyX7, rfl, cf_7, by decide, rfl, rfl, rfl, List.mem_of_getElem? (i := 956) (by decide +kernel)⟩
theorem fk_X7_55 : mw_F RX7 55 7 11 (.int) false := ⟨RX7, TX7, 23, tyX7, rfl, cf_7, by decide, rfl, rfl, rfl, List.mem_of_getElem? (i := 966) (by decide +kernel)⟩
theorem fk_X7_58 : mw_F RX7 58 7 12 (.int) false := ⟨RX7, TX7, 23, tyX7, rfl, cf_7, by decide, rfl, rfl, rfl, List.mem_of_getElem? (i := 967) (by decide +kernel)⟩
theorem fk_X7_61 : mw_F RX7 61 7 17 (.int) false := ⟨RX7, TX7, 23, tyX7, rfl, cf_7, by decide, rfl, rfl, rfl, List.mem_of_getElem? (i := 972) (by decide +kernel)⟩
theorem fk_X7_68 : mw_F RX7 68 7 13 (.int) false := ⟨RX7, TX7, 23, tyX7, rfl, cf_7, by decide, rfl, rfl, rfl, List.mem_of_getElem? (i := 968) (by decide +kernel)⟩
theorem fk_X7_71 : mw_F RX7 71 7 14 (.int) false := ⟨RX7, TX7, 23, tyX7, rfl, cf_7, by decide, rfl, rfl, rfl, List.mem_of_getElem? (i := 969) (by decide +kernel)⟩
theorem fk_X7_78 : mw_F RX7 78 7 15 (.int) false := ⟨RX7, TX7, 23, tyX7, rfl, cf_7, by decide, rfl, rfl, rfl, List.mem_of_getElem? (i := 970) (by decide +kernel)⟩
theorem fk_X7_81 : mw_F RX7 81 7 16 (.int) false := ⟨RX7, TX7, 23, tyX7, rfl, cf_7, by decide, rfl, rfl, rfl, List.mem_of_getElem? (i := 971) (by decide +kernel)⟩
theorem fk_X7_84 : mw_F RX7 84 7 18 (.int) false := ⟨RX7, TX7, 23, tyX7, rfl, cf_7, by decide, rfl, rfl, rfl, List.mem_of_getElem? (i := 973) (by decide +kernel)⟩
theorem fk_X7_126 : mw_F RX7 126 7 20 (.int) false := ⟨RX7, TX7, 23, tyX7, rfl, cf_7, by decide, rfl, rfl, rfl, List.mem_of_getElem? (i := 975) (by decide +kernel)⟩
theorem fk_X7_204 : mw_F RX7 204 7 9 (.int) false := ⟨RX7, TX7, 23, tyX7, rfl, cf_7, by decide, rfl, rfl, rfl, List.mem_of_getElem? (i := 964) (by decide +kernel)⟩
abbrev mm_X0_init : mw_M := (yX0_init, cX0_init, 1, none, [])
theorem mo_X0_init : mw_mO mm_X0_init 0 := ⟨List.mem_of_getElem? (i := 93) (by decide +kernel), List.mem_of_getElem? (i := 62) (by decide +kernel), ⟨by decide +kernel, by decide +kernel⟩, by decide +kernel, by decide⟩
abbrev mm_X0_count : mw_M := (yX0_count, cX0_count, 1, some (.int), [])
theorem mo_X0_count : mw_mO mm_X0_count 0 := ⟨List.mem_of_getElem? (i := 226) (by decide +kernel), List.mem_of_getElem? (i := 62) (by decide +kernel), ⟨by decide +kernel, by decide +kernel⟩, by decide +kernel, by decide⟩
abbrev mm_X0_at : mw_M := (yX0_at, cX0_at, 2, some (.byte), [])
theorem mo_X0_at : mw_mO mm_X0_at 1 := ⟨List.mem_of_getElem? (i := 254) (by decide +kernel), List.mem_of_getElem? (i := 62) (by decide +kernel), ⟨by decide +kernel, by decide +kernel⟩, by decide +kernel, by decide⟩
abbrev mm_X0_keepFirst : mw_M := (yX0_keepFirst, cX0_keepFirst, 2, none, [])
theorem mo_X0_keepFirst : mw_mO mm_X0_keepFirst 1 := ⟨List.mem_of_getElem? (i := 574) (by decide +kernel), List.mem_of_getElem? (i := 62) (by decide +kernel), ⟨by decide +kernel, by decide +kernel⟩, by decide +kernel, by decide⟩
abbrev mm_X0_add : mw_M := (yX0_add, cX0_add, 2, none, [])
theorem mo_X0_add : mw_mO mm_X0_add 1 := ⟨List.mem_of_getElem? (i := 584) (by decide +kernel), List.mem_of_getElem? (i := 62) (by decide +kernel), ⟨by decide +kernel, by decide +kernel⟩, by decide +kernel, by decide⟩
abbrev mm_X0_addRange : mw_M := (yX0_addRange, cX0_addRange, 5, none, [])
theorem mo_X0_addRange : mw_mO mm_X0_addRange 3 := ⟨List.mem_of_getElem? (i := 579) (by decide +kernel), List.mem_of_getElem? (i := 62) (by decide +kernel), ⟨by decide +kernel, by decide +kernel⟩, by decide +kernel, by decide⟩
abbrev mm_X0_replaceBy : mw_M := (yX0_replaceBy, cX0_replaceBy, 2, none, [])
theorem mo_X0_replaceBy : mw_mO mm_X0_replaceBy 1 := ⟨List.mem_of_getElem? (i := 570) (by decide +kernel), List.mem_of_getElem? (i := 62) (by decide +kernel), ⟨by decide +kernel, by decide +kernel⟩, by decide +kernel, by decide⟩
abbrev mm_X0_addNumberField : mw_M := (yX0_addNumberField, cX0_addNumberField, 4, none, [])
theorem mo_X0_addNumberField : mw_mO mm_X0_addNumberField 3 := ⟨List.mem_of_getElem? (i := 677) (by decide +kernel), List.mem_of_getElem? (i := 62) (by decide +kernel), ⟨by decide +kernel, by decide +kernel⟩, by decide +kernel, by decide⟩
abbrev mm_X0_addBytesHead : mw_M := (yX0_addBytesHead, cX0_addBytesHead, 3, none, [])
theorem mo_X0_addBytesHead : mw_mO mm_X0_addBytesHead 2 := ⟨List.mem_of_getElem? (i := 656) (by decide +kernel), List.mem_of_getElem? (i := 62) (by decide +kernel), ⟨by decide +kernel, by decide +kernel⟩, by decide +kernel, by decide⟩
abbrev mm_X0_isSameAs : mw_M := (yX0_isSameAs, cX0_isSameAs, 2, some (.boolean), [])
theorem mo_X0_isSameAs : mw_mO mm_X0_isSameAs 1 := ⟨List.mem_of_getElem? (i := 902) (by decide +kernel), List.mem_of_getElem? (i := 62) (by decide +kernel), ⟨by decide +kernel, by decide +kernel⟩, by decide +kernel, by decide⟩
abbrev mm_X0_hasSameRange : mw_M := (yX0_hasSameRange, cX0_hasSameRange, 6, some (.boolean), [])
theorem mo_X0_hasSameRange : mw_mO mm_X0_hasSameRange 4 := ⟨List.mem_of_getElem? (i := 891) (by decide +kernel), List.mem_of_getElem? (i := 62) (by decide +kernel), ⟨by decide +kernel, by decide +kernel⟩, by decide +kernel, by decide⟩
abbrev mm_X0_addKey : mw_M := (yX0_addKey, cX0_addKey, 3, none, [])
theorem mo_X0_addKey : mw_mO mm_X0_addKey 2 := ⟨List.mem_of_getElem? (i := 660) (by decide +kernel), List.mem_of_getElem? (i := 62) (by decide +kernel), ⟨by decide +kernel, by decide +kernel⟩, by decide +kernel, by decide⟩
abbrev mm_X0_addGroups : mw_M := (yX0_addGroups, cX0_addGroups, 4, none, [])
theorem mo_X0_addGroups : mw_mO mm_X0_addGroups 1 := ⟨List.mem_of_getElem? (i := 664) (by decide +kernel), List.mem_of_getElem? (i := 62) (by decide +kernel), ⟨by decide +kernel, by decide +kernel⟩, by decide +kernel, by decide⟩
abbrev mm_X0_addFour : mw_M := (yX0_addFour, cX0_addFour, 3, none, [])
theorem mo_X0_addFour : mw_mO mm_X0_addFour 1 := ⟨List.mem_of_getElem? (i := 681) (by decide +kernel), List.mem_of_getElem? (i := 62) (by decide +kernel), ⟨by decide +kernel, by decide +kernel⟩, by decide +kernel, by decide⟩
abbrev mm_X1_init : mw_M := (yX1_init, cX1_init, 1, none, [])
theorem mo_X1_init : mw_mO mm_X1_init 0 := ⟨List.mem_of_getElem? (i := 168) (by decide +kernel), List.mem_of_getElem? (i := 65) (by decide +kernel), ⟨by decide +kernel, by decide +kernel⟩, by decide +kernel, by decide⟩
abbrev mm_X1_choose : mw_M := (yX1_choose, cX1_choose, 4, none, [])
theorem mo_X1_choose : mw_mO mm_X1_choose 2 := ⟨List.mem_of_getElem? (i := 736) (by decide +kernel), List.mem_of_getElem? (i := 65) (by decide +kernel), ⟨by decide +kernel, by decide +kernel⟩, by decide +kernel, by decide⟩
abbrev mm_X1_writeTo : mw_M := (yX1_writeTo, cX1_writeTo, 3, none, [])
theorem mo_X1_writeTo : mw_mO mm_X1_writeTo 1 := ⟨List.mem_of_getElem? (i := 770) (by decide +kernel), List.mem_of_getElem? (i := 65) (by decide +kernel), ⟨by decide +kernel, by decide +kernel⟩, by decide +kernel, by decide⟩
abbrev mm_X1_hasSameFields : mw_M := (yX1_hasSameFields, cX1_hasSameFields, 3, some (.boolean), [])
theorem mo_X1_hasSameFields : mw_mO mm_X1_hasSameFields 1 := ⟨List.mem_of_getElem? (i := 883) (by decide +kernel), List.mem_of_getElem? (i := 65) (by decide +kernel), ⟨by decide +kernel, by decide +kernel⟩, by decide +kernel, by decide⟩
abbrev mm_X1_placeAt : mw_M := (yX1_placeAt, cX1_placeAt, 2, some (.int), [])
theorem mo_X1_placeAt : mw_mO mm_X1_placeAt 1 := ⟨List.mem_of_getElem? (i := 775) (by decide +kernel), List.mem_of_getElem? (i := 65) (by decide +kernel), ⟨by decide +kernel, by decide +kernel⟩, by decide +kernel, by decide⟩
abbrev mm_X1_noteLasts : mw_M := (yX1_noteLasts, cX1_noteLasts, 4, none, [])
theorem mo_X1_noteLasts : mw_mO mm_X1_noteLasts 1 := ⟨List.mem_of_getElem? (i := 742) (by decide +kernel), List.mem_of_getElem? (i := 65) (by decide +kernel), ⟨by decide +kernel, by decide +kernel⟩, by decide +kernel, by decide⟩
abbrev mm_X1_isToldBy : mw_M := (yX1_isToldBy, cX1_isToldBy, 4, some (.boolean), [])
theorem mo_X1_isToldBy : mw_mO mm_X1_isToldBy 2 := ⟨List.mem_of_getElem? (i := 751) (by decide +kernel), List.mem_of_getElem? (i := 65) (by decide +kernel), ⟨by decide +kernel, by decide +kernel⟩, by decide +kernel, by decide⟩
abbrev mm_X1_insert : mw_M := (yX1_insert, cX1_insert, 3, none, [])
theorem mo_X1_insert : mw_mO mm_X1_insert 1 := ⟨List.mem_of_getElem? (i := 766) (by decide +kernel), List.mem_of_getElem? (i := 65) (by decide +kernel), ⟨by decide +kernel, by decide +kernel⟩, by decide +kernel, by decide⟩
abbrev mm_X2_init : mw_M := (yX2_init, cX2_init, 1, none, [])
theorem mo_X2_init : mw_mO mm_X2_init 0 := ⟨List.mem_of_getElem? (i := 128) (by decide +kernel), List.mem_of_getElem? (i := 64) (by decide +kernel), ⟨by decide +kernel, by decide +kernel⟩, by decide +kernel, by decide⟩
abbrev mm_X2_scan : mw_M := (yX2_scan, cX2_scan, 6, none, [])
theorem mo_X2_scan : mw_mO mm_X2_scan 3 := ⟨List.mem_of_getElem? (i := 242) (by decide +kernel), List.mem_of_getElem? (i := 64) (by decide +kernel), ⟨by decide +kernel, by decide +kernel⟩, by decide +kernel, by decide⟩
abbrev mm_X2_count : mw_M := (yX2_count, cX2_count, 1, some (.int), [])
theorem mo_X2_count : mw_mO mm_X2_count 0 := ⟨List.mem_of_getElem? (i := 599) (by decide +kernel), List.mem_of_getElem? (i := 64) (by decide +kernel), ⟨by decide +kernel, by decide +kernel⟩, by decide +kernel, by decide⟩
abbrev mm_X2_problem : mw_M := (yX2_problem, cX2_problem, 1, some (.int), [])
theorem mo_X2_problem : mw_mO mm_X2_problem 0 := ⟨List.mem_of_getElem? (i := 276) (by decide +kernel), List.mem_of_getElem? (i := 64) (by decide +kernel), ⟨by decide +kernel, by decide +kernel⟩, by decide +kernel, by decide⟩
abbrev mm_X2_problemAt : mw_M := (yX2_problemAt, cX2_problemAt, 1, some (.int), [])
theorem mo_X2_problemAt : mw_mO mm_X2_problemAt 0 := ⟨List.mem_of_getElem? (i := 284) (by decide +kernel), List.mem_of_getElem? (i := 64) (by decide +kernel), ⟨by decide +kernel, by decide +kernel⟩, by decide +kernel, by decide⟩
abbrev mm_X2_tagAt : mw_M := (yX2_tagAt, cX2_tagAt, 2, some (.int), [])
theorem mo_X2_tagAt : mw_mO mm_X2_tagAt 1 := ⟨List.mem_of_getElem? (i := 623) (by decide +kernel), List.mem_of_getElem? (i := 64) (by decide +kernel), ⟨by decide +kernel, by decide +kernel⟩, by decide +kernel, by decide⟩
abbrev mm_X2_typeAt : mw_M := (yX2_typeAt, cX2_typeAt, 2, some (.int), [])
theorem mo_X2_typeAt : mw_mO mm_X2_typeAt 1 := ⟨List.mem_of_getElem? (i := 643) (by decide +kernel), List.mem_of_getElem? (i := 64) (by decide +kernel), ⟨by decide +kernel, by decide +kernel⟩, by decide +kernel, by decide⟩
abbrev mm_X2_numberAt : mw_M := (yX2_numberAt, cX2_numberAt, 2, some (.int), [])
theorem mo_X2_numberAt : mw_mO mm_X2_numberAt 1 := ⟨List.mem_of_getElem? (i := 652) (by decide +kernel), List.mem_of_getElem? (i := 64) (by decide +kernel), ⟨by decide +kernel, by decide +kernel⟩, by decide +kernel, by decide⟩
abbrev mm_X2_endAt : mw_M := (yX2_endAt, cX2_endAt, 2, some (.int), [])
theorem mo_X2_endAt : mw_mO mm_X2_endAt 1 := ⟨List.mem_of_getElem? (i := 672) (by decide +kernel), List.mem_of_getElem? (i := 64) (by decide +kernel), ⟨by decide +kernel, by decide +kernel⟩, by decide +kernel, by decide⟩
abbrev mm_X2_bytesAt : mw_M := (yX2_bytesAt, cX2_bytesAt, 2, some (.int), [])
theorem mo_X2_bytesAt : mw_mO mm_X2_bytesAt 1 := ⟨List.mem_of_getElem? (i := 648) (by decide +kernel), List.mem_of_getElem? (i := 64) (by decide +kernel), ⟨by decide +kernel, by decide +kernel⟩, by decide +kernel, by decide⟩
abbrev mm_X2_bytesBeginAt : mw_M := (yX2_bytesBeginAt, cX2_bytesBeginAt, 2, some (.int), [])
theorem mo_X2_bytesBeginAt : mw_mO mm_X2_bytesBeginAt 1 := ⟨List.mem_of_getElem? (i := 668) (by decide +kernel), List.mem_of_getElem? (i := 64) (by decide +kernel), ⟨by decide +kernel, by decide +kernel⟩, by decide +kernel, by decide⟩
abbrev mm_X2_isKnown : mw_M := (yX2_isKnown, cX2_isKnown, 3, some (.boolean), [])
theorem mo_X2_isKnown : mw_mO mm_X2_isKnown 2 := ⟨List.mem_of_getElem? (i := 631) (by decide +kernel), List.mem_of_getElem? (i := 64) (by decide +kernel), ⟨by decide +kernel, by decide +kernel⟩, by decide +kernel, by decide⟩
abbrev mm_X2_lastKnown : mw_M := (yX2_lastKnown, cX2_lastKnown, 4, some (.int), [])
theorem mo_X2_lastKnown : mw_mO mm_X2_lastKnown 2 := ⟨List.mem_of_getElem? (i := 712) (by decide +kernel), List.mem_of_getElem? (i := 64) (by decide +kernel), ⟨by decide +kernel, by decide +kernel⟩, by decide +kernel, by decide⟩
abbrev mm_X2_writeTo : mw_M := (yX2_writeTo, cX2_writeTo, 3, none, [])
theorem mo_X2_writeTo : mw_mO mm_X2_writeTo 2 := ⟨List.mem_of_getElem? (i := 639) (by decide +kernel), List.mem_of_getElem? (i := 64) (by decide +kernel), ⟨by decide +kernel, by decide +kernel⟩, by decide +kernel, by decide⟩
abbrev mm_X2_isSameAt : mw_M := (yX2_isSameAt, cX2_isSameAt, 4, some (.boolean), [])
theorem mo_X2_isSameAt : mw_mO mm_X2_isSameAt 3 := ⟨List.mem_of_getElem? (i := 887) (by decide +kernel), List.mem_of_getElem? (i := 64) (by decide +kernel), ⟨by decide +kernel, by decide +kernel⟩, by decide +kernel, by decide⟩
abbrev mm_X2_isPlace : mw_M := (yX2_isPlace, cX2_isPlace, 2, some (.boolean), [])
theorem mo_X2_isPlace : mw_mO mm_X2_isPlace 1 := ⟨List.mem_of_getElem? (i := 627) (by decide +kernel), List.mem_of_getElem? (i := 64) (by decide +kernel), ⟨by decide +kernel, by decide +kernel⟩, by decide +kernel, by decide⟩
abbrev mm_X2_scanField : mw_M := (yX2_scanField, cX2_scanField, 5, none, [])
theorem mo_X2_scanField : mw_mO mm_X2_scanField 0 := ⟨List.mem_of_getElem? (i := 246) (by decide +kernel), List.mem_of_getElem? (i := 64) (by decide +kernel), ⟨by decide +kernel, by decide +kernel⟩, by decide +kernel, by decide⟩
abbrev mm_X2_keyProblem : mw_M := (yX2_keyProblem, cX2_keyProblem, 2, some (.int), [])
theorem mo_X2_keyProblem : mw_mO mm_X2_keyProblem 2 := ⟨List.mem_of_getElem? (i := 257) (by decide +kernel), List.mem_of_getElem? (i := 64) (by decide +kernel), ⟨by decide +kernel, by decide +kernel⟩, by decide +kernel, by decide⟩
abbrev mm_X2_scanGroups : mw_M := (yX2_scanGroups, cX2_scanGroups, 4, some (.int), [])
theorem mo_X2_scanGroups : mw_mO mm_X2_scanGroups 0 := ⟨List.mem_of_getElem? (i := 250) (by decide +kernel), List.mem_of_getElem? (i := 64) (by decide +kernel), ⟨by decide +kernel, by decide +kernel⟩, by decide +kernel, by decide⟩
abbrev mm_X2_scanFour : mw_M := (yX2_scanFour, cX2_scanFour, 3, some (.int), [])
theorem mo_X2_scanFour : mw_mO mm_X2_scanFour 0 := ⟨List.mem_of_getElem? (i := 264) (by decide +kernel), List.mem_of_getElem? (i := 64) (by decide +kernel), ⟨by decide +kernel, by decide +kernel⟩, by decide +kernel, by decide⟩
abbrev mm_X2_skipBytes : mw_M := (yX2_skipBytes, cX2_skipBytes, 2, none, [])
theorem mo_X2_skipBytes : mw_mO mm_X2_skipBytes 1 := ⟨List.mem_of_getElem? (i := 268) (by decide +kernel), List.mem_of_getElem? (i := 64) (by decide +kernel), ⟨by decide +kernel, by decide +kernel⟩, by decide +kernel, by decide⟩
abbrev mm_X2_keepField : mw_M := (yX2_keepField, cX2_keepField, 4, none, [])
theorem mo_X2_keepField : mw_mO mm_X2_keepField 3 := ⟨List.mem_of_getElem? (i := 272) (by decide +kernel), List.mem_of_getElem? (i := 64) (by decide +kernel), ⟨by decide +kernel, by decide +kernel⟩, by decide +kernel, by decide⟩
abbrev mm_X3_init : mw_M := (yX3_init, cX3_init, 2, none, [])
theorem mo_X3_init : mw_mO mm_X3_init 1 := ⟨List.mem_of_getElem? (i := 537) (by decide +kernel), List.mem_of_getElem? (i := 75) (by decide +kernel), ⟨by decide +kernel, by decide +kernel⟩, by decide +kernel, by decide⟩
abbrev mm_X4_init : mw_M := (yX4_init, cX4_init, 1, none, [])
theorem mo_X4_init : mw_mO mm_X4_init 0 := ⟨List.mem_of_getElem? (i := 107) (by decide +kernel), List.mem_of_getElem? (i := 63) (by decide +kernel), ⟨by decide +kernel, by decide +kernel⟩, by decide +kernel, by decide⟩
abbrev mm_X4_leastReason : mw_M := (yX4_leastReason, cX4_leastReason, 4, some (.int), [])
theorem mo_X4_leastReason : mw_mO mm_X4_leastReason 2 := ⟨List.mem_of_getElem? (i := 498) (by decide +kernel), List.mem_of_getElem? (i := 63) (by decide +kernel), ⟨by decide +kernel, by decide +kernel⟩, by decide +kernel, by decide⟩
abbrev mm_X4_leadsToDifference : mw_M := (yX4_leadsToDifference, cX4_leadsToDifference, 7, some (.boolean), [])
theorem mo_X4_leadsToDifference : mw_mO mm_X4_leadsToDifference 3 := ⟨List.mem_of_getElem? (i := 514) (by decide +kernel), List.mem_of_getElem? (i := 63) (by decide +kernel), ⟨by decide +kernel, by decide +kernel⟩, by decide +kernel, by decide⟩
abbrev mm_X4_differsSomewhere : mw_M := (yX4_differsSomewhere, cX4_differsSomewhere, 4, some (.boolean), [])
theorem mo_X4_differsSomewhere : mw_mO mm_X4_differsSomewhere 2 := ⟨List.mem_of_getElem? (i := 526) (by decide +kernel), List.mem_of_getElem? (i := 63) (by decide +kernel), ⟨by decide +kernel, by decide +kernel⟩, by decide +kernel, by decide⟩
abbrev mm_X4_notePartsAt : mw_M := (yX4_notePartsAt, cX4_notePartsAt, 6, none, [])
theorem mo_X4_notePartsAt : mw_mO mm_X4_notePartsAt 3 := ⟨List.mem_of_getElem? (i := 518) (by decide +kernel), List.mem_of_getElem? (i := 63) (by decide +kernel), ⟨by decide +kernel, by decide +kernel⟩, by decide +kernel, by decide⟩
abbrev mm_X4_notePair : mw_M := (yX4_notePair, cX4_notePair, 4, none, [])
theorem mo_X4_notePair : mw_mO mm_X4_notePair 2 := ⟨List.mem_of_getElem? (i := 506) (by decide +kernel), List.mem_of_getElem? (i := 63) (by decide +kernel), ⟨by decide +kernel, by decide +kernel⟩, by decide +kernel, by decide⟩
abbrev mm_X4_forgetPairs : mw_M := (yX4_forgetPairs, cX4_forgetPairs, 2, none, [])
theorem mo_X4_forgetPairs : mw_mO mm_X4_forgetPairs 0 := ⟨List.mem_of_getElem? (i := 502) (by decide +kernel), List.mem_of_getElem? (i := 63) (by decide +kernel), ⟨by decide +kernel, by decide +kernel⟩, by decide +kernel, by decide⟩
abbrev mm_X5_init : mw_M := (yX5_init, cX5_init, 2, none, [])
theorem mo_X5_init : mw_mO mm_X5_init 1 := ⟨List.mem_of_getElem? (i := 364) (by decide +kernel), List.mem_of_getElem? (i := 71) (by decide +kernel), ⟨by decide +kernel, by decide +kernel⟩, by decide +kernel, by decide⟩
abbrev mm_X5_kindAt : mw_M := (yX5_kindAt, cX5_kindAt, 2, some (.int), [])
theorem mo_X5_kindAt : mw_mO mm_X5_kindAt 1 := ⟨List.mem_of_getElem? (i := 441) (by decide +kernel), List.mem_of_getElem? (i := 71) (by decide +kernel), ⟨by decide +kernel, by decide +kernel⟩, by decide +kernel, by decide⟩
abbrev mm_X5_defaultAt : mw_M := (yX5_defaultAt, cX5_defaultAt, 2, some (.int), [])
theorem mo_X5_defaultAt : mw_mO mm_X5_defaultAt 1 := ⟨List.mem_of_getElem? (i := 476) (by decide +kernel), List.mem_of_getElem? (i := 71) (by decide +kernel), ⟨by decide +kernel, by decide +kernel⟩, by decide +kernel, by decide⟩
abbrev mm_X5_partOf : mw_M := (yX5_partOf, cX5_partOf, 2, some (.object "Schemabridge$Schema"), [])
theorem mo_X5_partOf : mw_mO mm_X5_partOf 1 := ⟨List.mem_of_getElem? (i := 522) (by decide +kernel), List.mem_of_getElem? (i := 71) (by decide +kernel), ⟨by decide +kernel, by decide +kernel⟩, by decide +kernel, by decide⟩
abbrev mm_X5_giveKind : mw_M := (yX5_giveKind, cX5_giveKind, 4, none, [])
theorem mo_X5_giveKind : mw_mO mm_X5_giveKind 3 := ⟨List.mem_of_getElem? (i := 446) (by decide +kernel), List.mem_of_getElem? (i := 71) (by decide +kernel), ⟨by decide +kernel, by decide +kernel⟩, by decide +kernel, by decide⟩
abbrev mm_X5_giveDefault : mw_M := (yX5_giveDefault, cX5_giveDefault, 3, none, [])
theorem mo_X5_giveDefault : mw_mO mm_X5_giveDefault 2 := ⟨List.mem_of_getElem? (i := 480) (by decide +kernel), List.mem_of_getElem? (i := 71) (by decide +kernel), ⟨by decide +kernel, by decide +kernel⟩, by decide +kernel, by decide⟩
abbrev mm_X5_hasInt : mw_M := (yX5_hasInt, cX5_hasInt, 2, some (.boolean), [])
theorem mo_X5_hasInt : mw_mO mm_X5_hasInt 1 := ⟨List.mem_of_getElem? (i := 467) (by decide +kernel), List.mem_of_getElem? (i := 71) (by decide +kernel), ⟨by decide +kernel, by decide +kernel⟩, by decide +kernel, by decide⟩
abbrev mm_X5_hasBytes : mw_M := (yX5_hasBytes, cX5_hasBytes, 2, some (.boolean), [])
theorem mo_X5_hasBytes : mw_mO mm_X5_hasBytes 1 := ⟨List.mem_of_getElem? (i := 706) (by decide +kernel), List.mem_of_getElem? (i := 71) (by decide +kernel), ⟨by decide +kernel, by decide +kernel⟩, by decide +kernel, by decide⟩
abbrev mm_X5_typeAt : mw_M := (yX5_typeAt, cX5_typeAt, 2, some (.int), [])
theorem mo_X5_typeAt : mw_mO mm_X5_typeAt 1 := ⟨List.mem_of_getElem? (i := 635) (by decide +kernel), List.mem_of_getElem? (i := 71) (by decide +kernel), ⟨by decide +kernel, by decide +kernel⟩, by decide +kernel, by decide⟩
abbrev mm_X5_numberOf : mw_M := (yX5_numberOf, cX5_numberOf, 3, some (.int), [])
theorem mo_X5_numberOf : mw_mO mm_X5_numberOf 2 := ⟨List.mem_of_getElem? (i := 686) (by decide +kernel), List.mem_of_getElem? (i := 71) (by decide +kernel), ⟨by decide +kernel, by decide +kernel⟩, by decide +kernel, by decide⟩
abbrev mm_X5_valueOf : mw_M := (yX5_valueOf, cX5_valueOf, 3, some (.int), [])
theorem mo_X5_valueOf : mw_mO mm_X5_valueOf 2 := ⟨List.mem_of_getElem? (i := 761) (by decide +kernel), List.mem_of_getElem? (i := 71) (by decide +kernel), ⟨by decide +kernel, by decide +kernel⟩, by decide +kernel, by decide⟩
abbrev mm_X5_isDefault : mw_M := (yX5_isDefault, cX5_isDefault, 3, some (.boolean), [])
theorem mo_X5_isDefault : mw_mO mm_X5_isDefault 2 := ⟨List.mem_of_getElem? (i := 756) (by decide +kernel), List.mem_of_getElem? (i := 71) (by decide +kernel), ⟨by decide +kernel, by decide +kernel⟩, by decide +kernel, by decide⟩
abbrev mm_X5_differsAt : mw_M := (yX5_differsAt, cX5_differsAt, 6, some (.boolean), [])
theorem mo_X5_differsAt : mw_mO mm_X5_differsAt 2 := ⟨List.mem_of_getElem? (i := 510) (by decide +kernel), List.mem_of_getElem? (i := 71) (by decide +kernel), ⟨by decide +kernel, by decide +kernel⟩, by decide +kernel, by decide⟩
abbrev mm_X5_typeOfKind : mw_M := (yX5_typeOfKind, cX5_typeOfKind, 1, some (.int), [])
theorem mo_X5_typeOfKind : mw_mO mm_X5_typeOfKind 1 := ⟨List.mem_of_getElem? (i := 449) (by decide +kernel), List.mem_of_getElem? (i := 71) (by decide +kernel), ⟨by decide +kernel, by decide +kernel⟩, by decide +kernel, by decide⟩
abbrev mm_X5_isIntKind : mw_M := (yX5_isIntKind, cX5_isIntKind, 1, some (.boolean), [])
theorem mo_X5_isIntKind : mw_mO mm_X5_isIntKind 1 := ⟨List.mem_of_getElem? (i := 471) (by decide +kernel), List.mem_of_getElem? (i := 71) (by decide +kernel), ⟨by decide +kernel, by decide +kernel⟩, by decide +kernel, by decide⟩
abbrev mm_X6_init : mw_M := (yX6_init, cX6_init, 1, none, [])
theorem mo_X6_init : mw_mO mm_X6_init 0 := ⟨List.mem_of_getElem? (i := 81) (by decide +kernel), List.mem_of_getElem? (i := 61) (by decide +kernel), ⟨by decide +kernel, by decide +kernel⟩, by decide +kernel, by decide⟩
abbrev mm_X6_addSchema : mw_M := (yX6_addSchema, cX6_addSchema, 2, some (.int), [])
theorem mo_X6_addSchema : mw_mO mm_X6_addSchema 0 := ⟨List.mem_of_getElem? (i := 292) (by decide +kernel), List.mem_of_getElem? (i := 61) (by decide +kernel), ⟨by decide +kernel, by decide +kernel⟩, by decide +kernel, by decide⟩
abbrev mm_X6_setKind : mw_M := (yX6_setKind, cX6_setKind, 8, some (.int), [])
theorem mo_X6_setKind : mw_mO mm_X6_setKind 4 := ⟨List.mem_of_getElem? (i := 396) (by decide +kernel), List.mem_of_getElem? (i := 61) (by decide +kernel), ⟨by decide +kernel, by decide +kernel⟩, by decide +kernel, by decide⟩
abbrev mm_X6_dropKind : mw_M := (yX6_dropKind, cX6_dropKind, 5, some (.int), [])
theorem mo_X6_dropKind : mw_mO mm_X6_dropKind 2 := ⟨List.mem_of_getElem? (i := 456) (by decide +kernel), List.mem_of_getElem? (i := 61) (by decide +kernel), ⟨by decide +kernel, by decide +kernel⟩, by decide +kernel, by decide⟩
abbrev mm_X6_setDefault : mw_M := (yX6_setDefault, cX6_setDefault, 6, some (.int), [])
theorem mo_X6_setDefault : mw_mO mm_X6_setDefault 3 := ⟨List.mem_of_getElem? (i := 463) (by decide +kernel), List.mem_of_getElem? (i := 61) (by decide +kernel), ⟨by decide +kernel, by decide +kernel⟩, by decide +kernel, by decide⟩
abbrev mm_X6_kindOf : mw_M := (yX6_kindOf, cX6_kindOf, 4, some (.int), [])
theorem mo_X6_kindOf : mw_mO mm_X6_kindOf 2 := ⟨List.mem_of_getElem? (i := 487) (by decide +kernel), List.mem_of_getElem? (i := 61) (by decide +kernel), ⟨by decide +kernel, by decide +kernel⟩, by decide +kernel, by decide⟩
abbrev mm_X6_conflict : mw_M := (yX6_conflict, cX6_conflict, 3, some (.int), [])
theorem mo_X6_conflict : mw_mO mm_X6_conflict 2 := ⟨List.mem_of_getElem? (i := 494) (by decide +kernel), List.mem_of_getElem? (i := 61) (by decide +kernel), ⟨by decide +kernel, by decide +kernel⟩, by decide +kernel, by decide⟩
abbrev mm_X6_create : mw_M := (yX6_create, cX6_create, 2, some (.int), [])
theorem mo_X6_create : mw_mO mm_X6_create 1 := ⟨List.mem_of_getElem? (i := 533) (by decide +kernel), List.mem_of_getElem? (i := 61) (by decide +kernel), ⟨by decide +kernel, by decide +kernel⟩, by decide +kernel, by decide⟩
abbrev mm_X6_copy : mw_M := (yX6_copy, cX6_copy, 5, some (.int), [])
theorem mo_X6_copy : mw_mO mm_X6_copy 2 := ⟨List.mem_of_getElem? (i := 561) (by decide +kernel), List.mem_of_getElem? (i := 61) (by decide +kernel), ⟨by decide +kernel, by decide +kernel⟩, by decide +kernel, by decide⟩
abbrev mm_X6_discard : mw_M := (yX6_discard, cX6_discard, 3, some (.int), [])
theorem mo_X6_discard : mw_mO mm_X6_discard 1 := ⟨List.mem_of_getElem? (i := 591) (by decide +kernel), List.mem_of_getElem? (i := 61) (by decide +kernel), ⟨by decide +kernel, by decide +kernel⟩, by decide +kernel, by decide⟩
abbrev mm_X6_set : mw_M := (yX6_set, cX6_set, 5, none, [])
theorem mo_X6_set : mw_mO mm_X6_set 3 := ⟨List.mem_of_getElem? (i := 610) (by decide +kernel), List.mem_of_getElem? (i := 61) (by decide +kernel), ⟨by decide +kernel, by decide +kernel⟩, by decide +kernel, by decide⟩
abbrev mm_X6_append : mw_M := (yX6_append, cX6_append, 8, some (.int), [])
theorem mo_X6_append : mw_mO mm_X6_append 3 := ⟨List.mem_of_getElem? (i := 699) (by decide +kernel), List.mem_of_getElem? (i := 61) (by decide +kernel), ⟨by decide +kernel, by decide +kernel⟩, by decide +kernel, by decide⟩
abbrev mm_X6_setPart : mw_M := (yX6_setPart, cX6_setPart, 6, some (.int), [])
theorem mo_X6_setPart : mw_mO mm_X6_setPart 3 := ⟨List.mem_of_getElem? (i := 726) (by decide +kernel), List.mem_of_getElem? (i := 61) (by decide +kernel), ⟨by decide +kernel, by decide +kernel⟩, by decide +kernel, by decide⟩
abbrev mm_X6_clear : mw_M := (yX6_clear, cX6_clear, 7, some (.int), [])
theorem mo_X6_clear : mw_mO mm_X6_clear 2 := ⟨List.mem_of_getElem? (i := 783) (by decide +kernel), List.mem_of_getElem? (i := 61) (by decide +kernel), ⟨by decide +kernel, by decide +kernel⟩, by decide +kernel, by decide⟩
abbrev mm_X6_schemaOf : mw_M := (yX6_schemaOf, cX6_schemaOf, 2, some (.int), [])
theorem mo_X6_schemaOf : mw_mO mm_X6_schemaOf 1 := ⟨List.mem_of_getElem? (i := 790) (by decide +kernel), List.mem_of_getElem? (i := 61) (by decide +kernel), ⟨by decide +kernel, by decide +kernel⟩, by decide +kernel, by decide⟩
abbrev mm_X6_has : mw_M := (yX6_has, cX6_has, 4, some (.boolean), [])
theorem mo_X6_has : mw_mO mm_X6_has 2 := ⟨List.mem_of_getElem? (i := 797) (by decide +kernel), List.mem_of_getElem? (i := 61) (by decide +kernel), ⟨by decide +kernel, by decide +kernel⟩, by decide +kernel, by decide⟩
abbrev mm_X6_get : mw_M := (yX6_get, cX6_get, 6, some (.int), [])
theorem mo_X6_get : mw_mO mm_X6_get 2 := ⟨List.mem_of_getElem? (i := 804) (by decide +kernel), List.mem_of_getElem? (i := 61) (by decide +kernel), ⟨by decide +kernel, by decide +kernel⟩, by decide +kernel, by decide⟩
abbrev mm_X6_byteOf : mw_M := (yX6_byteOf, cX6_byteOf, 7, some (.byte), [])
theorem mo_X6_byteOf : mw_mO mm_X6_byteOf 3 := ⟨List.mem_of_getElem? (i := 814) (by decide +kernel), List.mem_of_getElem? (i := 61) (by decide +kernel), ⟨by decide +kernel, by decide +kernel⟩, by decide +kernel, by decide⟩
abbrev mm_X6_open : mw_M := (yX6_open, cX6_open, 8, some (.int), [])
theorem mo_X6_open : mw_mO mm_X6_open 2 := ⟨List.mem_of_getElem? (i := 842) (by decide +kernel), List.mem_of_getElem? (i := 61) (by decide +kernel), ⟨by decide +kernel, by decide +kernel⟩, by decide +kernel, by decide⟩
abbrev mm_X6_unknowns : mw_M := (yX6_unknowns, cX6_unknowns, 6, some (.int), [])
theorem mo_X6_unknowns : mw_mO mm_X6_unknowns 1 := ⟨List.mem_of_getElem? (i := 853) (by decide +kernel), List.mem_of_getElem? (i := 61) (by decide +kernel), ⟨by decide +kernel, by decide +kernel⟩, by decide +kernel, by decide⟩
abbrev mm_X6_unknownTag : mw_M := (yX6_unknownTag, cX6_unknownTag, 7, some (.int), [])
theorem mo_X6_unknownTag : mw_mO mm_X6_unknownTag 2 := ⟨List.mem_of_getElem? (i := 860) (by decide +kernel), List.mem_of_getElem? (i := 61) (by decide +kernel), ⟨by decide +kernel, by decide +kernel⟩, by decide +kernel, by decide⟩
abbrev mm_X6_weight : mw_M := (yX6_weight, cX6_weight, 2, some (.int), [])
theorem mo_X6_weight : mw_mO mm_X6_weight 1 := ⟨List.mem_of_getElem? (i := 868) (by decide +kernel), List.mem_of_getElem? (i := 61) (by decide +kernel), ⟨by decide +kernel, by decide +kernel⟩, by decide +kernel, by decide⟩
abbrev mm_X6_areSame : mw_M := (yX6_areSame, cX6_areSame, 3, some (.boolean), [])
theorem mo_X6_areSame : mw_mO mm_X6_areSame 2 := ⟨List.mem_of_getElem? (i := 875) (by decide +kernel), List.mem_of_getElem? (i := 61) (by decide +kernel), ⟨by decide +kernel, by decide +kernel⟩, by decide +kernel, by decide⟩
abbrev mm_X6_areSameByBytes : mw_M := (yX6_areSameByBytes, cX6_areSameByBytes, 3, some (.boolean), [])
theorem mo_X6_areSameByBytes : mw_mO mm_X6_areSameByBytes 2 := ⟨List.mem_of_getElem? (i := 898) (by decide +kernel), List.mem_of_getElem? (i := 61) (by decide +kernel), ⟨by decide +kernel, by decide +kernel⟩, by decide +kernel, by decide⟩
abbrev mm_X6_write : mw_M := (yX6_write, cX6_write, 3, some (.int), [])
theorem mo_X6_write : mw_mO mm_X6_write 1 := ⟨List.mem_of_getElem? (i := 910) (by decide +kernel), List.mem_of_getElem? (i := 61) (by decide +kernel), ⟨by decide +kernel, by decide +kernel⟩, by decide +kernel, by decide⟩
abbrev mm_X6_put : mw_M := (yX6_put, cX6_put, 2, some (.int), [])
theorem mo_X6_put : mw_mO mm_X6_put 1 := ⟨List.mem_of_getElem? (i := 917) (by decide +kernel), List.mem_of_getElem? (i := 61) (by decide +kernel), ⟨by decide +kernel, by decide +kernel⟩, by decide +kernel, by decide⟩
abbrev mm_X6_cut : mw_M := (yX6_cut, cX6_cut, 3, some (.int), [])
theorem mo_X6_cut : mw_mO mm_X6_cut 1 := ⟨List.mem_of_getElem? (i := 925) (by decide +kernel), List.mem_of_getElem? (i := 61) (by decide +kernel), ⟨by decide +kernel, by decide +kernel⟩, by decide +kernel, by decide⟩
abbrev mm_X6_length : mw_M := (yX6_length, cX6_length, 1, some (.int), [])
theorem mo_X6_length : mw_mO mm_X6_length 0 := ⟨List.mem_of_getElem? (i := 222) (by decide +kernel), List.mem_of_getElem? (i := 61) (by decide +kernel), ⟨by decide +kernel, by decide +kernel⟩, by decide +kernel, by decide⟩
abbrev mm_X6_byteAt : mw_M := (yX6_byteAt, cX6_byteAt, 2, some (.byte), [])
theorem mo_X6_byteAt : mw_mO mm_X6_byteAt 1 := ⟨List.mem_of_getElem? (i := 933) (by decide +kernel), List.mem_of_getElem? (i := 61) (by decide +kernel), ⟨by decide +kernel, by decide +kernel⟩, by decide +kernel, by decide⟩
abbrev mm_X6_fault : mw_M := (yX6_fault, cX6_fault, 1, some (.int), [])
theorem mo_X6_fault : mw_mO mm_X6_fault 0 := ⟨List.mem_of_getElem? (i := 230) (by decide +kernel), List.mem_of_getElem? (i := 61) (by decide +kernel), ⟨by decide +kernel, by decide +kernel⟩, by decide +kernel, by decide⟩
abbrev mm_X6_faultAt : mw_M := (yX6_faultAt, cX6_faultAt, 1, some (.int), [])
theorem mo_X6_faultAt : mw_mO mm_X6_faultAt 0 := ⟨List.mem_of_getElem? (i := 280) (by decide +kernel), List.mem_of_getElem? (i := 61) (by decide +kernel), ⟨by decide +kernel, by decide +kernel⟩, by decide +kernel, by decide⟩
abbrev mm_X6_read : mw_M := (yX6_read, cX6_read, 4, some (.int), [])
theorem mo_X6_read : mw_mO mm_X6_read 1 := ⟨List.mem_of_getElem? (i := 940) (by decide +kernel), List.mem_of_getElem? (i := 61) (by decide +kernel), ⟨by decide +kernel, by decide +kernel⟩, by decide +kernel, by decide⟩
abbrev mm_X6_isCanonical : mw_M := (yX6_isCanonical, cX6_isCanonical, 3, some (.boolean), [])
theorem mo_X6_isCanonical : mw_mO mm_X6_isCanonical 1 := ⟨List.mem_of_getElem? (i := 948) (by decide +kernel), List.mem_of_getElem? (i := 61) (by decide +kernel), ⟨by decide +kernel, by decide +kernel⟩, by decide +kernel, by decide⟩
abbrev mm_X6_schemaAt : mw_M := (yX6_schemaAt, cX6_schemaAt, 2, some (.object "Schemabridge$Schema"), [])
theorem mo_X6_schemaAt : mw_mO mm_X6_schemaAt 1 := ⟨List.mem_of_getElem? (i := 400) (by decide +kernel), List.mem_of_getElem? (i := 61) (by decide +kernel), ⟨by decide +kernel, by decide +kernel⟩, by decide +kernel, by decide⟩
abbrev mm_X6_messageAt : mw_M := (yX6_messageAt, cX6_messageAt, 2, some (.object "Schemabridge$Message"), [])
theorem mo_X6_messageAt : mw_mO mm_X6_messageAt 1 := ⟨List.mem_of_getElem? (i := 565) (by decide +kernel), List.mem_of_getElem? (i := 61) (by decide +kernel), ⟨by decide +kernel, by decide +kernel⟩, by decide +kernel, by decide⟩
abbrev mm_X6_isTag : mw_M := (yX6_isTag, cX6_isTag, 1, some (.boolean), [])
theorem mo_X6_isTag : mw_mO mm_X6_isTag 1 := ⟨List.mem_of_getElem? (i := 260) (by decide +kernel), List.mem_of_getElem? (i := 61) (by decide +kernel), ⟨by decide +kernel, by decide +kernel⟩, by decide +kernel, by decide⟩
abbrev mm_X6_checkTag : mw_M := (yX6_checkTag, cX6_checkTag, 1, none, [])
theorem mo_X6_checkTag : mw_mO mm_X6_checkTag 1 := ⟨List.mem_of_getElem? (i := 419) (by decide +kernel), List.mem_of_getElem? (i := 61) (by decide +kernel), ⟨by decide +kernel, by decide +kernel⟩, by decide +kernel, by decide⟩
abbrev mm_X6_checkHasInt : mw_M := (yX6_checkHasInt, cX6_checkHasInt, 2, none, [])
theorem mo_X6_checkHasInt : mw_mO mm_X6_checkHasInt 2 := ⟨List.mem_of_getElem? (i := 613) (by decide +kernel), List.mem_of_getElem? (i := 61) (by decide +kernel), ⟨by decide +kernel, by decide +kernel⟩, by decide +kernel, by decide⟩
abbrev mm_X6_checkHasBytes : mw_M := (yX6_checkHasBytes, cX6_checkHasBytes, 2, none, [])
theorem mo_X6_checkHasBytes : mw_mO mm_X6_checkHasBytes 2 := ⟨List.mem_of_getElem? (i := 702) (by decide +kernel), List.mem_of_getElem? (i := 61) (by decide +kernel), ⟨by decide +kernel, by decide +kernel⟩, by decide +kernel, by decide⟩
abbrev mm_X6_partAt : mw_M := (yX6_partAt, cX6_partAt, 3, some (.object "Schemabridge$Schema"), [])
theorem mo_X6_partAt : mw_mO mm_X6_partAt 2 := ⟨List.mem_of_getElem? (i := 729) (by decide +kernel), List.mem_of_getElem? (i := 61) (by decide +kernel), ⟨by decide +kernel, by decide +kernel⟩, by decide +kernel, by decide⟩
abbrev mm_X6_lastKnownOrThrow : mw_M := (yX6_lastKnownOrThrow, cX6_lastKnownOrThrow, 4, some (.int), [])
theorem mo_X6_lastKnownOrThrow : mw_mO mm_X6_lastKnownOrThrow 3 := ⟨List.mem_of_getElem? (i := 817) (by decide +kernel), List.mem_of_getElem? (i := 61) (by decide +kernel), ⟨by decide +kernel, by decide +kernel⟩, by decide +kernel, by decide⟩
abbrev mm_X6_fieldsOf : mw_M := (yX6_fieldsOf, cX6_fieldsOf, 2, some (.object "Schemabridge$Fields"), [])
theorem mo_X6_fieldsOf : mw_mO mm_X6_fieldsOf 1 := ⟨List.mem_of_getElem? (i := 595) (by decide +kernel), List.mem_of_getElem? (i := 61) (by decide +kernel), ⟨by decide +kernel, by decide +kernel⟩, by decide +kernel, by decide⟩
abbrev mm_X6_fieldsOfTape : mw_M := (yX6_fieldsOfTape, cX6_fieldsOfTape, 1, some (.object "Schemabridge$Fields"), [])
theorem mo_X6_fieldsOfTape : mw_mO mm_X6_fieldsOfTape 0 := ⟨List.mem_of_getElem? (i := 234) (by decide +kernel), List.mem_of_getElem? (i := 61) (by decide +kernel), ⟨by decide +kernel, by decide +kernel⟩, by decide +kernel, by decide⟩
abbrev mm_X6_fieldsIn : mw_M := (yX6_fieldsIn, cX6_fieldsIn, 4, some (.object "Schemabridge$Fields"), [])
theorem mo_X6_fieldsIn : mw_mO mm_X6_fieldsIn 3 := ⟨List.mem_of_getElem? (i := 238) (by decide +kernel), List.mem_of_getElem? (i := 61) (by decide +kernel), ⟨by decide +kernel, by decide +kernel⟩, by decide +kernel, by decide⟩
abbrev mm_X6_chooseBoth : mw_M := (yX6_chooseBoth, cX6_chooseBoth, 3, none, [])
theorem mo_X6_chooseBoth : mw_mO mm_X6_chooseBoth 2 := ⟨List.mem_of_getElem? (i := 879) (by decide +kernel), List.mem_of_getElem? (i := 61) (by decide +kernel), ⟨by decide +kernel, by decide +kernel⟩, by decide +kernel, by decide⟩
abbrev mm_X6_messageOf : mw_M := (yX6_messageOf, cX6_messageOf, 4, some (.object "Schemabridge$Message"), [])
theorem mo_X6_messageOf : mw_mO mm_X6_messageOf 2 := ⟨List.mem_of_getElem? (i := 846) (by decide +kernel), List.mem_of_getElem? (i := 61) (by decide +kernel), ⟨by decide +kernel, by decide +kernel⟩, by decide +kernel, by decide⟩
abbrev mm_X6_addMessage : mw_M := (yX6_addMessage, cX6_addMessage, 3, some (.int), [])
theorem mo_X6_addMessage : mw_mO mm_X6_addMessage 1 := ⟨List.mem_of_getElem? (i := 553) (by decide +kernel), List.mem_of_getElem? (i := 61) (by decide +kernel), ⟨by decide +kernel, by decide +kernel⟩, by decide +kernel, by decide⟩
abbrev mm_X6_removeMessage : mw_M := (yX6_removeMessage, cX6_removeMessage, 2, none, [])
theorem mo_X6_removeMessage : mw_mO mm_X6_removeMessage 1 := ⟨List.mem_of_getElem? (i := 603) (by decide +kernel), List.mem_of_getElem? (i := 61) (by decide +kernel), ⟨by decide +kernel, by decide +kernel⟩, by decide +kernel, by decide⟩
abbrev mm_X6_draftWithoutKnown : mw_M := (yX6_draftWithoutKnown, cX6_draftWithoutKnown, 5, none, [])
theorem mo_X6_draftWithoutKnown : mw_mO mm_X6_draftWithoutKnown 3 := ⟨List.mem_of_getElem? (i := 618) (by decide +kernel), List.mem_of_getElem? (i := 61) (by decide +kernel), ⟨by decide +kernel, by decide +kernel⟩, by decide +kernel, by decide⟩
abbrev mm_X6_takeDraft : mw_M := (yX6_takeDraft, cX6_takeDraft, 2, none, [])
theorem mo_X6_takeDraft : mw_mO mm_X6_takeDraft 1 := ⟨List.mem_of_getElem? (i := 691) (by decide +kernel), List.mem_of_getElem? (i := 61) (by decide +kernel), ⟨by decide +kernel, by decide +kernel⟩, by decide +kernel, by decide⟩
abbrev mm_X7_init : mw_M := (yX7_init, cX7_init, 1, none, [])
theorem mo_X7_init : mw_mO mm_X7_init 0 := ⟨List.mem_of_getElem? (i := 953) (by decide +kernel), List.mem_of_getElem? (i := 66) (by decide +kernel), ⟨by decide +kernel, by decide +kernel⟩, by decide +kernel, by decide⟩
abbrev mm_X7_thrown : mw_M := (yX7_thrown, cX7_thrown, 1, some (.int), [])
theorem mo_X7_thrown : mw_mO mm_X7_thrown 0 := ⟨List.mem_of_getElem? (i := 1028) (by decide +kernel), List.mem_of_getElem? (i := 66) (by decide +kernel), ⟨by decide +kernel, by decide +kernel⟩, by decide +kernel, by decide⟩
abbrev mm_X7_in : mw_M := (yX7_in, cX7_in, 3, some (.boolean), [])
theorem mo_X7_in : mw_mO mm_X7_in 3 := ⟨List.mem_of_getElem? (i := 1043) (by decide +kernel), List.mem_of_getElem? (i := 66) (by decide +kernel), ⟨by decide +kernel, by decide +kernel⟩, by decide +kernel, by decide⟩
abbrev mm_X7_isSchema : mw_M := (yX7_isSchema, cX7_isSchema, 2, some (.boolean), [])
theorem mo_X7_isSchema : mw_mO mm_X7_isSchema 1 := ⟨List.mem_of_getElem? (i := 1040) (by decide +kernel), List.mem_of_getElem? (i := 66) (by decide +kernel), ⟨by decide +kernel, by decide +kernel⟩, by decide +kernel, by decide⟩
abbrev mm_X7_isTag : mw_M := (yX7_isTag, cX7_isTag, 1, some (.boolean), [])
theorem mo_X7_isTag : mw_mO mm_X7_isTag 1 := ⟨List.mem_of_getElem? (i := 1046) (by decide +kernel), List.mem_of_getElem? (i := 66) (by decide +kernel), ⟨by decide +kernel, by decide +kernel⟩, by decide +kernel, by decide⟩
abbrev mm_X7_isMessage : mw_M := (yX7_isMessage, cX7_isMessage, 2, some (.boolean), [])
theorem mo_X7_isMessage : mw_mO mm_X7_isMessage 1 := ⟨List.mem_of_getElem? (i := 1109) (by decide +kernel), List.mem_of_getElem? (i := 66) (by decide +kernel), ⟨by decide +kernel, by decide +kernel⟩, by decide +kernel, by decide⟩
abbrev mm_X7_group : mw_M := (yX7_group, cX7_group, 6, some (.int), [])
theorem mo_X7_group : mw_mO mm_X7_group 2 := ⟨List.mem_of_getElem? (i := 1121) (by decide +kernel), List.mem_of_getElem? (i := 66) (by decide +kernel), ⟨by decide +kernel, by decide +kernel⟩, by decide +kernel, by decide⟩
abbrev mm_X7_field : mw_M := (yX7_field, cX7_field, 4, none, [])
theorem mo_X7_field : mw_mO mm_X7_field 2 := ⟨List.mem_of_getElem? (i := 1117) (by decide +kernel), List.mem_of_getElem? (i := 66) (by decide +kernel), ⟨by decide +kernel, by decide +kernel⟩, by decide +kernel, by decide⟩
abbrev mm_X7_writes : mw_M := (yX7_writes, cX7_writes, 2, none, [])
theorem mo_X7_writes : mw_mO mm_X7_writes 1 := ⟨List.mem_of_getElem? (i := 1144) (by decide +kernel), List.mem_of_getElem? (i := 66) (by decide +kernel), ⟨by decide +kernel, by decide +kernel⟩, by decide +kernel, by decide⟩
abbrev mm_X7_writesGroup : mw_M := (yX7_writesGroup, cX7_writesGroup, 3, none, [])
theorem mo_X7_writesGroup : mw_mO mm_X7_writesGroup 1 := ⟨List.mem_of_getElem? (i := 1140) (by decide +kernel), List.mem_of_getElem? (i := 66) (by decide +kernel), ⟨by decide +kernel, by decide +kernel⟩, by decide +kernel, by decide⟩
abbrev mm_X7_writesNumber : mw_M := (yX7_writesNumber, cX7_writesNumber, 5, none, [])
theorem mo_X7_writesNumber : mw_mO mm_X7_writesNumber 3 := ⟨List.mem_of_getElem? (i := 1136) (by decide +kernel), List.mem_of_getElem? (i := 66) (by decide +kernel), ⟨by decide +kernel, by decide +kernel⟩, by decide +kernel, by decide⟩
abbrev mm_X7_writesField : mw_M := (yX7_writesField, cX7_writesField, 3, none, [])
theorem mo_X7_writesField : mw_mO mm_X7_writesField 1 := ⟨List.mem_of_getElem? (i := 1132) (by decide +kernel), List.mem_of_getElem? (i := 66) (by decide +kernel), ⟨by decide +kernel, by decide +kernel⟩, by decide +kernel, by decide⟩
abbrev mm_X7_becomes : mw_M := (yX7_becomes, cX7_becomes, 3, none, [])
theorem mo_X7_becomes : mw_mO mm_X7_becomes 1 := ⟨List.mem_of_getElem? (i := 1101) (by decide +kernel), List.mem_of_getElem? (i := 66) (by decide +kernel), ⟨by decide +kernel, by decide +kernel⟩, by decide +kernel, by decide⟩
abbrev mm_X7_typeOf : mw_M := (yX7_typeOf, cX7_typeOf, 1, some (.int), [])
theorem mo_X7_typeOf : mw_mO mm_X7_typeOf 1 := ⟨List.mem_of_getElem? (i := 1128) (by decide +kernel), List.mem_of_getElem? (i := 66) (by decide +kernel), ⟨by decide +kernel, by decide +kernel⟩, by decide +kernel, by decide⟩
abbrev mm_X7_kind : mw_M := (yX7_kind, cX7_kind, 3, some (.int), [])
theorem mo_X7_kind : mw_mO mm_X7_kind 2 := ⟨List.mem_of_getElem? (i := 1058) (by decide +kernel), List.mem_of_getElem? (i := 66) (by decide +kernel), ⟨by decide +kernel, by decide +kernel⟩, by decide +kernel, by decide⟩
abbrev mm_X7_isInt : mw_M := (yX7_isInt, cX7_isInt, 1, some (.boolean), [])
theorem mo_X7_isInt : mw_mO mm_X7_isInt 1 := ⟨List.mem_of_getElem? (i := 1061) (by decide +kernel), List.mem_of_getElem? (i := 66) (by decide +kernel), ⟨by decide +kernel, by decide +kernel⟩, by decide +kernel, by decide⟩
abbrev mm_X7_hasBytes : mw_M := (yX7_hasBytes, cX7_hasBytes, 1, some (.boolean), [])
theorem mo_X7_hasBytes : mw_mO mm_X7_hasBytes 1 := ⟨List.mem_of_getElem? (i := 1174) (by decide +kernel), List.mem_of_getElem? (i := 66) (by decide +kernel), ⟨by decide +kernel, by decide +kernel⟩, by decide +kernel, by decide⟩
abbrev mm_X7_isKnown : mw_M := (yX7_isKnown, cX7_isKnown, 3, some (.boolean), [])
theorem mo_X7_isKnown : mw_mO mm_X7_isKnown 1 := ⟨List.mem_of_getElem? (i := 1125) (by decide +kernel), List.mem_of_getElem? (i := 66) (by decide +kernel), ⟨by decide +kernel, by decide +kernel⟩, by decide +kernel, by decide⟩
abbrev mm_X7_standsFor : mw_M := (yX7_standsFor, cX7_standsFor, 2, some (.int), [])
theorem mo_X7_standsFor : mw_mO mm_X7_standsFor 2 := ⟨List.mem_of_getElem? (i := 1197) (by decide +kernel), List.mem_of_getElem? (i := 66) (by decide +kernel), ⟨by decide +kernel, by decide +kernel⟩, by decide +kernel, by decide⟩
abbrev mm_X7_standsAs : mw_M := (yX7_standsAs, cX7_standsAs, 2, some (.int), [])
theorem mo_X7_standsAs : mw_mO mm_X7_standsAs 2 := ⟨List.mem_of_getElem? (i := 1163) (by decide +kernel), List.mem_of_getElem? (i := 66) (by decide +kernel), ⟨by decide +kernel, by decide +kernel⟩, by decide +kernel, by decide⟩
abbrev mm_X7_lastKnown : mw_M := (yX7_lastKnown, cX7_lastKnown, 4, some (.int), [])
theorem mo_X7_lastKnown : mw_mO mm_X7_lastKnown 2 := ⟨List.mem_of_getElem? (i := 1182) (by decide +kernel), List.mem_of_getElem? (i := 66) (by decide +kernel), ⟨by decide +kernel, by decide +kernel⟩, by decide +kernel, by decide⟩
abbrev mm_X7_finds : mw_M := (yX7_finds, cX7_finds, 4, some (.boolean), [])
theorem mo_X7_finds : mw_mO mm_X7_finds 2 := ⟨List.mem_of_getElem? (i := 1178) (by decide +kernel), List.mem_of_getElem? (i := 66) (by decide +kernel), ⟨by decide +kernel, by decide +kernel⟩, by decide +kernel, by decide⟩
abbrev mm_X7_writesOthers : mw_M := (yX7_writesOthers, cX7_writesOthers, 3, none, [])
theorem mo_X7_writesOthers : mw_mO mm_X7_writesOthers 2 := ⟨List.mem_of_getElem? (i := 1113) (by decide +kernel), List.mem_of_getElem? (i := 66) (by decide +kernel), ⟨by decide +kernel, by decide +kernel⟩, by decide +kernel, by decide⟩
abbrev mm_X7_writesCanonical : mw_M := (yX7_writesCanonical, cX7_writesCanonical, 6, none, [])
theorem mo_X7_writesCanonical : mw_mO mm_X7_writesCanonical 1 := ⟨List.mem_of_getElem? (i := 1194) (by decide +kernel), List.mem_of_getElem? (i := 66) (by decide +kernel), ⟨by decide +kernel, by decide +kernel⟩, by decide +kernel, by decide⟩
abbrev mm_X7_putsAside : mw_M := (yX7_putsAside, cX7_putsAside, 2, none, [])
theorem mo_X7_putsAside : mw_mO mm_X7_putsAside 0 := ⟨List.mem_of_getElem? (i := 1201) (by decide +kernel), List.mem_of_getElem? (i := 66) (by decide +kernel), ⟨by decide +kernel, by decide +kernel⟩, by decide +kernel, by decide⟩
abbrev mm_X7_isAsAside : mw_M := (yX7_isAsAside, cX7_isAsAside, 3, some (.boolean), [])
theorem mo_X7_isAsAside : mw_mO mm_X7_isAsAside 0 := ⟨List.mem_of_getElem? (i := 1257) (by decide +kernel), List.mem_of_getElem? (i := 66) (by decide +kernel), ⟨by decide +kernel, by decide +kernel⟩, by decide +kernel, by decide⟩
abbrev mm_X7_free : mw_M := (yX7_free, cX7_free, 2, some (.int), [])
theorem mo_X7_free : mw_mO mm_X7_free 0 := ⟨List.mem_of_getElem? (i := 1093) (by decide +kernel), List.mem_of_getElem? (i := 66) (by decide +kernel), ⟨by decide +kernel, by decide +kernel⟩, by decide +kernel, by decide⟩
abbrev mm_X7_isFull : mw_M := (yX7_isFull, cX7_isFull, 1, some (.boolean), [])
theorem mo_X7_isFull : mw_mO mm_X7_isFull 0 := ⟨List.mem_of_getElem? (i := 1089) (by decide +kernel), List.mem_of_getElem? (i := 66) (by decide +kernel), ⟨by decide +kernel, by decide +kernel⟩, by decide +kernel, by decide⟩
abbrev mm_X7_makes : mw_M := (yX7_makes, cX7_makes, 3, some (.int), [])
theorem mo_X7_makes : mw_mO mm_X7_makes 1 := ⟨List.mem_of_getElem? (i := 1097) (by decide +kernel), List.mem_of_getElem? (i := 66) (by decide +kernel), ⟨by decide +kernel, by decide +kernel⟩, by decide +kernel, by decide⟩
abbrev mm_X7_addSchema : mw_M := (yX7_addSchema, cX7_addSchema, 2, some (.int), [])
theorem mo_X7_addSchema : mw_mO mm_X7_addSchema 0 := ⟨List.mem_of_getElem? (i := 1032) (by decide +kernel), List.mem_of_getElem? (i := 66) (by decide +kernel), ⟨by decide +kernel, by decide +kernel⟩, by decide +kernel, by decide⟩
abbrev mm_X7_setKind : mw_M := (yX7_setKind, cX7_setKind, 6, some (.int), [])
theorem mo_X7_setKind : mw_mO mm_X7_setKind 4 := ⟨List.mem_of_getElem? (i := 1036) (by decide +kernel), List.mem_of_getElem? (i := 66) (by decide +kernel), ⟨by decide +kernel, by decide +kernel⟩, by decide +kernel, by decide⟩
abbrev mm_X7_dropKind : mw_M := (yX7_dropKind, cX7_dropKind, 4, some (.int), [])
theorem mo_X7_dropKind : mw_mO mm_X7_dropKind 2 := ⟨List.mem_of_getElem? (i := 1050) (by decide +kernel), List.mem_of_getElem? (i := 66) (by decide +kernel), ⟨by decide +kernel, by decide +kernel⟩, by decide +kernel, by decide⟩
abbrev mm_X7_setDefault : mw_M := (yX7_setDefault, cX7_setDefault, 5, some (.int), [])
theorem mo_X7_setDefault : mw_mO mm_X7_setDefault 3 := ⟨List.mem_of_getElem? (i := 1054) (by decide +kernel), List.mem_of_getElem? (i := 66) (by decide +kernel), ⟨by decide +kernel, by decide +kernel⟩, by decide +kernel, by decide⟩
abbrev mm_X7_kindOf : mw_M := (yX7_kindOf, cX7_kindOf, 3, some (.int), [])
theorem mo_X7_kindOf : mw_mO mm_X7_kindOf 2 := ⟨List.mem_of_getElem? (i := 1065) (by decide +kernel), List.mem_of_getElem? (i := 66) (by decide +kernel), ⟨by decide +kernel, by decide +kernel⟩, by decide +kernel, by decide⟩
abbrev mm_X7_differsAt : mw_M := (yX7_differsAt, cX7_differsAt, 6, some (.boolean), [])
theorem mo_X7_differsAt : mw_mO mm_X7_differsAt 3 := ⟨List.mem_of_getElem? (i := 1081) (by decide +kernel), List.mem_of_getElem? (i := 66) (by decide +kernel), ⟨by decide +kernel, by decide +kernel⟩, by decide +kernel, by decide⟩
abbrev mm_X7_leadsTo : mw_M := (yX7_leadsTo, cX7_leadsTo, 5, some (.int), [])
theorem mo_X7_leadsTo : mw_mO mm_X7_leadsTo 3 := ⟨List.mem_of_getElem? (i := 1077) (by decide +kernel), List.mem_of_getElem? (i := 66) (by decide +kernel), ⟨by decide +kernel, by decide +kernel⟩, by decide +kernel, by decide⟩
abbrev mm_X7_isReason : mw_M := (yX7_isReason, cX7_isReason, 5, some (.boolean), [])
theorem mo_X7_isReason : mw_mO mm_X7_isReason 3 := ⟨List.mem_of_getElem? (i := 1073) (by decide +kernel), List.mem_of_getElem? (i := 66) (by decide +kernel), ⟨by decide +kernel, by decide +kernel⟩, by decide +kernel, by decide⟩
abbrev mm_X7_conflict : mw_M := (yX7_conflict, cX7_conflict, 8, some (.int), [])
theorem mo_X7_conflict : mw_mO mm_X7_conflict 2 := ⟨List.mem_of_getElem? (i := 1069) (by decide +kernel), List.mem_of_getElem? (i := 66) (by decide +kernel), ⟨by decide +kernel, by decide +kernel⟩, by decide +kernel, by decide⟩
abbrev mm_X7_create : mw_M := (yX7_create, cX7_create, 2, some (.int), [])
theorem mo_X7_create : mw_mO mm_X7_create 1 := ⟨List.mem_of_getElem? (i := 1085) (by decide +kernel), List.mem_of_getElem? (i := 66) (by decide +kernel), ⟨by decide +kernel, by decide +kernel⟩, by decide +kernel, by decide⟩
abbrev mm_X7_copy : mw_M := (yX7_copy, cX7_copy, 3, some (.int), [])
theorem mo_X7_copy : mw_mO mm_X7_copy 2 := ⟨List.mem_of_getElem? (i := 1105) (by decide +kernel), List.mem_of_getElem? (i := 66) (by decide +kernel), ⟨by decide +kernel, by decide +kernel⟩, by decide +kernel, by decide⟩
abbrev mm_X7_fields : mw_M := (yX7_fields, cX7_fields, 3, some (.int), [])
theorem mo_X7_fields : mw_mO mm_X7_fields 1 := ⟨List.mem_of_getElem? (i := 1152) (by decide +kernel), List.mem_of_getElem? (i := 66) (by decide +kernel), ⟨by decide +kernel, by decide +kernel⟩, by decide +kernel, by decide⟩
abbrev mm_X7_discard : mw_M := (yX7_discard, cX7_discard, 2, some (.int), [])
theorem mo_X7_discard : mw_mO mm_X7_discard 1 := ⟨List.mem_of_getElem? (i := 1148) (by decide +kernel), List.mem_of_getElem? (i := 66) (by decide +kernel), ⟨by decide +kernel, by decide +kernel⟩, by decide +kernel, by decide⟩
abbrev mm_X7_isWritten : mw_M := (yX7_isWritten, cX7_isWritten, 2, none, [])
theorem mo_X7_isWritten : mw_mO mm_X7_isWritten 1 := ⟨List.mem_of_getElem? (i := 1167) (by decide +kernel), List.mem_of_getElem? (i := 66) (by decide +kernel), ⟨by decide +kernel, by decide +kernel⟩, by decide +kernel, by decide⟩
abbrev mm_X7_kindIn : mw_M := (yX7_kindIn, cX7_kindIn, 3, some (.int), [])
theorem mo_X7_kindIn : mw_mO mm_X7_kindIn 2 := ⟨List.mem_of_getElem? (i := 1160) (by decide +kernel), List.mem_of_getElem? (i := 66) (by decide +kernel), ⟨by decide +kernel, by decide +kernel⟩, by decide +kernel, by decide⟩
abbrev mm_X7_set : mw_M := (yX7_set, cX7_set, 5, none, [])
theorem mo_X7_set : mw_mO mm_X7_set 3 := ⟨List.mem_of_getElem? (i := 1156) (by decide +kernel), List.mem_of_getElem? (i := 66) (by decide +kernel), ⟨by decide +kernel, by decide +kernel⟩, by decide +kernel, by decide⟩
abbrev mm_X7_append : mw_M := (yX7_append, cX7_append, 5, some (.int), [])
theorem mo_X7_append : mw_mO mm_X7_append 3 := ⟨List.mem_of_getElem? (i := 1171) (by decide +kernel), List.mem_of_getElem? (i := 66) (by decide +kernel), ⟨by decide +kernel, by decide +kernel⟩, by decide +kernel, by decide⟩
abbrev mm_X7_setsBytes : mw_M := (yX7_setsBytes, cX7_setsBytes, 4, some (.int), [])
theorem mo_X7_setsBytes : mw_mO mm_X7_setsBytes 2 := ⟨List.mem_of_getElem? (i := 1186) (by decide +kernel), List.mem_of_getElem? (i := 66) (by decide +kernel), ⟨by decide +kernel, by decide +kernel⟩, by decide +kernel, by decide⟩
abbrev mm_X7_setPart : mw_M := (yX7_setPart, cX7_setPart, 5, some (.int), [])
theorem mo_X7_setPart : mw_mO mm_X7_setPart 3 := ⟨List.mem_of_getElem? (i := 1190) (by decide +kernel), List.mem_of_getElem? (i := 66) (by decide +kernel), ⟨by decide +kernel, by decide +kernel⟩, by decide +kernel, by decide⟩
abbrev mm_X7_clear : mw_M := (yX7_clear, cX7_clear, 4, some (.int), [])
theorem mo_X7_clear : mw_mO mm_X7_clear 2 := ⟨List.mem_of_getElem? (i := 1205) (by decide +kernel), List.mem_of_getElem? (i := 66) (by decide +kernel), ⟨by decide +kernel, by decide +kernel⟩, by decide +kernel, by decide⟩
abbrev mm_X7_schemaOf : mw_M := (yX7_schemaOf, cX7_schemaOf, 2, some (.int), [])
theorem mo_X7_schemaOf : mw_mO mm_X7_schemaOf 1 := ⟨List.mem_of_getElem? (i := 1209) (by decide +kernel), List.mem_of_getElem? (i := 66) (by decide +kernel), ⟨by decide +kernel, by decide +kernel⟩, by decide +kernel, by decide⟩
abbrev mm_X7_has : mw_M := (yX7_has, cX7_has, 3, some (.boolean), [])
theorem mo_X7_has : mw_mO mm_X7_has 2 := ⟨List.mem_of_getElem? (i := 1213) (by decide +kernel), List.mem_of_getElem? (i := 66) (by decide +kernel), ⟨by decide +kernel, by decide +kernel⟩, by decide +kernel, by decide⟩
abbrev mm_X7_get : mw_M := (yX7_get, cX7_get, 3, some (.int), [])
theorem mo_X7_get : mw_mO mm_X7_get 2 := ⟨List.mem_of_getElem? (i := 1217) (by decide +kernel), List.mem_of_getElem? (i := 66) (by decide +kernel), ⟨by decide +kernel, by decide +kernel⟩, by decide +kernel, by decide⟩
abbrev mm_X7_byteOf : mw_M := (yX7_byteOf, cX7_byteOf, 4, some (.byte), [])
theorem mo_X7_byteOf : mw_mO mm_X7_byteOf 3 := ⟨List.mem_of_getElem? (i := 1221) (by decide +kernel), List.mem_of_getElem? (i := 66) (by decide +kernel), ⟨by decide +kernel, by decide +kernel⟩, by decide +kernel, by decide⟩
abbrev mm_X7_reads : mw_M := (yX7_reads, cX7_reads, 4, some (.int), [])
theorem mo_X7_reads : mw_mO mm_X7_reads 3 := ⟨List.mem_of_getElem? (i := 1229) (by decide +kernel), List.mem_of_getElem? (i := 66) (by decide +kernel), ⟨by decide +kernel, by decide +kernel⟩, by decide +kernel, by decide⟩
abbrev mm_X7_open : mw_M := (yX7_open, cX7_open, 3, some (.int), [])
theorem mo_X7_open : mw_mO mm_X7_open 2 := ⟨List.mem_of_getElem? (i := 1225) (by decide +kernel), List.mem_of_getElem? (i := 66) (by decide +kernel), ⟨by decide +kernel, by decide +kernel⟩, by decide +kernel, by decide⟩
abbrev mm_X7_unknowns : mw_M := (yX7_unknowns, cX7_unknowns, 2, some (.int), [])
theorem mo_X7_unknowns : mw_mO mm_X7_unknowns 1 := ⟨List.mem_of_getElem? (i := 1233) (by decide +kernel), List.mem_of_getElem? (i := 66) (by decide +kernel), ⟨by decide +kernel, by decide +kernel⟩, by decide +kernel, by decide⟩
abbrev mm_X7_manyUnknown : mw_M := (yX7_manyUnknown, cX7_manyUnknown, 3, some (.int), [])
theorem mo_X7_manyUnknown : mw_mO mm_X7_manyUnknown 1 := ⟨List.mem_of_getElem? (i := 1237) (by decide +kernel), List.mem_of_getElem? (i := 66) (by decide +kernel), ⟨by decide +kernel, by decide +kernel⟩, by decide +kernel, by decide⟩
abbrev mm_X7_unknownTag : mw_M := (yX7_unknownTag, cX7_unknownTag, 4, some (.int), [])
theorem mo_X7_unknownTag : mw_mO mm_X7_unknownTag 2 := ⟨List.mem_of_getElem? (i := 1241) (by decide +kernel), List.mem_of_getElem? (i := 66) (by decide +kernel), ⟨by decide +kernel, by decide +kernel⟩, by decide +kernel, by decide⟩
abbrev mm_X7_weight : mw_M := (yX7_weight, cX7_weight, 2, some (.int), [])
theorem mo_X7_weight : mw_mO mm_X7_weight 1 := ⟨List.mem_of_getElem? (i := 1245) (by decide +kernel), List.mem_of_getElem? (i := 66) (by decide +kernel), ⟨by decide +kernel, by decide +kernel⟩, by decide +kernel, by decide⟩
abbrev mm_X7_areAlike : mw_M := (yX7_areAlike, cX7_areAlike, 3, some (.boolean), [])
theorem mo_X7_areAlike : mw_mO mm_X7_areAlike 2 := ⟨List.mem_of_getElem? (i := 1253) (by decide +kernel), List.mem_of_getElem? (i := 66) (by decide +kernel), ⟨by decide +kernel, by decide +kernel⟩, by decide +kernel, by decide⟩
abbrev mm_X7_areSame : mw_M := (yX7_areSame, cX7_areSame, 3, some (.boolean), [])
theorem mo_X7_areSame : mw_mO mm_X7_areSame 2 := ⟨List.mem_of_getElem? (i := 1249) (by decide +kernel), List.mem_of_getElem? (i := 66) (by decide +kernel), ⟨by decide +kernel, by decide +kernel⟩, by decide +kernel, by decide⟩
abbrev mm_X7_areSameByBytes : mw_M := (yX7_areSameByBytes, cX7_areSameByBytes, 3, some (.boolean), [])
theorem mo_X7_areSameByBytes : mw_mO mm_X7_areSameByBytes 2 := ⟨List.mem_of_getElem? (i := 1261) (by decide +kernel), List.mem_of_getElem? (i := 66) (by decide +kernel), ⟨by decide +kernel, by decide +kernel⟩, by decide +kernel, by decide⟩
abbrev mm_X7_write : mw_M := (yX7_write, cX7_write, 3, some (.int), [])
theorem mo_X7_write : mw_mO mm_X7_write 1 := ⟨List.mem_of_getElem? (i := 1265) (by decide +kernel), List.mem_of_getElem? (i := 66) (by decide +kernel), ⟨by decide +kernel, by decide +kernel⟩, by decide +kernel, by decide⟩
abbrev mm_X7_put : mw_M := (yX7_put, cX7_put, 2, some (.int), [])
theorem mo_X7_put : mw_mO mm_X7_put 1 := ⟨List.mem_of_getElem? (i := 1269) (by decide +kernel), List.mem_of_getElem? (i := 66) (by decide +kernel), ⟨by decide +kernel, by decide +kernel⟩, by decide +kernel, by decide⟩
abbrev mm_X7_cut : mw_M := (yX7_cut, cX7_cut, 3, some (.int), [])
theorem mo_X7_cut : mw_mO mm_X7_cut 1 := ⟨List.mem_of_getElem? (i := 1273) (by decide +kernel), List.mem_of_getElem? (i := 66) (by decide +kernel), ⟨by decide +kernel, by decide +kernel⟩, by decide +kernel, by decide⟩
abbrev mm_X7_length : mw_M := (yX7_length, cX7_length, 1, some (.int), [])
theorem mo_X7_length : mw_mO mm_X7_length 0 := ⟨List.mem_of_getElem? (i := 1277) (by decide +kernel), List.mem_of_getElem? (i := 66) (by decide +kernel), ⟨by decide +kernel, by decide +kernel⟩, by decide +kernel, by decide⟩
abbrev mm_X7_byteAt : mw_M := (yX7_byteAt, cX7_byteAt, 2, some (.byte), [])
theorem mo_X7_byteAt : mw_mO mm_X7_byteAt 1 := ⟨List.mem_of_getElem? (i := 1281) (by decide +kernel), List.mem_of_getElem? (i := 66) (by decide +kernel), ⟨by decide +kernel, by decide +kernel⟩, by decide +kernel, by decide⟩
abbrev mm_X7_fault : mw_M := (yX7_fault, cX7_fault, 1, some (.int), [])
theorem mo_X7_fault : mw_mO mm_X7_fault 0 := ⟨List.mem_of_getElem? (i := 1285) (by decide +kernel), List.mem_of_getElem? (i := 66) (by decide +kernel), ⟨by decide +kernel, by decide +kernel⟩, by decide +kernel, by decide⟩
abbrev mm_X7_faultAt : mw_M := (yX7_faultAt, cX7_faultAt, 1, some (.int), [])
theorem mo_X7_faultAt : mw_mO mm_X7_faultAt 0 := ⟨List.mem_of_getElem? (i := 1289) (by decide +kernel), List.mem_of_getElem? (i := 66) (by decide +kernel), ⟨by decide +kernel, by decide +kernel⟩, by decide +kernel, by decide⟩
abbrev mm_X7_read : mw_M := (yX7_read, cX7_read, 2, some (.int), [])
theorem mo_X7_read : mw_mO mm_X7_read 1 := ⟨List.mem_of_getElem? (i := 1293) (by decide +kernel), List.mem_of_getElem? (i := 66) (by decide +kernel), ⟨by decide +kernel, by decide +kernel⟩, by decide +kernel, by decide⟩
abbrev mm_X7_isOwn : mw_M := (yX7_isOwn, cX7_isOwn, 7, some (.boolean), [])
theorem mo_X7_isOwn : mw_mO mm_X7_isOwn 1 := ⟨List.mem_of_getElem? (i := 1301) (by decide +kernel), List.mem_of_getElem? (i := 66) (by decide +kernel), ⟨by decide +kernel, by decide +kernel⟩, by decide +kernel, by decide⟩
abbrev mm_X7_isCanonical : mw_M := (yX7_isCanonical, cX7_isCanonical, 2, some (.boolean), [])
theorem mo_X7_isCanonical : mw_mO mm_X7_isCanonical 1 := ⟨List.mem_of_getElem? (i := 1297) (by decide +kernel), List.mem_of_getElem? (i := 66) (by decide +kernel), ⟨by decide +kernel, by decide +kernel⟩, by decide +kernel, by decide⟩
abbrev mm_J7_fill_53178 : mw_M := (yJ7_fill_53178, cJ7_fill_53178, 4, none, [])
theorem mo_J7_fill_53178 : mw_mO mm_J7_fill_53178 2 := ⟨List.mem_of_getElem? (i := 369) (by decide +kernel), List.mem_of_getElem? (i := 72) (by decide +kernel), ⟨by decide +kernel, by decide +kernel⟩, by decide +kernel, by decide⟩
abbrev mm_L_addSchema : mw_M := (yL_addSchema, cL_addSchema, 3, some (.int), [(0, 8, 11, 13)])
theorem mo_L_addSchema : mw_mO mm_L_addSchema 2 := ⟨List.mem_of_getElem? (i := 287) (by decide +kernel), List.mem_of_getElem? (i := 60) (by decide +kernel), ⟨by decide +kernel, by decide +kernel⟩, by decide +kernel, by decide⟩
abbrev mm_L_setKind : mw_M := (yL_setKind, cL_setKind, 7, some (.int), [(0, 14, 17, 19), (0, 14, 21, 21)])
theorem mo_L_setKind : mw_mO mm_L_setKind 6 := ⟨List.mem_of_getElem? (i := 390) (by decide +kernel), List.mem_of_getElem? (i := 60) (by decide +kernel), ⟨by decide +kernel, by decide +kernel⟩, by decide +kernel, by decide⟩
abbrev mm_L_dropKind : mw_M := (yL_dropKind, cL_dropKind, 5, some (.int), [(0, 10, 13, 19), (0, 10, 17, 21)])
theorem mo_L_dropKind : mw_mO mm_L_dropKind 4 := ⟨List.mem_of_getElem? (i := 452) (by decide +kernel), List.mem_of_getElem? (i := 60) (by decide +kernel), ⟨by decide +kernel, by decide +kernel⟩, by decide +kernel, by decide⟩
abbrev mm_L_setDefault : mw_M := (yL_setDefault, cL_setDefault, 6, some (.int), [(0, 12, 15, 19), (0, 12, 19, 21), (0, 12, 23, 13)])
theorem mo_L_setDefault : mw_mO mm_L_setDefault 5 := ⟨List.mem_of_getElem? (i := 459) (by decide +kernel), List.mem_of_getElem? (i := 60) (by decide +kernel), ⟨by decide +kernel, by decide +kernel⟩, by decide +kernel, by decide⟩
abbrev mm_L_kindOf : mw_M := (yL_kindOf, cL_kindOf, 5, some (.int), [(0, 10, 13, 19), (0, 10, 17, 21)])
theorem mo_L_kindOf : mw_mO mm_L_kindOf 4 := ⟨List.mem_of_getElem? (i := 483) (by decide +kernel), List.mem_of_getElem? (i := 60) (by decide +kernel), ⟨by decide +kernel, by decide +kernel⟩, by decide +kernel, by decide⟩
abbrev mm_L_conflict : mw_M := (yL_conflict, cL_conflict, 5, some (.int), [(0, 10, 13, 19)])
theorem mo_L_conflict : mw_mO mm_L_conflict 4 := ⟨List.mem_of_getElem? (i := 490) (by decide +kernel), List.mem_of_getElem? (i := 60) (by decide +kernel), ⟨by decide +kernel, by decide +kernel⟩, by decide +kernel, by decide⟩
abbrev mm_L_create : mw_M := (yL_create, cL_create, 4, some (.int), [(0, 9, 12, 19), (0, 9, 15, 13)])
theorem mo_L_create : mw_mO mm_L_create 3 := ⟨List.mem_of_getElem? (i := 529) (by decide +kernel), List.mem_of_getElem? (i := 60) (by decide +kernel), ⟨by decide +kernel, by decide +kernel⟩, by decide +kernel, by decide⟩
abbrev mm_L_copy : mw_M := (yL_copy, cL_copy, 5, some (.int), [(0, 10, 13, 19), (0, 10, 17, 13)])
theorem mo_L_copy : mw_mO mm_L_copy 4 := ⟨List.mem_of_getElem? (i := 557) (by decide +kernel), List.mem_of_getElem? (i := 60) (by decide +kernel), ⟨by decide +kernel, by decide +kernel⟩, by decide +kernel, by decide⟩
abbrev mm_L_discard : mw_M := (yL_discard, cL_discard, 4, some (.int), [(0, 9, 12, 19)])
theorem mo_L_discard : mw_mO mm_L_discard 3 := ⟨List.mem_of_getElem? (i := 587) (by decide +kernel), List.mem_of_getElem? (i := 60) (by decide +kernel), ⟨by decide +kernel, by decide +kernel⟩, by decide +kernel, by decide⟩
abbrev mm_L_set : mw_M := (yL_set, cL_set, 5, some (.int), [(0, 7, 10, 19), (0, 7, 14, 21), (0, 7, 18, 13)])
theorem mo_L_set : mw_mO mm_L_set 4 := ⟨List.mem_of_getElem? (i := 606) (by decide +kernel), List.mem_of_getElem? (i := 60) (by decide +kernel), ⟨by decide +kernel, by decide +kernel⟩, by decide +kernel, by decide⟩
abbrev mm_L_append : mw_M := (yL_append, cL_append, 6, some (.int), [(0, 12, 15, 19), (0, 12, 19, 21), (0, 12, 23, 13)])
theorem mo_L_append : mw_mO mm_L_append 5 := ⟨List.mem_of_getElem? (i := 695) (by decide +kernel), List.mem_of_getElem? (i := 60) (by decide +kernel), ⟨by decide +kernel, by decide +kernel⟩, by decide +kernel, by decide⟩
abbrev mm_L_setPart : mw_M := (yL_setPart, cL_setPart, 6, some (.int), [(0, 12, 15, 19), (0, 12, 19, 21), (0, 12, 23, 13)])
theorem mo_L_setPart : mw_mO mm_L_setPart 5 := ⟨List.mem_of_getElem? (i := 722) (by decide +kernel), List.mem_of_getElem? (i := 60) (by decide +kernel), ⟨by decide +kernel, by decide +kernel⟩, by decide +kernel, by decide⟩
abbrev mm_L_clear : mw_M := (yL_clear, cL_clear, 5, some (.int), [(0, 10, 13, 19), (0, 10, 17, 21)])
theorem mo_L_clear : mw_mO mm_L_clear 4 := ⟨List.mem_of_getElem? (i := 779) (by decide +kernel), List.mem_of_getElem? (i := 60) (by decide +kernel), ⟨by decide +kernel, by decide +kernel⟩, by decide +kernel, by decide⟩
abbrev mm_L_schemaOf : mw_M := (yL_schemaOf, cL_schemaOf, 4, some (.int), [(0, 9, 12, 19)])
theorem mo_L_schemaOf : mw_mO mm_L_schemaOf 3 := ⟨List.mem_of_getElem? (i := 786) (by decide +kernel), List.mem_of_getElem? (i := 60) (by decide +kernel), ⟨by decide +kernel, by decide +kernel⟩, by decide +kernel, by decide⟩
abbrev mm_L_has : mw_M := (yL_has, cL_has, 5, some (.int), [(0, 17, 20, 19), (0, 17, 24, 21)])
theorem mo_L_has : mw_mO mm_L_has 4 := ⟨List.mem_of_getElem? (i := 793) (by decide +kernel), List.mem_of_getElem? (i := 60) (by decide +kernel), ⟨by decide +kernel, by decide +kernel⟩, by decide +kernel, by decide⟩
abbrev mm_L_get : mw_M := (yL_get, cL_get, 5, some (.int), [(0, 10, 13, 19), (0, 10, 17, 21)])
theorem mo_L_get : mw_mO mm_L_get 4 := ⟨List.mem_of_getElem? (i := 800) (by decide +kernel), List.mem_of_getElem? (i := 60) (by decide +kernel), ⟨by decide +kernel, by decide +kernel⟩, by decide +kernel, by decide⟩
abbrev mm_L_byteOf : mw_M := (yL_byteOf, cL_byteOf, 6, some (.int), [(0, 12, 15, 19), (0, 12, 19, 21), (0, 12, 23, 75)])
theorem mo_L_byteOf : mw_mO mm_L_byteOf 5 := ⟨List.mem_of_getElem? (i := 809) (by decide +kernel), List.mem_of_getElem? (i := 60) (by decide +kernel), ⟨by decide +kernel, by decide +kernel⟩, by decide +kernel, by decide⟩
abbrev mm_L_open : mw_M := (yL_open, cL_open, 5, some (.int), [(0, 10, 13, 19), (0, 10, 17, 21), (0, 10, 21, 75), (0, 10, 25, 13)])
theorem mo_L_open : mw_mO mm_L_open 4 := ⟨List.mem_of_getElem? (i := 838) (by decide +kernel), List.mem_of_getElem? (i := 60) (by decide +kernel), ⟨by decide +kernel, by decide +kernel⟩, by decide +kernel, by decide⟩
abbrev mm_L_unknowns : mw_M := (yL_unknowns, cL_unknowns, 4, some (.int), [(0, 9, 12, 19)])
theorem mo_L_unknowns : mw_mO mm_L_unknowns 3 := ⟨List.mem_of_getElem? (i := 849) (by decide +kernel), List.mem_of_getElem? (i := 60) (by decide +kernel), ⟨by decide +kernel, by decide +kernel⟩, by decide +kernel, by decide⟩
abbrev mm_L_unknownTag : mw_M := (yL_unknownTag, cL_unknownTag, 5, some (.int), [(0, 10, 13, 19)])
theorem mo_L_unknownTag : mw_mO mm_L_unknownTag 4 := ⟨List.mem_of_getElem? (i := 856) (by decide +kernel), List.mem_of_getElem? (i := 60) (by decide +kernel), ⟨by decide +kernel, by decide +kernel⟩, by decide +kernel, by decide⟩
abbrev mm_L_weight : mw_M := (yL_weight, cL_weight, 4, some (.int), [(0, 9, 12, 19)])
theorem mo_L_weight : mw_mO mm_L_weight 3 := ⟨List.mem_of_getElem? (i := 864) (by decide +kernel), List.mem_of_getElem? (i := 60) (by decide +kernel), ⟨by decide +kernel, by decide +kernel⟩, by decide +kernel, by decide⟩
abbrev mm_L_areSame : mw_M := (yL_areSame, cL_areSame, 5, some (.int), [(0, 17, 20, 19)])
theorem mo_L_areSame : mw_mO mm_L_areSame 4 := ⟨List.mem_of_getElem? (i := 871) (by decide +kernel), List.mem_of_getElem? (i := 60) (by decide +kernel), ⟨by decide +kernel, by decide +kernel⟩, by decide +kernel, by decide⟩
abbrev mm_L_areSameByBytes : mw_M := (yL_areSameByBytes, cL_areSameByBytes, 5, some (.int), [(0, 17, 20, 19)])
theorem mo_L_areSameByBytes : mw_mO mm_L_areSameByBytes 4 := ⟨List.mem_of_getElem? (i := 894) (by decide +kernel), List.mem_of_getElem? (i := 60) (by decide +kernel), ⟨by decide +kernel, by decide +kernel⟩, by decide +kernel, by decide⟩
abbrev mm_L_write : mw_M := (yL_write, cL_write, 4, some (.int), [(0, 9, 12, 19)])
theorem mo_L_write : mw_mO mm_L_write 3 := ⟨List.mem_of_getElem? (i := 906) (by decide +kernel), List.mem_of_getElem? (i := 60) (by decide +kernel), ⟨by decide +kernel, by decide +kernel⟩, by decide +kernel, by decide⟩
abbrev mm_L_put : mw_M := (yL_put, cL_put, 4, some (.int), [(0, 9, 12, 13)])
theorem mo_L_put : mw_mO mm_L_put 3 := ⟨List.mem_of_getElem? (i := 913) (by decide +kernel), List.mem_of_getElem? (i := 60) (by decide +kernel), ⟨by decide +kernel, by decide +kernel⟩, by decide +kernel, by decide⟩
abbrev mm_L_cut : mw_M := (yL_cut, cL_cut, 4, some (.int), [(0, 9, 12, 19)])
theorem mo_L_cut : mw_mO mm_L_cut 3 := ⟨List.mem_of_getElem? (i := 921) (by decide +kernel), List.mem_of_getElem? (i := 60) (by decide +kernel), ⟨by decide +kernel, by decide +kernel⟩, by decide +kernel, by decide⟩
abbrev mm_L_byteAt : mw_M := (yL_byteAt, cL_byteAt, 4, some (.int), [(0, 9, 12, 19)])
theorem mo_L_byteAt : mw_mO mm_L_byteAt 3 := ⟨List.mem_of_getElem? (i := 929) (by decide +kernel), List.mem_of_getElem? (i := 60) (by decide +kernel), ⟨by decide +kernel, by decide +kernel⟩, by decide +kernel, by decide⟩
abbrev mm_L_read : mw_M := (yL_read, cL_read, 4, some (.int), [(0, 9, 12, 19), (0, 9, 15, 21), (0, 9, 18, 13)])
theorem mo_L_read : mw_mO mm_L_read 3 := ⟨List.mem_of_getElem? (i := 936) (by decide +kernel), List.mem_of_getElem? (i := 60) (by decide +kernel), ⟨by decide +kernel, by decide +kernel⟩, by decide +kernel, by decide⟩
abbrev mm_L_isCanonical : mw_M := (yL_isCanonical, cL_isCanonical, 4, some (.int), [(0, 16, 19, 19)])
theorem mo_L_isCanonical : mw_mO mm_L_isCanonical 3 := ⟨List.mem_of_getElem? (i := 944) (by decide +kernel), List.mem_of_getElem? (i := 60) (by decide +kernel), ⟨by decide +kernel, by decide +kernel⟩, by decide +kernel, by decide⟩
theorem mk_L_7 : mw_mV RL 7 mm_X6_addSchema 0 := ⟨mo_X6_addSchema, rfl, List.mem_of_getElem? (i := 289) (by decide +kernel), List.mem_of_getElem? (i := 290) (by decide +kernel), List.mem_of_getElem? (i := 291) (by decide +kernel)⟩
theorem mk_L_15 : mw_mV RL 15 mm_X6_setKind 4 := ⟨mo_X6_setKind, rfl, List.mem_of_getElem? (i := 393) (by decide +kernel), List.mem_of_getElem? (i := 394) (by decide +kernel), List.mem_of_getElem? (i := 395) (by decide +kernel)⟩
theorem mk_L_23 : mw_mV RL 23 mm_X6_dropKind 2 := ⟨mo_X6_dropKind, rfl, List.mem_of_getElem? (i := 453) (by decide +kernel), List.mem_of_getElem? (i := 454) (by decide +kernel), List.mem_of_getElem? (i := 455) (by decide +kernel)⟩
theorem mk_L_27 : mw_mV RL 27 mm_X6_setDefault 3 := ⟨mo_X6_setDefault, rfl, List.mem_of_getElem? (i := 460) (by decide +kernel), List.mem_of_getElem? (i := 461) (by decide +kernel), List.mem_of_getElem? (i := 462) (by decide +kernel)⟩
theorem mk_L_31 : mw_mV RL 31 mm_X6_kindOf 2 := ⟨mo_X6_kindOf, rfl, List.mem_of_getElem? (i := 484) (by decide +kernel), List.mem_of_getElem? (i := 485) (by decide +kernel), List.mem_of_getElem? (i := 486) (by decide +kernel)⟩
theorem mk_L_34 : mw_mV RL 34 mm_X6_conflict 2 := ⟨mo_X6_conflict, rfl, List.mem_of_getElem? (i := 491) (by decide +kernel), List.mem_of_getElem? (i := 492) (by decide +kernel), List.mem_of_getElem? (i := 493) (by decide +kernel)⟩
theorem mk_L_37 : mw_mV RL 37 mm_X6_create 1 := ⟨mo_X6_create, rfl, List.mem_of_getElem? (i := 530) (by decide +kernel), List.mem_of_getElem? (i := 531) (by decide +kernel), List.mem_of_getElem? (i := 532) (by decide +kernel)⟩
theorem mk_L_41 : mw_mV RL 41 mm_X6_copy 2 := ⟨mo_X6_copy, rfl, List.mem_of_getElem? (i := 558) (by decide +kernel), List.mem_of_getElem? (i := 559) (by decide +kernel), List.mem_of_getElem? (i := 560) (by decide +kernel)⟩
theorem mk_L_44 : mw_mV RL 44 mm_X6_discard 1 := ⟨mo_X6_discard, rfl, List.mem_of_getElem? (i := 588) (by decide +kernel), List.mem_of_getElem? (i := 589) (by decide +kernel), List.mem_of_getElem? (i := 590) (by decide +kernel)⟩
theorem mk_L_47 : mw_mV RL 47 mm_X6_set 3 := ⟨mo_X6_set, rfl, List.mem_of_getElem? (i := 607) (by decide +kernel), List.mem_of_getElem? (i := 608) (by decide +kernel), List.mem_of_getElem? (i := 609) (by decide +kernel)⟩
theorem mk_L_51 : mw_mV RL 51 mm_X6_append 3 := ⟨mo_X6_append, rfl, List.mem_of_getElem? (i := 696) (by decide +kernel), List.mem_of_getElem? (i := 697) (by decide +kernel), List.mem_of_getElem? (i := 698) (by decide +kernel)⟩
theorem mk_L_55 : mw_mV RL 55 mm_X6_setPart 3 := ⟨mo_X6_setPart, rfl, List.mem_of_getElem? (i := 723) (by decide +kernel), List.mem_of_getElem? (i := 724) (by decide +kernel), List.mem_of_getElem? (i := 725) (by decide +kernel)⟩
theorem mk_L_58 : mw_mV RL 58 mm_X6_clear 2 := ⟨mo_X6_clear, rfl, List.mem_of_getElem? (i := 780) (by decide +kernel), List.mem_of_getElem? (i := 781) (by decide +kernel), List.mem_of_getElem? (i := 782) (by decide +kernel)⟩
theorem mk_L_61 : mw_mV RL 61 mm_X6_schemaOf 1 := ⟨mo_X6_schemaOf, rfl, List.mem_of_getElem? (i := 787) (by decide +kernel), List.mem_of_getElem? (i := 788) (by decide +kernel), List.mem_of_getElem? (i := 789) (by decide +kernel)⟩
theorem mk_L_64 : mw_mV RL 64 mm_X6_has 2 := ⟨mo_X6_has, rfl, List.mem_of_getElem? (i := 794) (by decide +kernel), List.mem_of_getElem? (i := 795) (by decide +kernel), List.mem_of_getElem? (i := 796) (by decide +kernel)⟩
theorem mk_L_68 : mw_mV RL 68 mm_X6_get 2 := ⟨mo_X6_get, rfl, List.mem_of_getElem? (i := 801) (by decide +kernel), List.mem_of_getElem? (i := 802) (by decide +kernel), List.mem_of_getElem? (i := 803) (by decide +kernel)⟩
theorem mk_L_71 : mw_mV RL 71 mm_X6_byteOf 3 := ⟨mo_X6_byteOf, rfl, List.mem_of_getElem? (i := 811) (by decide +kernel), List.mem_of_getElem? (i := 812) (by decide +kernel), List.mem_of_getElem? (i := 813) (by decide +kernel)⟩
theorem mk_L_77 : mw_mV RL 77 mm_X6_open 2 := ⟨mo_X6_open, rfl, List.mem_of_getElem? (i := 839) (by decide +kernel), List.mem_of_getElem? (i := 840) (by decide +kernel), List.mem_of_getElem? (i := 841) (by decide +kernel)⟩
theorem mk_L_80 : mw_mV RL 80 mm_X6_unknowns 1 := ⟨mo_X6_unknowns, rfl, List.mem_of_getElem? (i := 850) (by decide +kernel), List.mem_of_getElem? (i := 851) (by decide +kernel), List.mem_of_getElem? (i := 852) (by decide +kernel)⟩
theorem mk_L_83 : mw_mV RL 83 mm_X6_unknownTag 2 := ⟨mo_X6_unknownTag, rfl, List.mem_of_getElem? (i := 857) (by decide +kernel), List.mem_of_getElem? (i := 858) (by decide +kernel), List.mem_of_getElem? (i := 859) (by decide +kernel)⟩
theorem mk_L_86 : mw_mV RL 86 mm_X6_weight 1 := ⟨mo_X6_weight, rfl, List.mem_of_getElem? (i := 865) (by decide +kernel), List.mem_of_getElem? (i := 866) (by decide +kernel), List.mem_of_getElem? (i := 867) (by decide +kernel)⟩
theorem mk_L_89 : mw_mV RL 89 mm_X6_areSame 2 := ⟨mo_X6_areSame, rfl, List.mem_of_getElem? (i := 872) (by decide +kernel), List.mem_of_getElem? (i := 873) (by decide +kernel), List.mem_of_getElem? (i := 874) (by decide +kernel)⟩
theorem mk_L_92 : mw_mV RL 92 mm_X6_areSameByBytes 2 := ⟨mo_X6_areSameByBytes, rfl, List.mem_of_getElem? (i := 895) (by decide +kernel), List.mem_of_getElem? (i := 896) (by decide +kernel), List.mem_of_getElem? (i := 897) (by decide +kernel)⟩
theorem mk_L_95 : mw_mV RL 95 mm_X6_write 1 := ⟨mo_X6_write, rfl, List.mem_of_getElem? (i := 907) (by decide +kernel), List.mem_of_getElem? (i := 908) (by decide +kernel), List.mem_of_getElem? (i := 909) (by decide +kernel)⟩
theorem mk_L_98 : mw_mV RL 98 mm_X6_put 1 := ⟨mo_X6_put, rfl, List.mem_of_getElem? (i := 914) (by decide +kernel), List.mem_of_getElem? (i := 915) (by decide +kernel), List.mem_of_getElem? (i := 916) (by decide +kernel)⟩
theorem mk_L_102 : mw_mV RL 102 mm_X6_cut 1 := ⟨mo_X6_cut, rfl, List.mem_of_getElem? (i := 922) (by decide +kernel), List.mem_of_getElem? (i := 923) (by decide +kernel), List.mem_of_getElem? (i := 924) (by decide +kernel)⟩
theorem mk_L_105 : mw_mV RL 105 mm_X6_byteAt 1 := ⟨mo_X6_byteAt, rfl, List.mem_of_getElem? (i := 930) (by decide +kernel), List.mem_of_getElem? (i := 931) (by decide +kernel), List.mem_of_getElem? (i := 932) (by decide +kernel)⟩
theorem mk_L_109 : mw_mV RL 109 mm_X6_read 1 := ⟨mo_X6_read, rfl, List.mem_of_getElem? (i := 937) (by decide +kernel), List.mem_of_getElem? (i := 938) (by decide +kernel), List.mem_of_getElem? (i := 939) (by decide +kernel)⟩
theorem mk_L_112 : mw_mV RL 112 mm_X6_isCanonical 1 := ⟨mo_X6_isCanonical, rfl, List.mem_of_getElem? (i := 945) (by decide +kernel), List.mem_of_getElem? (i := 946) (by decide +kernel), List.mem_of_getElem? (i := 947) (by decide +kernel)⟩
theorem mk_L_116 : mw_mI RL 116 mm_X6_init 0 := ⟨mo_X6_init, rfl, rfl, rfl, List.mem_of_getElem? (i := 79) (by decide +kernel), List.mem_of_getElem? (i := 80) (by decide +kernel)⟩
theorem mk_L_119 : mw_mI RL 119 mm_X7_init 0 := ⟨mo_X7_init, rfl, rfl, rfl, List.mem_of_getElem? (i := 951) (by decide +kernel), List.mem_of_getElem? (i := 952) (by decide +kernel)⟩
theorem mk_L_120 : mw_mSX RL 120 mm_L_addSchema 2 := ⟨mo_L_addSchema, by simp, List.mem_of_getElem? (i := 285) (by decide +kernel), List.mem_of_getElem? (i := 286) (by decide +kernel)⟩
theorem mk_L_125 : mw_mV RL 125 mm_X7_addSchema 0 := ⟨mo_X7_addSchema, rfl, List.mem_of_getElem? (i := 1029) (by decide +kernel), List.mem_of_getElem? (i := 1030) (by decide +kernel), List.mem_of_getElem? (i := 1031) (by decide +kernel)⟩
theorem mk_L_126 : mw_mV RL 126 mm_X7_thrown 0 := ⟨mo_X7_thrown, rfl, List.mem_of_getElem? (i := 1025) (by decide +kernel), List.mem_of_getElem? (i := 1026) (by decide +kernel), List.mem_of_getElem? (i := 1027) (by decide +kernel)⟩
theorem mk_L_129 : mw_mSX RL 129 mm_L_setKind 6 := ⟨mo_L_setKind, by simp, List.mem_of_getElem? (i := 388) (by decide +kernel), List.mem_of_getElem? (i := 389) (by decide +kernel)⟩
theorem mk_L_132 : mw_mV RL 132 mm_X7_setKind 4 := ⟨mo_X7_setKind, rfl, List.mem_of_getElem? (i := 1033) (by decide +kernel), List.mem_of_getElem? (i := 1034) (by decide +kernel), List.mem_of_getElem? (i := 1035) (by decide +kernel)⟩
theorem mk_L_133 : mw_mSX RL 133 mm_L_dropKind 4 := ⟨mo_L_dropKind, by simp, List.mem_of_getElem? (i := 450) (by decide +kernel), List.mem_of_getElem? (i := 451) (by decide +kernel)⟩
theorem mk_L_136 : mw_mV RL 136 mm_X7_dropKind 2 := ⟨mo_X7_dropKind, rfl, List.mem_of_getElem? (i := 1047) (by decide +kernel), List.mem_of_getElem? (i := 1048) (by decide +kernel), List.mem_of_getElem? (i := 1049) (by decide +kernel)⟩
theorem mk_L_137 : mw_mSX RL 137 mm_L_setDefault 5 := ⟨mo_L_setDefault, by simp, List.mem_of_getElem? (i := 457) (by decide +kernel), List.mem_of_getElem? (i := 458) (by decide +kernel)⟩
theorem mk_L_140 : mw_mV RL 140 mm_X7_setDefault 3 := ⟨mo_X7_setDefault, rfl, List.mem_of_getElem? (i := 1051) (by decide +kernel), List.mem_of_getElem? (i := 1052) (by decide +kernel), List.mem_of_getElem? (i := 1053) (by decide +kernel)⟩
theorem mk_L_141 : mw_mSX RL 141 mm_L_kindOf 4 := ⟨mo_L_kindOf, by simp, List.mem_of_getElem? (i := 481) (by decide +kernel), List.mem_of_getElem? (i := 482) (by decide +kernel)⟩
theorem mk_L_143 : mw_mV RL 143 mm_X7_kindOf 2 := ⟨mo_X7_kindOf, rfl, List.mem_of_getElem? (i := 1062) (by decide +kernel), List.mem_of_getElem? (i := 1063) (by decide +kernel), List.mem_of_getElem? (i := 1064) (by decide +kernel)⟩
theorem mk_L_144 : mw_mSX RL 144 mm_L_conflict 4 := ⟨mo_L_conflict, by simp, List.mem_of_getElem? (i := 488) (by decide +kernel), List.mem_of_getElem? (i := 489) (by decide +kernel)⟩
theorem mk_L_146 : mw_mV RL 146 mm_X7_conflict 2 := ⟨mo_X7_conflict, rfl, List.mem_of_getElem? (i := 1066) (by decide +kernel), List.mem_of_getElem? (i := 1067) (by decide +kernel), List.mem_of_getElem? (i := 1068) (by decide +kernel)⟩
theorem mk_L_147 : mw_mSX RL 147 mm_L_create 3 := ⟨mo_L_create, by simp, List.mem_of_getElem? (i := 527) (by decide +kernel), List.mem_of_getElem? (i := 528) (by decide +kernel)⟩
theorem mk_L_150 : mw_mV RL 150 mm_X7_create 1 := ⟨mo_X7_create, rfl, List.mem_of_getElem? (i := 1082) (by decide +kernel), List.mem_of_getElem? (i := 1083) (by decide +kernel), List.mem_of_getElem? (i := 1084) (by decide +kernel)⟩
theorem mk_L_151 : mw_mSX RL 151 mm_L_copy 4 := ⟨mo_L_copy, by simp, List.mem_of_getElem? (i := 555) (by decide +kernel), List.mem_of_getElem? (i := 556) (by decide +kernel)⟩
theorem mk_L_153 : mw_mV RL 153 mm_X7_copy 2 := ⟨mo_X7_copy, rfl, List.mem_of_getElem? (i := 1102) (by decide +kernel), List.mem_of_getElem? (i := 1103) (by decide +kernel), List.mem_of_getElem? (i := 1104) (by decide +kernel)⟩
theorem mk_L_154 : mw_mSX RL 154 mm_L_discard 3 := ⟨mo_L_discard, by simp, List.mem_of_getElem? (i := 585) (by decide +kernel), List.mem_of_getElem? (i := 586) (by decide +kernel)⟩
theorem mk_L_156 : mw_mV RL 156 mm_X7_discard 1 := ⟨mo_X7_discard, rfl, List.mem_of_getElem? (i := 1145) (by decide +kernel), List.mem_of_getElem? (i := 1146) (by decide +kernel), List.mem_of_getElem? (i := 1147) (by decide +kernel)⟩
theorem mk_L_157 : mw_mSX RL 157 mm_L_set 4 := ⟨mo_L_set, by simp, List.mem_of_getElem? (i := 604) (by decide +kernel), List.mem_of_getElem? (i := 605) (by decide +kernel)⟩
theorem mk_L_160 : mw_mV RL 160 mm_X7_set 3 := ⟨mo_X7_set, rfl, List.mem_of_getElem? (i := 1153) (by decide +kernel), List.mem_of_getElem? (i := 1154) (by decide +kernel), List.mem_of_getElem? (i := 1155) (by decide +kernel)⟩
theorem mk_L_161 : mw_mSX RL 161 mm_L_append 5 := ⟨mo_L_append, by simp, List.mem_of_getElem? (i := 693) (by decide +kernel), List.mem_of_getElem? (i := 694) (by decide +kernel)⟩
theorem mk_L_164 : mw_mV RL 164 mm_X7_append 3 := ⟨mo_X7_append, rfl, List.mem_of_getElem? (i := 1168) (by decide +kernel), List.mem_of_getElem? (i := 1169) (by decide +kernel), List.mem_of_getElem? (i := 1170) (by decide +kernel)⟩
theorem mk_L_165 : mw_mSX RL 165 mm_L_setPart 5 := ⟨mo_L_setPart, by simp, List.mem_of_getElem? (i := 720) (by decide +kernel), List.mem_of_getElem? (i := 721) (by decide +kernel)⟩
theorem mk_L_167 : mw_mV RL 167 mm_X7_setPart 3 := ⟨mo_X7_setPart, rfl, List.mem_of_getElem? (i := 1187) (by decide +kernel), List.mem_of_getElem? (i := 1188) (by decide +kernel), List.mem_of_getElem? (i := 1189) (by decide +kernel)⟩
theorem mk_L_168 : mw_mSX RL 168 mm_L_clear 4 := ⟨mo_L_clear, by simp, List.mem_of_getElem? (i := 777) (by decide +kernel), List.mem_of_getElem? (i := 778) (by decide +kernel)⟩
theorem mk_L_170 : mw_mV RL 170 mm_X7_clear 2 := ⟨mo_X7_clear, rfl, List.mem_of_getElem? (i := 1202) (by decide +kernel), List.mem_of_getElem? (i := 1203) (by decide +kernel), List.mem_of_getElem? (i := 1204) (by decide +kernel)⟩
theorem mk_L_171 : mw_mSX RL 171 mm_L_schemaOf 3 := ⟨mo_L_schemaOf, by simp, List.mem_of_getElem? (i := 784) (by decide +kernel), List.mem_of_getElem? (i := 785) (by decide +kernel)⟩
theorem mk_L_173 : mw_mV RL 173 mm_X7_schemaOf 1 := ⟨mo_X7_schemaOf, rfl, List.mem_of_getElem? (i := 1206) (by decide +kernel), List.mem_of_getElem? (i := 1207) (by decide +kernel), List.mem_of_getElem? (i := 1208) (by decide +kernel)⟩
theorem mk_L_174 : mw_mSX RL 174 mm_L_has 4 := ⟨mo_L_has, by simp, List.mem_of_getElem? (i := 791) (by decide +kernel), List.mem_of_getElem? (i := 792) (by decide +kernel)⟩
theorem mk_L_176 : mw_mV RL 176 mm_X7_has 2 := ⟨mo_X7_has, rfl, List.mem_of_getElem? (i := 1210) (by decide +kernel), List.mem_of_getElem? (i := 1211) (by decide +kernel), List.mem_of_getElem? (i := 1212) (by decide +kernel)⟩
theorem mk_L_177 : mw_mSX RL 177 mm_L_get 4 := ⟨mo_L_get, by simp, List.mem_of_getElem? (i := 798) (by decide +kernel), List.mem_of_getElem? (i := 799) (by decide +kernel)⟩
theorem mk_L_179 : mw_mV RL 179 mm_X7_get 2 := ⟨mo_X7_get, rfl, List.mem_of_getElem? (i := 1214) (by decide +kernel), List.mem_of_getElem? (i := 1215) (by decide +kernel), List.mem_of_getElem? (i := 1216) (by decide +kernel)⟩
theorem mk_L_180 : mw_mSX RL 180 mm_L_byteOf 5 := ⟨mo_L_byteOf, by simp, List.mem_of_getElem? (i := 807) (by decide +kernel), List.mem_of_getElem? (i := 808) (by decide +kernel)⟩
theorem mk_L_182 : mw_mV RL 182 mm_X7_byteOf 3 := ⟨mo_X7_byteOf, rfl, List.mem_of_getElem? (i := 1218) (by decide +kernel), List.mem_of_getElem? (i := 1219) (by decide +kernel), List.mem_of_getElem? (i := 1220) (by decide +kernel)⟩
theorem mk_L_183 : mw_mSX RL 183 mm_L_open 4 := ⟨mo_L_open, by simp, List.mem_of_getElem? (i := 836) (by decide +kernel), List.mem_of_getElem? (i := 837) (by decide +kernel)⟩
theorem mk_L_185 : mw_mV RL 185 mm_X7_open 2 := ⟨mo_X7_open, rfl, List.mem_of_getElem? (i := 1222) (by decide +kernel), List.mem_of_getElem? (i := 1223) (by decide +kernel), List.mem_of_getElem? (i := 1224) (by decide +kernel)⟩
theorem mk_L_186 : mw_mSX RL 186 mm_L_unknowns 3 := ⟨mo_L_unknowns, by simp, List.mem_of_getElem? (i := 847) (by decide +kernel), List.mem_of_getElem? (i := 848) (by decide +kernel)⟩
theorem mk_L_188 : mw_mV RL 188 mm_X7_unknowns 1 := ⟨mo_X7_unknowns, rfl, List.mem_of_getElem? (i := 1230) (by decide +kernel), List.mem_of_getElem? (i := 1231) (by decide +kernel), List.mem_of_getElem? (i := 1232) (by decide +kernel)⟩
theorem mk_L_189 : mw_mSX RL 189 mm_L_unknownTag 4 := ⟨mo_L_unknownTag, by simp, List.mem_of_getElem? (i := 854) (by decide +kernel), List.mem_of_getElem? (i := 855) (by decide +kernel)⟩
theorem mk_L_191 : mw_mV RL 191 mm_X7_unknownTag 2 := ⟨mo_X7_unknownTag, rfl, List.mem_of_getElem? (i := 1238) (by decide +kernel), List.mem_of_getElem? (i := 1239) (by decide +kernel), List.mem_of_getElem? (i := 1240) (by decide +kernel)⟩
theorem mk_L_192 : mw_mSX RL 192 mm_L_weight 3 := ⟨mo_L_weight, by simp, List.mem_of_getElem? (i := 862) (by decide +kernel), List.mem_of_getElem? (i := 863) (by decide +kernel)⟩
theorem mk_L_194 : mw_mV RL 194 mm_X7_weight 1 := ⟨mo_X7_weight, rfl, List.mem_of_getElem? (i := 1242) (by decide +kernel), List.mem_of_getElem? (i := 1243) (by decide +kernel), List.mem_of_getElem? (i := 1244) (by decide +kernel)⟩
theorem mk_L_195 : mw_mSX RL 195 mm_L_areSame 4 := ⟨mo_L_areSame, by simp, List.mem_of_getElem? (i := 869) (by decide +kernel), List.mem_of_getElem? (i := 870) (by decide +kernel)⟩
theorem mk_L_197 : mw_mV RL 197 mm_X7_areSame 2 := ⟨mo_X7_areSame, rfl, List.mem_of_getElem? (i := 1246) (by decide +kernel), List.mem_of_getElem? (i := 1247) (by decide +kernel), List.mem_of_getElem? (i := 1248) (by decide +kernel)⟩
theorem mk_L_198 : mw_mSX RL 198 mm_L_areSameByBytes 4 := ⟨mo_L_areSameByBytes, by simp, List.mem_of_getElem? (i := 892) (by decide +kernel), List.mem_of_getElem? (i := 893) (by decide +kernel)⟩
theorem mk_L_200 : mw_mV RL 200 mm_X7_areSameByBytes 2 := ⟨mo_X7_areSameByBytes, rfl, List.mem_of_getElem? (i := 1258) (by decide +kernel), List.mem_of_getElem? (i := 1259) (by decide +kernel), List.mem_of_getElem? (i := 1260) (by decide +kernel)⟩
theorem mk_L_201 : mw_mSX RL 201 mm_L_write 3 := ⟨mo_L_write, by simp, List.mem_of_getElem? (i := 904) (by decide +kernel), List.mem_of_getElem? (i := 905) (by decide +kernel)⟩
theorem mk_L_203 : mw_mV RL 203 mm_X7_write 1 := ⟨mo_X7_write, rfl, List.mem_of_getElem? (i := 1262) (by decide +kernel), List.mem_of_getElem? (i := 1263) (by decide +kernel), List.mem_of_getElem? (i := 1264) (by decide +kernel)⟩
theorem mk_L_204 : mw_mSX RL 204 mm_L_put 3 := ⟨mo_L_put, by simp, List.mem_of_getElem? (i := 911) (by decide +kernel), List.mem_of_getElem? (i := 912) (by decide +kernel)⟩
theorem mk_L_207 : mw_mV RL 207 mm_X7_put 1 := ⟨mo_X7_put, rfl, List.mem_of_getElem? (i := 1266) (by decide +kernel), List.mem_of_getElem? (i := 1267) (by decide +kernel), List.mem_of_getElem? (i := 1268) (by decide +kernel)⟩
theorem mk_L_208 : mw_mSX RL 208 mm_L_cut 3 := ⟨mo_L_cut, by simp, List.mem_of_getElem? (i := 919) (by decide +kernel), List.mem_of_getElem? (i := 920) (by decide +kernel)⟩
theorem mk_L_210 : mw_mV RL 210 mm_X7_cut 1 := ⟨mo_X7_cut, rfl, List.mem_of_getElem? (i := 1270) (by decide +kernel), List.mem_of_getElem? (i := 1271) (by decide +kernel), List.mem_of_getElem? (i := 1272) (by decide +kernel)⟩
theorem mk_L_211 : mw_mV RL 211 mm_X6_length 0 := ⟨mo_X6_length, rfl, List.mem_of_getElem? (i := 219) (by decide +kernel), List.mem_of_getElem? (i := 220) (by decide +kernel), List.mem_of_getElem? (i := 221) (by decide +kernel)⟩
theorem mk_L_214 : mw_mV RL 214 mm_X7_length 0 := ⟨mo_X7_length, rfl, List.mem_of_getElem? (i := 1274) (by decide +kernel), List.mem_of_getElem? (i := 1275) (by decide +kernel), List.mem_of_getElem? (i := 1276) (by decide +kernel)⟩
theorem mk_L_215 : mw_mSX RL 215 mm_L_byteAt 3 := ⟨mo_L_byteAt, by simp, List.mem_of_getElem? (i := 927) (by decide +kernel), List.mem_of_getElem? (i := 928) (by decide +kernel)⟩
theorem mk_L_217 : mw_mV RL 217 mm_X7_byteAt 1 := ⟨mo_X7_byteAt, rfl, List.mem_of_getElem? (i := 1278) (by decide +kernel), List.mem_of_getElem? (i := 1279) (by decide +kernel), List.mem_of_getElem? (i := 1280) (by decide +kernel)⟩
theorem mk_L_218 : mw_mV RL 218 mm_X6_fault 0 := ⟨mo_X6_fault, rfl, List.mem_of_getElem? (i := 227) (by decide +kernel), List.mem_of_getElem? (i := 228) (by decide +kernel), List.mem_of_getElem? (i := 229) (by decide +kernel)⟩
theorem mk_L_221 : mw_mV RL 221 mm_X7_fault 0 := ⟨mo_X7_fault, rfl, List.mem_of_getElem? (i := 1282) (by decide +kernel), List.mem_of_getElem? (i := 1283) (by decide +kernel), List.mem_of_getElem? (i := 1284) (by decide +kernel)⟩
theorem mk_L_222 : mw_mV RL 222 mm_X6_faultAt 0 := ⟨mo_X6_faultAt, rfl, List.mem_of_getElem? (i := 277) (by decide +kernel), List.mem_of_getElem? (i := 278) (by decide +kernel), List.mem_of_getElem? (i := 279) (by decide +kernel)⟩
theorem mk_L_225 : mw_mV RL 225 mm_X7_faultAt 0 := ⟨mo_X7_faultAt, rfl, List.mem_of_getElem? (i := 1286) (by decide +kernel), List.mem_of_getElem? (i := 1287) (by decide +kernel), List.mem_of_getElem? (i := 1288) (by decide +kernel)⟩
theorem mk_L_226 : mw_mSX RL 226 mm_L_read 3 := ⟨mo_L_read, by simp, List.mem_of_getElem? (i := 934) (by decide +kernel), List.mem_of_getElem? (i := 935) (by decide +kernel)⟩
theorem mk_L_228 : mw_mV RL 228 mm_X7_read 1 := ⟨mo_X7_read, rfl, List.mem_of_getElem? (i := 1290) (by decide +kernel), List.mem_of_getElem? (i := 1291) (by decide +kernel), List.mem_of_getElem? (i := 1292) (by decide +kernel)⟩
theorem mk_L_229 : mw_mSX RL 229 mm_L_isCanonical 3 := ⟨mo_L_isCanonical, by simp, List.mem_of_getElem? (i := 942) (by decide +kernel), List.mem_of_getElem? (i := 943) (by decide +kernel)⟩
theorem mk_L_231 : mw_mV RL 231 mm_X7_isCanonical 1 := ⟨mo_X7_isCanonical, rfl, List.mem_of_getElem? (i := 1294) (by decide +kernel), List.mem_of_getElem? (i := 1295) (by decide +kernel), List.mem_of_getElem? (i := 1296) (by decide +kernel)⟩
theorem ob_X0_3 : Cond.methodLink RX0 3 objectInit ∈ lw_tbl ∧ Cond.instanceMethod objectInit ∈ lw_tbl ∧ Cond.code objectInit ⟨#[0xb1]⟩ 1 none ∈ lw_tbl := ⟨List.mem_of_getElem? (i := 94) (by decide +kernel), List.mem_of_getElem? (i := 83) (by decide +kernel), List.mem_of_getElem? (i := 84) (by decide +kernel)⟩
theorem mk_X0_19 : mw_mV RX0 19 mm_X0_at 1 := ⟨mo_X0_at, rfl, List.mem_of_getElem? (i := 580) (by decide +kernel), List.mem_of_getElem? (i := 252) (by decide +kernel), List.mem_of_getElem? (i := 253) (by decide +kernel)⟩
theorem mk_X0_23 : mw_mV RX0 23 mm_X0_add 1 := ⟨mo_X0_add, rfl, List.mem_of_getElem? (i := 581) (by decide +kernel), List.mem_of_getElem? (i := 582) (by decide +kernel), List.mem_of_getElem? (i := 583) (by decide +kernel)⟩
theorem mk_X0_27 : mw_mV RX0 27 mm_X0_keepFirst 1 := ⟨mo_X0_keepFirst, rfl, List.mem_of_getElem? (i := 571) (by decide +kernel), List.mem_of_getElem? (i := 572) (by decide +kernel), List.mem_of_getElem? (i := 573) (by decide +kernel)⟩
theorem mk_X0_31 : mw_mV RX0 31 mm_X0_count 0 := ⟨mo_X0_count, rfl, List.mem_of_getElem? (i := 575) (by decide +kernel), List.mem_of_getElem? (i := 224) (by decide +kernel), List.mem_of_getElem? (i := 225) (by decide +kernel)⟩
theorem mk_X0_34 : mw_mV RX0 34 mm_X0_addRange 3 := ⟨mo_X0_addRange, rfl, List.mem_of_getElem? (i := 576) (by decide +kernel), List.mem_of_getElem? (i := 577) (by decide +kernel), List.mem_of_getElem? (i := 578) (by decide +kernel)⟩
theorem mk_X0_38 : mw_mV RX0 38 mm_X0_addKey 2 := ⟨mo_X0_addKey, rfl, List.mem_of_getElem? (i := 657) (by decide +kernel), List.mem_of_getElem? (i := 659) (by decide +kernel), List.mem_of_getElem? (i := 20) (by decide +kernel)⟩
theorem mk_X0_42 : mw_mV RX0 42 mm_X0_addFour 1 := ⟨mo_X0_addFour, rfl, List.mem_of_getElem? (i := 678) (by decide +kernel), List.mem_of_getElem? (i := 680) (by decide +kernel), List.mem_of_getElem? (i := 22) (by decide +kernel)⟩
theorem mk_X0_45 : mw_mV RX0 45 mm_X0_addGroups 1 := ⟨mo_X0_addGroups, rfl, List.mem_of_getElem? (i := 661) (by decide +kernel), List.mem_of_getElem? (i := 663) (by decide +kernel), List.mem_of_getElem? (i := 21) (by decide +kernel)⟩
theorem mk_X0_48 : mw_mV RX0 48 mm_X0_hasSameRange 4 := ⟨mo_X0_hasSameRange, rfl, List.mem_of_getElem? (i := 903) (by decide +kernel), List.mem_of_getElem? (i := 889) (by decide +kernel), List.mem_of_getElem? (i := 890) (by decide +kernel)⟩
theorem ob_X1_3 : Cond.methodLink RX1 3 objectInit ∈ lw_tbl ∧ Cond.instanceMethod objectInit ∈ lw_tbl ∧ Cond.code objectInit ⟨#[0xb1]⟩ 1 none ∈ lw_tbl := ⟨List.mem_of_getElem? (i := 169) (by decide +kernel), List.mem_of_getElem? (i := 83) (by decide +kernel), List.mem_of_getElem? (i := 84) (by decide +kernel)⟩
theorem mk_X1_11 : mw_mIN RX1 11 mm_X2_init 0 := ⟨mo_X2_init, rfl, rfl, rfl, ⟨"Schemabridge", List.mem_of_getElem? (i := 171) (by decide +kernel)⟩, List.mem_of_getElem? (i := 127) (by decide +kernel)⟩
theorem mk_X1_25 : mw_mV RX1 25 mm_X0_count 0 := ⟨mo_X0_count, rfl, List.mem_of_getElem? (i := 737) (by decide +kernel), List.mem_of_getElem? (i := 224) (by decide +kernel), List.mem_of_getElem? (i := 225) (by decide +kernel)⟩
theorem mk_X1_31 : mw_mV RX1 31 mm_X2_scan 3 := ⟨mo_X2_scan, rfl, List.mem_of_getElem? (i := 738) (by decide +kernel), List.mem_of_getElem? (i := 240) (by decide +kernel), List.mem_of_getElem? (i := 241) (by decide +kernel)⟩
theorem mk_X1_35 : mw_mV RX1 35 mm_X1_noteLasts 1 := ⟨mo_X1_noteLasts, rfl, List.mem_of_getElem? (i := 739) (by decide +kernel), List.mem_of_getElem? (i := 741) (by decide +kernel), List.mem_of_getElem? (i := 24) (by decide +kernel)⟩
theorem mk_X1_42 : mw_mV RX1 42 mm_X2_count 0 := ⟨mo_X2_count, rfl, List.mem_of_getElem? (i := 744) (by decide +kernel), List.mem_of_getElem? (i := 597) (by decide +kernel), List.mem_of_getElem? (i := 598) (by decide +kernel)⟩
theorem mk_X1_43 : mw_mV RX1 43 mm_X2_isKnown 2 := ⟨mo_X2_isKnown, rfl, List.mem_of_getElem? (i := 747) (by decide +kernel), List.mem_of_getElem? (i := 629) (by decide +kernel), List.mem_of_getElem? (i := 630) (by decide +kernel)⟩
theorem mk_X1_47 : mw_mV RX1 47 mm_X1_isToldBy 2 := ⟨mo_X1_isToldBy, rfl, List.mem_of_getElem? (i := 748) (by decide +kernel), List.mem_of_getElem? (i := 750) (by decide +kernel), List.mem_of_getElem? (i := 25) (by decide +kernel)⟩
theorem mk_X1_50 : mw_mV RX1 50 mm_X1_insert 1 := ⟨mo_X1_insert, rfl, List.mem_of_getElem? (i := 763) (by decide +kernel), List.mem_of_getElem? (i := 765) (by decide +kernel), List.mem_of_getElem? (i := 26) (by decide +kernel)⟩
theorem mk_X1_54 : mw_mV RX1 54 mm_X0_keepFirst 1 := ⟨mo_X0_keepFirst, rfl, List.mem_of_getElem? (i := 771) (by decide +kernel), List.mem_of_getElem? (i := 572) (by decide +kernel), List.mem_of_getElem? (i := 573) (by decide +kernel)⟩
theorem mk_X1_57 : mw_mV RX1 57 mm_X1_placeAt 1 := ⟨mo_X1_placeAt, rfl, List.mem_of_getElem? (i := 772) (by decide +kernel), List.mem_of_getElem? (i := 774) (by decide +kernel), List.mem_of_getElem? (i := 27) (by decide +kernel)⟩
theorem mk_X1_61 : mw_mV RX1 61 mm_X2_writeTo 2 := ⟨mo_X2_writeTo, rfl, List.mem_of_getElem? (i := 776) (by decide +kernel), List.mem_of_getElem? (i := 637) (by decide +kernel), List.mem_of_getElem? (i := 638) (by decide +kernel)⟩
theorem mk_X1_65 : mw_mV RX1 65 mm_X2_isSameAt 3 := ⟨mo_X2_isSameAt, rfl, List.mem_of_getElem? (i := 884) (by decide +kernel), List.mem_of_getElem? (i := 885) (by decide +kernel), List.mem_of_getElem? (i := 886) (by decide +kernel)⟩
theorem mk_X1_69 : mw_mS RX1 69 mm_J7_fill_53178 2 := ⟨mo_J7_fill_53178, rfl, List.mem_of_getElem? (i := 743) (by decide +kernel), List.mem_of_getElem? (i := 368) (by decide +kernel)⟩
theorem mk_X1_75 : mw_mV RX1 75 mm_X2_tagAt 1 := ⟨mo_X2_tagAt, rfl, List.mem_of_getElem? (i := 745) (by decide +kernel), List.mem_of_getElem? (i := 621) (by decide +kernel), List.mem_of_getElem? (i := 622) (by decide +kernel)⟩
theorem mk_X1_78 : mw_mSN RX1 78 mm_X6_isTag 1 := ⟨mo_X6_isTag, rfl, ⟨"Schemabridge", List.mem_of_getElem? (i := 746) (by decide +kernel)⟩, List.mem_of_getElem? (i := 259) (by decide +kernel)⟩
theorem mk_X1_82 : mw_mV RX1 82 mm_X2_numberAt 1 := ⟨mo_X2_numberAt, rfl, List.mem_of_getElem? (i := 752) (by decide +kernel), List.mem_of_getElem? (i := 650) (by decide +kernel), List.mem_of_getElem? (i := 651) (by decide +kernel)⟩
theorem mk_X1_85 : mw_mV RX1 85 mm_X5_isDefault 2 := ⟨mo_X5_isDefault, rfl, List.mem_of_getElem? (i := 753) (by decide +kernel), List.mem_of_getElem? (i := 754) (by decide +kernel), List.mem_of_getElem? (i := 755) (by decide +kernel)⟩
theorem ob_X2_3 : Cond.methodLink RX2 3 objectInit ∈ lw_tbl ∧ Cond.instanceMethod objectInit ∈ lw_tbl ∧ Cond.code objectInit ⟨#[0xb1]⟩ 1 none ∈ lw_tbl := ⟨List.mem_of_getElem? (i := 129) (by decide +kernel), List.mem_of_getElem? (i := 83) (by decide +kernel), List.mem_of_getElem? (i := 84) (by decide +kernel)⟩
theorem mk_X2_26 : mw_mIN RX2 26 mm_X0_init 0 := ⟨mo_X0_init, rfl, rfl, rfl, ⟨"Schemabridge", List.mem_of_getElem? (i := 131) (by decide +kernel)⟩, List.mem_of_getElem? (i := 92) (by decide +kernel)⟩
theorem mk_X2_47 : mw_mV RX2 47 mm_X2_scanField 0 := ⟨mo_X2_scanField, rfl, List.mem_of_getElem? (i := 243) (by decide +kernel), List.mem_of_getElem? (i := 245) (by decide +kernel), List.mem_of_getElem? (i := 2) (by decide +kernel)⟩
theorem mk_X2_50 : mw_mV RX2 50 mm_X2_isPlace 1 := ⟨mo_X2_isPlace, rfl, List.mem_of_getElem? (i := 624) (by decide +kernel), List.mem_of_getElem? (i := 626) (by decide +kernel), List.mem_of_getElem? (i := 19) (by decide +kernel)⟩
theorem mk_X2_54 : mw_mV RX2 54 mm_X2_typeAt 1 := ⟨mo_X2_typeAt, rfl, List.mem_of_getElem? (i := 640) (by decide +kernel), List.mem_of_getElem? (i := 641) (by decide +kernel), List.mem_of_getElem? (i := 642) (by decide +kernel)⟩
theorem mk_X2_58 : mw_mV RX2 58 mm_X2_numberAt 1 := ⟨mo_X2_numberAt, rfl, List.mem_of_getElem? (i := 649) (by decide +kernel), List.mem_of_getElem? (i := 650) (by decide +kernel), List.mem_of_getElem? (i := 651) (by decide +kernel)⟩
theorem mk_X2_61 : mw_mV RX2 61 mm_X2_endAt 1 := ⟨mo_X2_endAt, rfl, List.mem_of_getElem? (i := 669) (by decide +kernel), List.mem_of_getElem? (i := 670) (by decide +kernel), List.mem_of_getElem? (i := 671) (by decide +kernel)⟩
theorem mk_X2_64 : mw_mV RX2 64 mm_X2_bytesAt 1 := ⟨mo_X2_bytesAt, rfl, List.mem_of_getElem? (i := 645) (by decide +kernel), List.mem_of_getElem? (i := 646) (by decide +kernel), List.mem_of_getElem? (i := 647) (by decide +kernel)⟩
theorem mk_X2_67 : mw_mV RX2 67 mm_X5_typeAt 1 := ⟨mo_X5_typeAt, rfl, List.mem_of_getElem? (i := 632) (by decide +kernel), List.mem_of_getElem? (i := 633) (by decide +kernel), List.mem_of_getElem? (i := 634) (by decide +kernel)⟩
theorem mk_X2_70 : mw_mV RX2 70 mm_X2_tagAt 1 := ⟨mo_X2_tagAt, rfl, List.mem_of_getElem? (i := 644) (by decide +kernel), List.mem_of_getElem? (i := 621) (by decide +kernel), List.mem_of_getElem? (i := 622) (by decide +kernel)⟩
theorem mk_X2_73 : mw_mV RX2 73 mm_X2_isKnown 2 := ⟨mo_X2_isKnown, rfl, List.mem_of_getElem? (i := 713) (by decide +kernel), List.mem_of_getElem? (i := 629) (by decide +kernel), List.mem_of_getElem? (i := 630) (by decide +kernel)⟩
theorem mk_X2_77 : mw_mV RX2 77 mm_X0_addBytesHead 2 := ⟨mo_X0_addBytesHead, rfl, List.mem_of_getElem? (i := 653) (by decide +kernel), List.mem_of_getElem? (i := 654) (by decide +kernel), List.mem_of_getElem? (i := 655) (by decide +kernel)⟩
theorem mk_X2_81 : mw_mV RX2 81 mm_X2_bytesBeginAt 1 := ⟨mo_X2_bytesBeginAt, rfl, List.mem_of_getElem? (i := 665) (by decide +kernel), List.mem_of_getElem? (i := 666) (by decide +kernel), List.mem_of_getElem? (i := 667) (by decide +kernel)⟩
theorem mk_X2_84 : mw_mV RX2 84 mm_X0_addRange 3 := ⟨mo_X0_addRange, rfl, List.mem_of_getElem? (i := 673) (by decide +kernel), List.mem_of_getElem? (i := 577) (by decide +kernel), List.mem_of_getElem? (i := 578) (by decide +kernel)⟩
theorem mk_X2_88 : mw_mV RX2 88 mm_X0_addNumberField 3 := ⟨mo_X0_addNumberField, rfl, List.mem_of_getElem? (i := 674) (by decide +kernel), List.mem_of_getElem? (i := 675) (by decide +kernel), List.mem_of_getElem? (i := 676) (by decide +kernel)⟩
theorem mk_X2_92 : mw_mV RX2 92 mm_X0_hasSameRange 4 := ⟨mo_X0_hasSameRange, rfl, List.mem_of_getElem? (i := 888) (by decide +kernel), List.mem_of_getElem? (i := 889) (by decide +kernel), List.mem_of_getElem? (i := 890) (by decide +kernel)⟩
theorem mk_X2_96 : mw_mV RX2 96 mm_X2_scanGroups 0 := ⟨mo_X2_scanGroups, rfl, List.mem_of_getElem? (i := 247) (by decide +kernel), List.mem_of_getElem? (i := 249) (by decide +kernel), List.mem_of_getElem? (i := 3) (by decide +kernel)⟩
theorem mk_X2_100 : mw_mS RX2 100 mm_X2_keyProblem 2 := ⟨mo_X2_keyProblem, rfl, List.mem_of_getElem? (i := 255) (by decide +kernel), List.mem_of_getElem? (i := 256) (by decide +kernel)⟩
theorem mk_X2_104 : mw_mV RX2 104 mm_X2_scanFour 0 := ⟨mo_X2_scanFour, rfl, List.mem_of_getElem? (i := 261) (by decide +kernel), List.mem_of_getElem? (i := 263) (by decide +kernel), List.mem_of_getElem? (i := 4) (by decide +kernel)⟩
theorem mk_X2_107 : mw_mV RX2 107 mm_X2_skipBytes 1 := ⟨mo_X2_skipBytes, rfl, List.mem_of_getElem? (i := 265) (by decide +kernel), List.mem_of_getElem? (i := 267) (by decide +kernel), List.mem_of_getElem? (i := 5) (by decide +kernel)⟩
theorem mk_X2_111 : mw_mV RX2 111 mm_X2_keepField 3 := ⟨mo_X2_keepField, rfl, List.mem_of_getElem? (i := 269) (by decide +kernel), List.mem_of_getElem? (i := 271) (by decide +kernel), List.mem_of_getElem? (i := 6) (by decide +kernel)⟩
theorem mk_X2_114 : mw_mSN RX2 114 mm_X6_isTag 1 := ⟨mo_X6_isTag, rfl, ⟨"Schemabridge", List.mem_of_getElem? (i := 258) (by decide +kernel)⟩, List.mem_of_getElem? (i := 259) (by decide +kernel)⟩
theorem mk_X2_117 : mw_mV RX2 117 mm_X0_at 1 := ⟨mo_X0_at, rfl, List.mem_of_getElem? (i := 251) (by decide +kernel), List.mem_of_getElem? (i := 252) (by decide +kernel), List.mem_of_getElem? (i := 253) (by decide +kernel)⟩
theorem ob_X3_1 : Cond.methodLink RX3 1 objectInit ∈ lw_tbl ∧ Cond.instanceMethod objectInit ∈ lw_tbl ∧ Cond.code objectInit ⟨#[0xb1]⟩ 1 none ∈ lw_tbl := ⟨List.mem_of_getElem? (i := 538) (by decide +kernel), List.mem_of_getElem? (i := 83) (by decide +kernel), List.mem_of_getElem? (i := 84) (by decide +kernel)⟩
theorem mk_X3_9 : mw_mIN RX3 9 mm_X0_init 0 := ⟨mo_X0_init, rfl, rfl, rfl, ⟨"Schemabridge", List.mem_of_getElem? (i := 540) (by decide +kernel)⟩, List.mem_of_getElem? (i := 92) (by decide +kernel)⟩
theorem ob_X4_3 : Cond.methodLink RX4 3 objectInit ∈ lw_tbl ∧ Cond.instanceMethod objectInit ∈ lw_tbl ∧ Cond.code objectInit ⟨#[0xb1]⟩ 1 none ∈ lw_tbl := ⟨List.mem_of_getElem? (i := 108) (by decide +kernel), List.mem_of_getElem? (i := 83) (by decide +kernel), List.mem_of_getElem? (i := 84) (by decide +kernel)⟩
theorem mk_X4_24 : mw_mV RX4 24 mm_X4_forgetPairs 0 := ⟨mo_X4_forgetPairs, rfl, List.mem_of_getElem? (i := 499) (by decide +kernel), List.mem_of_getElem? (i := 501) (by decide +kernel), List.mem_of_getElem? (i := 9) (by decide +kernel)⟩
theorem mk_X4_27 : mw_mV RX4 27 mm_X4_notePair 2 := ⟨mo_X4_notePair, rfl, List.mem_of_getElem? (i := 503) (by decide +kernel), List.mem_of_getElem? (i := 505) (by decide +kernel), List.mem_of_getElem? (i := 10) (by decide +kernel)⟩
theorem mk_X4_31 : mw_mV RX4 31 mm_X5_differsAt 2 := ⟨mo_X5_differsAt, rfl, List.mem_of_getElem? (i := 507) (by decide +kernel), List.mem_of_getElem? (i := 508) (by decide +kernel), List.mem_of_getElem? (i := 509) (by decide +kernel)⟩
theorem mk_X4_35 : mw_mV RX4 35 mm_X4_leadsToDifference 3 := ⟨mo_X4_leadsToDifference, rfl, List.mem_of_getElem? (i := 511) (by decide +kernel), List.mem_of_getElem? (i := 513) (by decide +kernel), List.mem_of_getElem? (i := 11) (by decide +kernel)⟩
theorem mk_X4_43 : mw_mV RX4 43 mm_X4_notePartsAt 3 := ⟨mo_X4_notePartsAt, rfl, List.mem_of_getElem? (i := 515) (by decide +kernel), List.mem_of_getElem? (i := 517) (by decide +kernel), List.mem_of_getElem? (i := 12) (by decide +kernel)⟩
theorem mk_X4_47 : mw_mV RX4 47 mm_X4_differsSomewhere 2 := ⟨mo_X4_differsSomewhere, rfl, List.mem_of_getElem? (i := 523) (by decide +kernel), List.mem_of_getElem? (i := 525) (by decide +kernel), List.mem_of_getElem? (i := 13) (by decide +kernel)⟩
theorem mk_X4_51 : mw_mV RX4 51 mm_X5_partOf 1 := ⟨mo_X5_partOf, rfl, List.mem_of_getElem? (i := 519) (by decide +kernel), List.mem_of_getElem? (i := 520) (by decide +kernel), List.mem_of_getElem? (i := 521) (by decide +kernel)⟩
theorem ob_X5_3 : Cond.methodLink RX5 3 objectInit ∈ lw_tbl ∧ Cond.instanceMethod objectInit ∈ lw_tbl ∧ Cond.code objectInit ⟨#[0xb1]⟩ 1 none ∈ lw_tbl := ⟨List.mem_of_getElem? (i := 365) (by decide +kernel), List.mem_of_getElem? (i := 83) (by decide +kernel), List.mem_of_getElem? (i := 84) (by decide +kernel)⟩
theorem mk_X5_29 : mw_mS RX5 29 mm_J7_fill_53178 2 := ⟨mo_J7_fill_53178, rfl, List.mem_of_getElem? (i := 367) (by decide +kernel), List.mem_of_getElem? (i := 368) (by decide +kernel)⟩
theorem mk_X5_35 : mw_mSN RX5 35 mm_X6_isTag 1 := ⟨mo_X6_isTag, rfl, ⟨"Schemabridge", List.mem_of_getElem? (i := 442) (by decide +kernel)⟩, List.mem_of_getElem? (i := 259) (by decide +kernel)⟩
theorem mk_X5_39 : mw_mS RX5 39 mm_X5_typeOfKind 1 := ⟨mo_X5_typeOfKind, rfl, List.mem_of_getElem? (i := 447) (by decide +kernel), List.mem_of_getElem? (i := 448) (by decide +kernel)⟩
theorem mk_X5_43 : mw_mV RX5 43 mm_X5_kindAt 1 := ⟨mo_X5_kindAt, rfl, List.mem_of_getElem? (i := 468) (by decide +kernel), List.mem_of_getElem? (i := 439) (by decide +kernel), List.mem_of_getElem? (i := 440) (by decide +kernel)⟩
theorem mk_X5_46 : mw_mS RX5 46 mm_X5_isIntKind 1 := ⟨mo_X5_isIntKind, rfl, List.mem_of_getElem? (i := 469) (by decide +kernel), List.mem_of_getElem? (i := 470) (by decide +kernel)⟩
theorem mk_X5_49 : mw_mV RX5 49 mm_X5_typeAt 1 := ⟨mo_X5_typeAt, rfl, List.mem_of_getElem? (i := 707) (by decide +kernel), List.mem_of_getElem? (i := 633) (by decide +kernel), List.mem_of_getElem? (i := 634) (by decide +kernel)⟩
theorem mk_X5_52 : mw_mV RX5 52 mm_X5_hasInt 1 := ⟨mo_X5_hasInt, rfl, List.mem_of_getElem? (i := 757) (by decide +kernel), List.mem_of_getElem? (i := 465) (by decide +kernel), List.mem_of_getElem? (i := 466) (by decide +kernel)⟩
theorem mk_X5_55 : mw_mV RX5 55 mm_X5_valueOf 2 := ⟨mo_X5_valueOf, rfl, List.mem_of_getElem? (i := 758) (by decide +kernel), List.mem_of_getElem? (i := 759) (by decide +kernel), List.mem_of_getElem? (i := 760) (by decide +kernel)⟩
theorem mk_X5_59 : mw_mV RX5 59 mm_X5_defaultAt 1 := ⟨mo_X5_defaultAt, rfl, List.mem_of_getElem? (i := 762) (by decide +kernel), List.mem_of_getElem? (i := 474) (by decide +kernel), List.mem_of_getElem? (i := 475) (by decide +kernel)⟩
theorem ob_X6_1 : Cond.methodLink RX6 1 objectInit ∈ lw_tbl ∧ Cond.instanceMethod objectInit ∈ lw_tbl ∧ Cond.code objectInit ⟨#[0xb1]⟩ 1 none ∈ lw_tbl := ⟨List.mem_of_getElem? (i := 82) (by decide +kernel), List.mem_of_getElem? (i := 83) (by decide +kernel), List.mem_of_getElem? (i := 84) (by decide +kernel)⟩
theorem mk_X6_23 : mw_mIN RX6 23 mm_X0_init 0 := ⟨mo_X0_init, rfl, rfl, rfl, ⟨"Schemabridge", List.mem_of_getElem? (i := 91) (by decide +kernel)⟩, List.mem_of_getElem? (i := 92) (by decide +kernel)⟩
theorem mk_X6_30 : mw_mIN RX6 30 mm_X4_init 0 := ⟨mo_X4_init, rfl, rfl, rfl, ⟨"Schemabridge", List.mem_of_getElem? (i := 105) (by decide +kernel)⟩, List.mem_of_getElem? (i := 106) (by decide +kernel)⟩
theorem mk_X6_37 : mw_mIN RX6 37 mm_X2_init 0 := ⟨mo_X2_init, rfl, rfl, rfl, ⟨"Schemabridge", List.mem_of_getElem? (i := 126) (by decide +kernel)⟩, List.mem_of_getElem? (i := 127) (by decide +kernel)⟩
theorem mk_X6_44 : mw_mIN RX6 44 mm_X1_init 0 := ⟨mo_X1_init, rfl, rfl, rfl, ⟨"Schemabridge", List.mem_of_getElem? (i := 166) (by decide +kernel)⟩, List.mem_of_getElem? (i := 167) (by decide +kernel)⟩
theorem mk_X6_72 : mw_mI RX6 72 mm_X5_init 1 := ⟨mo_X5_init, rfl, rfl, rfl, List.mem_of_getElem? (i := 362) (by decide +kernel), List.mem_of_getElem? (i := 363) (by decide +kernel)⟩
theorem mk_X6_75 : mw_mV RX6 75 mm_X6_schemaAt 1 := ⟨mo_X6_schemaAt, rfl, List.mem_of_getElem? (i := 397) (by decide +kernel), List.mem_of_getElem? (i := 399) (by decide +kernel), List.mem_of_getElem? (i := 8) (by decide +kernel)⟩
theorem mk_X6_79 : mw_mS RX6 79 mm_X6_checkTag 1 := ⟨mo_X6_checkTag, rfl, List.mem_of_getElem? (i := 417) (by decide +kernel), List.mem_of_getElem? (i := 418) (by decide +kernel)⟩
theorem mk_X6_87 : mw_mV RX6 87 mm_X5_kindAt 1 := ⟨mo_X5_kindAt, rfl, List.mem_of_getElem? (i := 438) (by decide +kernel), List.mem_of_getElem? (i := 439) (by decide +kernel), List.mem_of_getElem? (i := 440) (by decide +kernel)⟩
theorem mk_X6_91 : mw_mV RX6 91 mm_X5_giveKind 3 := ⟨mo_X5_giveKind, rfl, List.mem_of_getElem? (i := 443) (by decide +kernel), List.mem_of_getElem? (i := 444) (by decide +kernel), List.mem_of_getElem? (i := 445) (by decide +kernel)⟩
theorem mk_X6_95 : mw_mV RX6 95 mm_X5_hasInt 1 := ⟨mo_X5_hasInt, rfl, List.mem_of_getElem? (i := 464) (by decide +kernel), List.mem_of_getElem? (i := 465) (by decide +kernel), List.mem_of_getElem? (i := 466) (by decide +kernel)⟩
theorem mk_X6_101 : mw_mV RX6 101 mm_X5_defaultAt 1 := ⟨mo_X5_defaultAt, rfl, List.mem_of_getElem? (i := 473) (by decide +kernel), List.mem_of_getElem? (i := 474) (by decide +kernel), List.mem_of_getElem? (i := 475) (by decide +kernel)⟩
theorem mk_X6_104 : mw_mV RX6 104 mm_X5_giveDefault 2 := ⟨mo_X5_giveDefault, rfl, List.mem_of_getElem? (i := 477) (by decide +kernel), List.mem_of_getElem? (i := 478) (by decide +kernel), List.mem_of_getElem? (i := 479) (by decide +kernel)⟩
theorem mk_X6_108 : mw_mV RX6 108 mm_X4_leastReason 2 := ⟨mo_X4_leastReason, rfl, List.mem_of_getElem? (i := 495) (by decide +kernel), List.mem_of_getElem? (i := 496) (by decide +kernel), List.mem_of_getElem? (i := 497) (by decide +kernel)⟩
theorem mk_X6_112 : mw_mI RX6 112 mm_X3_init 1 := ⟨mo_X3_init, rfl, rfl, rfl, List.mem_of_getElem? (i := 535) (by decide +kernel), List.mem_of_getElem? (i := 536) (by decide +kernel)⟩
theorem mk_X6_115 : mw_mV RX6 115 mm_X6_addMessage 1 := ⟨mo_X6_addMessage, rfl, List.mem_of_getElem? (i := 550) (by decide +kernel), List.mem_of_getElem? (i := 552) (by decide +kernel), List.mem_of_getElem? (i := 14) (by decide +kernel)⟩
theorem mk_X6_119 : mw_mV RX6 119 mm_X6_messageAt 1 := ⟨mo_X6_messageAt, rfl, List.mem_of_getElem? (i := 562) (by decide +kernel), List.mem_of_getElem? (i := 564) (by decide +kernel), List.mem_of_getElem? (i := 15) (by decide +kernel)⟩
theorem mk_X6_126 : mw_mV RX6 126 mm_X0_replaceBy 1 := ⟨mo_X0_replaceBy, rfl, List.mem_of_getElem? (i := 567) (by decide +kernel), List.mem_of_getElem? (i := 568) (by decide +kernel), List.mem_of_getElem? (i := 569) (by decide +kernel)⟩
theorem mk_X6_130 : mw_mV RX6 130 mm_X6_fieldsOf 1 := ⟨mo_X6_fieldsOf, rfl, List.mem_of_getElem? (i := 592) (by decide +kernel), List.mem_of_getElem? (i := 594) (by decide +kernel), List.mem_of_getElem? (i := 16) (by decide +kernel)⟩
theorem mk_X6_134 : mw_mV RX6 134 mm_X2_count 0 := ⟨mo_X2_count, rfl, List.mem_of_getElem? (i := 596) (by decide +kernel), List.mem_of_getElem? (i := 597) (by decide +kernel), List.mem_of_getElem? (i := 598) (by decide +kernel)⟩
theorem mk_X6_138 : mw_mV RX6 138 mm_X6_removeMessage 1 := ⟨mo_X6_removeMessage, rfl, List.mem_of_getElem? (i := 600) (by decide +kernel), List.mem_of_getElem? (i := 602) (by decide +kernel), List.mem_of_getElem? (i := 17) (by decide +kernel)⟩
theorem mk_X6_145 : mw_mS RX6 145 mm_X6_checkHasInt 2 := ⟨mo_X6_checkHasInt, rfl, List.mem_of_getElem? (i := 611) (by decide +kernel), List.mem_of_getElem? (i := 612) (by decide +kernel)⟩
theorem mk_X6_149 : mw_mV RX6 149 mm_X6_draftWithoutKnown 3 := ⟨mo_X6_draftWithoutKnown, rfl, List.mem_of_getElem? (i := 615) (by decide +kernel), List.mem_of_getElem? (i := 617) (by decide +kernel), List.mem_of_getElem? (i := 18) (by decide +kernel)⟩
theorem mk_X6_153 : mw_mV RX6 153 mm_X5_typeAt 1 := ⟨mo_X5_typeAt, rfl, List.mem_of_getElem? (i := 682) (by decide +kernel), List.mem_of_getElem? (i := 633) (by decide +kernel), List.mem_of_getElem? (i := 634) (by decide +kernel)⟩
theorem mk_X6_156 : mw_mV RX6 156 mm_X5_numberOf 2 := ⟨mo_X5_numberOf, rfl, List.mem_of_getElem? (i := 683) (by decide +kernel), List.mem_of_getElem? (i := 684) (by decide +kernel), List.mem_of_getElem? (i := 685) (by decide +kernel)⟩
theorem mk_X6_160 : mw_mV RX6 160 mm_X0_addNumberField 3 := ⟨mo_X0_addNumberField, rfl, List.mem_of_getElem? (i := 687) (by decide +kernel), List.mem_of_getElem? (i := 675) (by decide +kernel), List.mem_of_getElem? (i := 676) (by decide +kernel)⟩
theorem mk_X6_164 : mw_mV RX6 164 mm_X6_takeDraft 1 := ⟨mo_X6_takeDraft, rfl, List.mem_of_getElem? (i := 688) (by decide +kernel), List.mem_of_getElem? (i := 690) (by decide +kernel), List.mem_of_getElem? (i := 23) (by decide +kernel)⟩
theorem mk_X6_168 : mw_mS RX6 168 mm_X6_checkHasBytes 2 := ⟨mo_X6_checkHasBytes, rfl, List.mem_of_getElem? (i := 700) (by decide +kernel), List.mem_of_getElem? (i := 701) (by decide +kernel)⟩
theorem mk_X6_171 : mw_mV RX6 171 mm_X2_lastKnown 2 := ⟨mo_X2_lastKnown, rfl, List.mem_of_getElem? (i := 709) (by decide +kernel), List.mem_of_getElem? (i := 710) (by decide +kernel), List.mem_of_getElem? (i := 711) (by decide +kernel)⟩
theorem mk_X6_175 : mw_mV RX6 175 mm_X2_bytesAt 1 := ⟨mo_X2_bytesAt, rfl, List.mem_of_getElem? (i := 714) (by decide +kernel), List.mem_of_getElem? (i := 646) (by decide +kernel), List.mem_of_getElem? (i := 647) (by decide +kernel)⟩
theorem mk_X6_178 : mw_mV RX6 178 mm_X0_addBytesHead 2 := ⟨mo_X0_addBytesHead, rfl, List.mem_of_getElem? (i := 715) (by decide +kernel), List.mem_of_getElem? (i := 654) (by decide +kernel), List.mem_of_getElem? (i := 655) (by decide +kernel)⟩
theorem mk_X6_181 : mw_mV RX6 181 mm_X2_bytesBeginAt 1 := ⟨mo_X2_bytesBeginAt, rfl, List.mem_of_getElem? (i := 716) (by decide +kernel), List.mem_of_getElem? (i := 666) (by decide +kernel), List.mem_of_getElem? (i := 667) (by decide +kernel)⟩
theorem mk_X6_184 : mw_mV RX6 184 mm_X2_endAt 1 := ⟨mo_X2_endAt, rfl, List.mem_of_getElem? (i := 717) (by decide +kernel), List.mem_of_getElem? (i := 670) (by decide +kernel), List.mem_of_getElem? (i := 671) (by decide +kernel)⟩
theorem mk_X6_187 : mw_mV RX6 187 mm_X0_addRange 3 := ⟨mo_X0_addRange, rfl, List.mem_of_getElem? (i := 718) (by decide +kernel), List.mem_of_getElem? (i := 577) (by decide +kernel), List.mem_of_getElem? (i := 578) (by decide +kernel)⟩
theorem mk_X6_191 : mw_mV RX6 191 mm_X0_add 1 := ⟨mo_X0_add, rfl, List.mem_of_getElem? (i := 719) (by decide +kernel), List.mem_of_getElem? (i := 582) (by decide +kernel), List.mem_of_getElem? (i := 583) (by decide +kernel)⟩
theorem mk_X6_195 : mw_mS RX6 195 mm_X6_partAt 2 := ⟨mo_X6_partAt, rfl, List.mem_of_getElem? (i := 727) (by decide +kernel), List.mem_of_getElem? (i := 728) (by decide +kernel)⟩
theorem mk_X6_201 : mw_mV RX6 201 mm_X1_choose 2 := ⟨mo_X1_choose, rfl, List.mem_of_getElem? (i := 733) (by decide +kernel), List.mem_of_getElem? (i := 734) (by decide +kernel), List.mem_of_getElem? (i := 735) (by decide +kernel)⟩
theorem mk_X6_205 : mw_mV RX6 205 mm_X1_writeTo 1 := ⟨mo_X1_writeTo, rfl, List.mem_of_getElem? (i := 767) (by decide +kernel), List.mem_of_getElem? (i := 768) (by decide +kernel), List.mem_of_getElem? (i := 769) (by decide +kernel)⟩
theorem mk_X6_208 : mw_mV RX6 208 mm_X0_count 0 := ⟨mo_X0_count, rfl, List.mem_of_getElem? (i := 223) (by decide +kernel), List.mem_of_getElem? (i := 224) (by decide +kernel), List.mem_of_getElem? (i := 225) (by decide +kernel)⟩
theorem mk_X6_209 : mw_mV RX6 209 mm_X0_keepFirst 1 := ⟨mo_X0_keepFirst, rfl, List.mem_of_getElem? (i := 619) (by decide +kernel), List.mem_of_getElem? (i := 572) (by decide +kernel), List.mem_of_getElem? (i := 573) (by decide +kernel)⟩
theorem mk_X6_212 : mw_mV RX6 212 mm_X2_tagAt 1 := ⟨mo_X2_tagAt, rfl, List.mem_of_getElem? (i := 620) (by decide +kernel), List.mem_of_getElem? (i := 621) (by decide +kernel), List.mem_of_getElem? (i := 622) (by decide +kernel)⟩
theorem mk_X6_215 : mw_mV RX6 215 mm_X2_writeTo 2 := ⟨mo_X2_writeTo, rfl, List.mem_of_getElem? (i := 636) (by decide +kernel), List.mem_of_getElem? (i := 637) (by decide +kernel), List.mem_of_getElem? (i := 638) (by decide +kernel)⟩
theorem mk_X6_221 : mw_mV RX6 221 mm_X2_numberAt 1 := ⟨mo_X2_numberAt, rfl, List.mem_of_getElem? (i := 805) (by decide +kernel), List.mem_of_getElem? (i := 650) (by decide +kernel), List.mem_of_getElem? (i := 651) (by decide +kernel)⟩
theorem mk_X6_224 : mw_mV RX6 224 mm_X5_valueOf 2 := ⟨mo_X5_valueOf, rfl, List.mem_of_getElem? (i := 806) (by decide +kernel), List.mem_of_getElem? (i := 759) (by decide +kernel), List.mem_of_getElem? (i := 760) (by decide +kernel)⟩
theorem mk_X6_227 : mw_mS RX6 227 mm_X6_lastKnownOrThrow 3 := ⟨mo_X6_lastKnownOrThrow, rfl, List.mem_of_getElem? (i := 815) (by decide +kernel), List.mem_of_getElem? (i := 816) (by decide +kernel)⟩
theorem mk_X6_236 : mw_mV RX6 236 mm_X0_at 1 := ⟨mo_X0_at, rfl, List.mem_of_getElem? (i := 835) (by decide +kernel), List.mem_of_getElem? (i := 252) (by decide +kernel), List.mem_of_getElem? (i := 253) (by decide +kernel)⟩
theorem mk_X6_240 : mw_mV RX6 240 mm_X6_fieldsIn 3 := ⟨mo_X6_fieldsIn, rfl, List.mem_of_getElem? (i := 235) (by decide +kernel), List.mem_of_getElem? (i := 237) (by decide +kernel), List.mem_of_getElem? (i := 1) (by decide +kernel)⟩
theorem mk_X6_244 : mw_mV RX6 244 mm_X2_problem 0 := ⟨mo_X2_problem, rfl, List.mem_of_getElem? (i := 273) (by decide +kernel), List.mem_of_getElem? (i := 274) (by decide +kernel), List.mem_of_getElem? (i := 275) (by decide +kernel)⟩
theorem mk_X6_249 : mw_mS RX6 249 mm_X6_messageOf 2 := ⟨mo_X6_messageOf, rfl, List.mem_of_getElem? (i := 844) (by decide +kernel), List.mem_of_getElem? (i := 845) (by decide +kernel)⟩
theorem mk_X6_253 : mw_mV RX6 253 mm_X2_isKnown 2 := ⟨mo_X2_isKnown, rfl, List.mem_of_getElem? (i := 628) (by decide +kernel), List.mem_of_getElem? (i := 629) (by decide +kernel), List.mem_of_getElem? (i := 630) (by decide +kernel)⟩
theorem mk_X6_262 : mw_mV RX6 262 mm_X6_chooseBoth 2 := ⟨mo_X6_chooseBoth, rfl, List.mem_of_getElem? (i := 876) (by decide +kernel), List.mem_of_getElem? (i := 878) (by decide +kernel), List.mem_of_getElem? (i := 28) (by decide +kernel)⟩
theorem mk_X6_266 : mw_mV RX6 266 mm_X1_hasSameFields 1 := ⟨mo_X1_hasSameFields, rfl, List.mem_of_getElem? (i := 880) (by decide +kernel), List.mem_of_getElem? (i := 881) (by decide +kernel), List.mem_of_getElem? (i := 882) (by decide +kernel)⟩
theorem mk_X6_270 : mw_mV RX6 270 mm_X0_isSameAs 1 := ⟨mo_X0_isSameAs, rfl, List.mem_of_getElem? (i := 899) (by decide +kernel), List.mem_of_getElem? (i := 900) (by decide +kernel), List.mem_of_getElem? (i := 901) (by decide +kernel)⟩
theorem mk_X6_278 : mw_mV RX6 278 mm_X6_fieldsOfTape 0 := ⟨mo_X6_fieldsOfTape, rfl, List.mem_of_getElem? (i := 231) (by decide +kernel), List.mem_of_getElem? (i := 233) (by decide +kernel), List.mem_of_getElem? (i := 0) (by decide +kernel)⟩
theorem mk_X6_282 : mw_mV RX6 282 mm_X2_problemAt 0 := ⟨mo_X2_problemAt, rfl, List.mem_of_getElem? (i := 281) (by decide +kernel), List.mem_of_getElem? (i := 282) (by decide +kernel), List.mem_of_getElem? (i := 283) (by decide +kernel)⟩
theorem mk_X6_291 : mw_mS RX6 291 mm_X6_isTag 1 := ⟨mo_X6_isTag, rfl, List.mem_of_getElem? (i := 420) (by decide +kernel), List.mem_of_getElem? (i := 259) (by decide +kernel)⟩
theorem mk_X6_298 : mw_mV RX6 298 mm_X5_hasBytes 1 := ⟨mo_X5_hasBytes, rfl, List.mem_of_getElem? (i := 703) (by decide +kernel), List.mem_of_getElem? (i := 704) (by decide +kernel), List.mem_of_getElem? (i := 705) (by decide +kernel)⟩
theorem mk_X6_303 : mw_mV RX6 303 mm_X5_partOf 1 := ⟨mo_X5_partOf, rfl, List.mem_of_getElem? (i := 730) (by decide +kernel), List.mem_of_getElem? (i := 520) (by decide +kernel), List.mem_of_getElem? (i := 521) (by decide +kernel)⟩
theorem mk_X6_310 : mw_mV RX6 310 mm_X2_scan 3 := ⟨mo_X2_scan, rfl, List.mem_of_getElem? (i := 239) (by decide +kernel), List.mem_of_getElem? (i := 240) (by decide +kernel), List.mem_of_getElem? (i := 241) (by decide +kernel)⟩
theorem ob_X7_1 : Cond.methodLink RX7 1 objectInit ∈ lw_tbl ∧ Cond.instanceMethod objectInit ∈ lw_tbl ∧ Cond.code objectInit ⟨#[0xb1]⟩ 1 none ∈ lw_tbl := ⟨List.mem_of_getElem? (i := 954) (by decide +kernel), List.mem_of_getElem? (i := 83) (by decide +kernel), List.mem_of_getElem? (i := 84) (by decide +kernel)⟩
theorem mk_X7_51 : mw_mS RX7 51 mm_X7_in 3 := ⟨mo_X7_in, rfl, List.mem_of_getElem? (i := 1041) (by decide +kernel), List.mem_of_getElem? (i := 1042) (by decide +kernel)⟩
theorem mk_X7_64 : mw_mV RX7 64 mm_X7_group 2 := ⟨mo_X7_group, rfl, List.mem_of_getElem? (i := 1118) (by decide +kernel), List.mem_of_getElem? (i := 1120) (by decide +kernel), List.mem_of_getElem? (i := 41) (by decide +kernel)⟩
theorem mk_X7_74 : mw_mS RX7 74 mm_X7_isTag 1 := ⟨mo_X7_isTag, rfl, List.mem_of_getElem? (i := 1044) (by decide +kernel), List.mem_of_getElem? (i := 1045) (by decide +kernel)⟩
theorem mk_X7_87 : mw_mV RX7 87 mm_X7_writes 1 := ⟨mo_X7_writes, rfl, List.mem_of_getElem? (i := 1141) (by decide +kernel), List.mem_of_getElem? (i := 1143) (by decide +kernel), List.mem_of_getElem? (i := 46) (by decide +kernel)⟩
theorem mk_X7_91 : mw_mV RX7 91 mm_X7_writesGroup 1 := ⟨mo_X7_writesGroup, rfl, List.mem_of_getElem? (i := 1137) (by decide +kernel), List.mem_of_getElem? (i := 1139) (by decide +kernel), List.mem_of_getElem? (i := 45) (by decide +kernel)⟩
theorem mk_X7_94 : mw_mV RX7 94 mm_X7_writesNumber 3 := ⟨mo_X7_writesNumber, rfl, List.mem_of_getElem? (i := 1133) (by decide +kernel), List.mem_of_getElem? (i := 1135) (by decide +kernel), List.mem_of_getElem? (i := 44) (by decide +kernel)⟩
theorem mk_X7_98 : mw_mV RX7 98 mm_X7_kind 2 := ⟨mo_X7_kind, rfl, List.mem_of_getElem? (i := 1055) (by decide +kernel), List.mem_of_getElem? (i := 1057) (by decide +kernel), List.mem_of_getElem? (i := 30) (by decide +kernel)⟩
theorem mk_X7_102 : mw_mS RX7 102 mm_X7_typeOf 1 := ⟨mo_X7_typeOf, rfl, List.mem_of_getElem? (i := 1126) (by decide +kernel), List.mem_of_getElem? (i := 1127) (by decide +kernel)⟩
theorem mk_X7_106 : mw_mV RX7 106 mm_X7_field 2 := ⟨mo_X7_field, rfl, List.mem_of_getElem? (i := 1114) (by decide +kernel), List.mem_of_getElem? (i := 1116) (by decide +kernel), List.mem_of_getElem? (i := 40) (by decide +kernel)⟩
theorem mk_X7_110 : mw_mV RX7 110 mm_X7_isKnown 1 := ⟨mo_X7_isKnown, rfl, List.mem_of_getElem? (i := 1122) (by decide +kernel), List.mem_of_getElem? (i := 1124) (by decide +kernel), List.mem_of_getElem? (i := 42) (by decide +kernel)⟩
theorem mk_X7_113 : mw_mV RX7 113 mm_X7_lastKnown 2 := ⟨mo_X7_lastKnown, rfl, List.mem_of_getElem? (i := 1179) (by decide +kernel), List.mem_of_getElem? (i := 1181) (by decide +kernel), List.mem_of_getElem? (i := 51) (by decide +kernel)⟩
theorem mk_X7_116 : mw_mV RX7 116 mm_X7_writesField 1 := ⟨mo_X7_writesField, rfl, List.mem_of_getElem? (i := 1129) (by decide +kernel), List.mem_of_getElem? (i := 1131) (by decide +kernel), List.mem_of_getElem? (i := 43) (by decide +kernel)⟩
theorem mk_X7_120 : mw_mS RX7 120 mm_X7_isInt 1 := ⟨mo_X7_isInt, rfl, List.mem_of_getElem? (i := 1059) (by decide +kernel), List.mem_of_getElem? (i := 1060) (by decide +kernel)⟩
theorem mk_X7_123 : mw_mS RX7 123 mm_X7_standsFor 2 := ⟨mo_X7_standsFor, rfl, List.mem_of_getElem? (i := 1195) (by decide +kernel), List.mem_of_getElem? (i := 1196) (by decide +kernel)⟩
theorem mk_X7_129 : mw_mV RX7 129 mm_X7_free 0 := ⟨mo_X7_free, rfl, List.mem_of_getElem? (i := 1090) (by decide +kernel), List.mem_of_getElem? (i := 1092) (by decide +kernel), List.mem_of_getElem? (i := 35) (by decide +kernel)⟩
theorem mk_X7_133 : mw_mV RX7 133 mm_X7_becomes 1 := ⟨mo_X7_becomes, rfl, List.mem_of_getElem? (i := 1098) (by decide +kernel), List.mem_of_getElem? (i := 1100) (by decide +kernel), List.mem_of_getElem? (i := 37) (by decide +kernel)⟩
theorem mk_X7_136 : mw_mV RX7 136 mm_X7_isSchema 1 := ⟨mo_X7_isSchema, rfl, List.mem_of_getElem? (i := 1037) (by decide +kernel), List.mem_of_getElem? (i := 1039) (by decide +kernel), List.mem_of_getElem? (i := 29) (by decide +kernel)⟩
theorem mk_X7_139 : mw_mV RX7 139 mm_X7_leadsTo 3 := ⟨mo_X7_leadsTo, rfl, List.mem_of_getElem? (i := 1074) (by decide +kernel), List.mem_of_getElem? (i := 1076) (by decide +kernel), List.mem_of_getElem? (i := 32) (by decide +kernel)⟩
theorem mk_X7_143 : mw_mV RX7 143 mm_X7_differsAt 3 := ⟨mo_X7_differsAt, rfl, List.mem_of_getElem? (i := 1078) (by decide +kernel), List.mem_of_getElem? (i := 1080) (by decide +kernel), List.mem_of_getElem? (i := 33) (by decide +kernel)⟩
theorem mk_X7_146 : mw_mV RX7 146 mm_X7_isReason 3 := ⟨mo_X7_isReason, rfl, List.mem_of_getElem? (i := 1070) (by decide +kernel), List.mem_of_getElem? (i := 1072) (by decide +kernel), List.mem_of_getElem? (i := 31) (by decide +kernel)⟩
theorem mk_X7_149 : mw_mV RX7 149 mm_X7_isFull 0 := ⟨mo_X7_isFull, rfl, List.mem_of_getElem? (i := 1086) (by decide +kernel), List.mem_of_getElem? (i := 1088) (by decide +kernel), List.mem_of_getElem? (i := 34) (by decide +kernel)⟩
theorem mk_X7_153 : mw_mV RX7 153 mm_X7_makes 1 := ⟨mo_X7_makes, rfl, List.mem_of_getElem? (i := 1094) (by decide +kernel), List.mem_of_getElem? (i := 1096) (by decide +kernel), List.mem_of_getElem? (i := 36) (by decide +kernel)⟩
theorem mk_X7_156 : mw_mV RX7 156 mm_X7_isMessage 1 := ⟨mo_X7_isMessage, rfl, List.mem_of_getElem? (i := 1106) (by decide +kernel), List.mem_of_getElem? (i := 1108) (by decide +kernel), List.mem_of_getElem? (i := 38) (by decide +kernel)⟩
theorem mk_X7_159 : mw_mV RX7 159 mm_X7_writesOthers 2 := ⟨mo_X7_writesOthers, rfl, List.mem_of_getElem? (i := 1110) (by decide +kernel), List.mem_of_getElem? (i := 1112) (by decide +kernel), List.mem_of_getElem? (i := 39) (by decide +kernel)⟩
theorem mk_X7_163 : mw_mV RX7 163 mm_X7_fields 1 := ⟨mo_X7_fields, rfl, List.mem_of_getElem? (i := 1149) (by decide +kernel), List.mem_of_getElem? (i := 1151) (by decide +kernel), List.mem_of_getElem? (i := 47) (by decide +kernel)⟩
theorem mk_X7_166 : mw_mV RX7 166 mm_X7_kindIn 2 := ⟨mo_X7_kindIn, rfl, List.mem_of_getElem? (i := 1157) (by decide +kernel), List.mem_of_getElem? (i := 1159) (by decide +kernel), List.mem_of_getElem? (i := 48) (by decide +kernel)⟩
theorem mk_X7_169 : mw_mS RX7 169 mm_X7_standsAs 2 := ⟨mo_X7_standsAs, rfl, List.mem_of_getElem? (i := 1161) (by decide +kernel), List.mem_of_getElem? (i := 1162) (by decide +kernel)⟩
theorem mk_X7_172 : mw_mV RX7 172 mm_X7_isWritten 1 := ⟨mo_X7_isWritten, rfl, List.mem_of_getElem? (i := 1164) (by decide +kernel), List.mem_of_getElem? (i := 1166) (by decide +kernel), List.mem_of_getElem? (i := 49) (by decide +kernel)⟩
theorem mk_X7_175 : mw_mS RX7 175 mm_X7_hasBytes 1 := ⟨mo_X7_hasBytes, rfl, List.mem_of_getElem? (i := 1172) (by decide +kernel), List.mem_of_getElem? (i := 1173) (by decide +kernel)⟩
theorem mk_X7_178 : mw_mV RX7 178 mm_X7_finds 2 := ⟨mo_X7_finds, rfl, List.mem_of_getElem? (i := 1175) (by decide +kernel), List.mem_of_getElem? (i := 1177) (by decide +kernel), List.mem_of_getElem? (i := 50) (by decide +kernel)⟩
theorem mk_X7_182 : mw_mV RX7 182 mm_X7_setsBytes 2 := ⟨mo_X7_setsBytes, rfl, List.mem_of_getElem? (i := 1183) (by decide +kernel), List.mem_of_getElem? (i := 1185) (by decide +kernel), List.mem_of_getElem? (i := 52) (by decide +kernel)⟩
theorem mk_X7_185 : mw_mV RX7 185 mm_X7_writesCanonical 1 := ⟨mo_X7_writesCanonical, rfl, List.mem_of_getElem? (i := 1191) (by decide +kernel), List.mem_of_getElem? (i := 1193) (by decide +kernel), List.mem_of_getElem? (i := 53) (by decide +kernel)⟩
theorem mk_X7_188 : mw_mV RX7 188 mm_X7_putsAside 0 := ⟨mo_X7_putsAside, rfl, List.mem_of_getElem? (i := 1198) (by decide +kernel), List.mem_of_getElem? (i := 1200) (by decide +kernel), List.mem_of_getElem? (i := 54) (by decide +kernel)⟩
theorem mk_X7_191 : mw_mV RX7 191 mm_X7_reads 3 := ⟨mo_X7_reads, rfl, List.mem_of_getElem? (i := 1226) (by decide +kernel), List.mem_of_getElem? (i := 1228) (by decide +kernel), List.mem_of_getElem? (i := 55) (by decide +kernel)⟩
theorem mk_X7_195 : mw_mV RX7 195 mm_X7_manyUnknown 1 := ⟨mo_X7_manyUnknown, rfl, List.mem_of_getElem? (i := 1234) (by decide +kernel), List.mem_of_getElem? (i := 1236) (by decide +kernel), List.mem_of_getElem? (i := 56) (by decide +kernel)⟩
theorem mk_X7_198 : mw_mV RX7 198 mm_X7_isAsAside 0 := ⟨mo_X7_isAsAside, rfl, List.mem_of_getElem? (i := 1254) (by decide +kernel), List.mem_of_getElem? (i := 1256) (by decide +kernel), List.mem_of_getElem? (i := 58) (by decide +kernel)⟩
theorem mk_X7_201 : mw_mV RX7 201 mm_X7_areAlike 2 := ⟨mo_X7_areAlike, rfl, List.mem_of_getElem? (i := 1250) (by decide +kernel), List.mem_of_getElem? (i := 1252) (by decide +kernel), List.mem_of_getElem? (i := 57) (by decide +kernel)⟩
theorem mk_X7_207 : mw_mV RX7 207 mm_X7_isOwn 1 := ⟨mo_X7_isOwn, rfl, List.mem_of_getElem? (i := 1298) (by decide +kernel), List.mem_of_getElem? (i := 1300) (by decide +kernel), List.mem_of_getElem? (i := 59) (by decide +kernel)⟩
theorem nw_L_8 : Cond.classLink RL 8 RX6 ∈ lw_tbl ∧ Cond.instantiable RX6 11 ∈ lw_tbl ∧ Cond.initialized RX6 ∈ lw_tbl := ⟨List.mem_of_getElem? (i := 77) (by decide +kernel), List.mem_of_getElem? (i := 78) (by decide +kernel), List.mem_of_getElem? (i := 61) (by decide +kernel)⟩
theorem nw_L_117 : Cond.classLink RL 117 RX7 ∈ lw_tbl ∧ Cond.instantiable RX7 23 ∈ lw_tbl ∧ Cond.initialized RX7 ∈ lw_tbl := ⟨List.mem_of_getElem? (i := 949) (by decide +kernel), List.mem_of_getElem? (i := 950) (by decide +kernel), List.mem_of_getElem? (i := 66) (by decide +kernel)⟩
theorem nw_X1_9 : Cond.classLink RX1 9 RX2 ∈ lw_tbl ∧ Cond.instantiable RX2 10 ∈ lw_tbl ∧ Cond.initialized RX2 ∈ lw_tbl := ⟨List.mem_of_getElem? (i := 170) (by decide +kernel), List.mem_of_getElem? (i := 125) (by decide +kernel), List.mem_of_getElem? (i := 64) (by decide +kernel)⟩
theorem nw_X2_24 : Cond.classLink RX2 24 RX0 ∈ lw_tbl ∧ Cond.instantiable RX0 2 ∈ lw_tbl ∧ Cond.initialized RX0 ∈ lw_tbl := ⟨List.mem_of_getElem? (i := 130) (by decide +kernel), List.mem_of_getElem? (i := 90) (by decide +kernel), List.mem_of_getElem? (i := 62) (by decide +kernel)⟩
theorem nw_X3_7 : Cond.classLink RX3 7 RX0 ∈ lw_tbl ∧ Cond.instantiable RX0 2 ∈ lw_tbl ∧ Cond.initialized RX0 ∈ lw_tbl := ⟨List.mem_of_getElem? (i := 539) (by decide +kernel), List.mem_of_getElem? (i := 90) (by decide +kernel), List.mem_of_getElem? (i := 62) (by decide +kernel)⟩
theorem nq_X4_9 : Cond.classLink RX4 9 RX5 ∈ lw_tbl ∧ Cond.arrayOver (.object RX5) ∈ lw_tbl := ⟨List.mem_of_getElem? (i := 109) (by decide +kernel), List.mem_of_getElem? (i := 86) (by decide +kernel)⟩
theorem nq_X5_10 : Cond.classLink RX5 10 RX5 ∈ lw_tbl ∧ Cond.arrayOver (.object RX5) ∈ lw_tbl := ⟨List.mem_of_getElem? (i := 366) (by decide +kernel), List.mem_of_getElem? (i := 86) (by decide +kernel)⟩
theorem nw_X6_9 : Cond.classLink RX6 9 RX5 ∈ lw_tbl ∧ Cond.instantiable RX5 5 ∈ lw_tbl ∧ Cond.initialized RX5 ∈ lw_tbl := ⟨List.mem_of_getElem? (i := 85) (by decide +kernel), List.mem_of_getElem? (i := 361) (by decide +kernel), List.mem_of_getElem? (i := 71) (by decide +kernel)⟩
theorem nq_X6_9 : Cond.classLink RX6 9 RX5 ∈ lw_tbl ∧ Cond.arrayOver (.object RX5) ∈ lw_tbl := ⟨List.mem_of_getElem? (i := 85) (by decide +kernel), List.mem_of_getElem? (i := 86) (by decide +kernel)⟩
theorem nw_X6_15 : Cond.classLink RX6 15 RX3 ∈ lw_tbl ∧ Cond.instantiable RX3 2 ∈ lw_tbl ∧ Cond.initialized RX3 ∈ lw_tbl := ⟨List.mem_of_getElem? (i := 87) (by decide +kernel), List.mem_of_getElem? (i := 534) (by decide +kernel), List.mem_of_getElem? (i := 75) (by decide +kernel)⟩
theorem nq_X6_15 : Cond.classLink RX6 15 RX3 ∈ lw_tbl ∧ Cond.arrayOver (.object RX3) ∈ lw_tbl := ⟨List.mem_of_getElem? (i := 87) (by decide +kernel), List.mem_of_getElem? (i := 88) (by decide +kernel)⟩
theorem nw_X6_21 : Cond.classLink RX6 21 RX0 ∈ lw_tbl ∧ Cond.instantiable RX0 2 ∈ lw_tbl ∧ Cond.initialized RX0 ∈ lw_tbl := ⟨List.mem_of_getElem? (i := 89) (by decide +kernel), List.mem_of_getElem? (i := 90) (by decide +kernel), List.mem_of_getElem? (i := 62) (by decide +kernel)⟩
theorem nw_X6_28 : Cond.classLink RX6 28 RX4 ∈ lw_tbl ∧ Cond.instantiable RX4 4 ∈ lw_tbl ∧ Cond.initialized RX4 ∈ lw_tbl := ⟨List.mem_of_getElem? (i := 103) (by decide +kernel), List.mem_of_getElem? (i := 104) (by decide +kernel), List.mem_of_getElem? (i := 63) (by decide +kernel)⟩
theorem nw_X6_35 : Cond.classLink RX6 35 RX2 ∈ lw_tbl ∧ Cond.instantiable RX2 10 ∈ lw_tbl ∧ Cond.initialized RX2 ∈ lw_tbl := ⟨List.mem_of_getElem? (i := 124) (by decide +kernel), List.mem_of_getElem? (i := 125) (by decide +kernel), List.mem_of_getElem? (i := 64) (by decide +kernel)⟩
theorem nw_X6_42 : Cond.classLink RX6 42 RX1 ∈ lw_tbl ∧ Cond.instantiable RX1 4 ∈ lw_tbl ∧ Cond.initialized RX1 ∈ lw_tbl := ⟨List.mem_of_getElem? (i := 164) (by decide +kernel), List.mem_of_getElem? (i := 165) (by decide +kernel), List.mem_of_getElem? (i := 65) (by decide +kernel)⟩
theorem ac_int : Cond.arrayClass .int ∈ lw_tbl := List.mem_of_getElem? (i := 163) (by decide +kernel)
theorem ac_byte : Cond.arrayClass .byte ∈ lw_tbl := List.mem_of_getElem? (i := 102) (by decide +kernel)
theorem ac_boolean : Cond.arrayClass .boolean ∈ lw_tbl := List.mem_of_getElem? (i := 123) (by decide +kernel)
theorem ac_long : Cond.arrayClass .long ∈ lw_tbl := List.mem_of_getElem? (i := 1302) (by decide +kernel)
theorem ty_S : ∀ G : mw_G, (mw_tys G)[4]? = some (G.2.2.2.2 4, .object RX5) := fun _ => rfl
theorem ty_M : ∀ G : mw_G, (mw_tys G)[5]? = some (G.2.2.2.2 5, .object RX3) := fun _ => rfl
theorem th_X6_65_67_69 : mw_TH RX6 65 67 69 8 "java/lang/IllegalStateException" "there are 6 schemas" := ⟨by decide +kernel, List.mem_of_getElem? (i := 293) (by decide +kernel), List.mem_of_getElem? (i := 70) (by decide +kernel), by decide +kernel, by decide +kernel, rfl⟩
theorem th_X6_82_84_86 : mw_TH RX6 82 84 86 9 "java/lang/IllegalArgumentException" "there is no such kind" := ⟨by decide +kernel, List.mem_of_getElem? (i := 421) (by decide +kernel), List.mem_of_getElem? (i := 74) (by decide +kernel), by decide +kernel, by decide +kernel, rfl⟩
theorem th_X6_65_99_69 : mw_TH RX6 65 99 69 8 "java/lang/IllegalStateException" "the kind of the tag has no default" := ⟨by decide +kernel, List.mem_of_getElem? (i := 293) (by decide +kernel), List.mem_of_getElem? (i := 70) (by decide +kernel), by decide +kernel, by decide +kernel, rfl⟩
theorem th_X6_82_199_86 : mw_TH RX6 82 199 86 9 "java/lang/IllegalArgumentException" "the other message has not the schema of the part" := ⟨by decide +kernel, List.mem_of_getElem? (i := 421) (by decide +kernel), List.mem_of_getElem? (i := 74) (by decide +kernel), by decide +kernel, by decide +kernel, rfl⟩
theorem th_X6_65_247_69 : mw_TH RX6 65 247 69 8 "java/lang/IllegalStateException" "the bytes of the part have a fault" := ⟨by decide +kernel, List.mem_of_getElem? (i := 293) (by decide +kernel), List.mem_of_getElem? (i := 70) (by decide +kernel), by decide +kernel, by decide +kernel, rfl⟩
theorem th_X6_257_259_261 : mw_TH RX6 257 259 261 10 "java/lang/IndexOutOfBoundsException" "there is no such unknown field" := ⟨by decide +kernel, List.mem_of_getElem? (i := 401) (by decide +kernel), List.mem_of_getElem? (i := 73) (by decide +kernel), by decide +kernel, by decide +kernel, rfl⟩
theorem th_X6_65_274_69 : mw_TH RX6 65 274 69 8 "java/lang/IllegalStateException" "the tape has 120 bytes" := ⟨by decide +kernel, List.mem_of_getElem? (i := 293) (by decide +kernel), List.mem_of_getElem? (i := 70) (by decide +kernel), by decide +kernel, by decide +kernel, rfl⟩
theorem th_X6_257_276_261 : mw_TH RX6 257 276 261 10 "java/lang/IndexOutOfBoundsException" "the tape has no such length" := ⟨by decide +kernel, List.mem_of_getElem? (i := 401) (by decide +kernel), List.mem_of_getElem? (i := 73) (by decide +kernel), by decide +kernel, by decide +kernel, rfl⟩
theorem th_X6_257_233_261 : mw_TH RX6 257 233 261 10 "java/lang/IndexOutOfBoundsException" "there is no such byte" := ⟨by decide +kernel, List.mem_of_getElem? (i := 401) (by decide +kernel), List.mem_of_getElem? (i := 73) (by decide +kernel), by decide +kernel, by decide +kernel, rfl⟩
theorem th_X6_82_285_86 : mw_TH RX6 82 285 86 9 "java/lang/IllegalArgumentException" "the tape has a fault" := ⟨by decide +kernel, List.mem_of_getElem? (i := 421) (by decide +kernel), List.mem_of_getElem? (i := 74) (by decide +kernel), by decide +kernel, by decide +kernel, rfl⟩
theorem th_X6_257_287_261 : mw_TH RX6 257 287 261 10 "java/lang/IndexOutOfBoundsException" "there is no such schema" := ⟨by decide +kernel, List.mem_of_getElem? (i := 401) (by decide +kernel), List.mem_of_getElem? (i := 73) (by decide +kernel), by decide +kernel, by decide +kernel, rfl⟩
theorem th_X6_257_289_261 : mw_TH RX6 257 289 261 10 "java/lang/IndexOutOfBoundsException" "there is no such message" := ⟨by decide +kernel, List.mem_of_getElem? (i := 401) (by decide +kernel), List.mem_of_getElem? (i := 73) (by decide +kernel), by decide +kernel, by decide +kernel, rfl⟩
theorem th_X6_82_294_86 : mw_TH RX6 82 294 86 9 "java/lang/IllegalArgumentException" "tag is not 1 to 31" := ⟨by decide +kernel, List.mem_of_getElem? (i := 421) (by decide +kernel), List.mem_of_getElem? (i := 74) (by decide +kernel), by decide +kernel, by decide +kernel, rfl⟩
theorem th_X6_82_296_86 : mw_TH RX6 82 296 86 9 "java/lang/IllegalArgumentException" "the tag has not PLAIN, SIGNED or FOUR" := ⟨by decide +kernel, List.mem_of_getElem? (i := 421) (by decide +kernel), List.mem_of_getElem? (i := 74) (by decide +kernel), by decide +kernel, by decide +kernel, rfl⟩
theorem th_X6_82_301_86 : mw_TH RX6 82 301 86 9 "java/lang/IllegalArgumentException" "the tag has not TEXT or PART" := ⟨by decide +kernel, List.mem_of_getElem? (i := 421) (by decide +kernel), List.mem_of_getElem? (i := 74) (by decide +kernel), by decide +kernel, by decide +kernel, rfl⟩
theorem th_X6_82_306_86 : mw_TH RX6 82 306 86 9 "java/lang/IllegalArgumentException" "the tag has not PART" := ⟨by decide +kernel, List.mem_of_getElem? (i := 421) (by decide +kernel), List.mem_of_getElem? (i := 74) (by decide +kernel), by decide +kernel, by decide +kernel, rfl⟩
theorem th_X6_65_313_69 : mw_TH RX6 65 313 69 8 "java/lang/IllegalStateException" "there are 12 messages" := ⟨by decide +kernel, List.mem_of_getElem? (i := 293) (by decide +kernel), List.mem_of_getElem? (i := 70) (by decide +kernel), by decide +kernel, by decide +kernel, rfl⟩
theorem th_X6_65_315_69 : mw_TH RX6 65 315 69 8 "java/lang/IllegalStateException" "the weight would be above 120" := ⟨by decide +kernel, List.mem_of_getElem? (i := 293) (by decide +kernel), List.mem_of_getElem? (i := 70) (by decide +kernel), by decide +kernel, by decide +kernel, rfl⟩
theorem cl_L_13 : Cond.classLink RL 13 "java/lang/IllegalStateException" ∈ lw_tbl := List.mem_of_getElem? (i := 288) (by decide +kernel)
theorem cl_L_19 : Cond.classLink RL 19 "java/lang/IndexOutOfBoundsException" ∈ lw_tbl := List.mem_of_getElem? (i := 391) (by decide +kernel)
theorem cl_L_21 : Cond.classLink RL 21 "java/lang/IllegalArgumentException" ∈ lw_tbl := List.mem_of_getElem? (i := 392) (by decide +kernel)
theorem cl_L_75 : Cond.classLink RL 75 "java/util/NoSuchElementException" ∈ lw_tbl := List.mem_of_getElem? (i := 810) (by decide +kernel)
theorem ca_8 : Cond.castable "java/lang/IllegalStateException" "java/lang/IllegalStateException" ∈ lw_tbl := List.mem_of_getElem? (i := 295) (by decide +kernel)
theorem ca_9 : Cond.castable "java/lang/IllegalArgumentException" "java/lang/IllegalArgumentException" ∈ lw_tbl := List.mem_of_getElem? (i := 423) (by decide +kernel)
theorem ca_10 : Cond.castable "java/lang/IndexOutOfBoundsException" "java/lang/IndexOutOfBoundsException" ∈ lw_tbl := List.mem_of_getElem? (i := 403) (by decide +kernel)
theorem ca_11 : Cond.castable "java/util/NoSuchElementException" "java/util/NoSuchElementException" ∈ lw_tbl := List.mem_of_getElem? (i := 820) (by decide +kernel)
