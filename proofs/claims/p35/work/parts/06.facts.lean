set_option maxRecDepth 100000 in
theorem cf_0 : mw_CF RX0 TX0 2 tyX0 := ⟨by decide +kernel, by decide +kernel, tyX0_ok, nmX0⟩
set_option maxRecDepth 100000 in
theorem cf_1 : mw_CF RX1 TX1 4 tyX1 := ⟨by decide +kernel, by decide +kernel, tyX1_ok, nmX1⟩
set_option maxRecDepth 100000 in
theorem cf_2 : mw_CF RX2 TX2 10 tyX2 := ⟨by decide +kernel, by decide +kernel, tyX2_ok, nmX2⟩
set_option maxRecDepth 100000 in
theorem cf_3 : mw_CF RX3 TX3 2 tyX3 := ⟨by decide +kernel, by decide +kernel, tyX3_ok, nmX3⟩
set_option maxRecDepth 100000 in
theorem cf_4 : mw_CF RX4 TX4 4 tyX4 := ⟨by decide +kernel, by decide +kernel, tyX4_ok, nmX4⟩
set_option maxRecDepth 100000 in
theorem cf_5 : mw_CF RX5 TX5 5 tyX5 := ⟨by decide +kernel, by decide +kernel, tyX5_ok, nmX5⟩
set_option maxRecDepth 100000 in
theorem cf_6 : mw_CF RX6 TX6 11 tyX6 := ⟨by decide +kernel, by decide +kernel, tyX6_ok, nmX6⟩
set_option maxRecDepth 100000 in
theorem fk_X0_9 : mw_F RX0 9 0 0 (.array .byte) true := ⟨RX0, TX0, 2, tyX0, rfl, cf_0, by decide, rfl, rfl, rfl, List.mem_of_getElem? (i := 63) rfl⟩
set_option maxRecDepth 100000 in
theorem fk_X0_15 : mw_F RX0 15 0 1 (.int) false := ⟨RX0, TX0, 2, tyX0, rfl, cf_0, by decide, rfl, rfl, rfl, List.mem_of_getElem? (i := 64) rfl⟩
set_option maxRecDepth 100000 in
theorem fk_X1_12 : mw_F RX1 12 1 0 (.object "Schemabridge$Fields") true := ⟨RX1, TX1, 4, tyX1, rfl, cf_1, by decide, rfl, rfl, rfl, List.mem_of_getElem? (i := 140) rfl⟩
set_option maxRecDepth 100000 in
theorem fk_X1_18 : mw_F RX1 18 1 1 (.array .int) true := ⟨RX1, TX1, 4, tyX1, rfl, cf_1, by decide, rfl, rfl, rfl, List.mem_of_getElem? (i := 141) rfl⟩
set_option maxRecDepth 100000 in
theorem fk_X1_22 : mw_F RX1 22 1 2 (.array .int) true := ⟨RX1, TX1, 4, tyX1, rfl, cf_1, by decide, rfl, rfl, rfl, List.mem_of_getElem? (i := 142) rfl⟩
set_option maxRecDepth 100000 in
theorem fk_X1_39 : mw_F RX1 39 1 3 (.int) false := ⟨RX1, TX1, 4, tyX1, rfl, cf_1, by decide, rfl, rfl, rfl, List.mem_of_getElem? (i := 143) rfl⟩
set_option maxRecDepth 100000 in
theorem fk_X2_9 : mw_F RX2 9 2 0 (.array .int) true := ⟨RX2, TX2, 10, tyX2, rfl, cf_2, by decide, rfl, rfl, rfl, List.mem_of_getElem? (i := 100) rfl⟩
set_option maxRecDepth 100000 in
theorem fk_X2_15 : mw_F RX2 15 2 1 (.array .int) true := ⟨RX2, TX2, 10, tyX2, rfl, cf_2, by decide, rfl, rfl, rfl, List.mem_of_getElem? (i := 101) rfl⟩
set_option maxRecDepth 100000 in
theorem fk_X2_18 : mw_F RX2 18 2 2 (.array .int) true := ⟨RX2, TX2, 10, tyX2, rfl, cf_2, by decide, rfl, rfl, rfl, List.mem_of_getElem? (i := 102) rfl⟩
set_option maxRecDepth 100000 in
theorem fk_X2_21 : mw_F RX2 21 2 3 (.array .int) true := ⟨RX2, TX2, 10, tyX2, rfl, cf_2, by decide, rfl, rfl, rfl, List.mem_of_getElem? (i := 103) rfl⟩
set_option maxRecDepth 100000 in
theorem fk_X2_27 : mw_F RX2 27 2 5 (.object "Schemabridge$Bytes") false := ⟨RX2, TX2, 10, tyX2, rfl, cf_2, by decide, rfl, rfl, rfl, List.mem_of_getElem? (i := 105) rfl⟩
set_option maxRecDepth 100000 in
theorem fk_X2_31 : mw_F RX2 31 2 9 (.int) false := ⟨RX2, TX2, 10, tyX2, rfl, cf_2, by decide, rfl, rfl, rfl, List.mem_of_getElem? (i := 109) rfl⟩
set_option maxRecDepth 100000 in
theorem fk_X2_35 : mw_F RX2 35 2 6 (.int) false := ⟨RX2, TX2, 10, tyX2, rfl, cf_2, by decide, rfl, rfl, rfl, List.mem_of_getElem? (i := 106) rfl⟩
set_option maxRecDepth 100000 in
theorem fk_X2_38 : mw_F RX2 38 2 7 (.int) false := ⟨RX2, TX2, 10, tyX2, rfl, cf_2, by decide, rfl, rfl, rfl, List.mem_of_getElem? (i := 107) rfl⟩
set_option maxRecDepth 100000 in
theorem fk_X2_41 : mw_F RX2 41 2 4 (.int) false := ⟨RX2, TX2, 10, tyX2, rfl, cf_2, by decide, rfl, rfl, rfl, List.mem_of_getElem? (i := 104) rfl⟩
set_option maxRecDepth 100000 in
theorem fk_X2_44 : mw_F RX2 44 2 8 (.int) false := ⟨RX2, TX2, 10, tyX2, rfl, cf_2, by decide, rfl, rfl, rfl, List.mem_of_getElem? (i := 108) rfl⟩
set_option maxRecDepth 100000 in
theorem fk_X3_10 : mw_F RX3 10 3 1 (.object "Schemabridge$Bytes") true := ⟨RX3, TX3, 2, tyX3, rfl, cf_3, by decide, rfl, rfl, rfl, List.mem_of_getElem? (i := 418) rfl⟩
set_option maxRecDepth 100000 in
theorem fk_X3_16 : mw_F RX3 16 3 0 (.object "Schemabridge$Schema") true := ⟨RX3, TX3, 2, tyX3, rfl, cf_3, by decide, rfl, rfl, rfl, List.mem_of_getElem? (i := 416) rfl⟩
set_option maxRecDepth 100000 in
theorem fk_X4_11 : mw_F RX4 11 4 0 (.array (.object "Schemabridge$Schema")) true := ⟨RX4, TX4, 4, tyX4, rfl, cf_4, by decide, rfl, rfl, rfl, List.mem_of_getElem? (i := 78) rfl⟩
set_option maxRecDepth 100000 in
theorem fk_X4_17 : mw_F RX4 17 4 1 (.array (.object "Schemabridge$Schema")) true := ⟨RX4, TX4, 4, tyX4, rfl, cf_4, by decide, rfl, rfl, rfl, List.mem_of_getElem? (i := 79) rfl⟩
set_option maxRecDepth 100000 in
theorem fk_X4_20 : mw_F RX4 20 4 2 (.array .boolean) true := ⟨RX4, TX4, 4, tyX4, rfl, cf_4, by decide, rfl, rfl, rfl, List.mem_of_getElem? (i := 80) rfl⟩
set_option maxRecDepth 100000 in
theorem fk_X4_39 : mw_F RX4 39 4 3 (.int) false := ⟨RX4, TX4, 4, tyX4, rfl, cf_4, by decide, rfl, rfl, rfl, List.mem_of_getElem? (i := 81) rfl⟩
set_option maxRecDepth 100000 in
theorem fk_X4_55 : mw_F RX4 55 5 0 (.int) true := ⟨RX5, TX5, 5, tyX5, rfl, cf_5, by decide, rfl, rfl, rfl, List.mem_of_getElem? (i := 346) rfl⟩
set_option maxRecDepth 100000 in
theorem fk_X5_9 : mw_F RX5 9 5 1 (.array .int) true := ⟨RX5, TX5, 5, tyX5, rfl, cf_5, by decide, rfl, rfl, rfl, List.mem_of_getElem? (i := 348) rfl⟩
set_option maxRecDepth 100000 in
theorem fk_X5_15 : mw_F RX5 15 5 2 (.array .int) true := ⟨RX5, TX5, 5, tyX5, rfl, cf_5, by decide, rfl, rfl, rfl, List.mem_of_getElem? (i := 349) rfl⟩
set_option maxRecDepth 100000 in
theorem fk_X5_18 : mw_F RX5 18 5 3 (.array .int) true := ⟨RX5, TX5, 5, tyX5, rfl, cf_5, by decide, rfl, rfl, rfl, List.mem_of_getElem? (i := 350) rfl⟩
set_option maxRecDepth 100000 in
theorem fk_X5_21 : mw_F RX5 21 5 4 (.array (.object "Schemabridge$Schema")) true := ⟨RX5, TX5, 5, tyX5, rfl, cf_5, by decide, rfl, rfl, rfl, List.mem_of_getElem? (i := 351) rfl⟩
set_option maxRecDepth 100000 in
theorem fk_X5_25 : mw_F RX5 25 5 0 (.int) true := ⟨RX5, TX5, 5, tyX5, rfl, cf_5, by decide, rfl, rfl, rfl, List.mem_of_getElem? (i := 345) rfl⟩
set_option maxRecDepth 100000 in
theorem fk_X6_11 : mw_F RX6 11 6 0 (.array (.object "Schemabridge$Schema")) true := ⟨RX6, TX6, 11, tyX6, rfl, cf_6, by decide, rfl, rfl, rfl, List.mem_of_getElem? (i := 153) rfl⟩
set_option maxRecDepth 100000 in
theorem fk_X6_17 : mw_F RX6 17 6 1 (.array (.object "Schemabridge$Message")) true := ⟨RX6, TX6, 11, tyX6, rfl, cf_6, by decide, rfl, rfl, rfl, List.mem_of_getElem? (i := 154) rfl⟩
set_option maxRecDepth 100000 in
theorem fk_X6_24 : mw_F RX6 24 6 2 (.object "Schemabridge$Bytes") true := ⟨RX6, TX6, 11, tyX6, rfl, cf_6, by decide, rfl, rfl, rfl, List.mem_of_getElem? (i := 155) rfl⟩
set_option maxRecDepth 100000 in
theorem fk_X6_31 : mw_F RX6 31 6 4 (.object "Schemabridge$PairSearch") true := ⟨RX6, TX6, 11, tyX6, rfl, cf_6, by decide, rfl, rfl, rfl, List.mem_of_getElem? (i := 157) rfl⟩
set_option maxRecDepth 100000 in
theorem fk_X6_38 : mw_F RX6 38 6 5 (.object "Schemabridge$Fields") true := ⟨RX6, TX6, 11, tyX6, rfl, cf_6, by decide, rfl, rfl, rfl, List.mem_of_getElem? (i := 158) rfl⟩
set_option maxRecDepth 100000 in
theorem fk_X6_45 : mw_F RX6 45 6 6 (.object "Schemabridge$Canon") true := ⟨RX6, TX6, 11, tyX6, rfl, cf_6, by decide, rfl, rfl, rfl, List.mem_of_getElem? (i := 159) rfl⟩
set_option maxRecDepth 100000 in
theorem fk_X6_49 : mw_F RX6 49 6 7 (.object "Schemabridge$Canon") true := ⟨RX6, TX6, 11, tyX6, rfl, cf_6, by decide, rfl, rfl, rfl, List.mem_of_getElem? (i := 160) rfl⟩
set_option maxRecDepth 100000 in
theorem fk_X6_52 : mw_F RX6 52 6 8 (.object "Schemabridge$Bytes") true := ⟨RX6, TX6, 11, tyX6, rfl, cf_6, by decide, rfl, rfl, rfl, List.mem_of_getElem? (i := 161) rfl⟩
set_option maxRecDepth 100000 in
theorem fk_X6_55 : mw_F RX6 55 6 9 (.object "Schemabridge$Bytes") true := ⟨RX6, TX6, 11, tyX6, rfl, cf_6, by decide, rfl, rfl, rfl, List.mem_of_getElem? (i := 162) rfl⟩
set_option maxRecDepth 100000 in
theorem fk_X6_58 : mw_F RX6 58 6 10 (.object "Schemabridge$Bytes") true := ⟨RX6, TX6, 11, tyX6, rfl, cf_6, by decide, rfl, rfl, rfl, List.mem_of_getElem? (i := 163) rfl⟩
set_option maxRecDepth 100000 in
theorem fk_X6_61 : mw_F RX6 61 6 3 (.int) false := ⟨RX6, TX6, 11, tyX6, rfl, cf_6, by decide, rfl, rfl, rfl, List.mem_of_getElem? (i := 156) rfl⟩
set_option maxRecDepth 100000 in
theorem fk_X6_123 : mw_F RX6 123 3 1 (.object "Schemabridge$Bytes") true := ⟨RX3, TX3, 2, tyX3, rfl, cf_3, by decide, rfl, rfl, rfl, List.mem_of_getElem? (i := 419) rfl⟩
set_option maxRecDepth 100000 in
theorem fk_X6_141 : mw_F RX6 141 3 0 (.object "Schemabridge$Schema") true := ⟨RX3, TX3, 2, tyX3, rfl, cf_3, by decide, rfl, rfl, rfl, List.mem_of_getElem? (i := 417) rfl⟩
set_option maxRecDepth 100000 in
theorem fk_X6_218 : mw_F RX6 218 5 0 (.int) true := ⟨RX5, TX5, 5, tyX5, rfl, cf_5, by decide, rfl, rfl, rfl, List.mem_of_getElem? (i := 347) rfl⟩
abbrev mm_X0_init : mw_M := (yX0_init, cX0_init, 1, none, [])
set_option maxRecDepth 100000 in
theorem mo_X0_init : mw_mO mm_X0_init 0 := ⟨List.mem_of_getElem? (i := 61) rfl, List.mem_of_getElem? (i := 31) rfl, ⟨by decide +kernel, by decide +kernel⟩, by decide +kernel, by decide⟩
abbrev mm_X0_count : mw_M := (yX0_count, cX0_count, 1, some (.int), [])
set_option maxRecDepth 100000 in
theorem mo_X0_count : mw_mO mm_X0_count 0 := ⟨List.mem_of_getElem? (i := 454) rfl, List.mem_of_getElem? (i := 31) rfl, ⟨by decide +kernel, by decide +kernel⟩, by decide +kernel, by decide⟩
abbrev mm_X0_at : mw_M := (yX0_at, cX0_at, 2, some (.byte), [])
set_option maxRecDepth 100000 in
theorem mo_X0_at : mw_mO mm_X0_at 1 := ⟨List.mem_of_getElem? (i := 475) rfl, List.mem_of_getElem? (i := 31) rfl, ⟨by decide +kernel, by decide +kernel⟩, by decide +kernel, by decide⟩
abbrev mm_X0_keepFirst : mw_M := (yX0_keepFirst, cX0_keepFirst, 2, none, [])
set_option maxRecDepth 100000 in
theorem mo_X0_keepFirst : mw_mO mm_X0_keepFirst 1 := ⟨List.mem_of_getElem? (i := 466) rfl, List.mem_of_getElem? (i := 31) rfl, ⟨by decide +kernel, by decide +kernel⟩, by decide +kernel, by decide⟩
abbrev mm_X0_add : mw_M := (yX0_add, cX0_add, 2, none, [])
set_option maxRecDepth 100000 in
theorem mo_X0_add : mw_mO mm_X0_add 1 := ⟨List.mem_of_getElem? (i := 479) rfl, List.mem_of_getElem? (i := 31) rfl, ⟨by decide +kernel, by decide +kernel⟩, by decide +kernel, by decide⟩
abbrev mm_X0_addRange : mw_M := (yX0_addRange, cX0_addRange, 5, none, [])
set_option maxRecDepth 100000 in
theorem mo_X0_addRange : mw_mO mm_X0_addRange 3 := ⟨List.mem_of_getElem? (i := 471) rfl, List.mem_of_getElem? (i := 31) rfl, ⟨by decide +kernel, by decide +kernel⟩, by decide +kernel, by decide⟩
abbrev mm_X0_replaceBy : mw_M := (yX0_replaceBy, cX0_replaceBy, 2, none, [])
set_option maxRecDepth 100000 in
theorem mo_X0_replaceBy : mw_mO mm_X0_replaceBy 1 := ⟨List.mem_of_getElem? (i := 462) rfl, List.mem_of_getElem? (i := 31) rfl, ⟨by decide +kernel, by decide +kernel⟩, by decide +kernel, by decide⟩
abbrev mm_X0_addNumberField : mw_M := (yX0_addNumberField, cX0_addNumberField, 4, none, [])
set_option maxRecDepth 100000 in
theorem mo_X0_addNumberField : mw_mO mm_X0_addNumberField 3 := ⟨List.mem_of_getElem? (i := 602) rfl, List.mem_of_getElem? (i := 31) rfl, ⟨by decide +kernel, by decide +kernel⟩, by decide +kernel, by decide⟩
abbrev mm_X0_addBytesHead : mw_M := (yX0_addBytesHead, cX0_addBytesHead, 3, none, [])
set_option maxRecDepth 100000 in
theorem mo_X0_addBytesHead : mw_mO mm_X0_addBytesHead 2 := ⟨List.mem_of_getElem? (i := 581) rfl, List.mem_of_getElem? (i := 31) rfl, ⟨by decide +kernel, by decide +kernel⟩, by decide +kernel, by decide⟩
abbrev mm_X0_isSameAs : mw_M := (yX0_isSameAs, cX0_isSameAs, 2, some (.boolean), [])
set_option maxRecDepth 100000 in
theorem mo_X0_isSameAs : mw_mO mm_X0_isSameAs 1 := ⟨List.mem_of_getElem? (i := 956) rfl, List.mem_of_getElem? (i := 31) rfl, ⟨by decide +kernel, by decide +kernel⟩, by decide +kernel, by decide⟩
abbrev mm_X0_hasSameRange : mw_M := (yX0_hasSameRange, cX0_hasSameRange, 6, some (.boolean), [])
set_option maxRecDepth 100000 in
theorem mo_X0_hasSameRange : mw_mO mm_X0_hasSameRange 4 := ⟨List.mem_of_getElem? (i := 948) rfl, List.mem_of_getElem? (i := 31) rfl, ⟨by decide +kernel, by decide +kernel⟩, by decide +kernel, by decide⟩
abbrev mm_X0_addKey : mw_M := (yX0_addKey, cX0_addKey, 3, none, [])
set_option maxRecDepth 100000 in
theorem mo_X0_addKey : mw_mO mm_X0_addKey 2 := ⟨List.mem_of_getElem? (i := 585) rfl, List.mem_of_getElem? (i := 31) rfl, ⟨by decide +kernel, by decide +kernel⟩, by decide +kernel, by decide⟩
abbrev mm_X0_addGroups : mw_M := (yX0_addGroups, cX0_addGroups, 4, none, [])
set_option maxRecDepth 100000 in
theorem mo_X0_addGroups : mw_mO mm_X0_addGroups 1 := ⟨List.mem_of_getElem? (i := 589) rfl, List.mem_of_getElem? (i := 31) rfl, ⟨by decide +kernel, by decide +kernel⟩, by decide +kernel, by decide⟩
abbrev mm_X0_addFour : mw_M := (yX0_addFour, cX0_addFour, 3, none, [])
set_option maxRecDepth 100000 in
theorem mo_X0_addFour : mw_mO mm_X0_addFour 1 := ⟨List.mem_of_getElem? (i := 606) rfl, List.mem_of_getElem? (i := 31) rfl, ⟨by decide +kernel, by decide +kernel⟩, by decide +kernel, by decide⟩
abbrev mm_X1_init : mw_M := (yX1_init, cX1_init, 1, none, [])
set_option maxRecDepth 100000 in
theorem mo_X1_init : mw_mO mm_X1_init 0 := ⟨List.mem_of_getElem? (i := 136) rfl, List.mem_of_getElem? (i := 34) rfl, ⟨by decide +kernel, by decide +kernel⟩, by decide +kernel, by decide⟩
abbrev mm_X1_choose : mw_M := (yX1_choose, cX1_choose, 4, none, [])
set_option maxRecDepth 100000 in
theorem mo_X1_choose : mw_mO mm_X1_choose 2 := ⟨List.mem_of_getElem? (i := 727) rfl, List.mem_of_getElem? (i := 34) rfl, ⟨by decide +kernel, by decide +kernel⟩, by decide +kernel, by decide⟩
abbrev mm_X1_writeTo : mw_M := (yX1_writeTo, cX1_writeTo, 3, none, [])
set_option maxRecDepth 100000 in
theorem mo_X1_writeTo : mw_mO mm_X1_writeTo 1 := ⟨List.mem_of_getElem? (i := 758) rfl, List.mem_of_getElem? (i := 34) rfl, ⟨by decide +kernel, by decide +kernel⟩, by decide +kernel, by decide⟩
abbrev mm_X1_hasSameFields : mw_M := (yX1_hasSameFields, cX1_hasSameFields, 3, some (.boolean), [])
set_option maxRecDepth 100000 in
theorem mo_X1_hasSameFields : mw_mO mm_X1_hasSameFields 1 := ⟨List.mem_of_getElem? (i := 940) rfl, List.mem_of_getElem? (i := 34) rfl, ⟨by decide +kernel, by decide +kernel⟩, by decide +kernel, by decide⟩
abbrev mm_X1_placeAt : mw_M := (yX1_placeAt, cX1_placeAt, 2, some (.int), [])
set_option maxRecDepth 100000 in
theorem mo_X1_placeAt : mw_mO mm_X1_placeAt 1 := ⟨List.mem_of_getElem? (i := 763) rfl, List.mem_of_getElem? (i := 34) rfl, ⟨by decide +kernel, by decide +kernel⟩, by decide +kernel, by decide⟩
abbrev mm_X1_noteLasts : mw_M := (yX1_noteLasts, cX1_noteLasts, 4, none, [])
set_option maxRecDepth 100000 in
theorem mo_X1_noteLasts : mw_mO mm_X1_noteLasts 1 := ⟨List.mem_of_getElem? (i := 733) rfl, List.mem_of_getElem? (i := 34) rfl, ⟨by decide +kernel, by decide +kernel⟩, by decide +kernel, by decide⟩
abbrev mm_X1_isToldBy : mw_M := (yX1_isToldBy, cX1_isToldBy, 4, some (.boolean), [])
set_option maxRecDepth 100000 in
theorem mo_X1_isToldBy : mw_mO mm_X1_isToldBy 2 := ⟨List.mem_of_getElem? (i := 742) rfl, List.mem_of_getElem? (i := 34) rfl, ⟨by decide +kernel, by decide +kernel⟩, by decide +kernel, by decide⟩
abbrev mm_X1_insert : mw_M := (yX1_insert, cX1_insert, 3, none, [])
set_option maxRecDepth 100000 in
theorem mo_X1_insert : mw_mO mm_X1_insert 1 := ⟨List.mem_of_getElem? (i := 754) rfl, List.mem_of_getElem? (i := 34) rfl, ⟨by decide +kernel, by decide +kernel⟩, by decide +kernel, by decide⟩
abbrev mm_X2_init : mw_M := (yX2_init, cX2_init, 1, none, [])
set_option maxRecDepth 100000 in
theorem mo_X2_init : mw_mO mm_X2_init 0 := ⟨List.mem_of_getElem? (i := 96) rfl, List.mem_of_getElem? (i := 33) rfl, ⟨by decide +kernel, by decide +kernel⟩, by decide +kernel, by decide⟩
abbrev mm_X2_scan : mw_M := (yX2_scan, cX2_scan, 6, none, [])
set_option maxRecDepth 100000 in
theorem mo_X2_scan : mw_mO mm_X2_scan 3 := ⟨List.mem_of_getElem? (i := 495) rfl, List.mem_of_getElem? (i := 33) rfl, ⟨by decide +kernel, by decide +kernel⟩, by decide +kernel, by decide⟩
abbrev mm_X2_count : mw_M := (yX2_count, cX2_count, 1, some (.int), [])
set_option maxRecDepth 100000 in
theorem mo_X2_count : mw_mO mm_X2_count 0 := ⟨List.mem_of_getElem? (i := 524) rfl, List.mem_of_getElem? (i := 33) rfl, ⟨by decide +kernel, by decide +kernel⟩, by decide +kernel, by decide⟩
abbrev mm_X2_problem : mw_M := (yX2_problem, cX2_problem, 1, some (.int), [])
set_option maxRecDepth 100000 in
theorem mo_X2_problem : mw_mO mm_X2_problem 0 := ⟨List.mem_of_getElem? (i := 832) rfl, List.mem_of_getElem? (i := 33) rfl, ⟨by decide +kernel, by decide +kernel⟩, by decide +kernel, by decide⟩
abbrev mm_X2_problemAt : mw_M := (yX2_problemAt, cX2_problemAt, 1, some (.int), [])
set_option maxRecDepth 100000 in
theorem mo_X2_problemAt : mw_mO mm_X2_problemAt 0 := ⟨List.mem_of_getElem? (i := 891) rfl, List.mem_of_getElem? (i := 33) rfl, ⟨by decide +kernel, by decide +kernel⟩, by decide +kernel, by decide⟩
abbrev mm_X2_tagAt : mw_M := (yX2_tagAt, cX2_tagAt, 2, some (.int), [])
set_option maxRecDepth 100000 in
theorem mo_X2_tagAt : mw_mO mm_X2_tagAt 1 := ⟨List.mem_of_getElem? (i := 548) rfl, List.mem_of_getElem? (i := 33) rfl, ⟨by decide +kernel, by decide +kernel⟩, by decide +kernel, by decide⟩
abbrev mm_X2_typeAt : mw_M := (yX2_typeAt, cX2_typeAt, 2, some (.int), [])
set_option maxRecDepth 100000 in
theorem mo_X2_typeAt : mw_mO mm_X2_typeAt 1 := ⟨List.mem_of_getElem? (i := 568) rfl, List.mem_of_getElem? (i := 33) rfl, ⟨by decide +kernel, by decide +kernel⟩, by decide +kernel, by decide⟩
abbrev mm_X2_numberAt : mw_M := (yX2_numberAt, cX2_numberAt, 2, some (.int), [])
set_option maxRecDepth 100000 in
theorem mo_X2_numberAt : mw_mO mm_X2_numberAt 1 := ⟨List.mem_of_getElem? (i := 577) rfl, List.mem_of_getElem? (i := 33) rfl, ⟨by decide +kernel, by decide +kernel⟩, by decide +kernel, by decide⟩
abbrev mm_X2_endAt : mw_M := (yX2_endAt, cX2_endAt, 2, some (.int), [])
set_option maxRecDepth 100000 in
theorem mo_X2_endAt : mw_mO mm_X2_endAt 1 := ⟨List.mem_of_getElem? (i := 597) rfl, List.mem_of_getElem? (i := 33) rfl, ⟨by decide +kernel, by decide +kernel⟩, by decide +kernel, by decide⟩
abbrev mm_X2_bytesAt : mw_M := (yX2_bytesAt, cX2_bytesAt, 2, some (.int), [])
set_option maxRecDepth 100000 in
theorem mo_X2_bytesAt : mw_mO mm_X2_bytesAt 1 := ⟨List.mem_of_getElem? (i := 573) rfl, List.mem_of_getElem? (i := 33) rfl, ⟨by decide +kernel, by decide +kernel⟩, by decide +kernel, by decide⟩
abbrev mm_X2_bytesBeginAt : mw_M := (yX2_bytesBeginAt, cX2_bytesBeginAt, 2, some (.int), [])
set_option maxRecDepth 100000 in
theorem mo_X2_bytesBeginAt : mw_mO mm_X2_bytesBeginAt 1 := ⟨List.mem_of_getElem? (i := 593) rfl, List.mem_of_getElem? (i := 33) rfl, ⟨by decide +kernel, by decide +kernel⟩, by decide +kernel, by decide⟩
abbrev mm_X2_isKnown : mw_M := (yX2_isKnown, cX2_isKnown, 3, some (.boolean), [])
set_option maxRecDepth 100000 in
theorem mo_X2_isKnown : mw_mO mm_X2_isKnown 2 := ⟨List.mem_of_getElem? (i := 556) rfl, List.mem_of_getElem? (i := 33) rfl, ⟨by decide +kernel, by decide +kernel⟩, by decide +kernel, by decide⟩
abbrev mm_X2_lastKnown : mw_M := (yX2_lastKnown, cX2_lastKnown, 4, some (.int), [])
set_option maxRecDepth 100000 in
theorem mo_X2_lastKnown : mw_mO mm_X2_lastKnown 2 := ⟨List.mem_of_getElem? (i := 629) rfl, List.mem_of_getElem? (i := 33) rfl, ⟨by decide +kernel, by decide +kernel⟩, by decide +kernel, by decide⟩
abbrev mm_X2_writeTo : mw_M := (yX2_writeTo, cX2_writeTo, 3, none, [])
set_option maxRecDepth 100000 in
theorem mo_X2_writeTo : mw_mO mm_X2_writeTo 2 := ⟨List.mem_of_getElem? (i := 564) rfl, List.mem_of_getElem? (i := 33) rfl, ⟨by decide +kernel, by decide +kernel⟩, by decide +kernel, by decide⟩
abbrev mm_X2_isSameAt : mw_M := (yX2_isSameAt, cX2_isSameAt, 4, some (.boolean), [])
set_option maxRecDepth 100000 in
theorem mo_X2_isSameAt : mw_mO mm_X2_isSameAt 3 := ⟨List.mem_of_getElem? (i := 944) rfl, List.mem_of_getElem? (i := 33) rfl, ⟨by decide +kernel, by decide +kernel⟩, by decide +kernel, by decide⟩
abbrev mm_X2_isPlace : mw_M := (yX2_isPlace, cX2_isPlace, 2, some (.boolean), [])
set_option maxRecDepth 100000 in
theorem mo_X2_isPlace : mw_mO mm_X2_isPlace 1 := ⟨List.mem_of_getElem? (i := 552) rfl, List.mem_of_getElem? (i := 33) rfl, ⟨by decide +kernel, by decide +kernel⟩, by decide +kernel, by decide⟩
abbrev mm_X2_scanField : mw_M := (yX2_scanField, cX2_scanField, 5, none, [])
set_option maxRecDepth 100000 in
theorem mo_X2_scanField : mw_mO mm_X2_scanField 0 := ⟨List.mem_of_getElem? (i := 499) rfl, List.mem_of_getElem? (i := 33) rfl, ⟨by decide +kernel, by decide +kernel⟩, by decide +kernel, by decide⟩
abbrev mm_X2_keyProblem : mw_M := (yX2_keyProblem, cX2_keyProblem, 2, some (.int), [])
set_option maxRecDepth 100000 in
theorem mo_X2_keyProblem : mw_mO mm_X2_keyProblem 2 := ⟨List.mem_of_getElem? (i := 507) rfl, List.mem_of_getElem? (i := 33) rfl, ⟨by decide +kernel, by decide +kernel⟩, by decide +kernel, by decide⟩
abbrev mm_X2_scanGroups : mw_M := (yX2_scanGroups, cX2_scanGroups, 4, some (.int), [])
set_option maxRecDepth 100000 in
theorem mo_X2_scanGroups : mw_mO mm_X2_scanGroups 0 := ⟨List.mem_of_getElem? (i := 503) rfl, List.mem_of_getElem? (i := 33) rfl, ⟨by decide +kernel, by decide +kernel⟩, by decide +kernel, by decide⟩
abbrev mm_X2_scanFour : mw_M := (yX2_scanFour, cX2_scanFour, 3, some (.int), [])
set_option maxRecDepth 100000 in
theorem mo_X2_scanFour : mw_mO mm_X2_scanFour 0 := ⟨List.mem_of_getElem? (i := 512) rfl, List.mem_of_getElem? (i := 33) rfl, ⟨by decide +kernel, by decide +kernel⟩, by decide +kernel, by decide⟩
abbrev mm_X2_skipBytes : mw_M := (yX2_skipBytes, cX2_skipBytes, 2, none, [])
set_option maxRecDepth 100000 in
theorem mo_X2_skipBytes : mw_mO mm_X2_skipBytes 1 := ⟨List.mem_of_getElem? (i := 516) rfl, List.mem_of_getElem? (i := 33) rfl, ⟨by decide +kernel, by decide +kernel⟩, by decide +kernel, by decide⟩
abbrev mm_X2_keepField : mw_M := (yX2_keepField, cX2_keepField, 4, none, [])
set_option maxRecDepth 100000 in
theorem mo_X2_keepField : mw_mO mm_X2_keepField 3 := ⟨List.mem_of_getElem? (i := 520) rfl, List.mem_of_getElem? (i := 33) rfl, ⟨by decide +kernel, by decide +kernel⟩, by decide +kernel, by decide⟩
abbrev mm_X3_init : mw_M := (yX3_init, cX3_init, 2, none, [])
set_option maxRecDepth 100000 in
theorem mo_X3_init : mw_mO mm_X3_init 1 := ⟨List.mem_of_getElem? (i := 412) rfl, List.mem_of_getElem? (i := 43) rfl, ⟨by decide +kernel, by decide +kernel⟩, by decide +kernel, by decide⟩
abbrev mm_X4_init : mw_M := (yX4_init, cX4_init, 1, none, [])
set_option maxRecDepth 100000 in
theorem mo_X4_init : mw_mO mm_X4_init 0 := ⟨List.mem_of_getElem? (i := 75) rfl, List.mem_of_getElem? (i := 32) rfl, ⟨by decide +kernel, by decide +kernel⟩, by decide +kernel, by decide⟩
abbrev mm_X4_leastReason : mw_M := (yX4_leastReason, cX4_leastReason, 4, some (.int), [])
set_option maxRecDepth 100000 in
theorem mo_X4_leastReason : mw_mO mm_X4_leastReason 2 := ⟨List.mem_of_getElem? (i := 903) rfl, List.mem_of_getElem? (i := 32) rfl, ⟨by decide +kernel, by decide +kernel⟩, by decide +kernel, by decide⟩
abbrev mm_X4_leadsToDifference : mw_M := (yX4_leadsToDifference, cX4_leadsToDifference, 7, some (.boolean), [])
set_option maxRecDepth 100000 in
theorem mo_X4_leadsToDifference : mw_mO mm_X4_leadsToDifference 3 := ⟨List.mem_of_getElem? (i := 919) rfl, List.mem_of_getElem? (i := 32) rfl, ⟨by decide +kernel, by decide +kernel⟩, by decide +kernel, by decide⟩
abbrev mm_X4_differsSomewhere : mw_M := (yX4_differsSomewhere, cX4_differsSomewhere, 4, some (.boolean), [])
set_option maxRecDepth 100000 in
theorem mo_X4_differsSomewhere : mw_mO mm_X4_differsSomewhere 2 := ⟨List.mem_of_getElem? (i := 928) rfl, List.mem_of_getElem? (i := 32) rfl, ⟨by decide +kernel, by decide +kernel⟩, by decide +kernel, by decide⟩
abbrev mm_X4_notePartsAt : mw_M := (yX4_notePartsAt, cX4_notePartsAt, 6, none, [])
set_option maxRecDepth 100000 in
theorem mo_X4_notePartsAt : mw_mO mm_X4_notePartsAt 3 := ⟨List.mem_of_getElem? (i := 923) rfl, List.mem_of_getElem? (i := 32) rfl, ⟨by decide +kernel, by decide +kernel⟩, by decide +kernel, by decide⟩
abbrev mm_X4_notePair : mw_M := (yX4_notePair, cX4_notePair, 4, none, [])
set_option maxRecDepth 100000 in
theorem mo_X4_notePair : mw_mO mm_X4_notePair 2 := ⟨List.mem_of_getElem? (i := 911) rfl, List.mem_of_getElem? (i := 32) rfl, ⟨by decide +kernel, by decide +kernel⟩, by decide +kernel, by decide⟩
abbrev mm_X4_forgetPairs : mw_M := (yX4_forgetPairs, cX4_forgetPairs, 2, none, [])
set_option maxRecDepth 100000 in
theorem mo_X4_forgetPairs : mw_mO mm_X4_forgetPairs 0 := ⟨List.mem_of_getElem? (i := 907) rfl, List.mem_of_getElem? (i := 32) rfl, ⟨by decide +kernel, by decide +kernel⟩, by decide +kernel, by decide⟩
abbrev mm_X5_init : mw_M := (yX5_init, cX5_init, 2, none, [])
set_option maxRecDepth 100000 in
theorem mo_X5_init : mw_mO mm_X5_init 1 := ⟨List.mem_of_getElem? (i := 339) rfl, List.mem_of_getElem? (i := 40) rfl, ⟨by decide +kernel, by decide +kernel⟩, by decide +kernel, by decide⟩
abbrev mm_X5_kindAt : mw_M := (yX5_kindAt, cX5_kindAt, 2, some (.int), [])
set_option maxRecDepth 100000 in
theorem mo_X5_kindAt : mw_mO mm_X5_kindAt 1 := ⟨List.mem_of_getElem? (i := 307) rfl, List.mem_of_getElem? (i := 40) rfl, ⟨by decide +kernel, by decide +kernel⟩, by decide +kernel, by decide⟩
abbrev mm_X5_defaultAt : mw_M := (yX5_defaultAt, cX5_defaultAt, 2, some (.int), [])
set_option maxRecDepth 100000 in
theorem mo_X5_defaultAt : mw_mO mm_X5_defaultAt 1 := ⟨List.mem_of_getElem? (i := 394) rfl, List.mem_of_getElem? (i := 40) rfl, ⟨by decide +kernel, by decide +kernel⟩, by decide +kernel, by decide⟩
abbrev mm_X5_partOf : mw_M := (yX5_partOf, cX5_partOf, 2, some (.object "Schemabridge$Schema"), [])
set_option maxRecDepth 100000 in
theorem mo_X5_partOf : mw_mO mm_X5_partOf 1 := ⟨List.mem_of_getElem? (i := 721) rfl, List.mem_of_getElem? (i := 40) rfl, ⟨by decide +kernel, by decide +kernel⟩, by decide +kernel, by decide⟩
abbrev mm_X5_giveKind : mw_M := (yX5_giveKind, cX5_giveKind, 4, none, [])
set_option maxRecDepth 100000 in
theorem mo_X5_giveKind : mw_mO mm_X5_giveKind 3 := ⟨List.mem_of_getElem? (i := 312) rfl, List.mem_of_getElem? (i := 40) rfl, ⟨by decide +kernel, by decide +kernel⟩, by decide +kernel, by decide⟩
abbrev mm_X5_giveDefault : mw_M := (yX5_giveDefault, cX5_giveDefault, 3, none, [])
set_option maxRecDepth 100000 in
theorem mo_X5_giveDefault : mw_mO mm_X5_giveDefault 2 := ⟨List.mem_of_getElem? (i := 398) rfl, List.mem_of_getElem? (i := 40) rfl, ⟨by decide +kernel, by decide +kernel⟩, by decide +kernel, by decide⟩
abbrev mm_X5_hasInt : mw_M := (yX5_hasInt, cX5_hasInt, 2, some (.boolean), [])
set_option maxRecDepth 100000 in
theorem mo_X5_hasInt : mw_mO mm_X5_hasInt 1 := ⟨List.mem_of_getElem? (i := 385) rfl, List.mem_of_getElem? (i := 40) rfl, ⟨by decide +kernel, by decide +kernel⟩, by decide +kernel, by decide⟩
abbrev mm_X5_hasBytes : mw_M := (yX5_hasBytes, cX5_hasBytes, 2, some (.boolean), [])
set_option maxRecDepth 100000 in
theorem mo_X5_hasBytes : mw_mO mm_X5_hasBytes 1 := ⟨List.mem_of_getElem? (i := 667) rfl, List.mem_of_getElem? (i := 40) rfl, ⟨by decide +kernel, by decide +kernel⟩, by decide +kernel, by decide⟩
abbrev mm_X5_typeAt : mw_M := (yX5_typeAt, cX5_typeAt, 2, some (.int), [])
set_option maxRecDepth 100000 in
theorem mo_X5_typeAt : mw_mO mm_X5_typeAt 1 := ⟨List.mem_of_getElem? (i := 560) rfl, List.mem_of_getElem? (i := 40) rfl, ⟨by decide +kernel, by decide +kernel⟩, by decide +kernel, by decide⟩
abbrev mm_X5_numberOf : mw_M := (yX5_numberOf, cX5_numberOf, 3, some (.int), [])
set_option maxRecDepth 100000 in
theorem mo_X5_numberOf : mw_mO mm_X5_numberOf 2 := ⟨List.mem_of_getElem? (i := 611) rfl, List.mem_of_getElem? (i := 40) rfl, ⟨by decide +kernel, by decide +kernel⟩, by decide +kernel, by decide⟩
abbrev mm_X5_valueOf : mw_M := (yX5_valueOf, cX5_valueOf, 3, some (.int), [])
set_option maxRecDepth 100000 in
theorem mo_X5_valueOf : mw_mO mm_X5_valueOf 2 := ⟨List.mem_of_getElem? (i := 635) rfl, List.mem_of_getElem? (i := 40) rfl, ⟨by decide +kernel, by decide +kernel⟩, by decide +kernel, by decide⟩
abbrev mm_X5_isDefault : mw_M := (yX5_isDefault, cX5_isDefault, 3, some (.boolean), [])
set_option maxRecDepth 100000 in
theorem mo_X5_isDefault : mw_mO mm_X5_isDefault 2 := ⟨List.mem_of_getElem? (i := 747) rfl, List.mem_of_getElem? (i := 40) rfl, ⟨by decide +kernel, by decide +kernel⟩, by decide +kernel, by decide⟩
abbrev mm_X5_differsAt : mw_M := (yX5_differsAt, cX5_differsAt, 6, some (.boolean), [])
set_option maxRecDepth 100000 in
theorem mo_X5_differsAt : mw_mO mm_X5_differsAt 2 := ⟨List.mem_of_getElem? (i := 915) rfl, List.mem_of_getElem? (i := 40) rfl, ⟨by decide +kernel, by decide +kernel⟩, by decide +kernel, by decide⟩
abbrev mm_X5_typeOfKind : mw_M := (yX5_typeOfKind, cX5_typeOfKind, 1, some (.int), [])
set_option maxRecDepth 100000 in
theorem mo_X5_typeOfKind : mw_mO mm_X5_typeOfKind 1 := ⟨List.mem_of_getElem? (i := 315) rfl, List.mem_of_getElem? (i := 40) rfl, ⟨by decide +kernel, by decide +kernel⟩, by decide +kernel, by decide⟩
abbrev mm_X5_isIntKind : mw_M := (yX5_isIntKind, cX5_isIntKind, 1, some (.boolean), [])
set_option maxRecDepth 100000 in
theorem mo_X5_isIntKind : mw_mO mm_X5_isIntKind 1 := ⟨List.mem_of_getElem? (i := 389) rfl, List.mem_of_getElem? (i := 40) rfl, ⟨by decide +kernel, by decide +kernel⟩, by decide +kernel, by decide⟩
abbrev mm_X6_init : mw_M := (yX6_init, cX6_init, 1, none, [])
set_option maxRecDepth 100000 in
theorem mo_X6_init : mw_mO mm_X6_init 0 := ⟨List.mem_of_getElem? (i := 49) rfl, List.mem_of_getElem? (i := 30) rfl, ⟨by decide +kernel, by decide +kernel⟩, by decide +kernel, by decide⟩
abbrev mm_X6_addSchema : mw_M := (yX6_addSchema, cX6_addSchema, 2, some (.int), [])
set_option maxRecDepth 100000 in
theorem mo_X6_addSchema : mw_mO mm_X6_addSchema 0 := ⟨List.mem_of_getElem? (i := 319) rfl, List.mem_of_getElem? (i := 30) rfl, ⟨by decide +kernel, by decide +kernel⟩, by decide +kernel, by decide⟩
abbrev mm_X6_setKind : mw_M := (yX6_setKind, cX6_setKind, 8, some (.int), [])
set_option maxRecDepth 100000 in
theorem mo_X6_setKind : mw_mO mm_X6_setKind 4 := ⟨List.mem_of_getElem? (i := 208) rfl, List.mem_of_getElem? (i := 30) rfl, ⟨by decide +kernel, by decide +kernel⟩, by decide +kernel, by decide⟩
abbrev mm_X6_dropKind : mw_M := (yX6_dropKind, cX6_dropKind, 5, some (.int), [])
set_option maxRecDepth 100000 in
theorem mo_X6_dropKind : mw_mO mm_X6_dropKind 2 := ⟨List.mem_of_getElem? (i := 373) rfl, List.mem_of_getElem? (i := 30) rfl, ⟨by decide +kernel, by decide +kernel⟩, by decide +kernel, by decide⟩
abbrev mm_X6_setDefault : mw_M := (yX6_setDefault, cX6_setDefault, 6, some (.int), [])
set_option maxRecDepth 100000 in
theorem mo_X6_setDefault : mw_mO mm_X6_setDefault 3 := ⟨List.mem_of_getElem? (i := 381) rfl, List.mem_of_getElem? (i := 30) rfl, ⟨by decide +kernel, by decide +kernel⟩, by decide +kernel, by decide⟩
abbrev mm_X6_kindOf : mw_M := (yX6_kindOf, cX6_kindOf, 4, some (.int), [])
set_option maxRecDepth 100000 in
theorem mo_X6_kindOf : mw_mO mm_X6_kindOf 2 := ⟨List.mem_of_getElem? (i := 369) rfl, List.mem_of_getElem? (i := 30) rfl, ⟨by decide +kernel, by decide +kernel⟩, by decide +kernel, by decide⟩
abbrev mm_X6_conflict : mw_M := (yX6_conflict, cX6_conflict, 3, some (.int), [])
set_option maxRecDepth 100000 in
theorem mo_X6_conflict : mw_mO mm_X6_conflict 2 := ⟨List.mem_of_getElem? (i := 899) rfl, List.mem_of_getElem? (i := 30) rfl, ⟨by decide +kernel, by decide +kernel⟩, by decide +kernel, by decide⟩
abbrev mm_X6_create : mw_M := (yX6_create, cX6_create, 2, some (.int), [])
set_option maxRecDepth 100000 in
theorem mo_X6_create : mw_mO mm_X6_create 1 := ⟨List.mem_of_getElem? (i := 408) rfl, List.mem_of_getElem? (i := 30) rfl, ⟨by decide +kernel, by decide +kernel⟩, by decide +kernel, by decide⟩
abbrev mm_X6_copy : mw_M := (yX6_copy, cX6_copy, 5, some (.int), [])
set_option maxRecDepth 100000 in
theorem mo_X6_copy : mw_mO mm_X6_copy 2 := ⟨List.mem_of_getElem? (i := 458) rfl, List.mem_of_getElem? (i := 30) rfl, ⟨by decide +kernel, by decide +kernel⟩, by decide +kernel, by decide⟩
abbrev mm_X6_discard : mw_M := (yX6_discard, cX6_discard, 3, some (.int), [])
set_option maxRecDepth 100000 in
theorem mo_X6_discard : mw_mO mm_X6_discard 1 := ⟨List.mem_of_getElem? (i := 483) rfl, List.mem_of_getElem? (i := 30) rfl, ⟨by decide +kernel, by decide +kernel⟩, by decide +kernel, by decide⟩
abbrev mm_X6_set : mw_M := (yX6_set, cX6_set, 5, none, [])
set_option maxRecDepth 100000 in
theorem mo_X6_set : mw_mO mm_X6_set 3 := ⟨List.mem_of_getElem? (i := 535) rfl, List.mem_of_getElem? (i := 30) rfl, ⟨by decide +kernel, by decide +kernel⟩, by decide +kernel, by decide⟩
abbrev mm_X6_append : mw_M := (yX6_append, cX6_append, 8, some (.int), [])
set_option maxRecDepth 100000 in
theorem mo_X6_append : mw_mO mm_X6_append 3 := ⟨List.mem_of_getElem? (i := 660) rfl, List.mem_of_getElem? (i := 30) rfl, ⟨by decide +kernel, by decide +kernel⟩, by decide +kernel, by decide⟩
abbrev mm_X6_setPart : mw_M := (yX6_setPart, cX6_setPart, 6, some (.int), [])
set_option maxRecDepth 100000 in
theorem mo_X6_setPart : mw_mO mm_X6_setPart 3 := ⟨List.mem_of_getElem? (i := 714) rfl, List.mem_of_getElem? (i := 30) rfl, ⟨by decide +kernel, by decide +kernel⟩, by decide +kernel, by decide⟩
abbrev mm_X6_clear : mw_M := (yX6_clear, cX6_clear, 7, some (.int), [])
set_option maxRecDepth 100000 in
theorem mo_X6_clear : mw_mO mm_X6_clear 2 := ⟨List.mem_of_getElem? (i := 790) rfl, List.mem_of_getElem? (i := 30) rfl, ⟨by decide +kernel, by decide +kernel⟩, by decide +kernel, by decide⟩
abbrev mm_X6_schemaOf : mw_M := (yX6_schemaOf, cX6_schemaOf, 2, some (.int), [])
set_option maxRecDepth 100000 in
theorem mo_X6_schemaOf : mw_mO mm_X6_schemaOf 1 := ⟨List.mem_of_getElem? (i := 872) rfl, List.mem_of_getElem? (i := 30) rfl, ⟨by decide +kernel, by decide +kernel⟩, by decide +kernel, by decide⟩
abbrev mm_X6_has : mw_M := (yX6_has, cX6_has, 4, some (.boolean), [])
set_option maxRecDepth 100000 in
theorem mo_X6_has : mw_mO mm_X6_has 2 := ⟨List.mem_of_getElem? (i := 794) rfl, List.mem_of_getElem? (i := 30) rfl, ⟨by decide +kernel, by decide +kernel⟩, by decide +kernel, by decide⟩
abbrev mm_X6_get : mw_M := (yX6_get, cX6_get, 6, some (.int), [])
set_option maxRecDepth 100000 in
theorem mo_X6_get : mw_mO mm_X6_get 2 := ⟨List.mem_of_getElem? (i := 625) rfl, List.mem_of_getElem? (i := 30) rfl, ⟨by decide +kernel, by decide +kernel⟩, by decide +kernel, by decide⟩
abbrev mm_X6_byteOf : mw_M := (yX6_byteOf, cX6_byteOf, 7, some (.byte), [])
set_option maxRecDepth 100000 in
theorem mo_X6_byteOf : mw_mO mm_X6_byteOf 3 := ⟨List.mem_of_getElem? (i := 683) rfl, List.mem_of_getElem? (i := 30) rfl, ⟨by decide +kernel, by decide +kernel⟩, by decide +kernel, by decide⟩
abbrev mm_X6_open : mw_M := (yX6_open, cX6_open, 8, some (.int), [])
set_option maxRecDepth 100000 in
theorem mo_X6_open : mw_mO mm_X6_open 2 := ⟨List.mem_of_getElem? (i := 853) rfl, List.mem_of_getElem? (i := 30) rfl, ⟨by decide +kernel, by decide +kernel⟩, by decide +kernel, by decide⟩
abbrev mm_X6_unknowns : mw_M := (yX6_unknowns, cX6_unknowns, 6, some (.int), [])
set_option maxRecDepth 100000 in
theorem mo_X6_unknowns : mw_mO mm_X6_unknowns 1 := ⟨List.mem_of_getElem? (i := 876) rfl, List.mem_of_getElem? (i := 30) rfl, ⟨by decide +kernel, by decide +kernel⟩, by decide +kernel, by decide⟩
abbrev mm_X6_unknownTag : mw_M := (yX6_unknownTag, cX6_unknownTag, 7, some (.int), [])
set_option maxRecDepth 100000 in
theorem mo_X6_unknownTag : mw_mO mm_X6_unknownTag 2 := ⟨List.mem_of_getElem? (i := 867) rfl, List.mem_of_getElem? (i := 30) rfl, ⟨by decide +kernel, by decide +kernel⟩, by decide +kernel, by decide⟩
abbrev mm_X6_weight : mw_M := (yX6_weight, cX6_weight, 2, some (.int), [])
set_option maxRecDepth 100000 in
theorem mo_X6_weight : mw_mO mm_X6_weight 1 := ⟨List.mem_of_getElem? (i := 445) rfl, List.mem_of_getElem? (i := 30) rfl, ⟨by decide +kernel, by decide +kernel⟩, by decide +kernel, by decide⟩
abbrev mm_X6_areSame : mw_M := (yX6_areSame, cX6_areSame, 3, some (.boolean), [])
set_option maxRecDepth 100000 in
theorem mo_X6_areSame : mw_mO mm_X6_areSame 2 := ⟨List.mem_of_getElem? (i := 932) rfl, List.mem_of_getElem? (i := 30) rfl, ⟨by decide +kernel, by decide +kernel⟩, by decide +kernel, by decide⟩
abbrev mm_X6_areSameByBytes : mw_M := (yX6_areSameByBytes, cX6_areSameByBytes, 3, some (.boolean), [])
set_option maxRecDepth 100000 in
theorem mo_X6_areSameByBytes : mw_mO mm_X6_areSameByBytes 2 := ⟨List.mem_of_getElem? (i := 952) rfl, List.mem_of_getElem? (i := 30) rfl, ⟨by decide +kernel, by decide +kernel⟩, by decide +kernel, by decide⟩
abbrev mm_X6_write : mw_M := (yX6_write, cX6_write, 3, some (.int), [])
set_option maxRecDepth 100000 in
theorem mo_X6_write : mw_mO mm_X6_write 1 := ⟨List.mem_of_getElem? (i := 802) rfl, List.mem_of_getElem? (i := 30) rfl, ⟨by decide +kernel, by decide +kernel⟩, by decide +kernel, by decide⟩
abbrev mm_X6_put : mw_M := (yX6_put, cX6_put, 2, some (.int), [])
set_option maxRecDepth 100000 in
theorem mo_X6_put : mw_mO mm_X6_put 1 := ⟨List.mem_of_getElem? (i := 816) rfl, List.mem_of_getElem? (i := 30) rfl, ⟨by decide +kernel, by decide +kernel⟩, by decide +kernel, by decide⟩
abbrev mm_X6_cut : mw_M := (yX6_cut, cX6_cut, 3, some (.int), [])
set_option maxRecDepth 100000 in
theorem mo_X6_cut : mw_mO mm_X6_cut 1 := ⟨List.mem_of_getElem? (i := 809) rfl, List.mem_of_getElem? (i := 30) rfl, ⟨by decide +kernel, by decide +kernel⟩, by decide +kernel, by decide⟩
abbrev mm_X6_length : mw_M := (yX6_length, cX6_length, 1, some (.int), [])
set_option maxRecDepth 100000 in
theorem mo_X6_length : mw_mO mm_X6_length 0 := ⟨List.mem_of_getElem? (i := 798) rfl, List.mem_of_getElem? (i := 30) rfl, ⟨by decide +kernel, by decide +kernel⟩, by decide +kernel, by decide⟩
abbrev mm_X6_byteAt : mw_M := (yX6_byteAt, cX6_byteAt, 2, some (.byte), [])
set_option maxRecDepth 100000 in
theorem mo_X6_byteAt : mw_mO mm_X6_byteAt 1 := ⟨List.mem_of_getElem? (i := 883) rfl, List.mem_of_getElem? (i := 30) rfl, ⟨by decide +kernel, by decide +kernel⟩, by decide +kernel, by decide⟩
abbrev mm_X6_fault : mw_M := (yX6_fault, cX6_fault, 1, some (.int), [])
set_option maxRecDepth 100000 in
theorem mo_X6_fault : mw_mO mm_X6_fault 0 := ⟨List.mem_of_getElem? (i := 846) rfl, List.mem_of_getElem? (i := 30) rfl, ⟨by decide +kernel, by decide +kernel⟩, by decide +kernel, by decide⟩
abbrev mm_X6_faultAt : mw_M := (yX6_faultAt, cX6_faultAt, 1, some (.int), [])
set_option maxRecDepth 100000 in
theorem mo_X6_faultAt : mw_mO mm_X6_faultAt 0 := ⟨List.mem_of_getElem? (i := 887) rfl, List.mem_of_getElem? (i := 30) rfl, ⟨by decide +kernel, by decide +kernel⟩, by decide +kernel, by decide⟩
abbrev mm_X6_read : mw_M := (yX6_read, cX6_read, 4, some (.int), [])
set_option maxRecDepth 100000 in
theorem mo_X6_read : mw_mO mm_X6_read 1 := ⟨List.mem_of_getElem? (i := 824) rfl, List.mem_of_getElem? (i := 30) rfl, ⟨by decide +kernel, by decide +kernel⟩, by decide +kernel, by decide⟩
abbrev mm_X6_isCanonical : mw_M := (yX6_isCanonical, cX6_isCanonical, 3, some (.boolean), [])
set_option maxRecDepth 100000 in
theorem mo_X6_isCanonical : mw_mO mm_X6_isCanonical 1 := ⟨List.mem_of_getElem? (i := 961) rfl, List.mem_of_getElem? (i := 30) rfl, ⟨by decide +kernel, by decide +kernel⟩, by decide +kernel, by decide⟩
abbrev mm_X6_schemaAt : mw_M := (yX6_schemaAt, cX6_schemaAt, 2, some (.object "Schemabridge$Schema"), [])
set_option maxRecDepth 100000 in
theorem mo_X6_schemaAt : mw_mO mm_X6_schemaAt 1 := ⟨List.mem_of_getElem? (i := 212) rfl, List.mem_of_getElem? (i := 30) rfl, ⟨by decide +kernel, by decide +kernel⟩, by decide +kernel, by decide⟩
abbrev mm_X6_messageAt : mw_M := (yX6_messageAt, cX6_messageAt, 2, some (.object "Schemabridge$Message"), [])
set_option maxRecDepth 100000 in
theorem mo_X6_messageAt : mw_mO mm_X6_messageAt 1 := ⟨List.mem_of_getElem? (i := 449) rfl, List.mem_of_getElem? (i := 30) rfl, ⟨by decide +kernel, by decide +kernel⟩, by decide +kernel, by decide⟩
abbrev mm_X6_isTag : mw_M := (yX6_isTag, cX6_isTag, 1, some (.boolean), [])
set_option maxRecDepth 100000 in
theorem mo_X6_isTag : mw_mO mm_X6_isTag 1 := ⟨List.mem_of_getElem? (i := 286) rfl, List.mem_of_getElem? (i := 30) rfl, ⟨by decide +kernel, by decide +kernel⟩, by decide +kernel, by decide⟩
abbrev mm_X6_checkTag : mw_M := (yX6_checkTag, cX6_checkTag, 1, none, [])
set_option maxRecDepth 100000 in
theorem mo_X6_checkTag : mw_mO mm_X6_checkTag 1 := ⟨List.mem_of_getElem? (i := 283) rfl, List.mem_of_getElem? (i := 30) rfl, ⟨by decide +kernel, by decide +kernel⟩, by decide +kernel, by decide⟩
abbrev mm_X6_checkHasInt : mw_M := (yX6_checkHasInt, cX6_checkHasInt, 2, none, [])
set_option maxRecDepth 100000 in
theorem mo_X6_checkHasInt : mw_mO mm_X6_checkHasInt 2 := ⟨List.mem_of_getElem? (i := 538) rfl, List.mem_of_getElem? (i := 30) rfl, ⟨by decide +kernel, by decide +kernel⟩, by decide +kernel, by decide⟩
abbrev mm_X6_checkHasBytes : mw_M := (yX6_checkHasBytes, cX6_checkHasBytes, 2, none, [])
set_option maxRecDepth 100000 in
theorem mo_X6_checkHasBytes : mw_mO mm_X6_checkHasBytes 2 := ⟨List.mem_of_getElem? (i := 663) rfl, List.mem_of_getElem? (i := 30) rfl, ⟨by decide +kernel, by decide +kernel⟩, by decide +kernel, by decide⟩
abbrev mm_X6_partAt : mw_M := (yX6_partAt, cX6_partAt, 3, some (.object "Schemabridge$Schema"), [])
set_option maxRecDepth 100000 in
theorem mo_X6_partAt : mw_mO mm_X6_partAt 2 := ⟨List.mem_of_getElem? (i := 717) rfl, List.mem_of_getElem? (i := 30) rfl, ⟨by decide +kernel, by decide +kernel⟩, by decide +kernel, by decide⟩
abbrev mm_X6_lastKnownOrThrow : mw_M := (yX6_lastKnownOrThrow, cX6_lastKnownOrThrow, 4, some (.int), [])
set_option maxRecDepth 100000 in
theorem mo_X6_lastKnownOrThrow : mw_mO mm_X6_lastKnownOrThrow 3 := ⟨List.mem_of_getElem? (i := 686) rfl, List.mem_of_getElem? (i := 30) rfl, ⟨by decide +kernel, by decide +kernel⟩, by decide +kernel, by decide⟩
abbrev mm_X6_fieldsOf : mw_M := (yX6_fieldsOf, cX6_fieldsOf, 2, some (.object "Schemabridge$Fields"), [])
set_option maxRecDepth 100000 in
theorem mo_X6_fieldsOf : mw_mO mm_X6_fieldsOf 1 := ⟨List.mem_of_getElem? (i := 487) rfl, List.mem_of_getElem? (i := 30) rfl, ⟨by decide +kernel, by decide +kernel⟩, by decide +kernel, by decide⟩
abbrev mm_X6_fieldsOfTape : mw_M := (yX6_fieldsOfTape, cX6_fieldsOfTape, 1, some (.object "Schemabridge$Fields"), [])
set_option maxRecDepth 100000 in
theorem mo_X6_fieldsOfTape : mw_mO mm_X6_fieldsOfTape 0 := ⟨List.mem_of_getElem? (i := 828) rfl, List.mem_of_getElem? (i := 30) rfl, ⟨by decide +kernel, by decide +kernel⟩, by decide +kernel, by decide⟩
abbrev mm_X6_fieldsIn : mw_M := (yX6_fieldsIn, cX6_fieldsIn, 4, some (.object "Schemabridge$Fields"), [])
set_option maxRecDepth 100000 in
theorem mo_X6_fieldsIn : mw_mO mm_X6_fieldsIn 3 := ⟨List.mem_of_getElem? (i := 491) rfl, List.mem_of_getElem? (i := 30) rfl, ⟨by decide +kernel, by decide +kernel⟩, by decide +kernel, by decide⟩
abbrev mm_X6_chooseBoth : mw_M := (yX6_chooseBoth, cX6_chooseBoth, 3, none, [])
set_option maxRecDepth 100000 in
theorem mo_X6_chooseBoth : mw_mO mm_X6_chooseBoth 2 := ⟨List.mem_of_getElem? (i := 936) rfl, List.mem_of_getElem? (i := 30) rfl, ⟨by decide +kernel, by decide +kernel⟩, by decide +kernel, by decide⟩
abbrev mm_X6_messageOf : mw_M := (yX6_messageOf, cX6_messageOf, 4, some (.object "Schemabridge$Message"), [])
set_option maxRecDepth 100000 in
theorem mo_X6_messageOf : mw_mO mm_X6_messageOf 2 := ⟨List.mem_of_getElem? (i := 836) rfl, List.mem_of_getElem? (i := 30) rfl, ⟨by decide +kernel, by decide +kernel⟩, by decide +kernel, by decide⟩
abbrev mm_X6_addMessage : mw_M := (yX6_addMessage, cX6_addMessage, 3, some (.int), [])
set_option maxRecDepth 100000 in
theorem mo_X6_addMessage : mw_mO mm_X6_addMessage 1 := ⟨List.mem_of_getElem? (i := 428) rfl, List.mem_of_getElem? (i := 30) rfl, ⟨by decide +kernel, by decide +kernel⟩, by decide +kernel, by decide⟩
abbrev mm_X6_removeMessage : mw_M := (yX6_removeMessage, cX6_removeMessage, 2, none, [])
set_option maxRecDepth 100000 in
theorem mo_X6_removeMessage : mw_mO mm_X6_removeMessage 1 := ⟨List.mem_of_getElem? (i := 528) rfl, List.mem_of_getElem? (i := 30) rfl, ⟨by decide +kernel, by decide +kernel⟩, by decide +kernel, by decide⟩
abbrev mm_X6_draftWithoutKnown : mw_M := (yX6_draftWithoutKnown, cX6_draftWithoutKnown, 5, none, [])
set_option maxRecDepth 100000 in
theorem mo_X6_draftWithoutKnown : mw_mO mm_X6_draftWithoutKnown 3 := ⟨List.mem_of_getElem? (i := 543) rfl, List.mem_of_getElem? (i := 30) rfl, ⟨by decide +kernel, by decide +kernel⟩, by decide +kernel, by decide⟩
abbrev mm_X6_takeDraft : mw_M := (yX6_takeDraft, cX6_takeDraft, 2, none, [])
set_option maxRecDepth 100000 in
theorem mo_X6_takeDraft : mw_mO mm_X6_takeDraft 1 := ⟨List.mem_of_getElem? (i := 616) rfl, List.mem_of_getElem? (i := 30) rfl, ⟨by decide +kernel, by decide +kernel⟩, by decide +kernel, by decide⟩
abbrev mm_J7_fill_53178 : mw_M := (yJ7_fill_53178, cJ7_fill_53178, 4, none, [])
set_option maxRecDepth 100000 in
theorem mo_J7_fill_53178 : mw_mO mm_J7_fill_53178 2 := ⟨List.mem_of_getElem? (i := 344) rfl, List.mem_of_getElem? (i := 42) rfl, ⟨by decide +kernel, by decide +kernel⟩, by decide +kernel, by decide⟩
abbrev mm_L_cell : mw_M := (yL_cell, cL_cell, 2, some (.int), [])
set_option maxRecDepth 100000 in
theorem mo_L_cell : mw_mO mm_L_cell 2 := ⟨List.mem_of_getElem? (i := 189) rfl, List.mem_of_getElem? (i := 29) rfl, ⟨by decide +kernel, by decide +kernel⟩, by decide +kernel, by decide⟩
abbrev mm_L_low : mw_M := (yL_low, cL_low, 2, some (.int), [])
set_option maxRecDepth 100000 in
theorem mo_L_low : mw_mO mm_L_low 2 := ⟨List.mem_of_getElem? (i := 193) rfl, List.mem_of_getElem? (i := 29) rfl, ⟨by decide +kernel, by decide +kernel⟩, by decide +kernel, by decide⟩
abbrev mm_L_setKind : mw_M := (yL_setKind, cL_setKind, 7, some (.int), [(0, 11, 14, 14), (0, 11, 19, 16)])
set_option maxRecDepth 100000 in
theorem mo_L_setKind : mw_mO mm_L_setKind 5 := ⟨List.mem_of_getElem? (i := 202) rfl, List.mem_of_getElem? (i := 29) rfl, ⟨by decide +kernel, by decide +kernel⟩, by decide +kernel, by decide⟩
abbrev mm_L_setDefault : mw_M := (yL_setDefault, cL_setDefault, 5, some (.int), [(0, 8, 11, 14), (0, 8, 16, 16), (0, 8, 21, 22)])
set_option maxRecDepth 100000 in
theorem mo_L_setDefault : mw_mO mm_L_setDefault 4 := ⟨List.mem_of_getElem? (i := 376) rfl, List.mem_of_getElem? (i := 29) rfl, ⟨by decide +kernel, by decide +kernel⟩, by decide +kernel, by decide⟩
abbrev mm_L_create : mw_M := (yL_create, cL_create, 4, some (.int), [(0, 6, 9, 14)])
set_option maxRecDepth 100000 in
theorem mo_L_create : mw_mO mm_L_create 2 := ⟨List.mem_of_getElem? (i := 404) rfl, List.mem_of_getElem? (i := 29) rfl, ⟨by decide +kernel, by decide +kernel⟩, by decide +kernel, by decide⟩
abbrev mm_L_set : mw_M := (yL_set, cL_set, 5, some (.int), [(0, 7, 10, 14), (0, 7, 15, 16), (0, 7, 20, 22)])
set_option maxRecDepth 100000 in
theorem mo_L_set : mw_mO mm_L_set 4 := ⟨List.mem_of_getElem? (i := 531) rfl, List.mem_of_getElem? (i := 29) rfl, ⟨by decide +kernel, by decide +kernel⟩, by decide +kernel, by decide⟩
abbrev mm_L_append : mw_M := (yL_append, cL_append, 6, some (.int), [(0, 10, 13, 14), (0, 10, 18, 16), (0, 10, 23, 22)])
set_option maxRecDepth 100000 in
theorem mo_L_append : mw_mO mm_L_append 4 := ⟨List.mem_of_getElem? (i := 656) rfl, List.mem_of_getElem? (i := 29) rfl, ⟨by decide +kernel, by decide +kernel⟩, by decide +kernel, by decide⟩
abbrev mm_L_setPart : mw_M := (yL_setPart, cL_setPart, 6, some (.int), [(0, 9, 12, 14), (0, 9, 17, 16), (0, 9, 22, 22)])
set_option maxRecDepth 100000 in
theorem mo_L_setPart : mw_mO mm_L_setPart 4 := ⟨List.mem_of_getElem? (i := 710) rfl, List.mem_of_getElem? (i := 29) rfl, ⟨by decide +kernel, by decide +kernel⟩, by decide +kernel, by decide⟩
abbrev mm_L_open : mw_M := (yL_open, cL_open, 5, some (.int), [(0, 7, 10, 14), (0, 7, 15, 16), (0, 7, 20, 22), (0, 7, 25, 43)])
set_option maxRecDepth 100000 in
theorem mo_L_open : mw_mO mm_L_open 3 := ⟨List.mem_of_getElem? (i := 849) rfl, List.mem_of_getElem? (i := 29) rfl, ⟨by decide +kernel, by decide +kernel⟩, by decide +kernel, by decide⟩
abbrev mm_L_byteOf : mw_M := (yL_byteOf, cL_byteOf, 6, some (.int), [(0, 9, 12, 14), (0, 9, 18, 16), (0, 9, 24, 43)])
set_option maxRecDepth 100000 in
theorem mo_L_byteOf : mw_mO mm_L_byteOf 4 := ⟨List.mem_of_getElem? (i := 678) rfl, List.mem_of_getElem? (i := 29) rfl, ⟨by decide +kernel, by decide +kernel⟩, by decide +kernel, by decide⟩
abbrev mm_L_read : mw_M := (yL_read, cL_read, 4, some (.int), [(0, 6, 9, 14), (0, 6, 13, 16)])
set_option maxRecDepth 100000 in
theorem mo_L_read : mw_mO mm_L_read 2 := ⟨List.mem_of_getElem? (i := 820) rfl, List.mem_of_getElem? (i := 29) rfl, ⟨by decide +kernel, by decide +kernel⟩, by decide +kernel, by decide⟩
abbrev mm_L_hasNone : mw_M := (yL_hasNone, cL_hasNone, 5, some (.boolean), [(0, 7, 10, 16)])
set_option maxRecDepth 100000 in
theorem mo_L_hasNone : mw_mO mm_L_hasNone 3 := ⟨List.mem_of_getElem? (i := 621) rfl, List.mem_of_getElem? (i := 29) rfl, ⟨by decide +kernel, by decide +kernel⟩, by decide +kernel, by decide⟩
abbrev mm_L_weight : mw_M := (yL_weight, cL_weight, 4, some (.int), [(0, 6, 9, 14)])
set_option maxRecDepth 100000 in
theorem mo_L_weight : mw_mO mm_L_weight 2 := ⟨List.mem_of_getElem? (i := 441) rfl, List.mem_of_getElem? (i := 29) rfl, ⟨by decide +kernel, by decide +kernel⟩, by decide +kernel, by decide⟩
abbrev mm_L_unknownTag : mw_M := (yL_unknownTag, cL_unknownTag, 5, some (.int), [(0, 7, 10, 14)])
set_option maxRecDepth 100000 in
theorem mo_L_unknownTag : mw_mO mm_L_unknownTag 3 := ⟨List.mem_of_getElem? (i := 863) rfl, List.mem_of_getElem? (i := 29) rfl, ⟨by decide +kernel, by decide +kernel⟩, by decide +kernel, by decide⟩
abbrev mm_L_cut : mw_M := (yL_cut, cL_cut, 4, some (.int), [(0, 6, 9, 14)])
set_option maxRecDepth 100000 in
theorem mo_L_cut : mw_mO mm_L_cut 2 := ⟨List.mem_of_getElem? (i := 805) rfl, List.mem_of_getElem? (i := 29) rfl, ⟨by decide +kernel, by decide +kernel⟩, by decide +kernel, by decide⟩
abbrev mm_L_tagAt : mw_M := (yL_tagAt, cL_tagAt, 1, some (.int), [])
set_option maxRecDepth 100000 in
theorem mo_L_tagAt : mw_mO mm_L_tagAt 1 := ⟨List.mem_of_getElem? (i := 365) rfl, List.mem_of_getElem? (i := 29) rfl, ⟨by decide +kernel, by decide +kernel⟩, by decide +kernel, by decide⟩
abbrev mm_L_kind : mw_M := (yL_kind, cL_kind, 4, some (.int), [])
set_option maxRecDepth 100000 in
theorem mo_L_kind : mw_mO mm_L_kind 3 := ⟨List.mem_of_getElem? (i := 432) rfl, List.mem_of_getElem? (i := 29) rfl, ⟨by decide +kernel, by decide +kernel⟩, by decide +kernel, by decide⟩
abbrev mm_L_place : mw_M := (yL_place, cL_place, 3, some (.int), [])
set_option maxRecDepth 100000 in
theorem mo_L_place : mw_mO mm_L_place 2 := ⟨List.mem_of_getElem? (i := 707) rfl, List.mem_of_getElem? (i := 29) rfl, ⟨by decide +kernel, by decide +kernel⟩, by decide +kernel, by decide⟩
abbrev mm_L_isKnown : mw_M := (yL_isKnown, cL_isKnown, 4, some (.boolean), [])
set_option maxRecDepth 100000 in
theorem mo_L_isKnown : mw_mO mm_L_isKnown 3 := ⟨List.mem_of_getElem? (i := 438) rfl, List.mem_of_getElem? (i := 29) rfl, ⟨by decide +kernel, by decide +kernel⟩, by decide +kernel, by decide⟩
abbrev mm_L_stands : mw_M := (yL_stands, cL_stands, 2, some (.int), [])
set_option maxRecDepth 100000 in
theorem mo_L_stands : mw_mO mm_L_stands 2 := ⟨List.mem_of_getElem? (i := 773) rfl, List.mem_of_getElem? (i := 29) rfl, ⟨by decide +kernel, by decide +kernel⟩, by decide +kernel, by decide⟩
abbrev mm_L_groups : mw_M := (yL_groups, cL_groups, 3, some (.int), [])
set_option maxRecDepth 100000 in
theorem mo_L_groups : mw_mO mm_L_groups 1 := ⟨List.mem_of_getElem? (i := 644) rfl, List.mem_of_getElem? (i := 29) rfl, ⟨by decide +kernel, by decide +kernel⟩, by decide +kernel, by decide⟩
abbrev mm_L_size : mw_M := (yL_size, cL_size, 3, some (.int), [])
set_option maxRecDepth 100000 in
theorem mo_L_size : mw_mO mm_L_size 3 := ⟨List.mem_of_getElem? (i := 641) rfl, List.mem_of_getElem? (i := 29) rfl, ⟨by decide +kernel, by decide +kernel⟩, by decide +kernel, by decide⟩
abbrev mm_L_byteAt : mw_M := (yL_byteAt, cL_byteAt, 4, some (.int), [])
set_option maxRecDepth 100000 in
theorem mo_L_byteAt : mw_mO mm_L_byteAt 4 := ⟨List.mem_of_getElem? (i := 785) rfl, List.mem_of_getElem? (i := 29) rfl, ⟨by decide +kernel, by decide +kernel⟩, by decide +kernel, by decide⟩
abbrev mm_L_weightOf : mw_M := (yL_weightOf, cL_weightOf, 6, some (.int), [])
set_option maxRecDepth 100000 in
theorem mo_L_weightOf : mw_mO mm_L_weightOf 4 := ⟨List.mem_of_getElem? (i := 879) rfl, List.mem_of_getElem? (i := 29) rfl, ⟨by decide +kernel, by decide +kernel⟩, by decide +kernel, by decide⟩
abbrev mm_L_last : mw_M := (yL_last, cL_last, 7, some (.int), [])
set_option maxRecDepth 100000 in
theorem mo_L_last : mw_mO mm_L_last 6 := ⟨List.mem_of_getElem? (i := 435) rfl, List.mem_of_getElem? (i := 29) rfl, ⟨by decide +kernel, by decide +kernel⟩, by decide +kernel, by decide⟩
abbrev mm_L_isCanonical : mw_M := (yL_isCanonical, cL_isCanonical, 10, some (.boolean), [])
set_option maxRecDepth 100000 in
theorem mo_L_isCanonical : mw_mO mm_L_isCanonical 8 := ⟨List.mem_of_getElem? (i := 770) rfl, List.mem_of_getElem? (i := 29) rfl, ⟨by decide +kernel, by decide +kernel⟩, by decide +kernel, by decide⟩
abbrev mm_L_writes : mw_M := (yL_writes, cL_writes, 3, none, [])
set_option maxRecDepth 100000 in
theorem mo_L_writes : mw_mO mm_L_writes 3 := ⟨List.mem_of_getElem? (i := 782) rfl, List.mem_of_getElem? (i := 29) rfl, ⟨by decide +kernel, by decide +kernel⟩, by decide +kernel, by decide⟩
abbrev mm_L_writeGroups : mw_M := (yL_writeGroups, cL_writeGroups, 5, none, [])
set_option maxRecDepth 100000 in
theorem mo_L_writeGroups : mw_mO mm_L_writeGroups 3 := ⟨List.mem_of_getElem? (i := 779) rfl, List.mem_of_getElem? (i := 29) rfl, ⟨by decide +kernel, by decide +kernel⟩, by decide +kernel, by decide⟩
abbrev mm_L_writeField : mw_M := (yL_writeField, cL_writeField, 8, none, [])
set_option maxRecDepth 100000 in
theorem mo_L_writeField : mw_mO mm_L_writeField 7 := ⟨List.mem_of_getElem? (i := 776) rfl, List.mem_of_getElem? (i := 29) rfl, ⟨by decide +kernel, by decide +kernel⟩, by decide +kernel, by decide⟩
abbrev mm_L_canonical : mw_M := (yL_canonical, cL_canonical, 13, some (.int), [])
set_option maxRecDepth 100000 in
theorem mo_L_canonical : mw_mO mm_L_canonical 11 := ⟨List.mem_of_getElem? (i := 767) rfl, List.mem_of_getElem? (i := 29) rfl, ⟨by decide +kernel, by decide +kernel⟩, by decide +kernel, by decide⟩
abbrev mm_L_remove : mw_M := (yL_remove, cL_remove, 8, none, [])
set_option maxRecDepth 100000 in
theorem mo_L_remove : mw_mO mm_L_remove 7 := ⟨List.mem_of_getElem? (i := 653) rfl, List.mem_of_getElem? (i := 29) rfl, ⟨by decide +kernel, by decide +kernel⟩, by decide +kernel, by decide⟩
abbrev mm_L_others : mw_M := (yL_others, cL_others, 8, some (.int), [])
set_option maxRecDepth 100000 in
theorem mo_L_others : mw_mO mm_L_others 6 := ⟨List.mem_of_getElem? (i := 647) rfl, List.mem_of_getElem? (i := 29) rfl, ⟨by decide +kernel, by decide +kernel⟩, by decide +kernel, by decide⟩
abbrev mm_L_weightOfOthers : mw_M := (yL_weightOfOthers, cL_weightOfOthers, 9, some (.int), [])
set_option maxRecDepth 100000 in
theorem mo_L_weightOfOthers : mw_mO mm_L_weightOfOthers 7 := ⟨List.mem_of_getElem? (i := 638) rfl, List.mem_of_getElem? (i := 29) rfl, ⟨by decide +kernel, by decide +kernel⟩, by decide +kernel, by decide⟩
abbrev mm_L_replace : mw_M := (yL_replace, cL_replace, 15, none, [])
set_option maxRecDepth 100000 in
theorem mo_L_replace : mw_mO mm_L_replace 12 := ⟨List.mem_of_getElem? (i := 650) rfl, List.mem_of_getElem? (i := 29) rfl, ⟨by decide +kernel, by decide +kernel⟩, by decide +kernel, by decide⟩
abbrev mm_L_number : mw_M := (yL_number, cL_number, 5, none, [])
set_option maxRecDepth 100000 in
theorem mo_L_number : mw_mO mm_L_number 3 := ⟨List.mem_of_getElem? (i := 842) rfl, List.mem_of_getElem? (i := 29) rfl, ⟨by decide +kernel, by decide +kernel⟩, by decide +kernel, by decide⟩
abbrev mm_L_reads : mw_M := (yL_reads, cL_reads, 17, some (.int), [])
set_option maxRecDepth 100000 in
theorem mo_L_reads : mw_mO mm_L_reads 9 := ⟨List.mem_of_getElem? (i := 839) rfl, List.mem_of_getElem? (i := 29) rfl, ⟨by decide +kernel, by decide +kernel⟩, by decide +kernel, by decide⟩
abbrev mm_L_free : mw_M := (yL_free, cL_free, 2, some (.int), [])
set_option maxRecDepth 100000 in
theorem mo_L_free : mw_mO mm_L_free 1 := ⟨List.mem_of_getElem? (i := 401) rfl, List.mem_of_getElem? (i := 29) rfl, ⟨by decide +kernel, by decide +kernel⟩, by decide +kernel, by decide⟩
abbrev mm_L_schemas : mw_M := (yL_schemas, cL_schemas, 12, some (.boolean), [])
set_option maxRecDepth 100000 in
theorem mo_L_schemas : mw_mO mm_L_schemas 6 := ⟨List.mem_of_getElem? (i := 199) rfl, List.mem_of_getElem? (i := 29) rfl, ⟨by decide +kernel, by decide +kernel⟩, by decide +kernel, by decide⟩
abbrev mm_L_keeps : mw_M := (yL_keeps, cL_keeps, 42, some (.boolean), [])
set_option maxRecDepth 100000 in
theorem mo_L_keeps : mw_mO mm_L_keeps 14 := ⟨List.mem_of_getElem? (i := 196) rfl, List.mem_of_getElem? (i := 29) rfl, ⟨by decide +kernel, by decide +kernel⟩, by decide +kernel, by decide⟩
abbrev mm_L_isReason : mw_M := (yL_isReason, cL_isReason, 14, some (.boolean), [])
set_option maxRecDepth 100000 in
theorem mo_L_isReason : mw_mO mm_L_isReason 5 := ⟨List.mem_of_getElem? (i := 894) rfl, List.mem_of_getElem? (i := 29) rfl, ⟨by decide +kernel, by decide +kernel⟩, by decide +kernel, by decide⟩
abbrev mm_L_isMessage : mw_M := (yL_isMessage, cL_isMessage, 16, some (.boolean), [])
set_option maxRecDepth 100000 in
theorem mo_L_isMessage : mw_mO mm_L_isMessage 10 := ⟨List.mem_of_getElem? (i := 860) rfl, List.mem_of_getElem? (i := 29) rfl, ⟨by decide +kernel, by decide +kernel⟩, by decide +kernel, by decide⟩
abbrev mm_L_isTold : mw_M := (yL_isTold, cL_isTold, 23, some (.boolean), [])
set_option maxRecDepth 100000 in
theorem mo_L_isTold : mw_mO mm_L_isTold 14 := ⟨List.mem_of_getElem? (i := 857) rfl, List.mem_of_getElem? (i := 29) rfl, ⟨by decide +kernel, by decide +kernel⟩, by decide +kernel, by decide⟩
set_option maxRecDepth 100000 in
theorem mk_L_8 : mw_mV RL 8 mm_X6_setKind 4 := ⟨mo_X6_setKind, rfl, List.mem_of_getElem? (i := 205) rfl, List.mem_of_getElem? (i := 206) rfl, List.mem_of_getElem? (i := 207) rfl⟩
set_option maxRecDepth 100000 in
theorem mk_L_18 : mw_mV RL 18 mm_X6_setDefault 3 := ⟨mo_X6_setDefault, rfl, List.mem_of_getElem? (i := 378) rfl, List.mem_of_getElem? (i := 379) rfl, List.mem_of_getElem? (i := 380) rfl⟩
set_option maxRecDepth 100000 in
theorem mk_L_24 : mw_mV RL 24 mm_X6_create 1 := ⟨mo_X6_create, rfl, List.mem_of_getElem? (i := 405) rfl, List.mem_of_getElem? (i := 406) rfl, List.mem_of_getElem? (i := 407) rfl⟩
set_option maxRecDepth 100000 in
theorem mk_L_28 : mw_mV RL 28 mm_X6_set 3 := ⟨mo_X6_set, rfl, List.mem_of_getElem? (i := 532) rfl, List.mem_of_getElem? (i := 533) rfl, List.mem_of_getElem? (i := 534) rfl⟩
set_option maxRecDepth 100000 in
theorem mk_L_32 : mw_mV RL 32 mm_X6_append 3 := ⟨mo_X6_append, rfl, List.mem_of_getElem? (i := 657) rfl, List.mem_of_getElem? (i := 658) rfl, List.mem_of_getElem? (i := 659) rfl⟩
set_option maxRecDepth 100000 in
theorem mk_L_36 : mw_mV RL 36 mm_X6_setPart 3 := ⟨mo_X6_setPart, rfl, List.mem_of_getElem? (i := 711) rfl, List.mem_of_getElem? (i := 712) rfl, List.mem_of_getElem? (i := 713) rfl⟩
set_option maxRecDepth 100000 in
theorem mk_L_39 : mw_mV RL 39 mm_X6_open 2 := ⟨mo_X6_open, rfl, List.mem_of_getElem? (i := 850) rfl, List.mem_of_getElem? (i := 851) rfl, List.mem_of_getElem? (i := 852) rfl⟩
set_option maxRecDepth 100000 in
theorem mk_L_45 : mw_mV RL 45 mm_X6_byteOf 3 := ⟨mo_X6_byteOf, rfl, List.mem_of_getElem? (i := 680) rfl, List.mem_of_getElem? (i := 681) rfl, List.mem_of_getElem? (i := 682) rfl⟩
set_option maxRecDepth 100000 in
theorem mk_L_49 : mw_mV RL 49 mm_X6_read 1 := ⟨mo_X6_read, rfl, List.mem_of_getElem? (i := 821) rfl, List.mem_of_getElem? (i := 822) rfl, List.mem_of_getElem? (i := 823) rfl⟩
set_option maxRecDepth 100000 in
theorem mk_L_52 : mw_mV RL 52 mm_X6_get 2 := ⟨mo_X6_get, rfl, List.mem_of_getElem? (i := 622) rfl, List.mem_of_getElem? (i := 623) rfl, List.mem_of_getElem? (i := 624) rfl⟩
set_option maxRecDepth 100000 in
theorem mk_L_55 : mw_mV RL 55 mm_X6_weight 1 := ⟨mo_X6_weight, rfl, List.mem_of_getElem? (i := 442) rfl, List.mem_of_getElem? (i := 443) rfl, List.mem_of_getElem? (i := 444) rfl⟩
set_option maxRecDepth 100000 in
theorem mk_L_58 : mw_mV RL 58 mm_X6_unknownTag 2 := ⟨mo_X6_unknownTag, rfl, List.mem_of_getElem? (i := 864) rfl, List.mem_of_getElem? (i := 865) rfl, List.mem_of_getElem? (i := 866) rfl⟩
set_option maxRecDepth 100000 in
theorem mk_L_61 : mw_mV RL 61 mm_X6_cut 1 := ⟨mo_X6_cut, rfl, List.mem_of_getElem? (i := 806) rfl, List.mem_of_getElem? (i := 807) rfl, List.mem_of_getElem? (i := 808) rfl⟩
set_option maxRecDepth 100000 in
theorem mk_L_64 : mw_mS RL 64 mm_L_tagAt 1 := ⟨mo_L_tagAt, rfl, List.mem_of_getElem? (i := 363) rfl, List.mem_of_getElem? (i := 364) rfl⟩
set_option maxRecDepth 100000 in
theorem mk_L_69 : mw_mS RL 69 mm_L_kind 3 := ⟨mo_L_kind, rfl, List.mem_of_getElem? (i := 430) rfl, List.mem_of_getElem? (i := 431) rfl⟩
set_option maxRecDepth 100000 in
theorem mk_L_73 : mw_mS RL 73 mm_L_groups 1 := ⟨mo_L_groups, rfl, List.mem_of_getElem? (i := 642) rfl, List.mem_of_getElem? (i := 643) rfl⟩
set_option maxRecDepth 100000 in
theorem mk_L_78 : mw_mS RL 78 mm_L_size 3 := ⟨mo_L_size, rfl, List.mem_of_getElem? (i := 639) rfl, List.mem_of_getElem? (i := 640) rfl⟩
set_option maxRecDepth 100000 in
theorem mk_L_82 : mw_mS RL 82 mm_L_isKnown 3 := ⟨mo_L_isKnown, rfl, List.mem_of_getElem? (i := 436) rfl, List.mem_of_getElem? (i := 437) rfl⟩
set_option maxRecDepth 100000 in
theorem mk_L_86 : mw_mS RL 86 mm_L_last 6 := ⟨mo_L_last, rfl, List.mem_of_getElem? (i := 433) rfl, List.mem_of_getElem? (i := 434) rfl⟩
set_option maxRecDepth 100000 in
theorem mk_L_90 : mw_mS RL 90 mm_L_stands 2 := ⟨mo_L_stands, rfl, List.mem_of_getElem? (i := 771) rfl, List.mem_of_getElem? (i := 772) rfl⟩
set_option maxRecDepth 100000 in
theorem mk_L_93 : mw_mS RL 93 mm_L_place 2 := ⟨mo_L_place, rfl, List.mem_of_getElem? (i := 705) rfl, List.mem_of_getElem? (i := 706) rfl⟩
set_option maxRecDepth 100000 in
theorem mk_L_96 : mw_mS RL 96 mm_L_writes 3 := ⟨mo_L_writes, rfl, List.mem_of_getElem? (i := 780) rfl, List.mem_of_getElem? (i := 781) rfl⟩
set_option maxRecDepth 100000 in
theorem mk_L_100 : mw_mS RL 100 mm_L_writeGroups 3 := ⟨mo_L_writeGroups, rfl, List.mem_of_getElem? (i := 777) rfl, List.mem_of_getElem? (i := 778) rfl⟩
set_option maxRecDepth 100000 in
theorem mk_L_103 : mw_mS RL 103 mm_L_byteAt 4 := ⟨mo_L_byteAt, rfl, List.mem_of_getElem? (i := 783) rfl, List.mem_of_getElem? (i := 784) rfl⟩
set_option maxRecDepth 100000 in
theorem mk_L_107 : mw_mS RL 107 mm_L_isCanonical 8 := ⟨mo_L_isCanonical, rfl, List.mem_of_getElem? (i := 768) rfl, List.mem_of_getElem? (i := 769) rfl⟩
set_option maxRecDepth 100000 in
theorem mk_L_111 : mw_mS RL 111 mm_L_writeField 7 := ⟨mo_L_writeField, rfl, List.mem_of_getElem? (i := 774) rfl, List.mem_of_getElem? (i := 775) rfl⟩
set_option maxRecDepth 100000 in
theorem mk_L_115 : mw_mS RL 115 mm_L_remove 7 := ⟨mo_L_remove, rfl, List.mem_of_getElem? (i := 651) rfl, List.mem_of_getElem? (i := 652) rfl⟩
set_option maxRecDepth 100000 in
theorem mk_L_119 : mw_mS RL 119 mm_L_number 3 := ⟨mo_L_number, rfl, List.mem_of_getElem? (i := 840) rfl, List.mem_of_getElem? (i := 841) rfl⟩
set_option maxRecDepth 100000 in
theorem mk_L_122 : mw_mSX RL 122 mm_L_setKind 5 := ⟨mo_L_setKind, by simp, List.mem_of_getElem? (i := 200) rfl, List.mem_of_getElem? (i := 201) rfl⟩
set_option maxRecDepth 100000 in
theorem mk_L_125 : mw_mV RL 125 mm_X6_addSchema 0 := ⟨mo_X6_addSchema, rfl, List.mem_of_getElem? (i := 316) rfl, List.mem_of_getElem? (i := 317) rfl, List.mem_of_getElem? (i := 318) rfl⟩
set_option maxRecDepth 100000 in
theorem mk_L_129 : mw_mS RL 129 mm_L_low 2 := ⟨mo_L_low, rfl, List.mem_of_getElem? (i := 191) rfl, List.mem_of_getElem? (i := 192) rfl⟩
set_option maxRecDepth 100000 in
theorem mk_L_132 : mw_mV RL 132 mm_X6_kindOf 2 := ⟨mo_X6_kindOf, rfl, List.mem_of_getElem? (i := 366) rfl, List.mem_of_getElem? (i := 367) rfl, List.mem_of_getElem? (i := 368) rfl⟩
set_option maxRecDepth 100000 in
theorem mk_L_135 : mw_mV RL 135 mm_X6_dropKind 2 := ⟨mo_X6_dropKind, rfl, List.mem_of_getElem? (i := 370) rfl, List.mem_of_getElem? (i := 371) rfl, List.mem_of_getElem? (i := 372) rfl⟩
set_option maxRecDepth 100000 in
theorem mk_L_138 : mw_mSX RL 138 mm_L_setDefault 4 := ⟨mo_L_setDefault, by simp, List.mem_of_getElem? (i := 374) rfl, List.mem_of_getElem? (i := 375) rfl⟩
set_option maxRecDepth 100000 in
theorem mk_L_141 : mw_mS RL 141 mm_L_schemas 6 := ⟨mo_L_schemas, rfl, List.mem_of_getElem? (i := 197) rfl, List.mem_of_getElem? (i := 198) rfl⟩
set_option maxRecDepth 100000 in
theorem mk_L_145 : mw_mS RL 145 mm_L_free 1 := ⟨mo_L_free, rfl, List.mem_of_getElem? (i := 399) rfl, List.mem_of_getElem? (i := 400) rfl⟩
set_option maxRecDepth 100000 in
theorem mk_L_149 : mw_mSX RL 149 mm_L_create 2 := ⟨mo_L_create, by simp, List.mem_of_getElem? (i := 402) rfl, List.mem_of_getElem? (i := 403) rfl⟩
set_option maxRecDepth 100000 in
theorem mk_L_152 : mw_mSX RL 152 mm_L_weight 2 := ⟨mo_L_weight, by simp, List.mem_of_getElem? (i := 439) rfl, List.mem_of_getElem? (i := 440) rfl⟩
set_option maxRecDepth 100000 in
theorem mk_L_154 : mw_mV RL 154 mm_X6_copy 2 := ⟨mo_X6_copy, rfl, List.mem_of_getElem? (i := 455) rfl, List.mem_of_getElem? (i := 456) rfl, List.mem_of_getElem? (i := 457) rfl⟩
set_option maxRecDepth 100000 in
theorem mk_L_157 : mw_mV RL 157 mm_X6_discard 1 := ⟨mo_X6_discard, rfl, List.mem_of_getElem? (i := 480) rfl, List.mem_of_getElem? (i := 481) rfl, List.mem_of_getElem? (i := 482) rfl⟩
set_option maxRecDepth 100000 in
theorem mk_L_160 : mw_mSX RL 160 mm_L_set 4 := ⟨mo_L_set, by simp, List.mem_of_getElem? (i := 529) rfl, List.mem_of_getElem? (i := 530) rfl⟩
set_option maxRecDepth 100000 in
theorem mk_L_163 : mw_mSX RL 163 mm_L_hasNone 3 := ⟨mo_L_hasNone, by simp, List.mem_of_getElem? (i := 619) rfl, List.mem_of_getElem? (i := 620) rfl⟩
set_option maxRecDepth 100000 in
theorem mk_L_167 : mw_mS RL 167 mm_L_weightOfOthers 7 := ⟨mo_L_weightOfOthers, rfl, List.mem_of_getElem? (i := 636) rfl, List.mem_of_getElem? (i := 637) rfl⟩
set_option maxRecDepth 100000 in
theorem mk_L_171 : mw_mS RL 171 mm_L_others 6 := ⟨mo_L_others, rfl, List.mem_of_getElem? (i := 645) rfl, List.mem_of_getElem? (i := 646) rfl⟩
set_option maxRecDepth 100000 in
theorem mk_L_174 : mw_mS RL 174 mm_L_replace 12 := ⟨mo_L_replace, rfl, List.mem_of_getElem? (i := 648) rfl, List.mem_of_getElem? (i := 649) rfl⟩
set_option maxRecDepth 100000 in
theorem mk_L_178 : mw_mSX RL 178 mm_L_append 4 := ⟨mo_L_append, by simp, List.mem_of_getElem? (i := 654) rfl, List.mem_of_getElem? (i := 655) rfl⟩
set_option maxRecDepth 100000 in
theorem mk_L_180 : mw_mSX RL 180 mm_L_byteOf 4 := ⟨mo_L_byteOf, by simp, List.mem_of_getElem? (i := 676) rfl, List.mem_of_getElem? (i := 677) rfl⟩
set_option maxRecDepth 100000 in
theorem mk_L_182 : mw_mSX RL 182 mm_L_setPart 4 := ⟨mo_L_setPart, by simp, List.mem_of_getElem? (i := 708) rfl, List.mem_of_getElem? (i := 709) rfl⟩
set_option maxRecDepth 100000 in
theorem mk_L_184 : mw_mS RL 184 mm_L_canonical 11 := ⟨mo_L_canonical, rfl, List.mem_of_getElem? (i := 765) rfl, List.mem_of_getElem? (i := 766) rfl⟩
set_option maxRecDepth 100000 in
theorem mk_L_188 : mw_mV RL 188 mm_X6_clear 2 := ⟨mo_X6_clear, rfl, List.mem_of_getElem? (i := 787) rfl, List.mem_of_getElem? (i := 788) rfl, List.mem_of_getElem? (i := 789) rfl⟩
set_option maxRecDepth 100000 in
theorem mk_L_191 : mw_mV RL 191 mm_X6_has 2 := ⟨mo_X6_has, rfl, List.mem_of_getElem? (i := 791) rfl, List.mem_of_getElem? (i := 792) rfl, List.mem_of_getElem? (i := 793) rfl⟩
set_option maxRecDepth 100000 in
theorem mk_L_195 : mw_mV RL 195 mm_X6_length 0 := ⟨mo_X6_length, rfl, List.mem_of_getElem? (i := 795) rfl, List.mem_of_getElem? (i := 796) rfl, List.mem_of_getElem? (i := 797) rfl⟩
set_option maxRecDepth 100000 in
theorem mk_L_198 : mw_mV RL 198 mm_X6_write 1 := ⟨mo_X6_write, rfl, List.mem_of_getElem? (i := 799) rfl, List.mem_of_getElem? (i := 800) rfl, List.mem_of_getElem? (i := 801) rfl⟩
set_option maxRecDepth 100000 in
theorem mk_L_201 : mw_mSX RL 201 mm_L_cut 2 := ⟨mo_L_cut, by simp, List.mem_of_getElem? (i := 803) rfl, List.mem_of_getElem? (i := 804) rfl⟩
set_option maxRecDepth 100000 in
theorem mk_L_205 : mw_mV RL 205 mm_X6_put 1 := ⟨mo_X6_put, rfl, List.mem_of_getElem? (i := 813) rfl, List.mem_of_getElem? (i := 814) rfl, List.mem_of_getElem? (i := 815) rfl⟩
set_option maxRecDepth 100000 in
theorem mk_L_209 : mw_mSX RL 209 mm_L_read 2 := ⟨mo_L_read, by simp, List.mem_of_getElem? (i := 818) rfl, List.mem_of_getElem? (i := 819) rfl⟩
set_option maxRecDepth 100000 in
theorem mk_L_211 : mw_mS RL 211 mm_L_reads 9 := ⟨mo_L_reads, rfl, List.mem_of_getElem? (i := 837) rfl, List.mem_of_getElem? (i := 838) rfl⟩
set_option maxRecDepth 100000 in
theorem mk_L_215 : mw_mV RL 215 mm_X6_fault 0 := ⟨mo_X6_fault, rfl, List.mem_of_getElem? (i := 843) rfl, List.mem_of_getElem? (i := 844) rfl, List.mem_of_getElem? (i := 845) rfl⟩
set_option maxRecDepth 100000 in
theorem mk_L_218 : mw_mSX RL 218 mm_L_open 3 := ⟨mo_L_open, by simp, List.mem_of_getElem? (i := 847) rfl, List.mem_of_getElem? (i := 848) rfl⟩
set_option maxRecDepth 100000 in
theorem mk_L_223 : mw_mSX RL 223 mm_L_unknownTag 3 := ⟨mo_L_unknownTag, by simp, List.mem_of_getElem? (i := 861) rfl, List.mem_of_getElem? (i := 862) rfl⟩
set_option maxRecDepth 100000 in
theorem mk_L_225 : mw_mV RL 225 mm_X6_schemaOf 1 := ⟨mo_X6_schemaOf, rfl, List.mem_of_getElem? (i := 869) rfl, List.mem_of_getElem? (i := 870) rfl, List.mem_of_getElem? (i := 871) rfl⟩
set_option maxRecDepth 100000 in
theorem mk_L_228 : mw_mV RL 228 mm_X6_unknowns 1 := ⟨mo_X6_unknowns, rfl, List.mem_of_getElem? (i := 873) rfl, List.mem_of_getElem? (i := 874) rfl, List.mem_of_getElem? (i := 875) rfl⟩
set_option maxRecDepth 100000 in
theorem mk_L_231 : mw_mS RL 231 mm_L_weightOf 4 := ⟨mo_L_weightOf, rfl, List.mem_of_getElem? (i := 877) rfl, List.mem_of_getElem? (i := 878) rfl⟩
set_option maxRecDepth 100000 in
theorem mk_L_235 : mw_mS RL 235 mm_L_isMessage 10 := ⟨mo_L_isMessage, rfl, List.mem_of_getElem? (i := 858) rfl, List.mem_of_getElem? (i := 859) rfl⟩
set_option maxRecDepth 100000 in
theorem mk_L_239 : mw_mV RL 239 mm_X6_byteAt 1 := ⟨mo_X6_byteAt, rfl, List.mem_of_getElem? (i := 880) rfl, List.mem_of_getElem? (i := 881) rfl, List.mem_of_getElem? (i := 882) rfl⟩
set_option maxRecDepth 100000 in
theorem mk_L_242 : mw_mV RL 242 mm_X6_faultAt 0 := ⟨mo_X6_faultAt, rfl, List.mem_of_getElem? (i := 884) rfl, List.mem_of_getElem? (i := 885) rfl, List.mem_of_getElem? (i := 886) rfl⟩
set_option maxRecDepth 100000 in
theorem mk_L_245 : mw_mS RL 245 mm_L_isReason 5 := ⟨mo_L_isReason, rfl, List.mem_of_getElem? (i := 892) rfl, List.mem_of_getElem? (i := 893) rfl⟩
set_option maxRecDepth 100000 in
theorem mk_L_249 : mw_mV RL 249 mm_X6_conflict 2 := ⟨mo_X6_conflict, rfl, List.mem_of_getElem? (i := 896) rfl, List.mem_of_getElem? (i := 897) rfl, List.mem_of_getElem? (i := 898) rfl⟩
set_option maxRecDepth 100000 in
theorem mk_L_252 : mw_mV RL 252 mm_X6_areSame 2 := ⟨mo_X6_areSame, rfl, List.mem_of_getElem? (i := 929) rfl, List.mem_of_getElem? (i := 930) rfl, List.mem_of_getElem? (i := 931) rfl⟩
set_option maxRecDepth 100000 in
theorem mk_L_255 : mw_mV RL 255 mm_X6_areSameByBytes 2 := ⟨mo_X6_areSameByBytes, rfl, List.mem_of_getElem? (i := 949) rfl, List.mem_of_getElem? (i := 950) rfl, List.mem_of_getElem? (i := 951) rfl⟩
set_option maxRecDepth 100000 in
theorem mk_L_258 : mw_mV RL 258 mm_X6_isCanonical 1 := ⟨mo_X6_isCanonical, rfl, List.mem_of_getElem? (i := 958) rfl, List.mem_of_getElem? (i := 959) rfl, List.mem_of_getElem? (i := 960) rfl⟩
set_option maxRecDepth 100000 in
theorem mk_L_261 : mw_mI RL 261 mm_X6_init 0 := ⟨mo_X6_init, rfl, rfl, rfl, List.mem_of_getElem? (i := 47) rfl, List.mem_of_getElem? (i := 48) rfl⟩
set_option maxRecDepth 100000 in
theorem mk_L_262 : mw_mS RL 262 mm_L_cell 2 := ⟨mo_L_cell, rfl, List.mem_of_getElem? (i := 187) rfl, List.mem_of_getElem? (i := 188) rfl⟩
set_option maxRecDepth 100000 in
theorem mk_L_266 : mw_mS RL 266 mm_L_keeps 14 := ⟨mo_L_keeps, rfl, List.mem_of_getElem? (i := 194) rfl, List.mem_of_getElem? (i := 195) rfl⟩
set_option maxRecDepth 100000 in
theorem mk_L_270 : mw_mS RL 270 mm_L_isTold 14 := ⟨mo_L_isTold, rfl, List.mem_of_getElem? (i := 855) rfl, List.mem_of_getElem? (i := 856) rfl⟩
set_option maxRecDepth 100000 in
theorem ob_X0_3 : Cond.methodLink RX0 3 objectInit ∈ lw_tbl ∧ Cond.instanceMethod objectInit ∈ lw_tbl ∧ Cond.code objectInit ⟨#[0xb1]⟩ 1 none ∈ lw_tbl := ⟨List.mem_of_getElem? (i := 62) rfl, List.mem_of_getElem? (i := 51) rfl, List.mem_of_getElem? (i := 52) rfl⟩
set_option maxRecDepth 100000 in
theorem mk_X0_19 : mw_mV RX0 19 mm_X0_at 1 := ⟨mo_X0_at, rfl, List.mem_of_getElem? (i := 472) rfl, List.mem_of_getElem? (i := 473) rfl, List.mem_of_getElem? (i := 474) rfl⟩
set_option maxRecDepth 100000 in
theorem mk_X0_23 : mw_mV RX0 23 mm_X0_add 1 := ⟨mo_X0_add, rfl, List.mem_of_getElem? (i := 476) rfl, List.mem_of_getElem? (i := 477) rfl, List.mem_of_getElem? (i := 478) rfl⟩
set_option maxRecDepth 100000 in
theorem mk_X0_27 : mw_mV RX0 27 mm_X0_keepFirst 1 := ⟨mo_X0_keepFirst, rfl, List.mem_of_getElem? (i := 463) rfl, List.mem_of_getElem? (i := 464) rfl, List.mem_of_getElem? (i := 465) rfl⟩
set_option maxRecDepth 100000 in
theorem mk_X0_31 : mw_mV RX0 31 mm_X0_count 0 := ⟨mo_X0_count, rfl, List.mem_of_getElem? (i := 467) rfl, List.mem_of_getElem? (i := 452) rfl, List.mem_of_getElem? (i := 453) rfl⟩
set_option maxRecDepth 100000 in
theorem mk_X0_34 : mw_mV RX0 34 mm_X0_addRange 3 := ⟨mo_X0_addRange, rfl, List.mem_of_getElem? (i := 468) rfl, List.mem_of_getElem? (i := 469) rfl, List.mem_of_getElem? (i := 470) rfl⟩
set_option maxRecDepth 100000 in
theorem mk_X0_38 : mw_mV RX0 38 mm_X0_addKey 2 := ⟨mo_X0_addKey, rfl, List.mem_of_getElem? (i := 582) rfl, List.mem_of_getElem? (i := 584) rfl, List.mem_of_getElem? (i := 14) rfl⟩
set_option maxRecDepth 100000 in
theorem mk_X0_42 : mw_mV RX0 42 mm_X0_addFour 1 := ⟨mo_X0_addFour, rfl, List.mem_of_getElem? (i := 603) rfl, List.mem_of_getElem? (i := 605) rfl, List.mem_of_getElem? (i := 16) rfl⟩
set_option maxRecDepth 100000 in
theorem mk_X0_45 : mw_mV RX0 45 mm_X0_addGroups 1 := ⟨mo_X0_addGroups, rfl, List.mem_of_getElem? (i := 586) rfl, List.mem_of_getElem? (i := 588) rfl, List.mem_of_getElem? (i := 15) rfl⟩
set_option maxRecDepth 100000 in
theorem mk_X0_48 : mw_mV RX0 48 mm_X0_hasSameRange 4 := ⟨mo_X0_hasSameRange, rfl, List.mem_of_getElem? (i := 957) rfl, List.mem_of_getElem? (i := 946) rfl, List.mem_of_getElem? (i := 947) rfl⟩
set_option maxRecDepth 100000 in
theorem ob_X1_3 : Cond.methodLink RX1 3 objectInit ∈ lw_tbl ∧ Cond.instanceMethod objectInit ∈ lw_tbl ∧ Cond.code objectInit ⟨#[0xb1]⟩ 1 none ∈ lw_tbl := ⟨List.mem_of_getElem? (i := 137) rfl, List.mem_of_getElem? (i := 51) rfl, List.mem_of_getElem? (i := 52) rfl⟩
set_option maxRecDepth 100000 in
theorem mk_X1_11 : mw_mIN RX1 11 mm_X2_init 0 := ⟨mo_X2_init, rfl, rfl, rfl, ⟨"Schemabridge", List.mem_of_getElem? (i := 139) rfl⟩, List.mem_of_getElem? (i := 95) rfl⟩
set_option maxRecDepth 100000 in
theorem mk_X1_25 : mw_mV RX1 25 mm_X0_count 0 := ⟨mo_X0_count, rfl, List.mem_of_getElem? (i := 728) rfl, List.mem_of_getElem? (i := 452) rfl, List.mem_of_getElem? (i := 453) rfl⟩
set_option maxRecDepth 100000 in
theorem mk_X1_31 : mw_mV RX1 31 mm_X2_scan 3 := ⟨mo_X2_scan, rfl, List.mem_of_getElem? (i := 729) rfl, List.mem_of_getElem? (i := 493) rfl, List.mem_of_getElem? (i := 494) rfl⟩
set_option maxRecDepth 100000 in
theorem mk_X1_35 : mw_mV RX1 35 mm_X1_noteLasts 1 := ⟨mo_X1_noteLasts, rfl, List.mem_of_getElem? (i := 730) rfl, List.mem_of_getElem? (i := 732) rfl, List.mem_of_getElem? (i := 18) rfl⟩
set_option maxRecDepth 100000 in
theorem mk_X1_42 : mw_mV RX1 42 mm_X2_count 0 := ⟨mo_X2_count, rfl, List.mem_of_getElem? (i := 735) rfl, List.mem_of_getElem? (i := 522) rfl, List.mem_of_getElem? (i := 523) rfl⟩
set_option maxRecDepth 100000 in
theorem mk_X1_43 : mw_mV RX1 43 mm_X2_isKnown 2 := ⟨mo_X2_isKnown, rfl, List.mem_of_getElem? (i := 738) rfl, List.mem_of_getElem? (i := 554) rfl, List.mem_of_getElem? (i := 555) rfl⟩
set_option maxRecDepth 100000 in
theorem mk_X1_47 : mw_mV RX1 47 mm_X1_isToldBy 2 := ⟨mo_X1_isToldBy, rfl, List.mem_of_getElem? (i := 739) rfl, List.mem_of_getElem? (i := 741) rfl, List.mem_of_getElem? (i := 19) rfl⟩
set_option maxRecDepth 100000 in
theorem mk_X1_50 : mw_mV RX1 50 mm_X1_insert 1 := ⟨mo_X1_insert, rfl, List.mem_of_getElem? (i := 751) rfl, List.mem_of_getElem? (i := 753) rfl, List.mem_of_getElem? (i := 20) rfl⟩
set_option maxRecDepth 100000 in
theorem mk_X1_54 : mw_mV RX1 54 mm_X0_keepFirst 1 := ⟨mo_X0_keepFirst, rfl, List.mem_of_getElem? (i := 759) rfl, List.mem_of_getElem? (i := 464) rfl, List.mem_of_getElem? (i := 465) rfl⟩
set_option maxRecDepth 100000 in
theorem mk_X1_57 : mw_mV RX1 57 mm_X1_placeAt 1 := ⟨mo_X1_placeAt, rfl, List.mem_of_getElem? (i := 760) rfl, List.mem_of_getElem? (i := 762) rfl, List.mem_of_getElem? (i := 21) rfl⟩
set_option maxRecDepth 100000 in
theorem mk_X1_61 : mw_mV RX1 61 mm_X2_writeTo 2 := ⟨mo_X2_writeTo, rfl, List.mem_of_getElem? (i := 764) rfl, List.mem_of_getElem? (i := 562) rfl, List.mem_of_getElem? (i := 563) rfl⟩
set_option maxRecDepth 100000 in
theorem mk_X1_65 : mw_mV RX1 65 mm_X2_isSameAt 3 := ⟨mo_X2_isSameAt, rfl, List.mem_of_getElem? (i := 941) rfl, List.mem_of_getElem? (i := 942) rfl, List.mem_of_getElem? (i := 943) rfl⟩
set_option maxRecDepth 100000 in
theorem mk_X1_69 : mw_mS RX1 69 mm_J7_fill_53178 2 := ⟨mo_J7_fill_53178, rfl, List.mem_of_getElem? (i := 734) rfl, List.mem_of_getElem? (i := 343) rfl⟩
set_option maxRecDepth 100000 in
theorem mk_X1_75 : mw_mV RX1 75 mm_X2_tagAt 1 := ⟨mo_X2_tagAt, rfl, List.mem_of_getElem? (i := 736) rfl, List.mem_of_getElem? (i := 546) rfl, List.mem_of_getElem? (i := 547) rfl⟩
set_option maxRecDepth 100000 in
theorem mk_X1_78 : mw_mSN RX1 78 mm_X6_isTag 1 := ⟨mo_X6_isTag, rfl, ⟨"Schemabridge", List.mem_of_getElem? (i := 737) rfl⟩, List.mem_of_getElem? (i := 285) rfl⟩
set_option maxRecDepth 100000 in
theorem mk_X1_82 : mw_mV RX1 82 mm_X2_numberAt 1 := ⟨mo_X2_numberAt, rfl, List.mem_of_getElem? (i := 743) rfl, List.mem_of_getElem? (i := 575) rfl, List.mem_of_getElem? (i := 576) rfl⟩
set_option maxRecDepth 100000 in
theorem mk_X1_85 : mw_mV RX1 85 mm_X5_isDefault 2 := ⟨mo_X5_isDefault, rfl, List.mem_of_getElem? (i := 744) rfl, List.mem_of_getElem? (i := 745) rfl, List.mem_of_getElem? (i := 746) rfl⟩
set_option maxRecDepth 100000 in
theorem ob_X2_3 : Cond.methodLink RX2 3 objectInit ∈ lw_tbl ∧ Cond.instanceMethod objectInit ∈ lw_tbl ∧ Cond.code objectInit ⟨#[0xb1]⟩ 1 none ∈ lw_tbl := ⟨List.mem_of_getElem? (i := 97) rfl, List.mem_of_getElem? (i := 51) rfl, List.mem_of_getElem? (i := 52) rfl⟩
set_option maxRecDepth 100000 in
theorem mk_X2_26 : mw_mIN RX2 26 mm_X0_init 0 := ⟨mo_X0_init, rfl, rfl, rfl, ⟨"Schemabridge", List.mem_of_getElem? (i := 99) rfl⟩, List.mem_of_getElem? (i := 60) rfl⟩
set_option maxRecDepth 100000 in
theorem mk_X2_47 : mw_mV RX2 47 mm_X2_scanField 0 := ⟨mo_X2_scanField, rfl, List.mem_of_getElem? (i := 496) rfl, List.mem_of_getElem? (i := 498) rfl, List.mem_of_getElem? (i := 6) rfl⟩
set_option maxRecDepth 100000 in
theorem mk_X2_50 : mw_mV RX2 50 mm_X2_isPlace 1 := ⟨mo_X2_isPlace, rfl, List.mem_of_getElem? (i := 549) rfl, List.mem_of_getElem? (i := 551) rfl, List.mem_of_getElem? (i := 13) rfl⟩
set_option maxRecDepth 100000 in
theorem mk_X2_54 : mw_mV RX2 54 mm_X2_typeAt 1 := ⟨mo_X2_typeAt, rfl, List.mem_of_getElem? (i := 565) rfl, List.mem_of_getElem? (i := 566) rfl, List.mem_of_getElem? (i := 567) rfl⟩
set_option maxRecDepth 100000 in
theorem mk_X2_58 : mw_mV RX2 58 mm_X2_numberAt 1 := ⟨mo_X2_numberAt, rfl, List.mem_of_getElem? (i := 574) rfl, List.mem_of_getElem? (i := 575) rfl, List.mem_of_getElem? (i := 576) rfl⟩
set_option maxRecDepth 100000 in
theorem mk_X2_61 : mw_mV RX2 61 mm_X2_endAt 1 := ⟨mo_X2_endAt, rfl, List.mem_of_getElem? (i := 594) rfl, List.mem_of_getElem? (i := 595) rfl, List.mem_of_getElem? (i := 596) rfl⟩
set_option maxRecDepth 100000 in
theorem mk_X2_64 : mw_mV RX2 64 mm_X2_bytesAt 1 := ⟨mo_X2_bytesAt, rfl, List.mem_of_getElem? (i := 570) rfl, List.mem_of_getElem? (i := 571) rfl, List.mem_of_getElem? (i := 572) rfl⟩
set_option maxRecDepth 100000 in
theorem mk_X2_67 : mw_mV RX2 67 mm_X5_typeAt 1 := ⟨mo_X5_typeAt, rfl, List.mem_of_getElem? (i := 557) rfl, List.mem_of_getElem? (i := 558) rfl, List.mem_of_getElem? (i := 559) rfl⟩
set_option maxRecDepth 100000 in
theorem mk_X2_70 : mw_mV RX2 70 mm_X2_tagAt 1 := ⟨mo_X2_tagAt, rfl, List.mem_of_getElem? (i := 569) rfl, List.mem_of_getElem? (i := 546) rfl, List.mem_of_getElem? (i := 547) rfl⟩
set_option maxRecDepth 100000 in
theorem mk_X2_73 : mw_mV RX2 73 mm_X2_isKnown 2 := ⟨mo_X2_isKnown, rfl, List.mem_of_getElem? (i := 630) rfl, List.mem_of_getElem? (i := 554) rfl, List.mem_of_getElem? (i := 555) rfl⟩
set_option maxRecDepth 100000 in
theorem mk_X2_77 : mw_mV RX2 77 mm_X0_addBytesHead 2 := ⟨mo_X0_addBytesHead, rfl, List.mem_of_getElem? (i := 578) rfl, List.mem_of_getElem? (i := 579) rfl, List.mem_of_getElem? (i := 580) rfl⟩
set_option maxRecDepth 100000 in
theorem mk_X2_81 : mw_mV RX2 81 mm_X2_bytesBeginAt 1 := ⟨mo_X2_bytesBeginAt, rfl, List.mem_of_getElem? (i := 590) rfl, List.mem_of_getElem? (i := 591) rfl, List.mem_of_getElem? (i := 592) rfl⟩
set_option maxRecDepth 100000 in
theorem mk_X2_84 : mw_mV RX2 84 mm_X0_addRange 3 := ⟨mo_X0_addRange, rfl, List.mem_of_getElem? (i := 598) rfl, List.mem_of_getElem? (i := 469) rfl, List.mem_of_getElem? (i := 470) rfl⟩
set_option maxRecDepth 100000 in
theorem mk_X2_88 : mw_mV RX2 88 mm_X0_addNumberField 3 := ⟨mo_X0_addNumberField, rfl, List.mem_of_getElem? (i := 599) rfl, List.mem_of_getElem? (i := 600) rfl, List.mem_of_getElem? (i := 601) rfl⟩
set_option maxRecDepth 100000 in
theorem mk_X2_92 : mw_mV RX2 92 mm_X0_hasSameRange 4 := ⟨mo_X0_hasSameRange, rfl, List.mem_of_getElem? (i := 945) rfl, List.mem_of_getElem? (i := 946) rfl, List.mem_of_getElem? (i := 947) rfl⟩
set_option maxRecDepth 100000 in
theorem mk_X2_96 : mw_mV RX2 96 mm_X2_scanGroups 0 := ⟨mo_X2_scanGroups, rfl, List.mem_of_getElem? (i := 500) rfl, List.mem_of_getElem? (i := 502) rfl, List.mem_of_getElem? (i := 7) rfl⟩
set_option maxRecDepth 100000 in
theorem mk_X2_100 : mw_mS RX2 100 mm_X2_keyProblem 2 := ⟨mo_X2_keyProblem, rfl, List.mem_of_getElem? (i := 505) rfl, List.mem_of_getElem? (i := 506) rfl⟩
set_option maxRecDepth 100000 in
theorem mk_X2_104 : mw_mV RX2 104 mm_X2_scanFour 0 := ⟨mo_X2_scanFour, rfl, List.mem_of_getElem? (i := 509) rfl, List.mem_of_getElem? (i := 511) rfl, List.mem_of_getElem? (i := 8) rfl⟩
set_option maxRecDepth 100000 in
theorem mk_X2_107 : mw_mV RX2 107 mm_X2_skipBytes 1 := ⟨mo_X2_skipBytes, rfl, List.mem_of_getElem? (i := 513) rfl, List.mem_of_getElem? (i := 515) rfl, List.mem_of_getElem? (i := 9) rfl⟩
set_option maxRecDepth 100000 in
theorem mk_X2_111 : mw_mV RX2 111 mm_X2_keepField 3 := ⟨mo_X2_keepField, rfl, List.mem_of_getElem? (i := 517) rfl, List.mem_of_getElem? (i := 519) rfl, List.mem_of_getElem? (i := 10) rfl⟩
set_option maxRecDepth 100000 in
theorem mk_X2_114 : mw_mSN RX2 114 mm_X6_isTag 1 := ⟨mo_X6_isTag, rfl, ⟨"Schemabridge", List.mem_of_getElem? (i := 508) rfl⟩, List.mem_of_getElem? (i := 285) rfl⟩
set_option maxRecDepth 100000 in
theorem mk_X2_117 : mw_mV RX2 117 mm_X0_at 1 := ⟨mo_X0_at, rfl, List.mem_of_getElem? (i := 504) rfl, List.mem_of_getElem? (i := 473) rfl, List.mem_of_getElem? (i := 474) rfl⟩
set_option maxRecDepth 100000 in
theorem ob_X3_1 : Cond.methodLink RX3 1 objectInit ∈ lw_tbl ∧ Cond.instanceMethod objectInit ∈ lw_tbl ∧ Cond.code objectInit ⟨#[0xb1]⟩ 1 none ∈ lw_tbl := ⟨List.mem_of_getElem? (i := 413) rfl, List.mem_of_getElem? (i := 51) rfl, List.mem_of_getElem? (i := 52) rfl⟩
set_option maxRecDepth 100000 in
theorem mk_X3_9 : mw_mIN RX3 9 mm_X0_init 0 := ⟨mo_X0_init, rfl, rfl, rfl, ⟨"Schemabridge", List.mem_of_getElem? (i := 415) rfl⟩, List.mem_of_getElem? (i := 60) rfl⟩
set_option maxRecDepth 100000 in
theorem ob_X4_3 : Cond.methodLink RX4 3 objectInit ∈ lw_tbl ∧ Cond.instanceMethod objectInit ∈ lw_tbl ∧ Cond.code objectInit ⟨#[0xb1]⟩ 1 none ∈ lw_tbl := ⟨List.mem_of_getElem? (i := 76) rfl, List.mem_of_getElem? (i := 51) rfl, List.mem_of_getElem? (i := 52) rfl⟩
set_option maxRecDepth 100000 in
theorem mk_X4_24 : mw_mV RX4 24 mm_X4_forgetPairs 0 := ⟨mo_X4_forgetPairs, rfl, List.mem_of_getElem? (i := 904) rfl, List.mem_of_getElem? (i := 906) rfl, List.mem_of_getElem? (i := 23) rfl⟩
set_option maxRecDepth 100000 in
theorem mk_X4_27 : mw_mV RX4 27 mm_X4_notePair 2 := ⟨mo_X4_notePair, rfl, List.mem_of_getElem? (i := 908) rfl, List.mem_of_getElem? (i := 910) rfl, List.mem_of_getElem? (i := 24) rfl⟩
set_option maxRecDepth 100000 in
theorem mk_X4_31 : mw_mV RX4 31 mm_X5_differsAt 2 := ⟨mo_X5_differsAt, rfl, List.mem_of_getElem? (i := 912) rfl, List.mem_of_getElem? (i := 913) rfl, List.mem_of_getElem? (i := 914) rfl⟩
set_option maxRecDepth 100000 in
theorem mk_X4_35 : mw_mV RX4 35 mm_X4_leadsToDifference 3 := ⟨mo_X4_leadsToDifference, rfl, List.mem_of_getElem? (i := 916) rfl, List.mem_of_getElem? (i := 918) rfl, List.mem_of_getElem? (i := 25) rfl⟩
set_option maxRecDepth 100000 in
theorem mk_X4_43 : mw_mV RX4 43 mm_X4_notePartsAt 3 := ⟨mo_X4_notePartsAt, rfl, List.mem_of_getElem? (i := 920) rfl, List.mem_of_getElem? (i := 922) rfl, List.mem_of_getElem? (i := 26) rfl⟩
set_option maxRecDepth 100000 in
theorem mk_X4_47 : mw_mV RX4 47 mm_X4_differsSomewhere 2 := ⟨mo_X4_differsSomewhere, rfl, List.mem_of_getElem? (i := 925) rfl, List.mem_of_getElem? (i := 927) rfl, List.mem_of_getElem? (i := 27) rfl⟩
set_option maxRecDepth 100000 in
theorem mk_X4_51 : mw_mV RX4 51 mm_X5_partOf 1 := ⟨mo_X5_partOf, rfl, List.mem_of_getElem? (i := 924) rfl, List.mem_of_getElem? (i := 719) rfl, List.mem_of_getElem? (i := 720) rfl⟩
set_option maxRecDepth 100000 in
theorem ob_X5_3 : Cond.methodLink RX5 3 objectInit ∈ lw_tbl ∧ Cond.instanceMethod objectInit ∈ lw_tbl ∧ Cond.code objectInit ⟨#[0xb1]⟩ 1 none ∈ lw_tbl := ⟨List.mem_of_getElem? (i := 340) rfl, List.mem_of_getElem? (i := 51) rfl, List.mem_of_getElem? (i := 52) rfl⟩
set_option maxRecDepth 100000 in
theorem mk_X5_29 : mw_mS RX5 29 mm_J7_fill_53178 2 := ⟨mo_J7_fill_53178, rfl, List.mem_of_getElem? (i := 342) rfl, List.mem_of_getElem? (i := 343) rfl⟩
set_option maxRecDepth 100000 in
theorem mk_X5_35 : mw_mSN RX5 35 mm_X6_isTag 1 := ⟨mo_X6_isTag, rfl, ⟨"Schemabridge", List.mem_of_getElem? (i := 308) rfl⟩, List.mem_of_getElem? (i := 285) rfl⟩
set_option maxRecDepth 100000 in
theorem mk_X5_39 : mw_mS RX5 39 mm_X5_typeOfKind 1 := ⟨mo_X5_typeOfKind, rfl, List.mem_of_getElem? (i := 313) rfl, List.mem_of_getElem? (i := 314) rfl⟩
set_option maxRecDepth 100000 in
theorem mk_X5_43 : mw_mV RX5 43 mm_X5_kindAt 1 := ⟨mo_X5_kindAt, rfl, List.mem_of_getElem? (i := 386) rfl, List.mem_of_getElem? (i := 305) rfl, List.mem_of_getElem? (i := 306) rfl⟩
set_option maxRecDepth 100000 in
theorem mk_X5_46 : mw_mS RX5 46 mm_X5_isIntKind 1 := ⟨mo_X5_isIntKind, rfl, List.mem_of_getElem? (i := 387) rfl, List.mem_of_getElem? (i := 388) rfl⟩
set_option maxRecDepth 100000 in
theorem mk_X5_49 : mw_mV RX5 49 mm_X5_typeAt 1 := ⟨mo_X5_typeAt, rfl, List.mem_of_getElem? (i := 668) rfl, List.mem_of_getElem? (i := 558) rfl, List.mem_of_getElem? (i := 559) rfl⟩
set_option maxRecDepth 100000 in
theorem mk_X5_52 : mw_mV RX5 52 mm_X5_hasInt 1 := ⟨mo_X5_hasInt, rfl, List.mem_of_getElem? (i := 748) rfl, List.mem_of_getElem? (i := 383) rfl, List.mem_of_getElem? (i := 384) rfl⟩
set_option maxRecDepth 100000 in
theorem mk_X5_55 : mw_mV RX5 55 mm_X5_valueOf 2 := ⟨mo_X5_valueOf, rfl, List.mem_of_getElem? (i := 749) rfl, List.mem_of_getElem? (i := 633) rfl, List.mem_of_getElem? (i := 634) rfl⟩
set_option maxRecDepth 100000 in
theorem mk_X5_59 : mw_mV RX5 59 mm_X5_defaultAt 1 := ⟨mo_X5_defaultAt, rfl, List.mem_of_getElem? (i := 750) rfl, List.mem_of_getElem? (i := 392) rfl, List.mem_of_getElem? (i := 393) rfl⟩
set_option maxRecDepth 100000 in
theorem ob_X6_1 : Cond.methodLink RX6 1 objectInit ∈ lw_tbl ∧ Cond.instanceMethod objectInit ∈ lw_tbl ∧ Cond.code objectInit ⟨#[0xb1]⟩ 1 none ∈ lw_tbl := ⟨List.mem_of_getElem? (i := 50) rfl, List.mem_of_getElem? (i := 51) rfl, List.mem_of_getElem? (i := 52) rfl⟩
set_option maxRecDepth 100000 in
theorem mk_X6_23 : mw_mIN RX6 23 mm_X0_init 0 := ⟨mo_X0_init, rfl, rfl, rfl, ⟨"Schemabridge", List.mem_of_getElem? (i := 59) rfl⟩, List.mem_of_getElem? (i := 60) rfl⟩
set_option maxRecDepth 100000 in
theorem mk_X6_30 : mw_mIN RX6 30 mm_X4_init 0 := ⟨mo_X4_init, rfl, rfl, rfl, ⟨"Schemabridge", List.mem_of_getElem? (i := 73) rfl⟩, List.mem_of_getElem? (i := 74) rfl⟩
set_option maxRecDepth 100000 in
theorem mk_X6_37 : mw_mIN RX6 37 mm_X2_init 0 := ⟨mo_X2_init, rfl, rfl, rfl, ⟨"Schemabridge", List.mem_of_getElem? (i := 94) rfl⟩, List.mem_of_getElem? (i := 95) rfl⟩
set_option maxRecDepth 100000 in
theorem mk_X6_44 : mw_mIN RX6 44 mm_X1_init 0 := ⟨mo_X1_init, rfl, rfl, rfl, ⟨"Schemabridge", List.mem_of_getElem? (i := 134) rfl⟩, List.mem_of_getElem? (i := 135) rfl⟩
set_option maxRecDepth 100000 in
theorem mk_X6_72 : mw_mI RX6 72 mm_X5_init 1 := ⟨mo_X5_init, rfl, rfl, rfl, List.mem_of_getElem? (i := 337) rfl, List.mem_of_getElem? (i := 338) rfl⟩
set_option maxRecDepth 100000 in
theorem mk_X6_75 : mw_mV RX6 75 mm_X6_schemaAt 1 := ⟨mo_X6_schemaAt, rfl, List.mem_of_getElem? (i := 209) rfl, List.mem_of_getElem? (i := 211) rfl, List.mem_of_getElem? (i := 0) rfl⟩
set_option maxRecDepth 100000 in
theorem mk_X6_79 : mw_mS RX6 79 mm_X6_checkTag 1 := ⟨mo_X6_checkTag, rfl, List.mem_of_getElem? (i := 281) rfl, List.mem_of_getElem? (i := 282) rfl⟩
set_option maxRecDepth 100000 in
theorem mk_X6_87 : mw_mV RX6 87 mm_X5_kindAt 1 := ⟨mo_X5_kindAt, rfl, List.mem_of_getElem? (i := 304) rfl, List.mem_of_getElem? (i := 305) rfl, List.mem_of_getElem? (i := 306) rfl⟩
set_option maxRecDepth 100000 in
theorem mk_X6_91 : mw_mV RX6 91 mm_X5_giveKind 3 := ⟨mo_X5_giveKind, rfl, List.mem_of_getElem? (i := 309) rfl, List.mem_of_getElem? (i := 310) rfl, List.mem_of_getElem? (i := 311) rfl⟩
set_option maxRecDepth 100000 in
theorem mk_X6_95 : mw_mV RX6 95 mm_X5_hasInt 1 := ⟨mo_X5_hasInt, rfl, List.mem_of_getElem? (i := 382) rfl, List.mem_of_getElem? (i := 383) rfl, List.mem_of_getElem? (i := 384) rfl⟩
set_option maxRecDepth 100000 in
theorem mk_X6_101 : mw_mV RX6 101 mm_X5_defaultAt 1 := ⟨mo_X5_defaultAt, rfl, List.mem_of_getElem? (i := 391) rfl, List.mem_of_getElem? (i := 392) rfl, List.mem_of_getElem? (i := 393) rfl⟩
set_option maxRecDepth 100000 in
theorem mk_X6_104 : mw_mV RX6 104 mm_X5_giveDefault 2 := ⟨mo_X5_giveDefault, rfl, List.mem_of_getElem? (i := 395) rfl, List.mem_of_getElem? (i := 396) rfl, List.mem_of_getElem? (i := 397) rfl⟩
set_option maxRecDepth 100000 in
theorem mk_X6_108 : mw_mV RX6 108 mm_X4_leastReason 2 := ⟨mo_X4_leastReason, rfl, List.mem_of_getElem? (i := 900) rfl, List.mem_of_getElem? (i := 901) rfl, List.mem_of_getElem? (i := 902) rfl⟩
set_option maxRecDepth 100000 in
theorem mk_X6_112 : mw_mI RX6 112 mm_X3_init 1 := ⟨mo_X3_init, rfl, rfl, rfl, List.mem_of_getElem? (i := 410) rfl, List.mem_of_getElem? (i := 411) rfl⟩
set_option maxRecDepth 100000 in
theorem mk_X6_115 : mw_mV RX6 115 mm_X6_addMessage 1 := ⟨mo_X6_addMessage, rfl, List.mem_of_getElem? (i := 425) rfl, List.mem_of_getElem? (i := 427) rfl, List.mem_of_getElem? (i := 2) rfl⟩
set_option maxRecDepth 100000 in
theorem mk_X6_119 : mw_mV RX6 119 mm_X6_messageAt 1 := ⟨mo_X6_messageAt, rfl, List.mem_of_getElem? (i := 446) rfl, List.mem_of_getElem? (i := 448) rfl, List.mem_of_getElem? (i := 3) rfl⟩
set_option maxRecDepth 100000 in
theorem mk_X6_126 : mw_mV RX6 126 mm_X0_replaceBy 1 := ⟨mo_X0_replaceBy, rfl, List.mem_of_getElem? (i := 459) rfl, List.mem_of_getElem? (i := 460) rfl, List.mem_of_getElem? (i := 461) rfl⟩
set_option maxRecDepth 100000 in
theorem mk_X6_130 : mw_mV RX6 130 mm_X6_fieldsOf 1 := ⟨mo_X6_fieldsOf, rfl, List.mem_of_getElem? (i := 484) rfl, List.mem_of_getElem? (i := 486) rfl, List.mem_of_getElem? (i := 4) rfl⟩
set_option maxRecDepth 100000 in
theorem mk_X6_134 : mw_mV RX6 134 mm_X2_count 0 := ⟨mo_X2_count, rfl, List.mem_of_getElem? (i := 521) rfl, List.mem_of_getElem? (i := 522) rfl, List.mem_of_getElem? (i := 523) rfl⟩
set_option maxRecDepth 100000 in
theorem mk_X6_138 : mw_mV RX6 138 mm_X6_removeMessage 1 := ⟨mo_X6_removeMessage, rfl, List.mem_of_getElem? (i := 525) rfl, List.mem_of_getElem? (i := 527) rfl, List.mem_of_getElem? (i := 11) rfl⟩
set_option maxRecDepth 100000 in
theorem mk_X6_145 : mw_mS RX6 145 mm_X6_checkHasInt 2 := ⟨mo_X6_checkHasInt, rfl, List.mem_of_getElem? (i := 536) rfl, List.mem_of_getElem? (i := 537) rfl⟩
set_option maxRecDepth 100000 in
theorem mk_X6_149 : mw_mV RX6 149 mm_X6_draftWithoutKnown 3 := ⟨mo_X6_draftWithoutKnown, rfl, List.mem_of_getElem? (i := 540) rfl, List.mem_of_getElem? (i := 542) rfl, List.mem_of_getElem? (i := 12) rfl⟩
set_option maxRecDepth 100000 in
theorem mk_X6_153 : mw_mV RX6 153 mm_X5_typeAt 1 := ⟨mo_X5_typeAt, rfl, List.mem_of_getElem? (i := 607) rfl, List.mem_of_getElem? (i := 558) rfl, List.mem_of_getElem? (i := 559) rfl⟩
set_option maxRecDepth 100000 in
theorem mk_X6_156 : mw_mV RX6 156 mm_X5_numberOf 2 := ⟨mo_X5_numberOf, rfl, List.mem_of_getElem? (i := 608) rfl, List.mem_of_getElem? (i := 609) rfl, List.mem_of_getElem? (i := 610) rfl⟩
set_option maxRecDepth 100000 in
theorem mk_X6_160 : mw_mV RX6 160 mm_X0_addNumberField 3 := ⟨mo_X0_addNumberField, rfl, List.mem_of_getElem? (i := 612) rfl, List.mem_of_getElem? (i := 600) rfl, List.mem_of_getElem? (i := 601) rfl⟩
set_option maxRecDepth 100000 in
theorem mk_X6_164 : mw_mV RX6 164 mm_X6_takeDraft 1 := ⟨mo_X6_takeDraft, rfl, List.mem_of_getElem? (i := 613) rfl, List.mem_of_getElem? (i := 615) rfl, List.mem_of_getElem? (i := 17) rfl⟩
set_option maxRecDepth 100000 in
theorem mk_X6_168 : mw_mS RX6 168 mm_X6_checkHasBytes 2 := ⟨mo_X6_checkHasBytes, rfl, List.mem_of_getElem? (i := 661) rfl, List.mem_of_getElem? (i := 662) rfl⟩
set_option maxRecDepth 100000 in
theorem mk_X6_171 : mw_mV RX6 171 mm_X2_lastKnown 2 := ⟨mo_X2_lastKnown, rfl, List.mem_of_getElem? (i := 626) rfl, List.mem_of_getElem? (i := 627) rfl, List.mem_of_getElem? (i := 628) rfl⟩
set_option maxRecDepth 100000 in
theorem mk_X6_175 : mw_mV RX6 175 mm_X2_bytesAt 1 := ⟨mo_X2_bytesAt, rfl, List.mem_of_getElem? (i := 670) rfl, List.mem_of_getElem? (i := 571) rfl, List.mem_of_getElem? (i := 572) rfl⟩
set_option maxRecDepth 100000 in
theorem mk_X6_178 : mw_mV RX6 178 mm_X0_addBytesHead 2 := ⟨mo_X0_addBytesHead, rfl, List.mem_of_getElem? (i := 671) rfl, List.mem_of_getElem? (i := 579) rfl, List.mem_of_getElem? (i := 580) rfl⟩
set_option maxRecDepth 100000 in
theorem mk_X6_181 : mw_mV RX6 181 mm_X2_bytesBeginAt 1 := ⟨mo_X2_bytesBeginAt, rfl, List.mem_of_getElem? (i := 672) rfl, List.mem_of_getElem? (i := 591) rfl, List.mem_of_getElem? (i := 592) rfl⟩
set_option maxRecDepth 100000 in
theorem mk_X6_184 : mw_mV RX6 184 mm_X2_endAt 1 := ⟨mo_X2_endAt, rfl, List.mem_of_getElem? (i := 673) rfl, List.mem_of_getElem? (i := 595) rfl, List.mem_of_getElem? (i := 596) rfl⟩
set_option maxRecDepth 100000 in
theorem mk_X6_187 : mw_mV RX6 187 mm_X0_addRange 3 := ⟨mo_X0_addRange, rfl, List.mem_of_getElem? (i := 674) rfl, List.mem_of_getElem? (i := 469) rfl, List.mem_of_getElem? (i := 470) rfl⟩
set_option maxRecDepth 100000 in
theorem mk_X6_191 : mw_mV RX6 191 mm_X0_add 1 := ⟨mo_X0_add, rfl, List.mem_of_getElem? (i := 675) rfl, List.mem_of_getElem? (i := 477) rfl, List.mem_of_getElem? (i := 478) rfl⟩
set_option maxRecDepth 100000 in
theorem mk_X6_195 : mw_mS RX6 195 mm_X6_partAt 2 := ⟨mo_X6_partAt, rfl, List.mem_of_getElem? (i := 715) rfl, List.mem_of_getElem? (i := 716) rfl⟩
set_option maxRecDepth 100000 in
theorem mk_X6_201 : mw_mV RX6 201 mm_X1_choose 2 := ⟨mo_X1_choose, rfl, List.mem_of_getElem? (i := 724) rfl, List.mem_of_getElem? (i := 725) rfl, List.mem_of_getElem? (i := 726) rfl⟩
set_option maxRecDepth 100000 in
theorem mk_X6_205 : mw_mV RX6 205 mm_X1_writeTo 1 := ⟨mo_X1_writeTo, rfl, List.mem_of_getElem? (i := 755) rfl, List.mem_of_getElem? (i := 756) rfl, List.mem_of_getElem? (i := 757) rfl⟩
set_option maxRecDepth 100000 in
theorem mk_X6_208 : mw_mV RX6 208 mm_X0_count 0 := ⟨mo_X0_count, rfl, List.mem_of_getElem? (i := 451) rfl, List.mem_of_getElem? (i := 452) rfl, List.mem_of_getElem? (i := 453) rfl⟩
set_option maxRecDepth 100000 in
theorem mk_X6_209 : mw_mV RX6 209 mm_X0_keepFirst 1 := ⟨mo_X0_keepFirst, rfl, List.mem_of_getElem? (i := 544) rfl, List.mem_of_getElem? (i := 464) rfl, List.mem_of_getElem? (i := 465) rfl⟩
set_option maxRecDepth 100000 in
theorem mk_X6_212 : mw_mV RX6 212 mm_X2_tagAt 1 := ⟨mo_X2_tagAt, rfl, List.mem_of_getElem? (i := 545) rfl, List.mem_of_getElem? (i := 546) rfl, List.mem_of_getElem? (i := 547) rfl⟩
set_option maxRecDepth 100000 in
theorem mk_X6_215 : mw_mV RX6 215 mm_X2_writeTo 2 := ⟨mo_X2_writeTo, rfl, List.mem_of_getElem? (i := 561) rfl, List.mem_of_getElem? (i := 562) rfl, List.mem_of_getElem? (i := 563) rfl⟩
set_option maxRecDepth 100000 in
theorem mk_X6_221 : mw_mV RX6 221 mm_X2_numberAt 1 := ⟨mo_X2_numberAt, rfl, List.mem_of_getElem? (i := 631) rfl, List.mem_of_getElem? (i := 575) rfl, List.mem_of_getElem? (i := 576) rfl⟩
set_option maxRecDepth 100000 in
theorem mk_X6_224 : mw_mV RX6 224 mm_X5_valueOf 2 := ⟨mo_X5_valueOf, rfl, List.mem_of_getElem? (i := 632) rfl, List.mem_of_getElem? (i := 633) rfl, List.mem_of_getElem? (i := 634) rfl⟩
set_option maxRecDepth 100000 in
theorem mk_X6_227 : mw_mS RX6 227 mm_X6_lastKnownOrThrow 3 := ⟨mo_X6_lastKnownOrThrow, rfl, List.mem_of_getElem? (i := 684) rfl, List.mem_of_getElem? (i := 685) rfl⟩
set_option maxRecDepth 100000 in
theorem mk_X6_236 : mw_mV RX6 236 mm_X0_at 1 := ⟨mo_X0_at, rfl, List.mem_of_getElem? (i := 704) rfl, List.mem_of_getElem? (i := 473) rfl, List.mem_of_getElem? (i := 474) rfl⟩
set_option maxRecDepth 100000 in
theorem mk_X6_240 : mw_mV RX6 240 mm_X6_fieldsIn 3 := ⟨mo_X6_fieldsIn, rfl, List.mem_of_getElem? (i := 488) rfl, List.mem_of_getElem? (i := 490) rfl, List.mem_of_getElem? (i := 5) rfl⟩
set_option maxRecDepth 100000 in
theorem mk_X6_244 : mw_mV RX6 244 mm_X2_problem 0 := ⟨mo_X2_problem, rfl, List.mem_of_getElem? (i := 829) rfl, List.mem_of_getElem? (i := 830) rfl, List.mem_of_getElem? (i := 831) rfl⟩
set_option maxRecDepth 100000 in
theorem mk_X6_249 : mw_mS RX6 249 mm_X6_messageOf 2 := ⟨mo_X6_messageOf, rfl, List.mem_of_getElem? (i := 834) rfl, List.mem_of_getElem? (i := 835) rfl⟩
set_option maxRecDepth 100000 in
theorem mk_X6_253 : mw_mV RX6 253 mm_X2_isKnown 2 := ⟨mo_X2_isKnown, rfl, List.mem_of_getElem? (i := 553) rfl, List.mem_of_getElem? (i := 554) rfl, List.mem_of_getElem? (i := 555) rfl⟩
set_option maxRecDepth 100000 in
theorem mk_X6_262 : mw_mV RX6 262 mm_X6_chooseBoth 2 := ⟨mo_X6_chooseBoth, rfl, List.mem_of_getElem? (i := 933) rfl, List.mem_of_getElem? (i := 935) rfl, List.mem_of_getElem? (i := 28) rfl⟩
set_option maxRecDepth 100000 in
theorem mk_X6_266 : mw_mV RX6 266 mm_X1_hasSameFields 1 := ⟨mo_X1_hasSameFields, rfl, List.mem_of_getElem? (i := 937) rfl, List.mem_of_getElem? (i := 938) rfl, List.mem_of_getElem? (i := 939) rfl⟩
set_option maxRecDepth 100000 in
theorem mk_X6_270 : mw_mV RX6 270 mm_X0_isSameAs 1 := ⟨mo_X0_isSameAs, rfl, List.mem_of_getElem? (i := 953) rfl, List.mem_of_getElem? (i := 954) rfl, List.mem_of_getElem? (i := 955) rfl⟩
set_option maxRecDepth 100000 in
theorem mk_X6_278 : mw_mV RX6 278 mm_X6_fieldsOfTape 0 := ⟨mo_X6_fieldsOfTape, rfl, List.mem_of_getElem? (i := 825) rfl, List.mem_of_getElem? (i := 827) rfl, List.mem_of_getElem? (i := 22) rfl⟩
set_option maxRecDepth 100000 in
theorem mk_X6_282 : mw_mV RX6 282 mm_X2_problemAt 0 := ⟨mo_X2_problemAt, rfl, List.mem_of_getElem? (i := 888) rfl, List.mem_of_getElem? (i := 889) rfl, List.mem_of_getElem? (i := 890) rfl⟩
set_option maxRecDepth 100000 in
theorem mk_X6_291 : mw_mS RX6 291 mm_X6_isTag 1 := ⟨mo_X6_isTag, rfl, List.mem_of_getElem? (i := 284) rfl, List.mem_of_getElem? (i := 285) rfl⟩
set_option maxRecDepth 100000 in
theorem mk_X6_298 : mw_mV RX6 298 mm_X5_hasBytes 1 := ⟨mo_X5_hasBytes, rfl, List.mem_of_getElem? (i := 664) rfl, List.mem_of_getElem? (i := 665) rfl, List.mem_of_getElem? (i := 666) rfl⟩
set_option maxRecDepth 100000 in
theorem mk_X6_303 : mw_mV RX6 303 mm_X5_partOf 1 := ⟨mo_X5_partOf, rfl, List.mem_of_getElem? (i := 718) rfl, List.mem_of_getElem? (i := 719) rfl, List.mem_of_getElem? (i := 720) rfl⟩
set_option maxRecDepth 100000 in
theorem mk_X6_310 : mw_mV RX6 310 mm_X2_scan 3 := ⟨mo_X2_scan, rfl, List.mem_of_getElem? (i := 492) rfl, List.mem_of_getElem? (i := 493) rfl, List.mem_of_getElem? (i := 494) rfl⟩
set_option maxRecDepth 100000 in
theorem nw_L_9 : Cond.classLink RL 9 RX6 ∈ lw_tbl ∧ Cond.instantiable RX6 11 ∈ lw_tbl ∧ Cond.initialized RX6 ∈ lw_tbl := ⟨List.mem_of_getElem? (i := 45) rfl, List.mem_of_getElem? (i := 46) rfl, List.mem_of_getElem? (i := 30) rfl⟩
set_option maxRecDepth 100000 in
theorem nw_X1_9 : Cond.classLink RX1 9 RX2 ∈ lw_tbl ∧ Cond.instantiable RX2 10 ∈ lw_tbl ∧ Cond.initialized RX2 ∈ lw_tbl := ⟨List.mem_of_getElem? (i := 138) rfl, List.mem_of_getElem? (i := 93) rfl, List.mem_of_getElem? (i := 33) rfl⟩
set_option maxRecDepth 100000 in
theorem nw_X2_24 : Cond.classLink RX2 24 RX0 ∈ lw_tbl ∧ Cond.instantiable RX0 2 ∈ lw_tbl ∧ Cond.initialized RX0 ∈ lw_tbl := ⟨List.mem_of_getElem? (i := 98) rfl, List.mem_of_getElem? (i := 58) rfl, List.mem_of_getElem? (i := 31) rfl⟩
set_option maxRecDepth 100000 in
theorem nw_X3_7 : Cond.classLink RX3 7 RX0 ∈ lw_tbl ∧ Cond.instantiable RX0 2 ∈ lw_tbl ∧ Cond.initialized RX0 ∈ lw_tbl := ⟨List.mem_of_getElem? (i := 414) rfl, List.mem_of_getElem? (i := 58) rfl, List.mem_of_getElem? (i := 31) rfl⟩
set_option maxRecDepth 100000 in
theorem nq_X4_9 : Cond.classLink RX4 9 RX5 ∈ lw_tbl ∧ Cond.arrayOver (.object RX5) ∈ lw_tbl := ⟨List.mem_of_getElem? (i := 77) rfl, List.mem_of_getElem? (i := 54) rfl⟩
set_option maxRecDepth 100000 in
theorem nq_X5_10 : Cond.classLink RX5 10 RX5 ∈ lw_tbl ∧ Cond.arrayOver (.object RX5) ∈ lw_tbl := ⟨List.mem_of_getElem? (i := 341) rfl, List.mem_of_getElem? (i := 54) rfl⟩
set_option maxRecDepth 100000 in
theorem nw_X6_9 : Cond.classLink RX6 9 RX5 ∈ lw_tbl ∧ Cond.instantiable RX5 5 ∈ lw_tbl ∧ Cond.initialized RX5 ∈ lw_tbl := ⟨List.mem_of_getElem? (i := 53) rfl, List.mem_of_getElem? (i := 336) rfl, List.mem_of_getElem? (i := 40) rfl⟩
set_option maxRecDepth 100000 in
theorem nq_X6_9 : Cond.classLink RX6 9 RX5 ∈ lw_tbl ∧ Cond.arrayOver (.object RX5) ∈ lw_tbl := ⟨List.mem_of_getElem? (i := 53) rfl, List.mem_of_getElem? (i := 54) rfl⟩
set_option maxRecDepth 100000 in
theorem nw_X6_15 : Cond.classLink RX6 15 RX3 ∈ lw_tbl ∧ Cond.instantiable RX3 2 ∈ lw_tbl ∧ Cond.initialized RX3 ∈ lw_tbl := ⟨List.mem_of_getElem? (i := 55) rfl, List.mem_of_getElem? (i := 409) rfl, List.mem_of_getElem? (i := 43) rfl⟩
set_option maxRecDepth 100000 in
theorem nq_X6_15 : Cond.classLink RX6 15 RX3 ∈ lw_tbl ∧ Cond.arrayOver (.object RX3) ∈ lw_tbl := ⟨List.mem_of_getElem? (i := 55) rfl, List.mem_of_getElem? (i := 56) rfl⟩
set_option maxRecDepth 100000 in
theorem nw_X6_21 : Cond.classLink RX6 21 RX0 ∈ lw_tbl ∧ Cond.instantiable RX0 2 ∈ lw_tbl ∧ Cond.initialized RX0 ∈ lw_tbl := ⟨List.mem_of_getElem? (i := 57) rfl, List.mem_of_getElem? (i := 58) rfl, List.mem_of_getElem? (i := 31) rfl⟩
set_option maxRecDepth 100000 in
theorem nw_X6_28 : Cond.classLink RX6 28 RX4 ∈ lw_tbl ∧ Cond.instantiable RX4 4 ∈ lw_tbl ∧ Cond.initialized RX4 ∈ lw_tbl := ⟨List.mem_of_getElem? (i := 71) rfl, List.mem_of_getElem? (i := 72) rfl, List.mem_of_getElem? (i := 32) rfl⟩
set_option maxRecDepth 100000 in
theorem nw_X6_35 : Cond.classLink RX6 35 RX2 ∈ lw_tbl ∧ Cond.instantiable RX2 10 ∈ lw_tbl ∧ Cond.initialized RX2 ∈ lw_tbl := ⟨List.mem_of_getElem? (i := 92) rfl, List.mem_of_getElem? (i := 93) rfl, List.mem_of_getElem? (i := 33) rfl⟩
set_option maxRecDepth 100000 in
theorem nw_X6_42 : Cond.classLink RX6 42 RX1 ∈ lw_tbl ∧ Cond.instantiable RX1 4 ∈ lw_tbl ∧ Cond.initialized RX1 ∈ lw_tbl := ⟨List.mem_of_getElem? (i := 132) rfl, List.mem_of_getElem? (i := 133) rfl, List.mem_of_getElem? (i := 34) rfl⟩
set_option maxRecDepth 100000 in
theorem ac_int : Cond.arrayClass .int ∈ lw_tbl := List.mem_of_getElem? (i := 131) rfl
set_option maxRecDepth 100000 in
theorem ac_byte : Cond.arrayClass .byte ∈ lw_tbl := List.mem_of_getElem? (i := 70) rfl
set_option maxRecDepth 100000 in
theorem ac_boolean : Cond.arrayClass .boolean ∈ lw_tbl := List.mem_of_getElem? (i := 91) rfl
set_option maxRecDepth 100000 in
theorem ac_long : Cond.arrayClass .long ∈ lw_tbl := List.mem_of_getElem? (i := 962) rfl
set_option maxRecDepth 100000 in
theorem ty_S : ∀ G : mw_G, (mw_tys G)[4]? = some (G.2.2.2.2 4, .object RX5) := fun _ => rfl
set_option maxRecDepth 100000 in
theorem ty_M : ∀ G : mw_G, (mw_tys G)[5]? = some (G.2.2.2.2 5, .object RX3) := fun _ => rfl
set_option maxRecDepth 100000 in
theorem th_X6_65_67_69 : mw_TH RX6 65 67 69 8 "java/lang/IllegalStateException" "there are 6 schemas" := ⟨by decide +kernel, List.mem_of_getElem? (i := 320) rfl, List.mem_of_getElem? (i := 41) rfl, by decide +kernel, by decide +kernel, rfl⟩
set_option maxRecDepth 100000 in
theorem th_X6_82_84_86 : mw_TH RX6 82 84 86 9 "java/lang/IllegalArgumentException" "there is no such kind" := ⟨by decide +kernel, List.mem_of_getElem? (i := 287) rfl, List.mem_of_getElem? (i := 39) rfl, by decide +kernel, by decide +kernel, rfl⟩
set_option maxRecDepth 100000 in
theorem th_X6_65_99_69 : mw_TH RX6 65 99 69 8 "java/lang/IllegalStateException" "the kind of the tag has no default" := ⟨by decide +kernel, List.mem_of_getElem? (i := 320) rfl, List.mem_of_getElem? (i := 41) rfl, by decide +kernel, by decide +kernel, rfl⟩
set_option maxRecDepth 100000 in
theorem th_X6_82_199_86 : mw_TH RX6 82 199 86 9 "java/lang/IllegalArgumentException" "the other message has not the schema of the part" := ⟨by decide +kernel, List.mem_of_getElem? (i := 287) rfl, List.mem_of_getElem? (i := 39) rfl, by decide +kernel, by decide +kernel, rfl⟩
set_option maxRecDepth 100000 in
theorem th_X6_65_247_69 : mw_TH RX6 65 247 69 8 "java/lang/IllegalStateException" "the bytes of the part have a fault" := ⟨by decide +kernel, List.mem_of_getElem? (i := 320) rfl, List.mem_of_getElem? (i := 41) rfl, by decide +kernel, by decide +kernel, rfl⟩
set_option maxRecDepth 100000 in
theorem th_X6_257_259_261 : mw_TH RX6 257 259 261 10 "java/lang/IndexOutOfBoundsException" "there is no such unknown field" := ⟨by decide +kernel, List.mem_of_getElem? (i := 213) rfl, List.mem_of_getElem? (i := 38) rfl, by decide +kernel, by decide +kernel, rfl⟩
set_option maxRecDepth 100000 in
theorem th_X6_65_274_69 : mw_TH RX6 65 274 69 8 "java/lang/IllegalStateException" "the tape has 120 bytes" := ⟨by decide +kernel, List.mem_of_getElem? (i := 320) rfl, List.mem_of_getElem? (i := 41) rfl, by decide +kernel, by decide +kernel, rfl⟩
set_option maxRecDepth 100000 in
theorem th_X6_257_276_261 : mw_TH RX6 257 276 261 10 "java/lang/IndexOutOfBoundsException" "the tape has no such length" := ⟨by decide +kernel, List.mem_of_getElem? (i := 213) rfl, List.mem_of_getElem? (i := 38) rfl, by decide +kernel, by decide +kernel, rfl⟩
set_option maxRecDepth 100000 in
theorem th_X6_257_233_261 : mw_TH RX6 257 233 261 10 "java/lang/IndexOutOfBoundsException" "there is no such byte" := ⟨by decide +kernel, List.mem_of_getElem? (i := 213) rfl, List.mem_of_getElem? (i := 38) rfl, by decide +kernel, by decide +kernel, rfl⟩
set_option maxRecDepth 100000 in
theorem th_X6_82_285_86 : mw_TH RX6 82 285 86 9 "java/lang/IllegalArgumentException" "the tape has a fault" := ⟨by decide +kernel, List.mem_of_getElem? (i := 287) rfl, List.mem_of_getElem? (i := 39) rfl, by decide +kernel, by decide +kernel, rfl⟩
set_option maxRecDepth 100000 in
theorem th_X6_257_287_261 : mw_TH RX6 257 287 261 10 "java/lang/IndexOutOfBoundsException" "there is no such schema" := ⟨by decide +kernel, List.mem_of_getElem? (i := 213) rfl, List.mem_of_getElem? (i := 38) rfl, by decide +kernel, by decide +kernel, rfl⟩
set_option maxRecDepth 100000 in
theorem th_X6_257_289_261 : mw_TH RX6 257 289 261 10 "java/lang/IndexOutOfBoundsException" "there is no such message" := ⟨by decide +kernel, List.mem_of_getElem? (i := 213) rfl, List.mem_of_getElem? (i := 38) rfl, by decide +kernel, by decide +kernel, rfl⟩
set_option maxRecDepth 100000 in
theorem th_X6_82_294_86 : mw_TH RX6 82 294 86 9 "java/lang/IllegalArgumentException" "tag is not 1 to 31" := ⟨by decide +kernel, List.mem_of_getElem? (i := 287) rfl, List.mem_of_getElem? (i := 39) rfl, by decide +kernel, by decide +kernel, rfl⟩
set_option maxRecDepth 100000 in
theorem th_X6_82_296_86 : mw_TH RX6 82 296 86 9 "java/lang/IllegalArgumentException" "the tag has not PLAIN, SIGNED or FOUR" := ⟨by decide +kernel, List.mem_of_getElem? (i := 287) rfl, List.mem_of_getElem? (i := 39) rfl, by decide +kernel, by decide +kernel, rfl⟩
set_option maxRecDepth 100000 in
theorem th_X6_82_301_86 : mw_TH RX6 82 301 86 9 "java/lang/IllegalArgumentException" "the tag has not TEXT or PART" := ⟨by decide +kernel, List.mem_of_getElem? (i := 287) rfl, List.mem_of_getElem? (i := 39) rfl, by decide +kernel, by decide +kernel, rfl⟩
set_option maxRecDepth 100000 in
theorem th_X6_82_306_86 : mw_TH RX6 82 306 86 9 "java/lang/IllegalArgumentException" "the tag has not PART" := ⟨by decide +kernel, List.mem_of_getElem? (i := 287) rfl, List.mem_of_getElem? (i := 39) rfl, by decide +kernel, by decide +kernel, rfl⟩
set_option maxRecDepth 100000 in
theorem th_X6_65_313_69 : mw_TH RX6 65 313 69 8 "java/lang/IllegalStateException" "there are 12 messages" := ⟨by decide +kernel, List.mem_of_getElem? (i := 320) rfl, List.mem_of_getElem? (i := 41) rfl, by decide +kernel, by decide +kernel, rfl⟩
set_option maxRecDepth 100000 in
theorem th_X6_65_315_69 : mw_TH RX6 65 315 69 8 "java/lang/IllegalStateException" "the weight would be above 120" := ⟨by decide +kernel, List.mem_of_getElem? (i := 320) rfl, List.mem_of_getElem? (i := 41) rfl, by decide +kernel, by decide +kernel, rfl⟩
set_option maxRecDepth 100000 in
theorem cl_L_14 : Cond.classLink RL 14 "java/lang/IndexOutOfBoundsException" ∈ lw_tbl := List.mem_of_getElem? (i := 203) rfl
set_option maxRecDepth 100000 in
theorem cl_L_16 : Cond.classLink RL 16 "java/lang/IllegalArgumentException" ∈ lw_tbl := List.mem_of_getElem? (i := 204) rfl
set_option maxRecDepth 100000 in
theorem cl_L_22 : Cond.classLink RL 22 "java/lang/IllegalStateException" ∈ lw_tbl := List.mem_of_getElem? (i := 377) rfl
set_option maxRecDepth 100000 in
theorem cl_L_43 : Cond.classLink RL 43 "java/util/NoSuchElementException" ∈ lw_tbl := List.mem_of_getElem? (i := 679) rfl
set_option maxRecDepth 100000 in
theorem kn_L_7 : Cond.constant RL 7 (1596693857 : Int32) ∈ lw_tbl := List.mem_of_getElem? (i := 190) rfl
set_option maxRecDepth 100000 in
theorem kn_L_162 : Cond.constant RL 162 (49152 : Int32) ∈ lw_tbl := List.mem_of_getElem? (i := 618) rfl
set_option maxRecDepth 100000 in
theorem kn_L_76 : Cond.constantLong RL 76 (255 : Int64) ∈ lw_tbl := List.mem_of_getElem? (i := 786) rfl
set_option maxRecDepth 100000 in
theorem kn_L_203 : Cond.constant RL 203 (32768 : Int32) ∈ lw_tbl := List.mem_of_getElem? (i := 811) rfl
set_option maxRecDepth 100000 in
theorem kn_L_204 : Cond.constant RL 204 (65536 : Int32) ∈ lw_tbl := List.mem_of_getElem? (i := 812) rfl
set_option maxRecDepth 100000 in
theorem kn_L_221 : Cond.constantLong RL 221 (-1 : Int64) ∈ lw_tbl := List.mem_of_getElem? (i := 895) rfl
set_option maxRecDepth 100000 in
theorem ca_8 : Cond.castable "java/lang/IllegalStateException" "java/lang/IllegalStateException" ∈ lw_tbl := List.mem_of_getElem? (i := 322) rfl
set_option maxRecDepth 100000 in
theorem ca_9 : Cond.castable "java/lang/IllegalArgumentException" "java/lang/IllegalArgumentException" ∈ lw_tbl := List.mem_of_getElem? (i := 289) rfl
set_option maxRecDepth 100000 in
theorem ca_10 : Cond.castable "java/lang/IndexOutOfBoundsException" "java/lang/IndexOutOfBoundsException" ∈ lw_tbl := List.mem_of_getElem? (i := 215) rfl
set_option maxRecDepth 100000 in
theorem ca_11 : Cond.castable "java/util/NoSuchElementException" "java/util/NoSuchElementException" ∈ lw_tbl := List.mem_of_getElem? (i := 689) rfl
