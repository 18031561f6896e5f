section
-- ===== PART A: goes FIRST, ahead of the names: the tables' words, and 'selects' of the private methods out of them =====
/-- a private method of a class that the tables say can be made, by its rows of tables_1 -/
def lw_okq (q : MethodName × Nat) : Prop := (q.1.cls ≠ "java/lang/invoke/MethodHandle" ∧ q.1.cls ≠ "java/lang/invoke/VarHandle") ∧ Cond.instantiable q.1.cls q.2 ∈ tables_1 ∧ Cond.privateMethod q.1 ∈ tables_1 ∧ Cond.instanceMethod q.1 ∈ tables_1
theorem lw_p0 : lw_okq (⟨"Schemabridge", "fieldsOfTape", "()LSchemabridge$Fields;"⟩, 11) := ⟨⟨by decide +kernel, by decide +kernel⟩, List.mem_of_getElem? (i := 18) (by decide +kernel), List.mem_of_getElem? (i := 172) (by decide +kernel), List.mem_of_getElem? (i := 173) (by decide +kernel)⟩
theorem lw_p1 : lw_okq (⟨"Schemabridge", "fieldsIn", "(LSchemabridge$Bytes;II)LSchemabridge$Fields;"⟩, 11) := ⟨⟨by decide +kernel, by decide +kernel⟩, List.mem_of_getElem? (i := 18) (by decide +kernel), List.mem_of_getElem? (i := 176) (by decide +kernel), List.mem_of_getElem? (i := 177) (by decide +kernel)⟩
theorem lw_p2 : lw_okq (⟨"Schemabridge$Fields", "scanField", "()V"⟩, 10) := ⟨⟨by decide +kernel, by decide +kernel⟩, List.mem_of_getElem? (i := 65) (by decide +kernel), List.mem_of_getElem? (i := 184) (by decide +kernel), List.mem_of_getElem? (i := 185) (by decide +kernel)⟩
theorem lw_p3 : lw_okq (⟨"Schemabridge$Fields", "scanGroups", "()I"⟩, 10) := ⟨⟨by decide +kernel, by decide +kernel⟩, List.mem_of_getElem? (i := 65) (by decide +kernel), List.mem_of_getElem? (i := 188) (by decide +kernel), List.mem_of_getElem? (i := 189) (by decide +kernel)⟩
theorem lw_p4 : lw_okq (⟨"Schemabridge$Fields", "scanFour", "()I"⟩, 10) := ⟨⟨by decide +kernel, by decide +kernel⟩, List.mem_of_getElem? (i := 65) (by decide +kernel), List.mem_of_getElem? (i := 202) (by decide +kernel), List.mem_of_getElem? (i := 203) (by decide +kernel)⟩
theorem lw_p5 : lw_okq (⟨"Schemabridge$Fields", "skipBytes", "(I)V"⟩, 10) := ⟨⟨by decide +kernel, by decide +kernel⟩, List.mem_of_getElem? (i := 65) (by decide +kernel), List.mem_of_getElem? (i := 206) (by decide +kernel), List.mem_of_getElem? (i := 207) (by decide +kernel)⟩
theorem lw_p6 : lw_okq (⟨"Schemabridge$Fields", "keepField", "(III)V"⟩, 10) := ⟨⟨by decide +kernel, by decide +kernel⟩, List.mem_of_getElem? (i := 65) (by decide +kernel), List.mem_of_getElem? (i := 210) (by decide +kernel), List.mem_of_getElem? (i := 211) (by decide +kernel)⟩
theorem lw_p7 : lw_okq (⟨"java/lang/Throwable", "fillInStackTrace", "(I)Ljava/lang/Throwable;"⟩, 6) := ⟨⟨by decide +kernel, by decide +kernel⟩, List.mem_of_getElem? (i := 273) (by decide +kernel), List.mem_of_getElem? (i := 271) (by decide +kernel), List.mem_of_getElem? (i := 272) (by decide +kernel)⟩
theorem lw_p8 : lw_okq (⟨"Schemabridge", "schemaAt", "(I)LSchemabridge$Schema;"⟩, 11) := ⟨⟨by decide +kernel, by decide +kernel⟩, List.mem_of_getElem? (i := 18) (by decide +kernel), List.mem_of_getElem? (i := 335) (by decide +kernel), List.mem_of_getElem? (i := 336) (by decide +kernel)⟩
theorem lw_p9 : lw_okq (⟨"Schemabridge$PairSearch", "forgetPairs", "()V"⟩, 4) := ⟨⟨by decide +kernel, by decide +kernel⟩, List.mem_of_getElem? (i := 44) (by decide +kernel), List.mem_of_getElem? (i := 434) (by decide +kernel), List.mem_of_getElem? (i := 435) (by decide +kernel)⟩
theorem lw_p10 : lw_okq (⟨"Schemabridge$PairSearch", "notePair", "(LSchemabridge$Schema;LSchemabridge$Schema;)V"⟩, 4) := ⟨⟨by decide +kernel, by decide +kernel⟩, List.mem_of_getElem? (i := 44) (by decide +kernel), List.mem_of_getElem? (i := 438) (by decide +kernel), List.mem_of_getElem? (i := 439) (by decide +kernel)⟩
theorem lw_p11 : lw_okq (⟨"Schemabridge$PairSearch", "leadsToDifference", "(LSchemabridge$Schema;LSchemabridge$Schema;I)Z"⟩, 4) := ⟨⟨by decide +kernel, by decide +kernel⟩, List.mem_of_getElem? (i := 44) (by decide +kernel), List.mem_of_getElem? (i := 446) (by decide +kernel), List.mem_of_getElem? (i := 447) (by decide +kernel)⟩
theorem lw_p12 : lw_okq (⟨"Schemabridge$PairSearch", "notePartsAt", "(LSchemabridge$Schema;LSchemabridge$Schema;I)V"⟩, 4) := ⟨⟨by decide +kernel, by decide +kernel⟩, List.mem_of_getElem? (i := 44) (by decide +kernel), List.mem_of_getElem? (i := 450) (by decide +kernel), List.mem_of_getElem? (i := 451) (by decide +kernel)⟩
theorem lw_p13 : lw_okq (⟨"Schemabridge$PairSearch", "differsSomewhere", "(LSchemabridge$Schema;LSchemabridge$Schema;)Z"⟩, 4) := ⟨⟨by decide +kernel, by decide +kernel⟩, List.mem_of_getElem? (i := 44) (by decide +kernel), List.mem_of_getElem? (i := 458) (by decide +kernel), List.mem_of_getElem? (i := 459) (by decide +kernel)⟩
theorem lw_p14 : lw_okq (⟨"Schemabridge", "addMessage", "(LSchemabridge$Message;)I"⟩, 11) := ⟨⟨by decide +kernel, by decide +kernel⟩, List.mem_of_getElem? (i := 18) (by decide +kernel), List.mem_of_getElem? (i := 485) (by decide +kernel), List.mem_of_getElem? (i := 486) (by decide +kernel)⟩
theorem lw_p15 : lw_okq (⟨"Schemabridge", "messageAt", "(I)LSchemabridge$Message;"⟩, 11) := ⟨⟨by decide +kernel, by decide +kernel⟩, List.mem_of_getElem? (i := 18) (by decide +kernel), List.mem_of_getElem? (i := 497) (by decide +kernel), List.mem_of_getElem? (i := 498) (by decide +kernel)⟩
def lw_privs_1 : List (MethodName × Nat) := [(⟨"Schemabridge", "fieldsOfTape", "()LSchemabridge$Fields;"⟩, 11), (⟨"Schemabridge", "fieldsIn", "(LSchemabridge$Bytes;II)LSchemabridge$Fields;"⟩, 11), (⟨"Schemabridge$Fields", "scanField", "()V"⟩, 10), (⟨"Schemabridge$Fields", "scanGroups", "()I"⟩, 10), (⟨"Schemabridge$Fields", "scanFour", "()I"⟩, 10), (⟨"Schemabridge$Fields", "skipBytes", "(I)V"⟩, 10), (⟨"Schemabridge$Fields", "keepField", "(III)V"⟩, 10), (⟨"java/lang/Throwable", "fillInStackTrace", "(I)Ljava/lang/Throwable;"⟩, 6), (⟨"Schemabridge", "schemaAt", "(I)LSchemabridge$Schema;"⟩, 11), (⟨"Schemabridge$PairSearch", "forgetPairs", "()V"⟩, 4), (⟨"Schemabridge$PairSearch", "notePair", "(LSchemabridge$Schema;LSchemabridge$Schema;)V"⟩, 4), (⟨"Schemabridge$PairSearch", "leadsToDifference", "(LSchemabridge$Schema;LSchemabridge$Schema;I)Z"⟩, 4), (⟨"Schemabridge$PairSearch", "notePartsAt", "(LSchemabridge$Schema;LSchemabridge$Schema;I)V"⟩, 4), (⟨"Schemabridge$PairSearch", "differsSomewhere", "(LSchemabridge$Schema;LSchemabridge$Schema;)Z"⟩, 4), (⟨"Schemabridge", "addMessage", "(LSchemabridge$Message;)I"⟩, 11), (⟨"Schemabridge", "messageAt", "(I)LSchemabridge$Message;"⟩, 11)]
theorem lw_r1 : ∀ q ∈ lw_privs_1, lw_okq q := List.forall_mem_cons.mpr ⟨lw_p0, List.forall_mem_cons.mpr ⟨lw_p1, List.forall_mem_cons.mpr ⟨lw_p2, List.forall_mem_cons.mpr ⟨lw_p3, List.forall_mem_cons.mpr ⟨lw_p4, List.forall_mem_cons.mpr ⟨lw_p5, List.forall_mem_cons.mpr ⟨lw_p6, List.forall_mem_cons.mpr ⟨lw_p7, List.forall_mem_cons.mpr ⟨lw_p8, List.forall_mem_cons.mpr ⟨lw_p9, List.forall_mem_cons.mpr ⟨lw_p10, List.forall_mem_cons.mpr ⟨lw_p11, List.forall_mem_cons.mpr ⟨lw_p12, List.forall_mem_cons.mpr ⟨lw_p13, List.forall_mem_cons.mpr ⟨lw_p14, List.forall_mem_cons.mpr ⟨lw_p15, fun _ h => absurd h List.not_mem_nil⟩⟩⟩⟩⟩⟩⟩⟩⟩⟩⟩⟩⟩⟩⟩⟩
theorem lw_p16 : lw_okq (⟨"Schemabridge", "fieldsOf", "(LSchemabridge$Message;)LSchemabridge$Fields;"⟩, 11) := ⟨⟨by decide +kernel, by decide +kernel⟩, List.mem_of_getElem? (i := 18) (by decide +kernel), List.mem_of_getElem? (i := 527) (by decide +kernel), List.mem_of_getElem? (i := 528) (by decide +kernel)⟩
theorem lw_p17 : lw_okq (⟨"Schemabridge", "removeMessage", "(I)V"⟩, 11) := ⟨⟨by decide +kernel, by decide +kernel⟩, List.mem_of_getElem? (i := 18) (by decide +kernel), List.mem_of_getElem? (i := 535) (by decide +kernel), List.mem_of_getElem? (i := 536) (by decide +kernel)⟩
theorem lw_p18 : lw_okq (⟨"Schemabridge", "draftWithoutKnown", "(LSchemabridge$Fields;LSchemabridge$Schema;I)V"⟩, 11) := ⟨⟨by decide +kernel, by decide +kernel⟩, List.mem_of_getElem? (i := 18) (by decide +kernel), List.mem_of_getElem? (i := 550) (by decide +kernel), List.mem_of_getElem? (i := 551) (by decide +kernel)⟩
theorem lw_p19 : lw_okq (⟨"Schemabridge$Fields", "isPlace", "(I)Z"⟩, 10) := ⟨⟨by decide +kernel, by decide +kernel⟩, List.mem_of_getElem? (i := 65) (by decide +kernel), List.mem_of_getElem? (i := 559) (by decide +kernel), List.mem_of_getElem? (i := 560) (by decide +kernel)⟩
theorem lw_p20 : lw_okq (⟨"Schemabridge$Bytes", "addKey", "(II)V"⟩, 2) := ⟨⟨by decide +kernel, by decide +kernel⟩, List.mem_of_getElem? (i := 30) (by decide +kernel), List.mem_of_getElem? (i := 600) (by decide +kernel), List.mem_of_getElem? (i := 601) (by decide +kernel)⟩
theorem lw_p21 : lw_okq (⟨"Schemabridge$Bytes", "addGroups", "(I)V"⟩, 2) := ⟨⟨by decide +kernel, by decide +kernel⟩, List.mem_of_getElem? (i := 30) (by decide +kernel), List.mem_of_getElem? (i := 604) (by decide +kernel), List.mem_of_getElem? (i := 605) (by decide +kernel)⟩
theorem lw_p22 : lw_okq (⟨"Schemabridge$Bytes", "addFour", "(I)V"⟩, 2) := ⟨⟨by decide +kernel, by decide +kernel⟩, List.mem_of_getElem? (i := 30) (by decide +kernel), List.mem_of_getElem? (i := 621) (by decide +kernel), List.mem_of_getElem? (i := 622) (by decide +kernel)⟩
theorem lw_p23 : lw_okq (⟨"Schemabridge", "takeDraft", "(LSchemabridge$Message;)V"⟩, 11) := ⟨⟨by decide +kernel, by decide +kernel⟩, List.mem_of_getElem? (i := 18) (by decide +kernel), List.mem_of_getElem? (i := 631) (by decide +kernel), List.mem_of_getElem? (i := 632) (by decide +kernel)⟩
theorem lw_p24 : lw_okq (⟨"Schemabridge$Canon", "noteLasts", "(LSchemabridge$Schema;)V"⟩, 4) := ⟨⟨by decide +kernel, by decide +kernel⟩, List.mem_of_getElem? (i := 105) (by decide +kernel), List.mem_of_getElem? (i := 678) (by decide +kernel), List.mem_of_getElem? (i := 679) (by decide +kernel)⟩
theorem lw_p25 : lw_okq (⟨"Schemabridge$Canon", "isToldBy", "(LSchemabridge$Schema;I)Z"⟩, 4) := ⟨⟨by decide +kernel, by decide +kernel⟩, List.mem_of_getElem? (i := 105) (by decide +kernel), List.mem_of_getElem? (i := 687) (by decide +kernel), List.mem_of_getElem? (i := 688) (by decide +kernel)⟩
theorem lw_p26 : lw_okq (⟨"Schemabridge$Canon", "insert", "(I)V"⟩, 4) := ⟨⟨by decide +kernel, by decide +kernel⟩, List.mem_of_getElem? (i := 105) (by decide +kernel), List.mem_of_getElem? (i := 702) (by decide +kernel), List.mem_of_getElem? (i := 703) (by decide +kernel)⟩
theorem lw_p27 : lw_okq (⟨"Schemabridge$Canon", "placeAt", "(I)I"⟩, 4) := ⟨⟨by decide +kernel, by decide +kernel⟩, List.mem_of_getElem? (i := 105) (by decide +kernel), List.mem_of_getElem? (i := 711) (by decide +kernel), List.mem_of_getElem? (i := 712) (by decide +kernel)⟩
theorem lw_p28 : lw_okq (⟨"Schemabridge", "chooseBoth", "(LSchemabridge$Message;LSchemabridge$Message;)V"⟩, 11) := ⟨⟨by decide +kernel, by decide +kernel⟩, List.mem_of_getElem? (i := 18) (by decide +kernel), List.mem_of_getElem? (i := 815) (by decide +kernel), List.mem_of_getElem? (i := 816) (by decide +kernel)⟩
theorem lw_p29 : lw_okq (⟨"SchemabridgeModel", "isSchema", "(I)Z"⟩, 23) := ⟨⟨by decide +kernel, by decide +kernel⟩, List.mem_of_getElem? (i := 888) (by decide +kernel), List.mem_of_getElem? (i := 976) (by decide +kernel), List.mem_of_getElem? (i := 977) (by decide +kernel)⟩
theorem lw_p30 : lw_okq (⟨"SchemabridgeModel", "kind", "(II)I"⟩, 23) := ⟨⟨by decide +kernel, by decide +kernel⟩, List.mem_of_getElem? (i := 888) (by decide +kernel), List.mem_of_getElem? (i := 994) (by decide +kernel), List.mem_of_getElem? (i := 995) (by decide +kernel)⟩
theorem lw_p31 : lw_okq (⟨"SchemabridgeModel", "isReason", "(III)Z"⟩, 23) := ⟨⟨by decide +kernel, by decide +kernel⟩, List.mem_of_getElem? (i := 888) (by decide +kernel), List.mem_of_getElem? (i := 1009) (by decide +kernel), List.mem_of_getElem? (i := 1010) (by decide +kernel)⟩
def lw_privs_2 : List (MethodName × Nat) := [(⟨"Schemabridge", "fieldsOf", "(LSchemabridge$Message;)LSchemabridge$Fields;"⟩, 11), (⟨"Schemabridge", "removeMessage", "(I)V"⟩, 11), (⟨"Schemabridge", "draftWithoutKnown", "(LSchemabridge$Fields;LSchemabridge$Schema;I)V"⟩, 11), (⟨"Schemabridge$Fields", "isPlace", "(I)Z"⟩, 10), (⟨"Schemabridge$Bytes", "addKey", "(II)V"⟩, 2), (⟨"Schemabridge$Bytes", "addGroups", "(I)V"⟩, 2), (⟨"Schemabridge$Bytes", "addFour", "(I)V"⟩, 2), (⟨"Schemabridge", "takeDraft", "(LSchemabridge$Message;)V"⟩, 11), (⟨"Schemabridge$Canon", "noteLasts", "(LSchemabridge$Schema;)V"⟩, 4), (⟨"Schemabridge$Canon", "isToldBy", "(LSchemabridge$Schema;I)Z"⟩, 4), (⟨"Schemabridge$Canon", "insert", "(I)V"⟩, 4), (⟨"Schemabridge$Canon", "placeAt", "(I)I"⟩, 4), (⟨"Schemabridge", "chooseBoth", "(LSchemabridge$Message;LSchemabridge$Message;)V"⟩, 11), (⟨"SchemabridgeModel", "isSchema", "(I)Z"⟩, 23), (⟨"SchemabridgeModel", "kind", "(II)I"⟩, 23), (⟨"SchemabridgeModel", "isReason", "(III)Z"⟩, 23)]
theorem lw_r2 : ∀ q ∈ lw_privs_2, lw_okq q := List.forall_mem_cons.mpr ⟨lw_p16, List.forall_mem_cons.mpr ⟨lw_p17, List.forall_mem_cons.mpr ⟨lw_p18, List.forall_mem_cons.mpr ⟨lw_p19, List.forall_mem_cons.mpr ⟨lw_p20, List.forall_mem_cons.mpr ⟨lw_p21, List.forall_mem_cons.mpr ⟨lw_p22, List.forall_mem_cons.mpr ⟨lw_p23, List.forall_mem_cons.mpr ⟨lw_p24, List.forall_mem_cons.mpr ⟨lw_p25, List.forall_mem_cons.mpr ⟨lw_p26, List.forall_mem_cons.mpr ⟨lw_p27, List.forall_mem_cons.mpr ⟨lw_p28, List.forall_mem_cons.mpr ⟨lw_p29, List.forall_mem_cons.mpr ⟨lw_p30, List.forall_mem_cons.mpr ⟨lw_p31, fun _ h => absurd h List.not_mem_nil⟩⟩⟩⟩⟩⟩⟩⟩⟩⟩⟩⟩⟩⟩⟩⟩
theorem lw_p32 : lw_okq (⟨"SchemabridgeModel", "leadsTo", "(III)I"⟩, 23) := ⟨⟨by decide +kernel, by decide +kernel⟩, List.mem_of_getElem? (i := 888) (by decide +kernel), List.mem_of_getElem? (i := 1013) (by decide +kernel), List.mem_of_getElem? (i := 1014) (by decide +kernel)⟩
theorem lw_p33 : lw_okq (⟨"SchemabridgeModel", "differsAt", "(III)Z"⟩, 23) := ⟨⟨by decide +kernel, by decide +kernel⟩, List.mem_of_getElem? (i := 888) (by decide +kernel), List.mem_of_getElem? (i := 1017) (by decide +kernel), List.mem_of_getElem? (i := 1018) (by decide +kernel)⟩
theorem lw_p34 : lw_okq (⟨"SchemabridgeModel", "isFull", "()Z"⟩, 23) := ⟨⟨by decide +kernel, by decide +kernel⟩, List.mem_of_getElem? (i := 888) (by decide +kernel), List.mem_of_getElem? (i := 1025) (by decide +kernel), List.mem_of_getElem? (i := 1026) (by decide +kernel)⟩
theorem lw_p35 : lw_okq (⟨"SchemabridgeModel", "free", "()I"⟩, 23) := ⟨⟨by decide +kernel, by decide +kernel⟩, List.mem_of_getElem? (i := 888) (by decide +kernel), List.mem_of_getElem? (i := 1029) (by decide +kernel), List.mem_of_getElem? (i := 1030) (by decide +kernel)⟩
theorem lw_p36 : lw_okq (⟨"SchemabridgeModel", "makes", "(I)I"⟩, 23) := ⟨⟨by decide +kernel, by decide +kernel⟩, List.mem_of_getElem? (i := 888) (by decide +kernel), List.mem_of_getElem? (i := 1033) (by decide +kernel), List.mem_of_getElem? (i := 1034) (by decide +kernel)⟩
theorem lw_p37 : lw_okq (⟨"SchemabridgeModel", "becomes", "(I)V"⟩, 23) := ⟨⟨by decide +kernel, by decide +kernel⟩, List.mem_of_getElem? (i := 888) (by decide +kernel), List.mem_of_getElem? (i := 1037) (by decide +kernel), List.mem_of_getElem? (i := 1038) (by decide +kernel)⟩
theorem lw_p38 : lw_okq (⟨"SchemabridgeModel", "isMessage", "(I)Z"⟩, 23) := ⟨⟨by decide +kernel, by decide +kernel⟩, List.mem_of_getElem? (i := 888) (by decide +kernel), List.mem_of_getElem? (i := 1045) (by decide +kernel), List.mem_of_getElem? (i := 1046) (by decide +kernel)⟩
theorem lw_p39 : lw_okq (⟨"SchemabridgeModel", "writesOthers", "(II)V"⟩, 23) := ⟨⟨by decide +kernel, by decide +kernel⟩, List.mem_of_getElem? (i := 888) (by decide +kernel), List.mem_of_getElem? (i := 1049) (by decide +kernel), List.mem_of_getElem? (i := 1050) (by decide +kernel)⟩
theorem lw_p40 : lw_okq (⟨"SchemabridgeModel", "field", "([II)V"⟩, 23) := ⟨⟨by decide +kernel, by decide +kernel⟩, List.mem_of_getElem? (i := 888) (by decide +kernel), List.mem_of_getElem? (i := 1053) (by decide +kernel), List.mem_of_getElem? (i := 1054) (by decide +kernel)⟩
theorem lw_p41 : lw_okq (⟨"SchemabridgeModel", "group", "([II)I"⟩, 23) := ⟨⟨by decide +kernel, by decide +kernel⟩, List.mem_of_getElem? (i := 888) (by decide +kernel), List.mem_of_getElem? (i := 1057) (by decide +kernel), List.mem_of_getElem? (i := 1058) (by decide +kernel)⟩
theorem lw_p42 : lw_okq (⟨"SchemabridgeModel", "isKnown", "(I)Z"⟩, 23) := ⟨⟨by decide +kernel, by decide +kernel⟩, List.mem_of_getElem? (i := 888) (by decide +kernel), List.mem_of_getElem? (i := 1061) (by decide +kernel), List.mem_of_getElem? (i := 1062) (by decide +kernel)⟩
theorem lw_p43 : lw_okq (⟨"SchemabridgeModel", "writesField", "([I)V"⟩, 23) := ⟨⟨by decide +kernel, by decide +kernel⟩, List.mem_of_getElem? (i := 888) (by decide +kernel), List.mem_of_getElem? (i := 1068) (by decide +kernel), List.mem_of_getElem? (i := 1069) (by decide +kernel)⟩
theorem lw_p44 : lw_okq (⟨"SchemabridgeModel", "writesNumber", "(III)V"⟩, 23) := ⟨⟨by decide +kernel, by decide +kernel⟩, List.mem_of_getElem? (i := 888) (by decide +kernel), List.mem_of_getElem? (i := 1072) (by decide +kernel), List.mem_of_getElem? (i := 1073) (by decide +kernel)⟩
theorem lw_p45 : lw_okq (⟨"SchemabridgeModel", "writesGroup", "(I)V"⟩, 23) := ⟨⟨by decide +kernel, by decide +kernel⟩, List.mem_of_getElem? (i := 888) (by decide +kernel), List.mem_of_getElem? (i := 1076) (by decide +kernel), List.mem_of_getElem? (i := 1077) (by decide +kernel)⟩
theorem lw_p46 : lw_okq (⟨"SchemabridgeModel", "writes", "(I)V"⟩, 23) := ⟨⟨by decide +kernel, by decide +kernel⟩, List.mem_of_getElem? (i := 888) (by decide +kernel), List.mem_of_getElem? (i := 1080) (by decide +kernel), List.mem_of_getElem? (i := 1081) (by decide +kernel)⟩
theorem lw_p47 : lw_okq (⟨"SchemabridgeModel", "fields", "(I)I"⟩, 23) := ⟨⟨by decide +kernel, by decide +kernel⟩, List.mem_of_getElem? (i := 888) (by decide +kernel), List.mem_of_getElem? (i := 1088) (by decide +kernel), List.mem_of_getElem? (i := 1089) (by decide +kernel)⟩
def lw_privs_3 : List (MethodName × Nat) := [(⟨"SchemabridgeModel", "leadsTo", "(III)I"⟩, 23), (⟨"SchemabridgeModel", "differsAt", "(III)Z"⟩, 23), (⟨"SchemabridgeModel", "isFull", "()Z"⟩, 23), (⟨"SchemabridgeModel", "free", "()I"⟩, 23), (⟨"SchemabridgeModel", "makes", "(I)I"⟩, 23), (⟨"SchemabridgeModel", "becomes", "(I)V"⟩, 23), (⟨"SchemabridgeModel", "isMessage", "(I)Z"⟩, 23), (⟨"SchemabridgeModel", "writesOthers", "(II)V"⟩, 23), (⟨"SchemabridgeModel", "field", "([II)V"⟩, 23), (⟨"SchemabridgeModel", "group", "([II)I"⟩, 23), (⟨"SchemabridgeModel", "isKnown", "(I)Z"⟩, 23), (⟨"SchemabridgeModel", "writesField", "([I)V"⟩, 23), (⟨"SchemabridgeModel", "writesNumber", "(III)V"⟩, 23), (⟨"SchemabridgeModel", "writesGroup", "(I)V"⟩, 23), (⟨"SchemabridgeModel", "writes", "(I)V"⟩, 23), (⟨"SchemabridgeModel", "fields", "(I)I"⟩, 23)]
theorem lw_r3 : ∀ q ∈ lw_privs_3, lw_okq q := List.forall_mem_cons.mpr ⟨lw_p32, List.forall_mem_cons.mpr ⟨lw_p33, List.forall_mem_cons.mpr ⟨lw_p34, List.forall_mem_cons.mpr ⟨lw_p35, List.forall_mem_cons.mpr ⟨lw_p36, List.forall_mem_cons.mpr ⟨lw_p37, List.forall_mem_cons.mpr ⟨lw_p38, List.forall_mem_cons.mpr ⟨lw_p39, List.forall_mem_cons.mpr ⟨lw_p40, List.forall_mem_cons.mpr ⟨lw_p41, List.forall_mem_cons.mpr ⟨lw_p42, List.forall_mem_cons.mpr ⟨lw_p43, List.forall_mem_cons.mpr ⟨lw_p44, List.forall_mem_cons.mpr ⟨lw_p45, List.forall_mem_cons.mpr ⟨lw_p46, List.forall_mem_cons.mpr ⟨lw_p47, fun _ h => absurd h List.not_mem_nil⟩⟩⟩⟩⟩⟩⟩⟩⟩⟩⟩⟩⟩⟩⟩⟩
theorem lw_p48 : lw_okq (⟨"SchemabridgeModel", "kindIn", "(II)I"⟩, 23) := ⟨⟨by decide +kernel, by decide +kernel⟩, List.mem_of_getElem? (i := 888) (by decide +kernel), List.mem_of_getElem? (i := 1096) (by decide +kernel), List.mem_of_getElem? (i := 1097) (by decide +kernel)⟩
theorem lw_p49 : lw_okq (⟨"SchemabridgeModel", "isWritten", "(I)V"⟩, 23) := ⟨⟨by decide +kernel, by decide +kernel⟩, List.mem_of_getElem? (i := 888) (by decide +kernel), List.mem_of_getElem? (i := 1103) (by decide +kernel), List.mem_of_getElem? (i := 1104) (by decide +kernel)⟩
theorem lw_p50 : lw_okq (⟨"SchemabridgeModel", "finds", "(II)Z"⟩, 23) := ⟨⟨by decide +kernel, by decide +kernel⟩, List.mem_of_getElem? (i := 888) (by decide +kernel), List.mem_of_getElem? (i := 1114) (by decide +kernel), List.mem_of_getElem? (i := 1115) (by decide +kernel)⟩
theorem lw_p51 : lw_okq (⟨"SchemabridgeModel", "lastKnown", "(II)I"⟩, 23) := ⟨⟨by decide +kernel, by decide +kernel⟩, List.mem_of_getElem? (i := 888) (by decide +kernel), List.mem_of_getElem? (i := 1118) (by decide +kernel), List.mem_of_getElem? (i := 1119) (by decide +kernel)⟩
theorem lw_p52 : lw_okq (⟨"SchemabridgeModel", "setsBytes", "(II)I"⟩, 23) := ⟨⟨by decide +kernel, by decide +kernel⟩, List.mem_of_getElem? (i := 888) (by decide +kernel), List.mem_of_getElem? (i := 1122) (by decide +kernel), List.mem_of_getElem? (i := 1123) (by decide +kernel)⟩
theorem lw_p53 : lw_okq (⟨"SchemabridgeModel", "writesCanonical", "(I)V"⟩, 23) := ⟨⟨by decide +kernel, by decide +kernel⟩, List.mem_of_getElem? (i := 888) (by decide +kernel), List.mem_of_getElem? (i := 1130) (by decide +kernel), List.mem_of_getElem? (i := 1131) (by decide +kernel)⟩
theorem lw_p54 : lw_okq (⟨"SchemabridgeModel", "putsAside", "()V"⟩, 23) := ⟨⟨by decide +kernel, by decide +kernel⟩, List.mem_of_getElem? (i := 888) (by decide +kernel), List.mem_of_getElem? (i := 1137) (by decide +kernel), List.mem_of_getElem? (i := 1138) (by decide +kernel)⟩
theorem lw_p55 : lw_okq (⟨"SchemabridgeModel", "reads", "([III)I"⟩, 23) := ⟨⟨by decide +kernel, by decide +kernel⟩, List.mem_of_getElem? (i := 888) (by decide +kernel), List.mem_of_getElem? (i := 1165) (by decide +kernel), List.mem_of_getElem? (i := 1166) (by decide +kernel)⟩
theorem lw_p56 : lw_okq (⟨"SchemabridgeModel", "manyUnknown", "(I)I"⟩, 23) := ⟨⟨by decide +kernel, by decide +kernel⟩, List.mem_of_getElem? (i := 888) (by decide +kernel), List.mem_of_getElem? (i := 1173) (by decide +kernel), List.mem_of_getElem? (i := 1174) (by decide +kernel)⟩
theorem lw_p57 : lw_okq (⟨"SchemabridgeModel", "areAlike", "(II)Z"⟩, 23) := ⟨⟨by decide +kernel, by decide +kernel⟩, List.mem_of_getElem? (i := 888) (by decide +kernel), List.mem_of_getElem? (i := 1189) (by decide +kernel), List.mem_of_getElem? (i := 1190) (by decide +kernel)⟩
theorem lw_p58 : lw_okq (⟨"SchemabridgeModel", "isAsAside", "()Z"⟩, 23) := ⟨⟨by decide +kernel, by decide +kernel⟩, List.mem_of_getElem? (i := 888) (by decide +kernel), List.mem_of_getElem? (i := 1193) (by decide +kernel), List.mem_of_getElem? (i := 1194) (by decide +kernel)⟩
theorem lw_p59 : lw_okq (⟨"SchemabridgeModel", "isOwn", "(I)Z"⟩, 23) := ⟨⟨by decide +kernel, by decide +kernel⟩, List.mem_of_getElem? (i := 888) (by decide +kernel), List.mem_of_getElem? (i := 1237) (by decide +kernel), List.mem_of_getElem? (i := 1238) (by decide +kernel)⟩
def lw_privs_4 : List (MethodName × Nat) := [(⟨"SchemabridgeModel", "kindIn", "(II)I"⟩, 23), (⟨"SchemabridgeModel", "isWritten", "(I)V"⟩, 23), (⟨"SchemabridgeModel", "finds", "(II)Z"⟩, 23), (⟨"SchemabridgeModel", "lastKnown", "(II)I"⟩, 23), (⟨"SchemabridgeModel", "setsBytes", "(II)I"⟩, 23), (⟨"SchemabridgeModel", "writesCanonical", "(I)V"⟩, 23), (⟨"SchemabridgeModel", "putsAside", "()V"⟩, 23), (⟨"SchemabridgeModel", "reads", "([III)I"⟩, 23), (⟨"SchemabridgeModel", "manyUnknown", "(I)I"⟩, 23), (⟨"SchemabridgeModel", "areAlike", "(II)Z"⟩, 23), (⟨"SchemabridgeModel", "isAsAside", "()Z"⟩, 23), (⟨"SchemabridgeModel", "isOwn", "(I)Z"⟩, 23)]
theorem lw_r4 : ∀ q ∈ lw_privs_4, lw_okq q := List.forall_mem_cons.mpr ⟨lw_p48, List.forall_mem_cons.mpr ⟨lw_p49, List.forall_mem_cons.mpr ⟨lw_p50, List.forall_mem_cons.mpr ⟨lw_p51, List.forall_mem_cons.mpr ⟨lw_p52, List.forall_mem_cons.mpr ⟨lw_p53, List.forall_mem_cons.mpr ⟨lw_p54, List.forall_mem_cons.mpr ⟨lw_p55, List.forall_mem_cons.mpr ⟨lw_p56, List.forall_mem_cons.mpr ⟨lw_p57, List.forall_mem_cons.mpr ⟨lw_p58, List.forall_mem_cons.mpr ⟨lw_p59, fun _ h => absurd h List.not_mem_nil⟩⟩⟩⟩⟩⟩⟩⟩⟩⟩⟩⟩
def lw_privs : List (MethodName × Nat) := lw_privs_1 ++ (lw_privs_2 ++ (lw_privs_3 ++ (lw_privs_4)))
def lw_tbl : List Cond := k2_sels lw_privs ++ tables_1
theorem lw_privs_ok : ∀ q ∈ lw_privs, lw_okq q := by
  show ∀ q ∈ lw_privs_1 ++ (lw_privs_2 ++ (lw_privs_3 ++ (lw_privs_4))), lw_okq q
  exact List.forall_mem_append.mpr ⟨lw_r1, List.forall_mem_append.mpr ⟨lw_r2, List.forall_mem_append.mpr ⟨lw_r3, lw_r4⟩⟩⟩
-- ===== end of PART A; then your names; then what follows =====
end
section
/-! ===== BEGIN words of one list among another's, by their places ===== -/
theorem goodIn_r {big : List Cond} (ws : List Cond) (ps : List Nat) (hp : ws = ps.filterMap (fun i => big[i]?)) (h : ws.all goodWord = true) : GoodIn big ws := by
  intro w hw
  have h1 := List.all_eq_true.mp h w hw
  rw [hp] at hw
  obtain ⟨i, -, hi⟩ := List.mem_filterMap.mp hw
  have hm : w ∈ big := by first | exact List.mem_of_getElem? hi | exact List.getElem?_mem hi
  exact ⟨hm, good_of_word h1⟩
theorem goodIn_app {big a b : List Cond} (ha : GoodIn big a) (hb : GoodIn big b) : GoodIn big (a ++ b) := fun w h => (List.mem_append.mp h).elim (ha w) (hb w)
theorem goodIn_ca {big a b : List Cond} {c : Cond} (ha : GoodIn big (c :: a)) (hb : GoodIn big b) : GoodIn big (c :: (a ++ b)) := fun w h => (List.mem_cons.mp h).elim (fun e => ha w (List.mem_cons.mpr (Or.inl e))) (fun h => (List.mem_append.mp h).elim (fun h => ha w (List.mem_cons.mpr (Or.inr h))) (hb w))
theorem goodIn_sub {big ws : List Cond} (hm : ∀ w ∈ ws, w ∈ big) (h : ws.all goodWord = true) : GoodIn big ws := fun w hw => ⟨hm w hw, good_of_word (List.all_eq_true.mp h w hw)⟩
/-! ===== END ===== -/
/-! ===== BEGIN exceptions that leave a method, and their catching by the caller (launches without stack traces) ===== -/
section VXA
/-! The laws vx_back, vx_callV, vx_callS, vx_callSW, vx_throw0, vx_throwS follow proofs of the library, with one case more: JvmDerived/Free/Laws.lean (Back.of_free), Shelf42/LK1.lean (callV, callS), Shelf/KitTraced.lean (throwNew0V, throwNewS). -/
/-- where a method has thrown q: the class by its name, the cell, what was written, the world -/
def vx_T (XC : String → State → State → Prop) (st : State) (q : Addr) (t : State) (mc ms : Nat) (free : Addr → Prop) : Prop :=
  ∃ (E : String) (ce : Cell) (L : List Loc), XC E st t ∧ t.heap[q]? = some ce ∧ ce.vm = .none ∧ st.vm.findClass E = some ce.cls ∧ st.WarmedH t.vm ∧ st.sameButNew ({ t with vm := st.vm } : State) L mc ms ∧ ∀ z ∈ L, free z.base
def vx_Q (Qc : Array Value → State → Outcome → State → Prop) (XC : String → State → State → Prop) (mc ms : Nat) (free : Addr → Prop) : Array Value → State → Outcome → State → Prop := fun a st o t =>
  (Qc a st o t ∧ ∃ L, FrameEnd st o t L mc ms ∧ ∀ q ∈ L, free q.base) ∨ ∃ q, o = .threw q ∧ vx_T XC st q t mc ms free
/-- a callee that returns or throws -/
def vx_Met (l : Launch) (y : MethodName) (ws : List Cond) (rm : Room) (Pc : Array Value → State → Prop) (Qc : Array Value → State → Outcome → State → Prop) (XC : String → State → State → Prop) (mc ms : Nat) (free : Addr → Prop) : Prop :=
  MetFree l y (headSpec ws rm) Pc (fun _ _ _ _ _ => True) (vx_Q Qc XC mc ms free)
def vx_Post (XC : String → State → State → Prop) (mc ms : Nat) (free : Addr → Prop) : Pt → Array Value → Addr → Pt → Prop := fun A a q B =>
  ∃ (g : JFrame) (mk : MethodId) (t : State) (L : List Loc) (E : String) (ce : Cell), B.U.heap = t.heap ∧ B.U.vm = t.vm ∧ XC E (A.U.calling g mk a) t ∧ t.heap[q]? = some ce ∧ ce.vm = .none ∧ A.U.vm.findClass E = some ce.cls ∧ B.locs = A.locs ++ L ∧ (∀ z ∈ L, free z.base) ∧ B.cells = A.cells + mc ∧ B.slots = A.slots + ms
def vx_Back (l : Launch) (R : Room) (p : Program) (e : Env) (below : List Frame) (s : State) (sargs : Array Value) (y : MethodName) (len W9 : Nat)
    (Pre : Pt → Array Value → Prop) (Post : Pt → Array Value → Option Value → Pt → Prop) (PostX : Pt → Array Value → Addr → Pt → Prop) : Prop :=
  ∀ (m : MethodId) (meth : Method) (c : Code) (A : Pt) (g : JFrame) (ig : Instr) (mk : MethodId) (a : Array Value),
    Stand p l e R s m sargs below meth c A.U A.locs A.cells A.slots → g.method = m → g.locals.size = c.maxLocals → decode c.code g.pc = .ok (ig, len) →
    2 * g.monitorRoom + (g.stack.map fun v => v.category).sum ≤ W9 → A.U.methodNamed? y = some mk → Pre A a →
    (∃ (v : Option Value) (B : Pt), Stand p l e R s m sargs below meth c B.U B.locs B.cells B.slots ∧ Post A a v B ∧
      Steps p.tables e below (doInvoke e (A.U.setTop g) [] mk a).1 (B.U.setTop { g with pc := g.pc + len, stack := v.toList ++ g.stack })) ∨
    (∃ (q : Addr) (B : Pt), Stand p l e R s m sargs below meth c B.U B.locs B.cells B.slots ∧ PostX A a q B ∧
      Steps p.tables e below (doInvoke e (A.U.setTop g) [] mk a).1 ((B.U.setTop g).pushFrame (.throwing q)))
section Payer
variable {l : Launch} {R : Room} {p : Program} {e : Env} {below : List Frame} {s : State} {sargs : Array Value} {y : MethodName} {len W9 : Nat}
theorem vx_back {ws : List Cond} {rm : Room} {Pc : Array Value → State → Prop} {Qc : Array Value → State → Outcome → State → Prop} {XC : String → State → State → Prop} {mc ms : Nat} {free : Addr → Prop} {bytes : ByteArray} {maxL : Nat} {ret : Option FieldType}
    (hM : vx_Met l y ws rm Pc Qc XC mc ms free) (hblind : FrameBlind Pc) (hrc : rm.cells = mc) (hrs : rm.slots = ms)
    (hframes : rm.frames + 1 ≤ R.frames) (hlocals : W9 + (maxL + 11) + rm.locals ≤ R.locals)
    (hws : ∀ w ∈ ws, ∀ a' U, s.WarmedH U.vm → w.before a' U = true) (hcode : Cond.code y bytes maxL ret ∈ ws) (hinit : ∀ a' U, s.WarmedH U.vm → (Cond.initialized y.cls).before a' U = true) :
    vx_Back l R p e below s sargs y len W9 (PreOf R mc ms Pc) (PostOf Qc mc ms free) (vx_Post XC mc ms free) := by
  intro m meth c A g ig mk a X hg hsize hdg hW hn hp
  have h1 : (headSpec ws rm).pre.before a A.U = true := atoms_intro fun w hw => hws w hw _ _ X.warmed
  have h2 : (Cond.code y bytes maxL ret).before a A.U = true := hws _ hcode _ _ X.warmed
  have h3 : (Cond.initialized y.cls).before a A.U = true := hinit _ _ X.warmed
  have h4 : A.cells + (headSpec ws rm).room.cells ≤ R.cells := by rw [show (headSpec ws rm).room.cells = mc from hrc]; exact hp.1
  have h5 : A.slots + (headSpec ws rm).room.slots ≤ R.slots := by rw [show (headSpec ws rm).room.slots = ms from hrs]; exact hp.2.1
  have hPc : Pc a (A.U.calling g mk a) := hblind _ _ _ _ hp.2.2
  obtain ⟨U, Ls, c0, s0⟩ := A
  dsimp only [Pt.U, Pt.locs, Pt.cells, Pt.slots] at h1 h2 h3 h4 h5 X hn hPc ⊢
  obtain ⟨methY, cY, hmY, hcY, -, hlY, -, -, -, -⟩ := Cond.code_spec hn h2
  obtain ⟨kY, hkY, -⟩ := className_of_methodNamed hn
  have hinitY : kY.init = .initialized := Cond.initialized_spec (findClass_of_methodNamed hn) hkY h3
  have h : At U g.method c below := by rw [hg]; exact X.here
  have hlocals9 : W9 + (maxL + 11) + (headSpec ws rm).room.locals ≤ R.locals := hlocals
  have happ : (headSpec ws rm).appliesLoose y e.platform (U.calling g mk a) = true :=
    Spec.appliesLoose_calling (g := g) h hdg hn hkY hinitY
      (X.room_calling (g := g) (R' := (headSpec ws rm).room) hsize hmY hcY hframes (by rw [hlY]; omega) h4 h5) h1
  obtain ⟨mid, hmid⟩ := h.above
  have hfr : (U.setTop g).frames = (.java g :: mid) ++ below := by rw [State.frames_setTop' g h.top, hmid]; rfl
  obtain ⟨o, s₂, hsteps, -, hend, hq⟩ := Steps.callFree hM p X.admits X.cas X.clock (acts := []) hfr happ hPc trivial
  have hq' : vx_Q Qc XC mc ms free a (U.calling g mk a) o s₂ := hq
  rw [State.frames_setTop' g h.top] at hend
  obtain ⟨g₀, hg0⟩ := Option.isSome_iff_exists.mp h.top
  obtain ⟨r, hr⟩ := State.topJava?_eq_some.mp hg0
  have hr' : (({ U with heap := s₂.heap, slotsUsed := s₂.slotsUsed } : State).setVm s₂.vm).frames = .java g₀ :: r := hr
  rcases hq' with ⟨hqc, L, hfe, hL⟩ | ⟨q, rfl, E, ce, L, hx, hce, hcv, hcl, hW₂, hsm, hL⟩
  · obtain ⟨⟨v, rfl⟩, hW₂, e2, q2, q3, q4, q5, q6⟩ := id hfe
    have e3 : s₂ = ({ (U.calling g mk a).setFrames s₂.frames with heap := s₂.heap, slotsUsed := s₂.slotsUsed } : State).setVm s₂.vm := by
      have : s₂ = ({ s₂ with vm := (U.calling g mk a).vm } : State).setVm s₂.vm := rfl
      rw [e2] at this
      exact this
    obtain ⟨c₂, i₂, len₂, hc₂, hd₂, hf₂⟩ := hend
    have hW' : U.WarmedH s₂.vm := hW₂
    have hcc : c₂ = c := by
      have h1 : s₂.code? g.method = U.code? g.method := by
        rw [State.code?_eq, State.code?_eq, hW'.alike.method?]
      exact Option.some.inj (hc₂.symm.trans (h1.trans h.code))
    subst hcc
    have hlen : len₂ = len := by rw [hdg] at hd₂; cases hd₂; rfl
    subst hlen
    have hs₂ : s₂ = (({ U with heap := s₂.heap, slotsUsed := s₂.slotsUsed } : State).setVm s₂.vm).setTop { g with pc := g.pc + len₂, stack := v.toList ++ g.stack } := by
      refine e3.trans ?_
      rw [hf₂, State.calling_eq h.top, State.setFrames_setFrames, State.setTop_of_frames _ hr', hr]
      rfl
    have hsame : U.sameButNew ({ U with heap := s₂.heap, slotsUsed := s₂.slotsUsed } : State) L mc ms := by
      refine ⟨?_, q2, q3, q4, q5, q6⟩
      obtain ⟨t, ht, -⟩ := State.frames_cons hr
      show ({ U with heap := s₂.heap, slotsUsed := s₂.slotsUsed } : State) = { U.setFrames U.frames with heap := s₂.heap, slotsUsed := s₂.slotsUsed }
      rw [State.setFrames_self ht]
    subst hg
    refine Or.inl ⟨v, ⟨(({ U with heap := s₂.heap, slotsUsed := s₂.slotsUsed } : State).setVm s₂.vm), Ls ++ L, c0 + mc, s0 + ms⟩,
      ⟨X.admits, X.cas, X.clock, X.frames, X.room, X.hears, X.method, X.code, (X.here.setHeapUsed s₂.heap s₂.slotsUsed).setVm hW'.alike, X.tail, State.WarmedH.trans X.warmed hW', X.limits, X.bytes, X.same.trans (hsame.setVm s.vm)⟩,
      ⟨g, mk, s₂, L, rfl, rfl, hqc, rfl, hL, rfl, rfl⟩, ?_⟩
    show Steps p.tables e below _ ((({ U with heap := s₂.heap, slotsUsed := s₂.slotsUsed } : State).setVm s₂.vm).setTop { g with pc := g.pc + len₂, stack := v.toList ++ g.stack })
    rw [← hs₂]
    exact hsteps
  · obtain ⟨e2, q2, q3, q4, q5, q6⟩ := id hsm
    have e3 : s₂ = ({ (U.calling g mk a).setFrames s₂.frames with heap := s₂.heap, slotsUsed := s₂.slotsUsed } : State).setVm s₂.vm := by
      have : s₂ = ({ s₂ with vm := (U.calling g mk a).vm } : State).setVm s₂.vm := rfl
      rw [e2] at this
      exact this
    have hf₂ : s₂.frames = .throwing q :: .java g :: U.frames.tail := hend
    have hW' : U.WarmedH s₂.vm := hW₂
    have hs₂ : s₂ = ((({ U with heap := s₂.heap, slotsUsed := s₂.slotsUsed } : State).setVm s₂.vm).setTop g).pushFrame (.throwing q) := by
      refine e3.trans ?_
      rw [hf₂, State.calling_eq h.top, State.setFrames_setFrames, State.pushFrame, State.frames_setTop _ hr', State.setTop_of_frames _ hr', State.setFrames_setFrames, hr]
      rfl
    have hsame : U.sameButNew ({ U with heap := s₂.heap, slotsUsed := s₂.slotsUsed } : State) L mc ms := by
      refine ⟨?_, q2, q3, q4, q5, q6⟩
      obtain ⟨t, ht, -⟩ := State.frames_cons hr
      show ({ U with heap := s₂.heap, slotsUsed := s₂.slotsUsed } : State) = { U.setFrames U.frames with heap := s₂.heap, slotsUsed := s₂.slotsUsed }
      rw [State.setFrames_self ht]
    subst hg
    refine Or.inr ⟨q, ⟨(({ U with heap := s₂.heap, slotsUsed := s₂.slotsUsed } : State).setVm s₂.vm), Ls ++ L, c0 + mc, s0 + ms⟩,
      ⟨X.admits, X.cas, X.clock, X.frames, X.room, X.hears, X.method, X.code, (X.here.setHeapUsed s₂.heap s₂.slotsUsed).setVm hW'.alike, X.tail, State.WarmedH.trans X.warmed hW', X.limits, X.bytes, X.same.trans (hsame.setVm s.vm)⟩,
      ⟨g, mk, s₂, L, E, ce, rfl, rfl, hx, hce, hcv, hcl, rfl, hL, rfl, rfl⟩, ?_⟩
    show Steps p.tables e below _ (((({ U with heap := s₂.heap, slotsUsed := s₂.slotsUsed } : State).setVm s₂.vm).setTop g).pushFrame (.throwing q))
    rw [← hs₂]
    exact hsteps
end Payer
section Calls
variable {p : Program} {l : Launch} {e : Env} {R : Room} {s : State} {m : MethodId} {args : Array Value} {below : List Frame} {meth : Method} {c : Code} {T : State} {locs : List Loc} {cells slots : Nat}
theorem vx_callV (X : Stand p l e R s m args below meth c T locs cells slots) (hexec : p.tables.exec = Jvm.exec) {own C : String} {index : Nat} {y : MethodName} {bytes : ByteArray} {maxL : Nat} {ret : Option FieldType}
    (hown : s.vm.findClass own = some m.cls) (hlink : (Cond.methodLink own index y).before args s = true) (hinst : (Cond.instanceMethod y).before args s = true) (hsel : (Cond.selects C y y).before args s = true)
    (hcode : (Cond.code y bytes maxL ret).before args s = true) (hy : y.cls ≠ "java/lang/invoke/MethodHandle" ∧ y.cls ≠ "java/lang/invoke/VarHandle")
    {W9 : Nat} {Pre : Pt → Array Value → Prop} {Post : Pt → Array Value → Option Value → Pt → Prop} {PostX : Pt → Array Value → Addr → Pt → Prop} (hK : vx_Back l R p e below s args y 3 W9 Pre Post PostX)
    {b : Addr} {cellB : Cell} (hcell : T.heap[b]? = some cellB) (hobj : cellB.vm.isStatics = false) (hcls : s.vm.findClass C = some cellB.cls)
    {g : JFrame} (hg : g.method = m) (hsize : g.locals.size = c.maxLocals) {argsL rest : List Value} (hlen : ∀ sig, parseMethodDescriptor y.desc = some sig → argsL.length = sig.parameters.length)
    (hstack : g.stack = argsL.reverse ++ .ref b :: rest) (hW : 2 * g.monitorRoom + (rest.map fun v => v.category).sum ≤ W9) (hdg : decode c.code g.pc = .ok (.invokevirtual index, 3))
    (hpre : ∀ vm₁, s.WarmedH vm₁ → Pre ⟨T.setVm vm₁, locs, cells, slots⟩ (Value.ref b :: argsL).toArray) :
    (∃ (v : Option Value) (vm₁ : Vm) (B : Pt), s.WarmedH vm₁ ∧ Stand p l e R s m args below meth c B.U B.locs B.cells B.slots ∧ Post ⟨T.setVm vm₁, locs, cells, slots⟩ (Value.ref b :: argsL).toArray v B ∧
      ∀ target, Steps p.tables e below (B.U.setTop { g with pc := g.pc + 3, stack := v.toList ++ rest }) target → Steps p.tables e below (T.setTop g) target) ∨
    (∃ (q : Addr) (vm₁ : Vm) (B : Pt), s.WarmedH vm₁ ∧ Stand p l e R s m args below meth c B.U B.locs B.cells B.slots ∧ PostX ⟨T.setVm vm₁, locs, cells, slots⟩ (Value.ref b :: argsL).toArray q B ∧
      Steps p.tables e below (T.setTop g) ((B.U.setTop { g with stack := rest }).pushFrame (.throwing q))) := by
  obtain ⟨mk, methM, hnamed, hmethM, hstM, habM⟩ := Cond.instanceMethod_spec hinst
  obtain ⟨methM', cM, hmethM', -, -, -, -, -, -, hsigM⟩ := Cond.code_spec hnamed hcode
  cases hmethM.symm.trans hmethM'
  obtain ⟨c2, r2, m2, q1, q2, q3, q4, kP, hkP, hkPi⟩ := Cond.selects_spec hsel
  cases hcls.symm.trans q1
  cases (State.methodFound?_of_named hnamed hy).symm.trans q2
  cases hnamed.symm.trans q3
  have hselP : selectMethod e.platform s.vm cellB.cls mk = .method mk := by rw [Launch.admits_selectMethod X.admits]; exact q4
  obtain ⟨vm₁, X₁, hstep₁⟩ := X.invokevirtual hexec hown hlink hnamed hmethM hstM hkP hkPi hy (a := b) (cell := cellB) hcell
    (fun z h => by rw [h] at hobj; cases hobj) hselP hmethM habM hkP hkPi (g := g) hg (argsL := argsL) (rest := rest) (hlen _ hsigM) hstack hdg
  rcases hK m meth c ⟨T.setVm vm₁, locs, cells, slots⟩ { g with stack := rest } (.invokevirtual index) mk (Value.ref b :: argsL).toArray X₁ hg hsize hdg hW (X₁.named hnamed) (hpre vm₁ X₁.warmed) with ⟨v, B, X', hpost, hsteps⟩ | ⟨q, B, X', hpost, hsteps⟩
  · exact Or.inl ⟨v, vm₁, B, X₁.warmed, X', hpost, fun target h => hstep₁ _ fun acts => by rw [doInvoke_state]; exact hsteps.trans h⟩
  · exact Or.inr ⟨q, vm₁, B, X₁.warmed, X', hpost, hstep₁ _ fun acts => by rw [doInvoke_state]; exact hsteps⟩
theorem vx_callS (X : Stand p l e R s m args below meth c T locs cells slots) (hexec : p.tables.exec = Jvm.exec) {own : String} {index : Nat} {y : MethodName} {bytes : ByteArray} {maxL : Nat} {ret : Option FieldType}
    (hown : s.vm.findClass own = some m.cls) (hlink : (Cond.methodLink own index y).before args s = true) (hstat : (Cond.static y).before args s = true) (hinit : (Cond.initialized y.cls).before args s = true)
    (hcode : (Cond.code y bytes maxL ret).before args s = true) (hy : y.cls ≠ "java/lang/invoke/MethodHandle" ∧ y.cls ≠ "java/lang/invoke/VarHandle")
    {W9 : Nat} {Pre : Pt → Array Value → Prop} {Post : Pt → Array Value → Option Value → Pt → Prop} {PostX : Pt → Array Value → Addr → Pt → Prop} (hK : vx_Back l R p e below s args y 3 W9 Pre Post PostX)
    {g : JFrame} (hg : g.method = m) (hsize : g.locals.size = c.maxLocals) {argsL rest : List Value} (hlen : ∀ sig, parseMethodDescriptor y.desc = some sig → argsL.length = sig.parameters.length)
    (hstack : g.stack = argsL.reverse ++ rest) (hW : 2 * g.monitorRoom + (rest.map fun v => v.category).sum ≤ W9) (hdg : decode c.code g.pc = .ok (.invokestatic index, 3))
    (hpre : ∀ vm₁, s.WarmedH vm₁ → Pre ⟨T.setVm vm₁, locs, cells, slots⟩ argsL.toArray) :
    (∃ (v : Option Value) (vm₁ : Vm) (B : Pt), s.WarmedH vm₁ ∧ Stand p l e R s m args below meth c B.U B.locs B.cells B.slots ∧ Post ⟨T.setVm vm₁, locs, cells, slots⟩ argsL.toArray v B ∧
      ∀ target, Steps p.tables e below (B.U.setTop { g with pc := g.pc + 3, stack := v.toList ++ rest }) target → Steps p.tables e below (T.setTop g) target) ∨
    (∃ (q : Addr) (vm₁ : Vm) (B : Pt), s.WarmedH vm₁ ∧ Stand p l e R s m args below meth c B.U B.locs B.cells B.slots ∧ PostX ⟨T.setVm vm₁, locs, cells, slots⟩ argsL.toArray q B ∧
      Steps p.tables e below (T.setTop g) ((B.U.setTop { g with stack := rest }).pushFrame (.throwing q))) := by
  obtain ⟨mk, hnamed⟩ := Cond.code_named hcode
  obtain ⟨methM, cM, hmethM, -, -, -, -, -, -, hsigM⟩ := Cond.code_spec hnamed hcode
  have hstatic : methM.isStatic = true := Cond.static_spec hnamed hmethM hstat
  obtain ⟨kP, hkP, -⟩ := className_of_methodNamed hnamed
  have hinitP : kP.init = .initialized := Cond.initialized_spec (findClass_of_methodNamed hnamed) hkP hinit
  obtain ⟨vm₁, X₁, hstep₁⟩ := X.invokestatic hexec hown hlink hnamed hmethM hstatic hkP hinitP hy (g := g) hg (argsL := argsL) (rest := rest) (hlen _ hsigM) hstack hdg
  rcases hK m meth c ⟨T.setVm vm₁, locs, cells, slots⟩ { g with stack := rest } (.invokestatic index) mk argsL.toArray X₁ hg hsize hdg hW (X₁.named hnamed) (hpre vm₁ X₁.warmed) with ⟨v, B, X', hpost, hsteps⟩ | ⟨q, B, X', hpost, hsteps⟩
  · exact Or.inl ⟨v, vm₁, B, X₁.warmed, X', hpost, fun target h => hstep₁ _ fun acts => by rw [doInvoke_state]; exact hsteps.trans h⟩
  · exact Or.inr ⟨q, vm₁, B, X₁.warmed, X', hpost, hstep₁ _ fun acts => by rw [doInvoke_state]; exact hsteps⟩
end Calls
theorem vx_cls {s : State} {T : State} {vm₁ : Vm} {E : String} {k : ClassId} (hW : s.WarmedH vm₁) (h : (T.setVm vm₁).vm.findClass E = some k) : s.vm.findClass E = some k := by
  have h1 : vm₁.findClass E = some k := h
  rw [hW.alike.findClass] at h1
  exact h1
/-- the method's frame g, with q thrown over it -/
def vx_W (p : Program) (l : Launch) (e : Env) (R : Room) (s : State) (m : MethodId) (args : Array Value) (below : List Frame) (meth : Method) (c : Code) (H : Heap) (locs : List Loc) (cells slots : Nat) (Q : State → Prop) (g : JFrame) (q : Addr) : Prop :=
  ∀ T : State, T.heap = H → Stand p l e R s m args below meth c T locs cells slots → ∃ t, Steps p.tables e below ((T.setTop g).pushFrame (.throwing q)) t ∧ Q t
def vx_Run (p : Program) (l : Launch) (e : Env) (R : Room) (s : State) (m : MethodId) (args : Array Value) (below : List Frame) (meth : Method) (c : Code) (H : Heap) (locs : List Loc) (cells slots mc ms : Nat) (g : JFrame) (rest : List Value) (Qa : State → Outcome → State → Prop) (XC : String → State → State → Prop) (free : Addr → Prop) : Prop :=
  ∀ T : State, T.heap = H → Stand p l e R s m args below meth c T locs cells slots →
    (∃ (v : Option Value) (st₀ t T' : State) (L : List Loc), st₀.heap = H ∧ Stand p l e R s m args below meth c T' (locs ++ L) (cells + mc) (slots + ms) ∧ (∀ q ∈ L, free q.base) ∧ T'.heap = t.heap ∧ T'.vm = t.vm ∧ Qa st₀ (.returned v) t ∧
      Goes p e below T g T' { g with pc := g.pc + 3, stack := v.toList ++ rest }) ∨
    (∃ (q : Addr) (st₀ t T' : State) (L : List Loc) (E : String) (ce : Cell), st₀.heap = H ∧ Stand p l e R s m args below meth c T' (locs ++ L) (cells + mc) (slots + ms) ∧ (∀ z ∈ L, free z.base) ∧ T'.heap = t.heap ∧ T'.vm = t.vm ∧ XC E st₀ t ∧ t.heap[q]? = some ce ∧ ce.vm = .none ∧ s.vm.findClass E = some ce.cls ∧
      Steps p.tables e below (T.setTop g) ((T'.setTop { g with stack := rest }).pushFrame (.throwing q)))
def vx_X {S : Type} (px : S → Prop) (B : String → S → State → Prop) (A : Nat → Prop) : String → State → State → Prop := fun E st t => ∃ u : S, px u ∧ B E u t ∧ va_F A st t
section Runs
variable {p : Program} {l : Launch} {e : Env} {R : Room} {s : State} {m : MethodId} {args : Array Value} {below : List Frame} {meth : Method} {c : Code} {H : Heap} {locs : List Loc} {cells slots : Nat}
variable {y : MethodName} {bytes cc : ByteArray} {maxL nL mc ms n index : Nat} {ret : Option FieldType} {ws : List Cond} {rm : Room} {Pc : Array Value → State → Prop} {Qc : Array Value → State → Outcome → State → Prop} {XC : String → State → State → Prop} {free : Addr → Prop} {Ts : List Cond} {own C : String} {b : Addr} {As rest : List Value} {g : JFrame}
theorem vx_callBack (cb : CallB R s args own index y bytes maxL ret ws rm mc ms n) (hM : vx_Met l y ws rm Pc Qc XC mc ms free) (hbl : FrameBlind Pc) : vx_Back l R p e below s args y 3 8 (PreOf R mc ms Pc) (PostOf Qc mc ms free) (vx_Post XC mc ms free) := by
  obtain ⟨hrc, hrs, hfr, hlo, hws, hcw, -, hini, -⟩ := cb
  exact vx_back (bytes := bytes) (maxL := maxL) (ret := ret) hM hbl hrc hrs hfr hlo hws hcw (fun a' U hW => word_at hW (Or.inl (by first | rfl | simp [Cond.onTables, Cond.keeps, Cond.steady])) hini)
theorem vx_runV (S : CallFix p m c cc nL s args Ts own) (hM : vx_Met l y ws rm Pc Qc XC mc ms free) (cw : CallW R s args own C index y bytes maxL ret ws rm mc ms n) (hp : PreV s H C b Pc As)
    (hg : g.method = m) (hn : As.length = n) (hsize : g.locals.size = nL) (hstack : g.stack = As.reverse ++ .ref b :: rest) (hW : 2 * g.monitorRoom + (rest.map fun v => v.category).sum ≤ 8) (hdg : decode cc g.pc = .ok (.invokevirtual index, 3)) (hf : cells + mc ≤ R.cells ∧ slots + ms ≤ R.slots) :
    vx_Run p l e R s m args below meth c H locs cells slots mc ms g rest (Qc (Value.ref b :: As).toArray) XC free := by
  have hK : vx_Back l R p e below s args y 3 8 (PreOf R mc ms Pc) (PostOf Qc mc ms free) (vx_Post XC mc ms free) := vx_callBack cw.1 hM hp.1
  obtain ⟨⟨-, -, -, -, -, -, hcode, -, hy, hlen, hl⟩, hin, hse⟩ := cw
  obtain ⟨hx, hb, hml, ho, -⟩ := S
  obtain ⟨-, ⟨cellB, hcB, hoB, hclB⟩, hPc⟩ := hp
  intro T hT X
  rcases vx_callV X hx (C := C) (bytes := bytes) (maxL := maxL) (ret := ret) ho hl hin hse hcode hy hK (by rw [hT]; exact hcB) hoB hclB hg (hsize.trans hml.symm) (argsL := As) (rest := rest) (fun sig h => hn.trans (hlen sig h)) hstack hW (by rw [hb]; exact hdg)
    (fun vm₁ hW₁ => ⟨hf.1, hf.2, hPc (T.setVm vm₁) hT hW₁⟩) with ⟨v, vm₁, ⟨U', l2, c2, s2⟩, hW₁, X', ⟨g', mk, t, L, e1, e2, hq, h1, hL, h2, h3⟩, st⟩ | ⟨q, vm₁, ⟨U', l2, c2, s2⟩, hW₁, X', ⟨g', mk, t, L, E, ce, e1, e2, hq, hce, hcv, hcl, h1, hL, h2, h3⟩, st⟩
  · dsimp only [Pt.U, Pt.locs, Pt.cells, Pt.slots] at X' e1 e2 h1 h2 h3 st
    subst h1; subst h2; subst h3
    exact Or.inl ⟨v, (T.setVm vm₁).calling g' mk (Value.ref b :: As).toArray, t, U', L, hT, X', hL, e1, e2, hq, st⟩
  · dsimp only [Pt.U, Pt.locs, Pt.cells, Pt.slots] at X' e1 e2 h1 h2 h3 st hcl
    subst h1; subst h2; subst h3
    exact Or.inr ⟨q, (T.setVm vm₁).calling g' mk (Value.ref b :: As).toArray, t, U', L, E, ce, hT, X', hL, e1, e2, hq, hce, hcv, vx_cls hW₁ hcl, st⟩
theorem vx_runS (S : CallFix p m c cc nL s args Ts own) (hM : vx_Met l y ws rm Pc Qc XC mc ms free) (cw : CallB R s args own index y bytes maxL ret ws rm mc ms n ∧ (Cond.static y).before args s = true) (hp : PreS s H Pc As)
    (hg : g.method = m) (hn : As.length = n) (hsize : g.locals.size = nL) (hstack : g.stack = As.reverse ++ rest) (hW : 2 * g.monitorRoom + (rest.map fun v => v.category).sum ≤ 8) (hdg : decode cc g.pc = .ok (.invokestatic index, 3)) (hf : cells + mc ≤ R.cells ∧ slots + ms ≤ R.slots) :
    vx_Run p l e R s m args below meth c H locs cells slots mc ms g rest (Qc As.toArray) XC free := by
  have hK : vx_Back l R p e below s args y 3 8 (PreOf R mc ms Pc) (PostOf Qc mc ms free) (vx_Post XC mc ms free) := vx_callBack cw.1 hM hp.1
  obtain ⟨⟨-, -, -, -, -, -, hcode, hini, hy, hlen, hl⟩, hstt⟩ := cw
  obtain ⟨hx, hb, hml, ho, -⟩ := S
  intro T hT X
  rcases vx_callS X hx (bytes := bytes) (maxL := maxL) (ret := ret) ho hl hstt hini hcode hy hK hg (hsize.trans hml.symm) (argsL := As) (rest := rest) (fun sig h => hn.trans (hlen sig h)) hstack hW (by rw [hb]; exact hdg)
    (fun vm₁ hW₁ => ⟨hf.1, hf.2, hp.2 (T.setVm vm₁) hT hW₁⟩) with ⟨v, vm₁, ⟨U', l2, c2, s2⟩, hW₁, X', ⟨g', mk, t, L, e1, e2, hq, h1, hL, h2, h3⟩, st⟩ | ⟨q, vm₁, ⟨U', l2, c2, s2⟩, hW₁, X', ⟨g', mk, t, L, E, ce, e1, e2, hq, hce, hcv, hcl, h1, hL, h2, h3⟩, st⟩
  · dsimp only [Pt.U, Pt.locs, Pt.cells, Pt.slots] at X' e1 e2 h1 h2 h3 st
    subst h1; subst h2; subst h3
    exact Or.inl ⟨v, (T.setVm vm₁).calling g' mk As.toArray, t, U', L, hT, X', hL, e1, e2, hq, st⟩
  · dsimp only [Pt.U, Pt.locs, Pt.cells, Pt.slots] at X' e1 e2 h1 h2 h3 st hcl
    subst h1; subst h2; subst h3
    exact Or.inr ⟨q, (T.setVm vm₁).calling g' mk As.toArray, t, U', L, E, ce, hT, X', hL, e1, e2, hq, hce, hcv, vx_cls hW₁ hcl, st⟩
end Runs
section Rows
variable {p : Program} {l : Launch} {e : Env} {R : Room} {s : State} {m : MethodId} {args : Array Value} {below : List Frame} {meth : Method} {c : Code} {H : Heap} {locs : List Loc} {cells slots : Nat} {Q : State → Prop}
variable {mc ms : Nat} {free : Addr → Prop} {A0 A1 : Nat → Prop} {H0 : Heap} {a : Array Value} {pc : Nat} {ls : Array Slot} {st0 rest : List Value}
theorem vx_keep {st₀ t T' : State} {L : List Loc} (h0 : st₀.heap = H) (e1 : T'.heap = t.heap) (hS : va_S A0 H0 H locs) (hA : ∀ q, q < H.size → A1 q → A0 q) (hf : ∀ q, free q → A0 q) (hL : ∀ q ∈ L, free q.base) (hF : va_F A1 st₀ t) :
    H.size ≤ T'.heap.size ∧ (∀ q : Nat, q < H.size → ¬ A1 q → T'.heap[q]? = H[q]?) ∧ va_S A0 H0 T'.heap (locs ++ L) := by
  obtain ⟨hz, hk⟩ := hF
  rw [h0] at hz hk
  exact ⟨by rw [e1]; exact hz, fun q h1 h2 => by rw [e1]; exact hk q h1 h2,
    ⟨Nat.le_trans hS.1 (by rw [e1]; exact hz), fun q h1 h2 => by rw [e1, hk q (Nat.lt_of_lt_of_le h1 hS.1) (fun z => h2 (hA q (Nat.lt_of_lt_of_le h1 hS.1) z))]; exact hS.2.1 q h1 h2, fun q hq => by
      rcases List.mem_append.mp hq with h | h
      · exact hS.2.2 q h
      · exact hf _ (hL q h)⟩⟩
theorem vx_calli {S SX : Type} {post : Int32 → S → Prop} {px : SX → Prop} {B : S → State → Prop} {BX : String → SX → State → Prop} {AX : Nat → Prop} (hr : vx_Run p l e R s m args below meth c H locs cells slots mc ms (F0 m pc ls st0) rest (va_Qi post B A1 a) (vx_X px BX AX) free) (hS : va_S A0 H0 H locs) (hA : ∀ q, q < H.size → A1 q → A0 q) (hf : ∀ q, free q → A0 q) (hAX : ∀ q, q < H.size → AX q → A0 q)
    (kx : ∀ (E : String) (ce : Cell) (q9 : Addr) (u : SX) (t : State) (H1 : Heap) (locs1 : List Loc), t.heap = H1 → s.vm.Alike t.vm → px u → BX E u t → H.size ≤ H1.size → (∀ q : Nat, q < H.size → ¬ AX q → H1[q]? = H[q]?) → va_S A0 H0 H1 locs1 → H1[q9]? = some ce → ce.vm = .none → s.vm.findClass E = some ce.cls → vx_W p l e R s m args below meth c H1 locs1 (cells + mc) (slots + ms) Q (F0 m pc ls rest) q9)
    (kk : ∀ (r : Int32) (u : S) (t : State) (H1 : Heap) (locs1 : List Loc), t.heap = H1 → s.vm.Alike t.vm → post r u → B u t → H.size ≤ H1.size → (∀ q : Nat, q < H.size → ¬ A1 q → H1[q]? = H[q]?) → va_S A0 H0 H1 locs1 → W p l e R s m args below meth c H1 locs1 (cells + mc) (slots + ms) Q (F0 m (pc + 3) ls (.int r :: rest))) : W p l e R s m args below meth c H locs cells slots Q (F0 m pc ls st0) := by
  intro T hT X
  rcases hr T hT X with ⟨v, st₀, t, T', L, h0, X', hL, e1, e2, ⟨⟨r, u, hv, hp, hb⟩, hF⟩, st⟩ | ⟨q, st₀, t, T', L, E, ce, h0, X', hL, e1, e2, ⟨u, hp, hb, hF⟩, hce, hcv, hcl, st⟩
  · cases hv
    obtain ⟨k1, k2, k3⟩ := vx_keep h0 e1 hS hA hf hL hF
    obtain ⟨t2, a1, b1⟩ := kk r u t T'.heap (locs ++ L) e1.symm (by rw [← e2]; exact X'.warmed.alike) hp hb k1 k2 k3 T' rfl X'
    exact ⟨t2, st t2 a1, b1⟩
  · obtain ⟨k1, k2, k3⟩ := vx_keep h0 e1 hS hAX hf hL hF
    obtain ⟨t2, a1, b1⟩ := kx E ce q u t T'.heap (locs ++ L) e1.symm (by rw [← e2]; exact X'.warmed.alike) hp hb k1 k2 k3 (by rw [e1]; exact hce) hcv hcl T' rfl X'
    exact ⟨t2, st.trans a1, b1⟩
theorem vx_calll {S SX : Type} {post : Int64 → S → Prop} {px : SX → Prop} {B : S → State → Prop} {BX : String → SX → State → Prop} {AX : Nat → Prop} (hr : vx_Run p l e R s m args below meth c H locs cells slots mc ms (F0 m pc ls st0) rest (va_Ql post B A1 a) (vx_X px BX AX) free) (hS : va_S A0 H0 H locs) (hA : ∀ q, q < H.size → A1 q → A0 q) (hf : ∀ q, free q → A0 q) (hAX : ∀ q, q < H.size → AX q → A0 q)
    (kx : ∀ (E : String) (ce : Cell) (q9 : Addr) (u : SX) (t : State) (H1 : Heap) (locs1 : List Loc), t.heap = H1 → s.vm.Alike t.vm → px u → BX E u t → H.size ≤ H1.size → (∀ q : Nat, q < H.size → ¬ AX q → H1[q]? = H[q]?) → va_S A0 H0 H1 locs1 → H1[q9]? = some ce → ce.vm = .none → s.vm.findClass E = some ce.cls → vx_W p l e R s m args below meth c H1 locs1 (cells + mc) (slots + ms) Q (F0 m pc ls rest) q9)
    (kk : ∀ (r : Int64) (u : S) (t : State) (H1 : Heap) (locs1 : List Loc), t.heap = H1 → s.vm.Alike t.vm → post r u → B u t → H.size ≤ H1.size → (∀ q : Nat, q < H.size → ¬ A1 q → H1[q]? = H[q]?) → va_S A0 H0 H1 locs1 → W p l e R s m args below meth c H1 locs1 (cells + mc) (slots + ms) Q (F0 m (pc + 3) ls (.long r :: rest))) : W p l e R s m args below meth c H locs cells slots Q (F0 m pc ls st0) := by
  intro T hT X
  rcases hr T hT X with ⟨v, st₀, t, T', L, h0, X', hL, e1, e2, ⟨⟨r, u, hv, hp, hb⟩, hF⟩, st⟩ | ⟨q, st₀, t, T', L, E, ce, h0, X', hL, e1, e2, ⟨u, hp, hb, hF⟩, hce, hcv, hcl, st⟩
  · cases hv
    obtain ⟨k1, k2, k3⟩ := vx_keep h0 e1 hS hA hf hL hF
    obtain ⟨t2, a1, b1⟩ := kk r u t T'.heap (locs ++ L) e1.symm (by rw [← e2]; exact X'.warmed.alike) hp hb k1 k2 k3 T' rfl X'
    exact ⟨t2, st t2 a1, b1⟩
  · obtain ⟨k1, k2, k3⟩ := vx_keep h0 e1 hS hAX hf hL hF
    obtain ⟨t2, a1, b1⟩ := kx E ce q u t T'.heap (locs ++ L) e1.symm (by rw [← e2]; exact X'.warmed.alike) hp hb k1 k2 k3 (by rw [e1]; exact hce) hcv hcl T' rfl X'
    exact ⟨t2, st.trans a1, b1⟩
theorem vx_callf {S SX : Type} {post : UInt32 → S → Prop} {px : SX → Prop} {B : S → State → Prop} {BX : String → SX → State → Prop} {AX : Nat → Prop} (hr : vx_Run p l e R s m args below meth c H locs cells slots mc ms (F0 m pc ls st0) rest (va_Qf post B A1 a) (vx_X px BX AX) free) (hS : va_S A0 H0 H locs) (hA : ∀ q, q < H.size → A1 q → A0 q) (hf : ∀ q, free q → A0 q) (hAX : ∀ q, q < H.size → AX q → A0 q)
    (kx : ∀ (E : String) (ce : Cell) (q9 : Addr) (u : SX) (t : State) (H1 : Heap) (locs1 : List Loc), t.heap = H1 → s.vm.Alike t.vm → px u → BX E u t → H.size ≤ H1.size → (∀ q : Nat, q < H.size → ¬ AX q → H1[q]? = H[q]?) → va_S A0 H0 H1 locs1 → H1[q9]? = some ce → ce.vm = .none → s.vm.findClass E = some ce.cls → vx_W p l e R s m args below meth c H1 locs1 (cells + mc) (slots + ms) Q (F0 m pc ls rest) q9)
    (kk : ∀ (r : UInt32) (u : S) (t : State) (H1 : Heap) (locs1 : List Loc), t.heap = H1 → s.vm.Alike t.vm → post r u → B u t → H.size ≤ H1.size → (∀ q : Nat, q < H.size → ¬ A1 q → H1[q]? = H[q]?) → va_S A0 H0 H1 locs1 → W p l e R s m args below meth c H1 locs1 (cells + mc) (slots + ms) Q (F0 m (pc + 3) ls (.float r :: rest))) : W p l e R s m args below meth c H locs cells slots Q (F0 m pc ls st0) := by
  intro T hT X
  rcases hr T hT X with ⟨v, st₀, t, T', L, h0, X', hL, e1, e2, ⟨⟨r, u, hv, hp, hb⟩, hF⟩, st⟩ | ⟨q, st₀, t, T', L, E, ce, h0, X', hL, e1, e2, ⟨u, hp, hb, hF⟩, hce, hcv, hcl, st⟩
  · cases hv
    obtain ⟨k1, k2, k3⟩ := vx_keep h0 e1 hS hA hf hL hF
    obtain ⟨t2, a1, b1⟩ := kk r u t T'.heap (locs ++ L) e1.symm (by rw [← e2]; exact X'.warmed.alike) hp hb k1 k2 k3 T' rfl X'
    exact ⟨t2, st t2 a1, b1⟩
  · obtain ⟨k1, k2, k3⟩ := vx_keep h0 e1 hS hAX hf hL hF
    obtain ⟨t2, a1, b1⟩ := kx E ce q u t T'.heap (locs ++ L) e1.symm (by rw [← e2]; exact X'.warmed.alike) hp hb k1 k2 k3 (by rw [e1]; exact hce) hcv hcl T' rfl X'
    exact ⟨t2, st.trans a1, b1⟩
theorem vx_calld {S SX : Type} {post : UInt64 → S → Prop} {px : SX → Prop} {B : S → State → Prop} {BX : String → SX → State → Prop} {AX : Nat → Prop} (hr : vx_Run p l e R s m args below meth c H locs cells slots mc ms (F0 m pc ls st0) rest (va_Qd post B A1 a) (vx_X px BX AX) free) (hS : va_S A0 H0 H locs) (hA : ∀ q, q < H.size → A1 q → A0 q) (hf : ∀ q, free q → A0 q) (hAX : ∀ q, q < H.size → AX q → A0 q)
    (kx : ∀ (E : String) (ce : Cell) (q9 : Addr) (u : SX) (t : State) (H1 : Heap) (locs1 : List Loc), t.heap = H1 → s.vm.Alike t.vm → px u → BX E u t → H.size ≤ H1.size → (∀ q : Nat, q < H.size → ¬ AX q → H1[q]? = H[q]?) → va_S A0 H0 H1 locs1 → H1[q9]? = some ce → ce.vm = .none → s.vm.findClass E = some ce.cls → vx_W p l e R s m args below meth c H1 locs1 (cells + mc) (slots + ms) Q (F0 m pc ls rest) q9)
    (kk : ∀ (r : UInt64) (u : S) (t : State) (H1 : Heap) (locs1 : List Loc), t.heap = H1 → s.vm.Alike t.vm → post r u → B u t → H.size ≤ H1.size → (∀ q : Nat, q < H.size → ¬ A1 q → H1[q]? = H[q]?) → va_S A0 H0 H1 locs1 → W p l e R s m args below meth c H1 locs1 (cells + mc) (slots + ms) Q (F0 m (pc + 3) ls (.double r :: rest))) : W p l e R s m args below meth c H locs cells slots Q (F0 m pc ls st0) := by
  intro T hT X
  rcases hr T hT X with ⟨v, st₀, t, T', L, h0, X', hL, e1, e2, ⟨⟨r, u, hv, hp, hb⟩, hF⟩, st⟩ | ⟨q, st₀, t, T', L, E, ce, h0, X', hL, e1, e2, ⟨u, hp, hb, hF⟩, hce, hcv, hcl, st⟩
  · cases hv
    obtain ⟨k1, k2, k3⟩ := vx_keep h0 e1 hS hA hf hL hF
    obtain ⟨t2, a1, b1⟩ := kk r u t T'.heap (locs ++ L) e1.symm (by rw [← e2]; exact X'.warmed.alike) hp hb k1 k2 k3 T' rfl X'
    exact ⟨t2, st t2 a1, b1⟩
  · obtain ⟨k1, k2, k3⟩ := vx_keep h0 e1 hS hAX hf hL hF
    obtain ⟨t2, a1, b1⟩ := kx E ce q u t T'.heap (locs ++ L) e1.symm (by rw [← e2]; exact X'.warmed.alike) hp hb k1 k2 k3 (by rw [e1]; exact hce) hcv hcl T' rfl X'
    exact ⟨t2, st.trans a1, b1⟩
theorem vx_callv {S SX : Type} {post : S → Prop} {px : SX → Prop} {B : S → State → Prop} {BX : String → SX → State → Prop} {AX : Nat → Prop} (hr : vx_Run p l e R s m args below meth c H locs cells slots mc ms (F0 m pc ls st0) rest (va_Qv post B A1 a) (vx_X px BX AX) free) (hS : va_S A0 H0 H locs) (hA : ∀ q, q < H.size → A1 q → A0 q) (hf : ∀ q, free q → A0 q) (hAX : ∀ q, q < H.size → AX q → A0 q)
    (kx : ∀ (E : String) (ce : Cell) (q9 : Addr) (u : SX) (t : State) (H1 : Heap) (locs1 : List Loc), t.heap = H1 → s.vm.Alike t.vm → px u → BX E u t → H.size ≤ H1.size → (∀ q : Nat, q < H.size → ¬ AX q → H1[q]? = H[q]?) → va_S A0 H0 H1 locs1 → H1[q9]? = some ce → ce.vm = .none → s.vm.findClass E = some ce.cls → vx_W p l e R s m args below meth c H1 locs1 (cells + mc) (slots + ms) Q (F0 m pc ls rest) q9)
    (kk : ∀ (u : S) (t : State) (H1 : Heap) (locs1 : List Loc), t.heap = H1 → s.vm.Alike t.vm → post u → B u t → H.size ≤ H1.size → (∀ q : Nat, q < H.size → ¬ A1 q → H1[q]? = H[q]?) → va_S A0 H0 H1 locs1 → W p l e R s m args below meth c H1 locs1 (cells + mc) (slots + ms) Q (F0 m (pc + 3) ls (rest))) : W p l e R s m args below meth c H locs cells slots Q (F0 m pc ls st0) := by
  intro T hT X
  rcases hr T hT X with ⟨v, st₀, t, T', L, h0, X', hL, e1, e2, ⟨⟨u, hv, hp, hb⟩, hF⟩, st⟩ | ⟨q, st₀, t, T', L, E, ce, h0, X', hL, e1, e2, ⟨u, hp, hb, hF⟩, hce, hcv, hcl, st⟩
  · cases hv
    obtain ⟨k1, k2, k3⟩ := vx_keep h0 e1 hS hA hf hL hF
    obtain ⟨t2, a1, b1⟩ := kk u t T'.heap (locs ++ L) e1.symm (by rw [← e2]; exact X'.warmed.alike) hp hb k1 k2 k3 T' rfl X'
    exact ⟨t2, st t2 a1, b1⟩
  · obtain ⟨k1, k2, k3⟩ := vx_keep h0 e1 hS hAX hf hL hF
    obtain ⟨t2, a1, b1⟩ := kx E ce q u t T'.heap (locs ++ L) e1.symm (by rw [← e2]; exact X'.warmed.alike) hp hb k1 k2 k3 (by rw [e1]; exact hce) hcv hcl T' rfl X'
    exact ⟨t2, st.trans a1, b1⟩
/-- caught by the row x of this method's table; the rows ahead don't take it -/
theorem vx_catch {own name : String} {E : String} {ce : Cell} {q : Addr} (hown : s.vm.findClass own = some m.cls) (pre : List ExceptionTableEntry) (x : ExceptionTableEntry) (suf : List ExceptionTableEntry) (hsplit : c.exceptionTable.toList = pre ++ x :: suf)
    (hpass : ∀ z ∈ pre, covers z pc = false ∨ (z.catchType ≠ 0 ∧ ∃ nm : String, (Cond.classLink own z.catchType nm).before args s = true ∧ va_Nc E nm s)) (hx : covers x pc = true) (h0 : x.catchType ≠ 0)
    (hlink : (Cond.classLink own x.catchType name).before args s = true) (hcast : (Cond.castable E name).before args s = true) (hcell : H[q]? = some ce) (hv : ce.vm = .none) (hcl : s.vm.findClass E = some ce.cls)
    (kk : W p l e R s m args below meth c H locs cells slots Q (F0 m x.handlerPc ls [.ref q])) : vx_W p l e R s m args below meth c H locs cells slots Q (F0 m pc ls rest) q := by
  intro T hT X
  have hpl : e.platform.magicAccessors = ({} : Platform).magicAccessors := by rw [X.admits.platform]
  obtain ⟨c3, c4, hc3, hc4, hasg⟩ := Cond.castable_spec hcast
  cases Option.some.inj (hc3.symm.trans hcl)
  obtain ⟨c5, hc5, hcl5⟩ := Cond.classLink_spec hown hlink e.platform hpl
  cases Option.some.inj (hc4.symm.trans hc5)
  obtain ⟨vm', X', st⟩ := X.thenCaughtThrough q (g := F0 m pc ls rest) rfl (Steps.refl _) (by rw [hT]; exact hcell) (by rw [hv]; rfl) (by obtain ⟨k9, h9, -⟩ := Vm.findClass_spec hcl; exact ⟨k9, h9⟩) pre x suf hsplit
    (fun z hz => by
      rcases hpass z hz with h | ⟨hz0, nm, hl1, hn1⟩
      · exact Or.inl h
      · obtain ⟨c6, hc6, hcl6⟩ := Cond.classLink_spec hown hl1 e.platform hpl
        obtain ⟨a8, b8, h1, h2, h3⟩ := hn1
        cases Option.some.inj (h1.symm.trans hcl)
        cases Option.some.inj (h2.symm.trans hc6)
        exact Or.inr ⟨hz0, _, hcl6, h3⟩) hx (Or.inr ⟨h0, c4, hcl5, hasg⟩)
  obtain ⟨t, a1, b1⟩ := kk (T.setVm vm') hT X'
  exact ⟨t, st.trans a1, b1⟩
end Rows
section Ends
variable {p : Program} {l : Launch} {e : Env} {R : Room} {s : State} {m : MethodId} {args : Array Value} {below : List Frame} {meth : Method} {c : Code} {H : Heap} {locs : List Loc} {cells slots : Nat} {Q : State → Prop}
variable {mc ms : Nat} {free : Addr → Prop} {A0 A1 : Nat → Prop} {H0 : Heap} {a : Array Value} {ls : Array Slot} {st0 rest : List Value}
variable {Qc : Array Value → State → Outcome → State → Prop} {XC : String → State → State → Prop}
/-- what a body that may throw owes at its end -/
def vx_MQ (below : List Frame) (Qc : Array Value → State → Outcome → State → Prop) (XC : String → State → State → Prop) (a : Array Value) (s : State) (mc ms : Nat) (free : Addr → Prop) : State → Prop := fun t =>
  ∃ o, t.status = .running ∧ Ended t below o ∧ vx_Q Qc XC mc ms free a s o t
theorem vx_ret {g : JFrame} {mc ms : Nat} (k : W p l e R s m args below meth c H locs cells slots (MQ below Qc args s mc ms free) g) : W p l e R s m args below meth c H locs cells slots (vx_MQ below Qc XC args s mc ms free) g := by
  intro T hT X
  obtain ⟨t, a1, o, b1, b2, b3, b4⟩ := k T hT X
  exact ⟨t, a1, o, b1, b2, Or.inl ⟨b3, b4⟩⟩
/-- not caught here: it goes on to the caller -/
theorem vx_widen {g : JFrame} {q : Addr} {k n : Nat} (h1 : cells ≤ k) (h2 : slots ≤ n) (kk : vx_W p l e R s m args below meth c H locs k n Q g q) : vx_W p l e R s m args below meth c H locs cells slots Q g q := fun T hT X => kk T hT (stand_widen X h1 h2)
theorem vx_out {pc : Nat} {E : String} {ce : Cell} {q : Addr} {mc ms : Nat} (hout : ∀ x ∈ c.exceptionTable.toList, covers x pc = false) (hlocks : meth.locks = false) (hcell : H[q]? = some ce) (hv : ce.vm = .none) (hcl : s.vm.findClass E = some ce.cls)
    (hx : ∀ t : State, t.heap = H → s.vm.Alike t.vm → XC E s t) (hf : ∀ z ∈ locs, free z.base) (hc : cells ≤ mc) (hs : slots ≤ ms) :
    vx_W p l e R s m args below meth c H locs cells slots (vx_MQ below Qc XC args s mc ms free) (F0 m pc ls rest) q := by
  intro T hT X
  obtain ⟨st1, hrun, hend, hW, hsm⟩ := X.leaveThrown q (g := F0 m pc ls rest) rfl rfl rfl hout hlocks
  have hcell9 : (T.setFrames (.throwing q :: below)).heap[q]? = some ce := by
    show T.heap[q]? = some ce
    rw [hT]; exact hcell
  exact ⟨_, st1, .threw q, hrun, hend, Or.inr ⟨q, rfl, E, ce, locs, hx _ hT hW.alike, hcell9, hv, hcl, hW, hsm.mono hc hs, hf⟩⟩
theorem vx_frame {U : State} {k n : Nat} (h : s.sameButNew ({ U with vm := s.vm } : State) locs k n) : s.heap.size ≤ U.heap.size ∧ ∀ q : Nat, q < s.heap.size → (∀ z ∈ locs, z.base ≠ q) → U.heap[q]? = s.heap[q]? := by
  obtain ⟨-, h2, -, -, -, h6⟩ := h
  refine ⟨h2, fun q hq hz => ?_⟩
  obtain ⟨c9, e1, e2, e3, e4⟩ := h6 q _ (Array.getElem?_eq_getElem hq)
  have hs : c9.slots = (s.heap[q]).slots := Array.ext_getElem? fun i => e4 i fun hm => hz _ hm rfl
  have h9 : c9 = s.heap[q] := by
    rw [hs] at e2
    exact e2
  have e5 : U.heap[q]? = some c9 := e1
  rw [e5, h9, Array.getElem?_eq_getElem hq]
/-- the words of a throw but the four that speak of the heap -/
def vx_no (w : Cond) : Bool := decide (w ≠ .isRef (.static Bundle.tN "UNASSIGNED_STACK" Bundle.steD)) && decide (w ≠ .isRef (.static Bundle.tN "SUPPRESSED_SENTINEL" Bundle.listD)) && decide (w ≠ .laysStatic Bundle.tN "UNASSIGNED_STACK" Bundle.steD) && decide (w ≠ .laysStatic Bundle.tN "SUPPRESSED_SENTINEL" Bundle.listD)
def vx_at0 (own : String) (ic : Nat) (X : String) (names : List String) : List Cond := (Bundle.ownAtoms0 own ic X names).filter vx_no
def vx_atS (own : String) (ic : Nat) (X : String) (names : List String) : List Cond := (Bundle.ownAtoms own ic X names).filter vx_no
/-- a word that the tables alone decide, or a good one -/
def vx_ot (w : Cond) : Bool := w.onTables || goodWord w
theorem vx_ot_at {args a' : Array Value} {s U : State} {w : Cond} (hW : s.WarmedH U.vm) (hvm : s.vm = U.vm) (hg : vx_ot w = true) (h : w.before args s = true) : w.before a' U = true := by
  simp only [vx_ot, Bool.or_eq_true] at hg
  rcases hg with hg | hg
  · exact va_tabs hg hvm h
  · exact word_at hW (good_of_word hg) h
/-- a list's words: the good ones out of the method's own list, the others by premises of their own -/
theorem vx_hat {args : Array Value} {s : State} {L B : List Cond} (h1 : ∀ w ∈ L.filter goodWord, w.before args s = true) (h2 : ∀ w ∈ L.filter (fun w => !goodWord w), w ∈ B) (h3 : ∀ w ∈ B, w.before args s = true) : ∀ w ∈ L, w.before args s = true := by
  intro w hw
  by_cases g : goodWord w = true
  · exact h1 w (List.mem_filter.mpr ⟨hw, g⟩)
  · refine h3 w (h2 w (List.mem_filter.mpr ⟨hw, ?_⟩))
    show (!goodWord w) = true
    cases hgw : goodWord w
    · rfl
    · exact absurd hgw g
theorem vx_c {args : Array Value} {s : State} {w : Cond} {B : List Cond} (h : w.before args s = true) (t : ∀ w ∈ B, w.before args s = true) : ∀ w' ∈ w :: B, w'.before args s = true := fun w' h' => (List.mem_cons.mp h').elim (fun e => by rw [e]; exact h) (t w')
theorem vx_n {args : Array Value} {s : State} : ∀ w ∈ ([] : List Cond), w.before args s = true := fun _ h => nomatch h
theorem vx_own {args : Array Value} {s : State} {L : List Cond} (h1 : ∀ w ∈ L.filter vx_no, w.before args s = true)
    (hU : (Cond.isRef (.static Bundle.tN "UNASSIGNED_STACK" Bundle.steD)).before args s = true) (hN : (Cond.isRef (.static Bundle.tN "SUPPRESSED_SENTINEL" Bundle.listD)).before args s = true)
    (lU : (Cond.laysStatic Bundle.tN "UNASSIGNED_STACK" Bundle.steD).before args s = true) (lN : (Cond.laysStatic Bundle.tN "SUPPRESSED_SENTINEL" Bundle.listD).before args s = true) : ∀ w ∈ L, w.before args s = true := by
  intro w hw
  by_cases e1 : w = .isRef (.static Bundle.tN "UNASSIGNED_STACK" Bundle.steD)
  · rw [e1]; exact hU
  · by_cases e2 : w = .isRef (.static Bundle.tN "SUPPRESSED_SENTINEL" Bundle.listD)
    · rw [e2]; exact hN
    · by_cases e3 : w = .laysStatic Bundle.tN "UNASSIGNED_STACK" Bundle.steD
      · rw [e3]; exact lU
      · by_cases e4 : w = .laysStatic Bundle.tN "SUPPRESSED_SENTINEL" Bundle.listD
        · rw [e4]; exact lN
        · exact h1 w (List.mem_filter.mpr ⟨hw, by unfold vx_no; rw [decide_eq_true e1, decide_eq_true e2, decide_eq_true e3, decide_eq_true e4]; rfl⟩)
/-- where a static field lies, its class's statics cell in H -/
def vx_L (C n d : String) (A : Nat → Prop) (U : State) (H : Heap) : Prop := ∃ (c : ClassId) (k : Class) (i : Nat) (f : Field) (a : Nat) (cell : Cell), U.vm.findClass C = some c ∧ U.fieldFound? C n d = some (c, k, i, f) ∧ f.isStatic = true ∧ k.statics = some a ∧ H[a]? = some cell ∧ cell.vm.isStatics = true ∧ cell.cls = c ∧ f.slot < cell.slots.size ∧ k.staticTypes[f.slot]? = some f.type ∧ ¬ A a
theorem vx_L.moved {C n d : String} {A : Nat → Prop} {u U : State} {H : Heap} (hvm : u.vm.Alike U.vm) (h : vx_L C n d A u H) : vx_L C n d A U H := by
  obtain ⟨c, k, i, f, a, cell, h1, h2, h3, h4, h5, h6, h7, h8, h9, h10⟩ := h
  obtain ⟨k', hi', he⟩ := State.fieldFound?_setVm hvm h2
  exact ⟨c, k', i, f, a, cell, by rw [hvm.findClass]; exact h1, hi', h3, by rw [he]; exact h4, h5, h6, h7, h8, by rw [he]; exact h9, h10⟩
theorem vx_L.kept {C n d : String} {A : Nat → Prop} {U : State} {H H1 : Heap} (h : vx_L C n d A U H) (hq : ∀ a : Nat, a < H.size → ¬ A a → H1[a]? = H[a]?) : vx_L C n d A U H1 := by
  obtain ⟨c, k, i, f, a, cell, h1, h2, h3, h4, h5, h6, h7, h8, h9, h10⟩ := h
  exact ⟨c, k, i, f, a, cell, h1, h2, h3, h4, by rw [hq a (Array.getElem?_eq_some_iff.mp h5).1 h10]; exact h5, h6, h7, h8, h9, h10⟩
theorem vx_L.narrow {C n d : String} {A B : Nat → Prop} {U : State} {H : Heap} (h : vx_L C n d A U H) (hAB : ∀ q, B q → A q) : vx_L C n d B U H := by
  obtain ⟨c, k, i, f, a, cell, h1, h2, h3, h4, h5, h6, h7, h8, h9, h10⟩ := h
  exact ⟨c, k, i, f, a, cell, h1, h2, h3, h4, h5, h6, h7, h8, h9, fun z => h10 (hAB _ z)⟩
theorem vx_L.word {C n d : String} {A : Nat → Prop} {s : State} {args : Array Value} (h : vx_L C n d A s s.heap) : (Cond.laysStatic C n d).before args s = true := by
  obtain ⟨c, k, i, f, a, cell, h1, h2, h3, h4, h5, h6, h7, h8, h9, -⟩ := h
  show (Cond.laysStatic C n d).holds args s none s [] = true
  exact Cond.laysStatic_of h1 h2 h3 h4 h5 h6 h7 h8 h9
/-- .. and what it holds: null or some reference -/
def vx_Zq (C n d : String) (A : Nat → Prop) (U : State) (H : Heap) : Prop := va_Zq C n d A U H ∧ vx_L C n d A U H
theorem vx_Zq.moved {C n d : String} {A : Nat → Prop} {u U : State} {H : Heap} (hvm : u.vm.Alike U.vm) (h : vx_Zq C n d A u H) : vx_Zq C n d A U H := ⟨va_Zq.moved hvm h.1, vx_L.moved hvm h.2⟩
theorem vx_Zq.kept {C n d : String} {A : Nat → Prop} {U : State} {H H1 : Heap} (h : vx_Zq C n d A U H) (hq : ∀ a : Nat, a < H.size → ¬ A a → H1[a]? = H[a]?) : vx_Zq C n d A U H1 := ⟨va_Zq.kept h.1 hq, vx_L.kept h.2 hq⟩
theorem vx_Zq.narrow {C n d : String} {A B : Nat → Prop} {U : State} {H : Heap} (h : vx_Zq C n d A U H) (hAB : ∀ q, B q → A q) : vx_Zq C n d B U H := ⟨va_Zq.narrow h.1 hAB, vx_L.narrow h.2 hAB⟩
theorem vx_Zqof {args : Array Value} {s : State} {C n d : String} {A : Nat → Prop} (hl : (Cond.laysStatic C n d).before args s = true) (hini : (Cond.initialized C).before args s = true) (h : (Cond.isRef (.static C n d)).before args s = true) (hA : ∀ a : Nat, a < s.heap.size → ¬ A a) : vx_Zq C n d A s s.heap := by
  refine ⟨va_Zqof hl hini h hA, ?_⟩
  obtain ⟨c, k, i, f, a, cell, h1, h2, h3, h4, h5, h6, h7, h8, h9⟩ := Cond.laysStatic_spec hl
  exact ⟨c, k, i, f, a, cell, h1, h2, h3, h4, h5, h6, h7, h8, h9, hA a (Array.getElem?_eq_some_iff.mp h5).1⟩
theorem vx_isRef {C n d : String} {v : Value} {A : Nat → Prop} {s : State} {args : Array Value} (h : va_Z C n d v A s s.heap) (hv : v.isRef = true) : (Cond.isRef (.static C n d)).before args s = true := by
  obtain ⟨cf, kf, fi, f, a, cell, h1, h2, h3, h4, h5, h6, h7, -⟩ := h
  have he : (Term.static C n d).eval args s none [] s = some v := by
    simp [Term.eval, State.fieldNamed?, h1, h2, h4, h5, h6, h7]
  simp only [Cond.before, Cond.holds, Cond.value, he]
  cases v <;> simp_all [Value.isRef]
theorem vx_isRefq {C n d : String} {A : Nat → Prop} {s : State} {args : Array Value} (h : va_Zq C n d A s s.heap) : (Cond.isRef (.static C n d)).before args s = true := by
  rcases h with h | ⟨t, h⟩
  · exact vx_isRef h rfl
  · exact vx_isRef h rfl
/-- the same frame, seen from here: as if the method were called anew in this heap -/
theorem vx_rebase {T : State} (X : Stand p l e R s m args below meth c T locs cells slots) {R' : Room} (hf : R'.frames ≤ R.frames) (hl : R'.locals ≤ R.locals) (hc : cells + R'.cells ≤ R.cells) (hs : slots + R'.slots ≤ R.slots) :
    Stand p l e R' ((T.setVm s.vm).setFrames (.invoking m args :: below)) m args below meth c T [] 0 0 := by
  have htop : (T.setVm s.vm).topJava?.isSome := X.here.top
  have hF : ((T.setVm s.vm).setFrames (.invoking m args :: below)).frames = .invoking m args :: below := State.frames_setFrames _ (State.cur_lt_of_top htop)
  obtain ⟨g₀, hg0⟩ := Option.isSome_iff_exists.mp htop
  obtain ⟨r, hr⟩ := State.topJava?_eq_some.mp hg0
  have hl9 : e.platform.stackLimits (T.setVm s.vm).me = e.platform.stackLimits s.me := X.limits
  have hb9 : (T.setVm s.vm).me.stackBytes = s.me.stackBytes := X.bytes
  refine ⟨X.admits, X.cas, X.clock, hF, ?_, X.hears, X.method, X.code, X.here, X.tail, X.warmed, ?_, ?_, ?_⟩
  · have h := X.room
    have hU : ((T.setVm s.vm).setFrames (.invoking m args :: below)).localsInUse = s.localsInUse := by
      rw [State.localsInUse_invoking hF (meth := meth) (c := c) X.method X.code, State.localsInUse_invoking X.frames X.method X.code]
    simp only [State.hasRoom, Bool.and_eq_true, decide_eq_true_eq] at h ⊢
    obtain ⟨⟨⟨⟨h1, h2, h3, h4, h5, h6⟩, h7⟩, h8⟩, h9⟩ := h
    rw [X.frames, List.length_cons] at h2 h3
    have q1 := X.heapSize
    have q2 := X.used
    simp only [hF, hU, List.length_cons, State.stackLimits_setFrames, State.stackBytes_setFrames, hl9, hb9]
    refine ⟨⟨⟨⟨by omega, by omega, by omega, by omega, by omega, h6⟩, ?_⟩, ?_⟩, X.book⟩
    · show T.heap.size + R'.cells ≤ e.platform.maxCells
      omega
    · show T.slotsUsed + R'.slots ≤ e.platform.maxSlots
      omega
  · rw [State.stackLimits_setFrames]; rfl
  · rw [State.stackBytes_setFrames]; rfl
  · refine ⟨?_, Nat.le_refl _, Nat.le_refl _, ?_, ?_, fun a c9 h9 => ⟨c9, h9, rfl, rfl, fun _ _ => rfl⟩⟩
    · obtain ⟨t, ht, -⟩ := State.frames_cons hr
      show T.setVm s.vm = { ((T.setVm s.vm).setFrames (.invoking m args :: below)).setFrames (T.setVm s.vm).frames with heap := T.heap, slotsUsed := T.slotsUsed }
      rw [State.setFrames_setFrames, State.setFrames_self ht]
      rfl
    · show T.slotsUsed = T.slotsUsed + ((T.heap.toList.drop T.heap.size).map (·.slots.size)).sum
      rw [List.drop_eq_nil_of_le (Nat.le_of_eq Array.length_toList)]
      rfl
    · show ((T.heap.toList.drop T.heap.size).map (·.slots.size)).sum ≤ 0
      rw [List.drop_eq_nil_of_le (Nat.le_of_eq Array.length_toList)]
      exact Nat.le_refl _
/-- 'throw new E()': new; dup; invokespecial; athrow -/
theorem vx_throw0 {cc : ByteArray} {pc : Nat} (hexec : p.tables.exec = Jvm.exec) (hb : c.code = cc) (hl : l.stackTraces = false) {own cls : String} {names : List String} {ik ic mc ms : Nat} {A : Nat → Prop}
    (hown : s.vm.findClass own = some m.cls) (hcls : Bundle.fit cls = true) (hnames : ∀ n ∈ names, Bundle.fit n = true)
    (hk : (Cond.classLink own ik cls).before args s = true) (hini : (Cond.initialized cls).before args s = true) (hat : ∀ w ∈ vx_at0 own ic cls names, w.before args s = true)
    (hgood : ∀ w ∈ Cond.classLink own ik cls :: Cond.initialized cls :: vx_at0 own ic cls names, vx_ot w = true)
    (hU : vx_Zq Bundle.tN "UNASSIGNED_STACK" Bundle.steD A s s.heap) (hN : vx_Zq Bundle.tN "SUPPRESSED_SENTINEL" Bundle.listD A s s.heap) (hS : va_S A s.heap H locs) (hsize : ls.size = c.maxLocals)
    (d0 : decode cc pc = .ok (.new ik, 3)) (d3 : decode cc (pc + 3) = .ok (.dup, 1)) (d4 : decode cc (pc + 4) = .ok (.invokespecial ic, 3)) (d7 : decode cc (pc + 7) = .ok (.athrow, 1))
    (hout : ∀ x ∈ c.exceptionTable.toList, covers x (pc + 7) = false)
    (hRframes : names.length + 3 < R.frames) (hRlocals : (rest.map fun v => v.category).sum + (13 * (names.length + 1) + 42) ≤ R.locals) (hRcells : cells + 1 ≤ R.cells) (hRslots : slots + 6 ≤ R.slots) (hlocks : meth.locks = false)
    (hx : ∀ t : State, s.vm.Alike t.vm → H.size ≤ t.heap.size → (∀ q : Nat, q < H.size → t.heap[q]? = H[q]?) → XC cls s t)
    (hf : ∀ z ∈ locs, free z.base) (hc : cells + 1 ≤ mc) (hs : slots + 6 ≤ ms) :
    W p l e R s m args below meth c H locs cells slots (vx_MQ below Qc XC args s mc ms free) (F0 m pc ls rest) := by
  intro T hT X
  have htr : e.platform.stackTraces = false := (show e.platform.stackTraces = l.stackTraces by rw [X.admits.platform]).trans hl
  have Y := vx_rebase X (R' := { frames := R.frames, locals := R.locals, cells := 1, slots := 6 }) (Nat.le_refl _) (Nat.le_refl _) hRcells hRslots
  obtain ⟨s', hA⟩ : ∃ z, z = (T.setVm s.vm).setFrames (.invoking m args :: below) := ⟨_, rfl⟩
  rw [← hA] at Y
  have hvm : s'.vm = s.vm := by rw [hA]; rfl
  have hhp : s'.heap = H := by rw [hA]; exact hT
  have hW0 : s.WarmedH s'.vm := by rw [hvm]; exact State.WarmedH.refl s
  have hat' : ∀ w ∈ vx_at0 own ic cls names, w.before args s' = true := fun w hw => vx_ot_at hW0 hvm.symm (hgood w (List.mem_cons_of_mem _ (List.mem_cons_of_mem _ hw))) (hat w hw)
  have hk' : (Cond.classLink own ik cls).before args s' = true := vx_ot_at hW0 hvm.symm (hgood _ List.mem_cons_self) hk
  have hini' : (Cond.initialized cls).before args s' = true := vx_ot_at hW0 hvm.symm (hgood _ (List.mem_cons_of_mem _ List.mem_cons_self)) hini
  have hU' : vx_Zq Bundle.tN "UNASSIGNED_STACK" Bundle.steD A s' s'.heap := by rw [hhp]; exact vx_Zq.moved hW0.alike (hU.kept hS.2.1)
  have hN' : vx_Zq Bundle.tN "SUPPRESSED_SENTINEL" Bundle.listD A s' s'.heap := by rw [hhp]; exact vx_Zq.moved hW0.alike (hN.kept hS.2.1)
  have h : ∀ w ∈ Bundle.ownAtoms0 own ic cls names, w.before args s' = true := vx_own hat' (vx_isRefq hU'.1) (vx_isRefq hN'.1) hU'.2.word hN'.2.word
  have hown' : s'.vm.findClass own = some m.cls := by rw [hvm]; exact hown
  have hins : (Cond.instantiable cls 6).before args s' = true := h _ (by simp [Bundle.ownAtoms0])
  obtain ⟨vm₁, cX, kX, hfX, hkX, -, -, X₁, st1⟩ := Y.newCold hexec (own := own) (C := cls) (index := ik) (n := 6) hown' hk' hins hini'
    (g := F0 m pc ls rest) rfl (by rw [hb]; exact d0) (Nat.le_refl _) (Nat.le_refl _)
  generalize hT1 : (T.setVm vm₁).pushCell { cls := cX, slots := kX.instanceTypes.map defaultValue, vm := .none } = T1 at X₁ st1
  have hcat : (Value.ref T.heap.size).category = 1 := rfl
  have hcellA : T1.heap[T.heap.size]? = some (freshCell cX kX) := by rw [← hT1]; exact State.heap_pushCell_size _ _
  have d3' : decode c.code (pc + 3) = .ok (.dup, 1) := by rw [hb]; exact d3
  obtain ⟨U, hsteps, hrun, hend, hW, hsame, ce, hce, hO⟩ := X₁.ctorThrow0 hexec htr (own := own) (cls := cls) (names := names) (ic := ic) hown' hcls hnames h (fun x hx => nomatch hx) hfX hkX hcellA (by rw [hhp, hT]; exact Nat.le_refl _)
    (g := { method := m, pc := pc + 4, locals := ls, stack := .ref T.heap.size :: .ref T.heap.size :: rest, locked := none }) rfl hsize rfl rfl (rest := rest) rfl
    (by rw [hb]; exact d4) (by rw [hb]; exact d7) hout hRframes (by simp only [List.map_cons, List.sum_cons, hcat]; omega) hlocks
  obtain ⟨f1, f2⟩ := vx_frame hsame
  rw [hhp] at f1 f2
  have hWs : s.WarmedH U.vm := State.WarmedH.trans hW0 hW
  have hcl : s.vm.findClass cls = some ce.cls := by
    have h9 := hO.cls
    rw [hvm] at h9
    exact h9
  have hall : s.sameButNew ({ U with vm := s.vm } : State) locs mc ms := by
    subst hA
    obtain ⟨e1, e2⟩ := hsame
    rw [State.setFrames_setFrames] at e1
    have h2 : (T.setVm s.vm).sameButNew ({ U with vm := s.vm } : State) [] (0 + 1) (0 + 6) := ⟨e1, e2⟩
    have h3 := X.same.trans h2
    rw [List.append_nil] at h3
    exact h3.mono hc hs
  refine ⟨U, ?_, .threw T.heap.size, hrun, hend, Or.inr ⟨T.heap.size, rfl, cls, ce, locs, hx U hWs.alike f1 (fun q hq => f2 q hq (fun z hz => nomatch hz)), hce, hO.vm, hcl, hWs, hall, hf⟩⟩
  refine st1 _ ?_
  show Steps p.tables e below (T1.setTop { method := m, pc := pc + 3, locals := ls, stack := .ref T.heap.size :: rest, locked := none }) _
  jvm_step X₁.here [X₁.here.top, hexec, d3', Value.category]
  exact hsteps
/-- 'throw new E("text")': new; dup; ldc; invokespecial; athrow -/
theorem vx_throwS {cc : ByteArray} {pc : Nat} (hexec : p.tables.exec = Jvm.exec) (hb : c.code = cc) (hl : l.stackTraces = false) {own cls text : String} {names : List String} {ik is ic mc ms sa : Nat} {A : Nat → Prop}
    (hown : s.vm.findClass own = some m.cls) (hcls : Bundle.fit cls = true) (hnames : ∀ n ∈ names, Bundle.fit n = true)
    (hk : (Cond.classLink own ik cls).before args s = true) (hini : (Cond.initialized cls).before args s = true) (hstr : vk_R own is text sa s) (hat : ∀ w ∈ vx_atS own ic cls names, w.before args s = true)
    (hgood : ∀ w ∈ Cond.classLink own ik cls :: Cond.initialized cls :: vx_atS own ic cls names, vx_ot w = true)
    (hU : vx_Zq Bundle.tN "UNASSIGNED_STACK" Bundle.steD A s s.heap) (hN : vx_Zq Bundle.tN "SUPPRESSED_SENTINEL" Bundle.listD A s s.heap) (hS : va_S A s.heap H locs) (hsize : ls.size = c.maxLocals)
    (d0 : decode cc pc = .ok (.new ik, 3)) (d3 : decode cc (pc + 3) = .ok (.dup, 1)) (d4 : decode cc (pc + 4) = .ok (.ldc is, 2)) (d6 : decode cc (pc + 6) = .ok (.invokespecial ic, 3)) (d9 : decode cc (pc + 9) = .ok (.athrow, 1))
    (hout : ∀ x ∈ c.exceptionTable.toList, covers x (pc + 9) = false)
    (hRframes : names.length + 3 < R.frames) (hRlocals : (rest.map fun v => v.category).sum + (13 * (names.length + 1) + 43) ≤ R.locals) (hRcells : cells + 1 ≤ R.cells) (hRslots : slots + 6 ≤ R.slots) (hlocks : meth.locks = false)
    (hx : ∀ t : State, s.vm.Alike t.vm → H.size ≤ t.heap.size → (∀ q : Nat, q < H.size → t.heap[q]? = H[q]?) → XC cls s t)
    (hf : ∀ z ∈ locs, free z.base) (hc : cells + 1 ≤ mc) (hs : slots + 6 ≤ ms) :
    W p l e R s m args below meth c H locs cells slots (vx_MQ below Qc XC args s mc ms free) (F0 m pc ls rest) := by
  intro T hT X
  have htr : e.platform.stackTraces = false := (show e.platform.stackTraces = l.stackTraces by rw [X.admits.platform]).trans hl
  have Y := vx_rebase X (R' := { frames := R.frames, locals := R.locals, cells := 1, slots := 6 }) (Nat.le_refl _) (Nat.le_refl _) hRcells hRslots
  obtain ⟨s', hA⟩ : ∃ z, z = (T.setVm s.vm).setFrames (.invoking m args :: below) := ⟨_, rfl⟩
  rw [← hA] at Y
  have hvm : s'.vm = s.vm := by rw [hA]; rfl
  have hhp : s'.heap = H := by rw [hA]; exact hT
  have hW0 : s.WarmedH s'.vm := by rw [hvm]; exact State.WarmedH.refl s
  have hat' : ∀ w ∈ vx_atS own ic cls names, w.before args s' = true := fun w hw => vx_ot_at hW0 hvm.symm (hgood w (List.mem_cons_of_mem _ (List.mem_cons_of_mem _ hw))) (hat w hw)
  have hk' : (Cond.classLink own ik cls).before args s' = true := vx_ot_at hW0 hvm.symm (hgood _ List.mem_cons_self) hk
  have hini' : (Cond.initialized cls).before args s' = true := vx_ot_at hW0 hvm.symm (hgood _ (List.mem_cons_of_mem _ List.mem_cons_self)) hini
  have hU' : vx_Zq Bundle.tN "UNASSIGNED_STACK" Bundle.steD A s' s'.heap := by rw [hhp]; exact vx_Zq.moved hW0.alike (hU.kept hS.2.1)
  have hN' : vx_Zq Bundle.tN "SUPPRESSED_SENTINEL" Bundle.listD A s' s'.heap := by rw [hhp]; exact vx_Zq.moved hW0.alike (hN.kept hS.2.1)
  have h : ∀ w ∈ Bundle.ownAtoms own ic cls names, w.before args s' = true := vx_own hat' (vx_isRefq hU'.1) (vx_isRefq hN'.1) hU'.2.word hN'.2.word
  have hown' : s'.vm.findClass own = some m.cls := by rw [hvm]; exact hown
  have hins : (Cond.instantiable cls 6).before args s' = true := h _ (by simp [Bundle.ownAtoms])
  obtain ⟨vm₁, cX, kX, hfX, hkX, -, -, X₁, st1⟩ := Y.newCold hexec (own := own) (C := cls) (index := ik) (n := 6) hown' hk' hins hini'
    (g := F0 m pc ls rest) rfl (by rw [hb]; exact d0) (Nat.le_refl _) (Nat.le_refl _)
  generalize hT1 : (T.setVm vm₁).pushCell { cls := cX, slots := kX.instanceTypes.map defaultValue, vm := .none } = T1 at X₁ st1
  have hcat : (Value.ref T.heap.size).category = 1 := rfl
  have hcellA : T1.heap[T.heap.size]? = some (freshCell cX kX) := by rw [← hT1]; exact State.heap_pushCell_size _ _
  have d3' : decode c.code (pc + 3) = .ok (.dup, 1) := by rw [hb]; exact d3
  have d4' : decode c.code (pc + 4) = .ok (.ldc is, 2) := by rw [hb]; exact d4
  have hstr' : vk_R own is text sa s' := vk_R.warm hW0 hstr
  obtain ⟨U, hsteps, hrun, hend, hW, hsame, ce, hce, hO⟩ := X₁.ctorThrowS hexec htr (own := own) (cls := cls) (names := names) (ic := ic) hown' hcls hnames h (fun x hx => nomatch hx) hfX hkX hcellA (by rw [hhp, hT]; exact Nat.le_refl _) (msg := .ref sa) rfl
    (g := { method := m, pc := pc + 6, locals := ls, stack := .ref sa :: .ref T.heap.size :: .ref T.heap.size :: rest, locked := none }) rfl hsize rfl rfl (rest := rest) rfl
    (by rw [hb]; exact d6) (by rw [hb]; exact d9) hout hRframes (by simp only [List.map_cons, List.sum_cons, hcat]; omega) hlocks
  obtain ⟨f1, f2⟩ := vx_frame hsame
  rw [hhp] at f1 f2
  have hWs : s.WarmedH U.vm := State.WarmedH.trans hW0 hW
  have hcl : s.vm.findClass cls = some ce.cls := by
    have h9 := hO.cls
    rw [hvm] at h9
    exact h9
  have hall : s.sameButNew ({ U with vm := s.vm } : State) locs mc ms := by
    subst hA
    obtain ⟨e1, e2⟩ := hsame
    rw [State.setFrames_setFrames] at e1
    have h2 : (T.setVm s.vm).sameButNew ({ U with vm := s.vm } : State) [] (0 + 1) (0 + 6) := ⟨e1, e2⟩
    have h3 := X.same.trans h2
    rw [List.append_nil] at h3
    exact h3.mono hc hs
  refine ⟨U, ?_, .threw T.heap.size, hrun, hend, Or.inr ⟨T.heap.size, rfl, cls, ce, locs, hx U hWs.alike f1 (fun q hq => f2 q hq (fun z hz => nomatch hz)), hce, hO.vm, hcl, hWs, hall, hf⟩⟩
  refine st1 _ ?_
  show Steps p.tables e below (T1.setTop { method := m, pc := pc + 3, locals := ls, stack := .ref T.heap.size :: rest, locked := none }) _
  jvm_step X₁.here [X₁.here.top, hexec, d3', Value.category]
  exact X₁.ldcString hexec (own := own) (text := text) (index := is) (a := sa) hown' hstr'.1 hstr'.2
    (g := { method := m, pc := pc + 4, locals := ls, stack := .ref T.heap.size :: .ref T.heap.size :: rest, locked := none }) rfl d4' _ hsteps
/-- 'throw new E("text")', the text by a wide index -/
theorem vx_throwSW {cc : ByteArray} {pc : Nat} (hexec : p.tables.exec = Jvm.exec) (hb : c.code = cc) (hl : l.stackTraces = false) {own cls text : String} {names : List String} {ik is ic mc ms sa : Nat} {A : Nat → Prop}
    (hown : s.vm.findClass own = some m.cls) (hcls : Bundle.fit cls = true) (hnames : ∀ n ∈ names, Bundle.fit n = true)
    (hk : (Cond.classLink own ik cls).before args s = true) (hini : (Cond.initialized cls).before args s = true) (hstr : vk_R own is text sa s) (hat : ∀ w ∈ vx_atS own ic cls names, w.before args s = true)
    (hgood : ∀ w ∈ Cond.classLink own ik cls :: Cond.initialized cls :: vx_atS own ic cls names, vx_ot w = true)
    (hU : vx_Zq Bundle.tN "UNASSIGNED_STACK" Bundle.steD A s s.heap) (hN : vx_Zq Bundle.tN "SUPPRESSED_SENTINEL" Bundle.listD A s s.heap) (hS : va_S A s.heap H locs) (hsize : ls.size = c.maxLocals)
    (d0 : decode cc pc = .ok (.new ik, 3)) (d3 : decode cc (pc + 3) = .ok (.dup, 1)) (d4 : decode cc (pc + 4) = .ok (.ldc_w is, 3)) (d7 : decode cc (pc + 7) = .ok (.invokespecial ic, 3)) (d10 : decode cc (pc + 10) = .ok (.athrow, 1))
    (hout : ∀ x ∈ c.exceptionTable.toList, covers x (pc + 10) = false)
    (hRframes : names.length + 3 < R.frames) (hRlocals : (rest.map fun v => v.category).sum + (13 * (names.length + 1) + 43) ≤ R.locals) (hRcells : cells + 1 ≤ R.cells) (hRslots : slots + 6 ≤ R.slots) (hlocks : meth.locks = false)
    (hx : ∀ t : State, s.vm.Alike t.vm → H.size ≤ t.heap.size → (∀ q : Nat, q < H.size → t.heap[q]? = H[q]?) → XC cls s t)
    (hf : ∀ z ∈ locs, free z.base) (hc : cells + 1 ≤ mc) (hs : slots + 6 ≤ ms) :
    W p l e R s m args below meth c H locs cells slots (vx_MQ below Qc XC args s mc ms free) (F0 m pc ls rest) := by
  intro T hT X
  have htr : e.platform.stackTraces = false := (show e.platform.stackTraces = l.stackTraces by rw [X.admits.platform]).trans hl
  have Y := vx_rebase X (R' := { frames := R.frames, locals := R.locals, cells := 1, slots := 6 }) (Nat.le_refl _) (Nat.le_refl _) hRcells hRslots
  obtain ⟨s', hA⟩ : ∃ z, z = (T.setVm s.vm).setFrames (.invoking m args :: below) := ⟨_, rfl⟩
  rw [← hA] at Y
  have hvm : s'.vm = s.vm := by rw [hA]; rfl
  have hhp : s'.heap = H := by rw [hA]; exact hT
  have hW0 : s.WarmedH s'.vm := by rw [hvm]; exact State.WarmedH.refl s
  have hat' : ∀ w ∈ vx_atS own ic cls names, w.before args s' = true := fun w hw => vx_ot_at hW0 hvm.symm (hgood w (List.mem_cons_of_mem _ (List.mem_cons_of_mem _ hw))) (hat w hw)
  have hk' : (Cond.classLink own ik cls).before args s' = true := vx_ot_at hW0 hvm.symm (hgood _ List.mem_cons_self) hk
  have hini' : (Cond.initialized cls).before args s' = true := vx_ot_at hW0 hvm.symm (hgood _ (List.mem_cons_of_mem _ List.mem_cons_self)) hini
  have hU' : vx_Zq Bundle.tN "UNASSIGNED_STACK" Bundle.steD A s' s'.heap := by rw [hhp]; exact vx_Zq.moved hW0.alike (hU.kept hS.2.1)
  have hN' : vx_Zq Bundle.tN "SUPPRESSED_SENTINEL" Bundle.listD A s' s'.heap := by rw [hhp]; exact vx_Zq.moved hW0.alike (hN.kept hS.2.1)
  have h : ∀ w ∈ Bundle.ownAtoms own ic cls names, w.before args s' = true := vx_own hat' (vx_isRefq hU'.1) (vx_isRefq hN'.1) hU'.2.word hN'.2.word
  have hown' : s'.vm.findClass own = some m.cls := by rw [hvm]; exact hown
  have hins : (Cond.instantiable cls 6).before args s' = true := h _ (by simp [Bundle.ownAtoms])
  obtain ⟨vm₁, cX, kX, hfX, hkX, -, -, X₁, st1⟩ := Y.newCold hexec (own := own) (C := cls) (index := ik) (n := 6) hown' hk' hins hini'
    (g := F0 m pc ls rest) rfl (by rw [hb]; exact d0) (Nat.le_refl _) (Nat.le_refl _)
  generalize hT1 : (T.setVm vm₁).pushCell { cls := cX, slots := kX.instanceTypes.map defaultValue, vm := .none } = T1 at X₁ st1
  have hcat : (Value.ref T.heap.size).category = 1 := rfl
  have hcellA : T1.heap[T.heap.size]? = some (freshCell cX kX) := by rw [← hT1]; exact State.heap_pushCell_size _ _
  have d3' : decode c.code (pc + 3) = .ok (.dup, 1) := by rw [hb]; exact d3
  have d4' : decode c.code (pc + 4) = .ok (.ldc_w is, 3) := by rw [hb]; exact d4
  have hstr' : vk_R own is text sa s' := vk_R.warm hW0 hstr
  obtain ⟨U, hsteps, hrun, hend, hW, hsame, ce, hce, hO⟩ := X₁.ctorThrowS hexec htr (own := own) (cls := cls) (names := names) (ic := ic) hown' hcls hnames h (fun x hx => nomatch hx) hfX hkX hcellA (by rw [hhp, hT]; exact Nat.le_refl _) (msg := .ref sa) rfl
    (g := { method := m, pc := pc + 7, locals := ls, stack := .ref sa :: .ref T.heap.size :: .ref T.heap.size :: rest, locked := none }) rfl hsize rfl rfl (rest := rest) rfl
    (by rw [hb]; exact d7) (by rw [hb]; exact d10) hout hRframes (by simp only [List.map_cons, List.sum_cons, hcat]; omega) hlocks
  obtain ⟨f1, f2⟩ := vx_frame hsame
  rw [hhp] at f1 f2
  have hWs : s.WarmedH U.vm := State.WarmedH.trans hW0 hW
  have hcl : s.vm.findClass cls = some ce.cls := by
    have h9 := hO.cls
    rw [hvm] at h9
    exact h9
  have hall : s.sameButNew ({ U with vm := s.vm } : State) locs mc ms := by
    subst hA
    obtain ⟨e1, e2⟩ := hsame
    rw [State.setFrames_setFrames] at e1
    have h2 : (T.setVm s.vm).sameButNew ({ U with vm := s.vm } : State) [] (0 + 1) (0 + 6) := ⟨e1, e2⟩
    have h3 := X.same.trans h2
    rw [List.append_nil] at h3
    exact h3.mono hc hs
  refine ⟨U, ?_, .threw T.heap.size, hrun, hend, Or.inr ⟨T.heap.size, rfl, cls, ce, locs, hx U hWs.alike f1 (fun q hq => f2 q hq (fun z hz => nomatch hz)), hce, hO.vm, hcl, hWs, hall, hf⟩⟩
  refine st1 _ ?_
  show Steps p.tables e below (T1.setTop { method := m, pc := pc + 3, locals := ls, stack := .ref T.heap.size :: rest, locked := none }) _
  jvm_step X₁.here [X₁.here.top, hexec, d3', Value.category]
  exact X₁.ldcStringW hexec (own := own) (text := text) (index := is) (a := sa) hown' hstr'.1 hstr'.2
    (g := { method := m, pc := pc + 4, locals := ls, stack := .ref T.heap.size :: .ref T.heap.size :: rest, locked := none }) rfl d4' _ hsteps
end Ends
section Bodies
variable {l : Launch}
theorem vx_ofW {y : MethodName} {ws ws' : List Cond} {rm : Room} {Pc : Array Value → State → Prop} {Qc : Array Value → State → Outcome → State → Prop} {XC : String → State → State → Prop} {mc ms : Nat} {free : Addr → Prop} {cc : ByteArray} {maxL : Nat} {ret : Option FieldType}
    (hy : plainName y.cls = true) (hw : ws = Cond.code y cc maxL ret :: ws')
    (body : ∀ p e s m args below meth c s₁, BodyLoose p l y (headSpec ws rm) cc maxL ret e s m args below meth c s₁ → c.maxLocals = maxL → (∀ x ∈ c.exceptionTable.toList, False) → Pc args s →
      W p l e (headSpec ws rm).room s m args below meth c s.heap [] 0 0 (vx_MQ below Qc XC args s mc ms free) (entryFrame m args maxL)) : vx_Met l y ws rm Pc Qc XC mc ms free := by
  refine MetFree.of_bodyS (code := cc) (maxLocals := maxL) (ret := ret) hy ?_ ?_
  · intro args s m h hn
    obtain ⟨meth, c, h1, h2, h3, h4, h5, h6, -, -⟩ := Cond.code_spec hn (atoms_spec (ws := ws) h _ (by rw [hw]; exact List.mem_cons_self))
    exact ⟨meth, c, h1, h2, h3, h4, h5, h6⟩
  · intro p e s m args below meth c s₁ B hml hP _
    have hh0 : s₁.heap = s.heap := by rw [B.state]; rfl
    have ht : ∀ x ∈ c.exceptionTable.toList, False := by
      obtain ⟨meth9, c9, h1, h2, -, -, -, -, h7, -⟩ := Cond.code_spec B.named (atoms_spec (ws := ws) B.pre _ (by rw [hw]; exact List.mem_cons_self))
      cases Option.some.inj (h1.symm.trans B.method)
      cases Option.some.inj (h2.symm.trans (Stand.of_body B).code)
      intro x hx
      rw [Array.isEmpty_iff.mp h7] at hx
      cases hx
    obtain ⟨t, a1, o, b1, b2, b3⟩ := body p e s m args below meth c s₁ B hml ht hP s₁ hh0 (Stand.of_body B)
    exact ⟨t, o, a1, b1, b2, b3⟩
/-- the table of a body with handlers -/
theorem vx_table {p : Program} {x y : MethodName} {S : Spec} {cc bytes : ByteArray} {maxL maxL' : Nat} {ret ret' : Option FieldType} {e : Env} {s s₁ : State} {m : MethodId} {args : Array Value} {below : List Frame} {meth : Method} {c : Code} {hh : List (Nat × Nat × Nat × Nat)}
    (B : BodyLoose p l y S cc maxL ret e s m args below meth c s₁) (h : (Cond.codeWith y bytes maxL' ret' hh).before args s = true) : c.exceptionTable.toList = tableOf hh := by
  obtain ⟨m9, meth9, c9, hn9, h1, h2, -, -, h6, -⟩ := Cond.codeWith_spec h
  cases Option.some.inj (hn9.symm.trans B.named)
  cases Option.some.inj (h1.symm.trans B.method)
  cases Option.some.inj (h2.symm.trans (Stand.of_body B).code)
  rw [← h6, table_eq]
end Bodies
end VXA
/-! ===== END ===== -/
/-! ===== BEGIN a static call of a method with an exception table ===== -/
section VXS
variable {p : Program} {l : Launch} {e : Env} {R : Room} {s : State} {m : MethodId} {args : Array Value} {below : List Frame} {meth : Method} {c : Code} {T : State} {H : Heap} {locs : List Loc} {cells slots : Nat}
abbrev vx_CSW (R : Room) (s : State) (args : Array Value) (own : String) (index : Nat) (y : MethodName) (bytes : ByteArray) (maxL : Nat) (ret : Option FieldType) (hh : List (Nat × Nat × Nat × Nat)) (ws : List Cond) (rm : Room) (mc ms n : Nat) : Prop :=
  (rm.cells = mc ∧ rm.slots = ms ∧ rm.frames + 1 ≤ R.frames ∧ 8 + (maxL + 11) + rm.locals ≤ R.locals ∧ (∀ w ∈ ws, ∀ (a' : Array Value) (U : State), s.WarmedH U.vm → w.before a' U = true) ∧ Cond.codeWith y bytes maxL ret hh ∈ ws) ∧
  (Cond.codeWith y bytes maxL ret hh).before args s = true ∧ (Cond.initialized y.cls).before args s = true ∧ (y.cls ≠ "java/lang/invoke/MethodHandle" ∧ y.cls ≠ "java/lang/invoke/VarHandle") ∧
  (∀ sig, parseMethodDescriptor y.desc = some sig → n = sig.parameters.length) ∧ (Cond.methodLink own index y).before args s = true ∧ (Cond.static y).before args s = true
theorem vx_cwSW {own : String} {index maxL mc ms : Nat} {y : MethodName} {bytes : ByteArray} {ret : Option FieldType} {hh : List (Nat × Nat × Nat × Nat)} {Ts ws ws' : List Cond} {rm : Room} (n : Nat) (ht : ∀ w ∈ Ts, w.before args s = true) (hT : GoodIn Ts (va_wsS own index y ws)) (hw : ws = Cond.codeWith y bytes maxL ret hh :: ws') (hrc : rm.cells = mc) (hrs : rm.slots = ms)
    (hd : y.cls ≠ "java/lang/invoke/MethodHandle" ∧ y.cls ≠ "java/lang/invoke/VarHandle" ∧ (parseMethodDescriptor y.desc).map (fun d => d.parameters.length) = some n) (hR : rm.frames + 1 ≤ R.frames ∧ 8 + (maxL + 11) + rm.locals ≤ R.locals) :
    vx_CSW R s args own index y bytes maxL ret hh ws rm mc ms n := by
  have ok : ∀ w ∈ va_wsS own index y ws, w.before args s = true := fun w h => ht w (hT w h).1
  have hG : GoodIn Ts ws := fun w h => hT w (by unfold va_wsS; exact List.mem_append_right _ h)
  have hc : Cond.codeWith y bytes maxL ret hh ∈ ws := by rw [hw]; exact List.mem_cons_self
  refine ⟨⟨hrc, hrs, hR.1, hR.2, pay_in ht hG, hc⟩, ht _ (hG _ hc).1, ok _ (by simp [va_wsS]), ⟨hd.1, hd.2.1⟩, fun sig h => ?_, ok _ (by simp [va_wsS]), ok _ (by simp [va_wsS])⟩
  have h2 := hd.2.2
  rw [h] at h2
  exact (Option.some.inj h2).symm
theorem vx_callSW (X : Stand p l e R s m args below meth c T locs cells slots) (hexec : p.tables.exec = Jvm.exec) {own : String} {index : Nat} {y : MethodName} {bytes : ByteArray} {maxL : Nat} {ret : Option FieldType} {hh : List (Nat × Nat × Nat × Nat)}
    (hown : s.vm.findClass own = some m.cls) (hlink : (Cond.methodLink own index y).before args s = true) (hstat : (Cond.static y).before args s = true) (hinit : (Cond.initialized y.cls).before args s = true)
    (hcode : (Cond.codeWith y bytes maxL ret hh).before args s = true) (hy : y.cls ≠ "java/lang/invoke/MethodHandle" ∧ y.cls ≠ "java/lang/invoke/VarHandle")
    {W9 : Nat} {Pre : Pt → Array Value → Prop} {Post : Pt → Array Value → Option Value → Pt → Prop} (hK : Back l R p e below s args y 3 W9 Pre Post)
    {g : JFrame} (hg : g.method = m) (hsize : g.locals.size = c.maxLocals) {argsL rest : List Value} (hlen : ∀ sig, parseMethodDescriptor y.desc = some sig → argsL.length = sig.parameters.length)
    (hstack : g.stack = argsL.reverse ++ rest) (hW : 2 * g.monitorRoom + (rest.map fun v => v.category).sum ≤ W9) (hdg : decode c.code g.pc = .ok (.invokestatic index, 3))
    (hpre : ∀ vm₁, s.WarmedH vm₁ → Pre ⟨T.setVm vm₁, locs, cells, slots⟩ argsL.toArray) :
    ∃ (v : Option Value) (vm₁ : Vm) (B : Pt), s.WarmedH vm₁ ∧ Stand p l e R s m args below meth c B.U B.locs B.cells B.slots ∧ Post ⟨T.setVm vm₁, locs, cells, slots⟩ argsL.toArray v B ∧
      ∀ target, Steps p.tables e below (B.U.setTop { g with pc := g.pc + 3, stack := v.toList ++ rest }) target → Steps p.tables e below (T.setTop g) target := by
  obtain ⟨mk, methM, cM, hnamed, hmethM, -, -, -, -, -, -, hsigM⟩ := Cond.codeWith_spec hcode
  have hstatic : methM.isStatic = true := Cond.static_spec hnamed hmethM hstat
  obtain ⟨kP, hkP, -⟩ := className_of_methodNamed hnamed
  have hinitP : kP.init = .initialized := Cond.initialized_spec (findClass_of_methodNamed hnamed) hkP hinit
  obtain ⟨vm₁, X₁, hstep₁⟩ := X.invokestatic hexec hown hlink hnamed hmethM hstatic hkP hinitP hy (g := g) hg (argsL := argsL) (rest := rest) (hlen _ hsigM) hstack hdg
  obtain ⟨v, B, X', hpost, hsteps⟩ := hK m meth c ⟨T.setVm vm₁, locs, cells, slots⟩ { g with stack := rest } (.invokestatic index) mk argsL.toArray X₁ hg hsize hdg hW (X₁.named hnamed) (hpre vm₁ X₁.warmed)
  exact ⟨v, vm₁, B, X₁.warmed, X', hpost, fun target h => hstep₁ _ fun acts => by rw [doInvoke_state]; exact hsteps.trans h⟩
theorem vx_runSW {y : MethodName} {bytes cc : ByteArray} {maxL nL mc ms n index : Nat} {ret : Option FieldType} {hh : List (Nat × Nat × Nat × Nat)} {ws : List Cond} {rm : Room} {Pc : Array Value → State → Prop} {Qc : Array Value → State → Outcome → State → Prop} {free : Addr → Prop} {Ts : List Cond} {own : String} {As rest : List Value} {g : JFrame}
    (S : CallFix p m c cc nL s args Ts own) (hM : Met l y ws rm Pc Qc mc ms free) (cw : vx_CSW R s args own index y bytes maxL ret hh ws rm mc ms n) (hp : PreS s H Pc As)
    (hg : g.method = m) (hn : As.length = n) (hsize : g.locals.size = nL) (hstack : g.stack = As.reverse ++ rest) (hW : 2 * g.monitorRoom + (rest.map fun v => v.category).sum ≤ 8) (hdg : decode cc g.pc = .ok (.invokestatic index, 3)) (hf : cells + mc ≤ R.cells ∧ slots + ms ≤ R.slots) :
    va_Run p l e R s m args below meth c H locs cells slots mc ms g rest (Qc As.toArray) (free) := by
  obtain ⟨⟨hrc, hrs, hfr, hlo, hws, hcw⟩, hcode, hini, hy, hlen, hl, hstt⟩ := cw
  have hK : Back l R p e below s args y 3 8 (PreOf R mc ms Pc) (PostOf Qc mc ms free) := va_backW (hh := hh) (bytes := bytes) (maxL := maxL) (ret := ret) hM hp.1 hrc hrs hfr hlo hws hcw (fun a' U hW => word_at hW (Or.inl (by first | rfl | simp [Cond.onTables, Cond.keeps, Cond.steady])) hini)
  obtain ⟨hx, hb, hml, ho, -⟩ := S
  intro T hT X
  obtain ⟨v, vm₁, ⟨U', l2, c2, s2⟩, hW₁, X', ⟨g', mk, t, L, e1, e2, hq, h1, hL, h2, h3⟩, st⟩ := vx_callSW X hx (hh := hh) (bytes := bytes) (maxL := maxL) (ret := ret) ho hl hstt hini hcode hy hK hg (hsize.trans hml.symm) (argsL := As) (rest := rest) (fun sig h => hn.trans (hlen sig h)) hstack hW (by rw [hb]; exact hdg)
    (fun vm₁ hW₁ => ⟨hf.1, hf.2, hp.2 (T.setVm vm₁) hT hW₁⟩)
  dsimp only [Pt.U, Pt.locs, Pt.cells, Pt.slots] at X' e1 e2 h1 h2 h3 st
  subst h1; subst h2; subst h3
  exact ⟨v, (T.setVm vm₁).calling g' mk As.toArray, t, U', L, hT, X', hL, e1, e2, hq, st⟩
/-- not caught here, past rows that name other classes: it goes on to the caller -/
theorem vx_outP {p : Program} {l : Launch} {e : Env} {R : Room} {s : State} {m : MethodId} {args : Array Value} {below : List Frame} {meth : Method} {c : Code} {H : Heap} {locs : List Loc} {cells slots : Nat} {free : Addr → Prop} {ls : Array Slot} {rest : List Value} {Qc : Array Value → State → Outcome → State → Prop} {XC : String → State → State → Prop}
    {pc : Nat} {own E : String} {ce : Cell} {q : Addr} {mc ms : Nat} (hown : s.vm.findClass own = some m.cls) (hlocks : meth.locks = false)
    (hpass : ∀ z ∈ c.exceptionTable.toList, covers z pc = false ∨ (z.catchType ≠ 0 ∧ ∃ nm : String, (Cond.classLink own z.catchType nm).before args s = true ∧ va_Nc E nm s)) (hcell : H[q]? = some ce) (hv : ce.vm = .none) (hcl : s.vm.findClass E = some ce.cls)
    (hx : ∀ t : State, t.heap = H → s.vm.Alike t.vm → XC E s t) (hf : ∀ z ∈ locs, free z.base) (hc : cells ≤ mc) (hs : slots ≤ ms) :
    vx_W p l e R s m args below meth c H locs cells slots (vx_MQ below Qc XC args s mc ms free) (F0 m pc ls rest) q := by
  intro T hT X
  have hpl : e.platform.magicAccessors = ({} : Platform).magicAccessors := by rw [X.admits.platform]
  obtain ⟨vm', hW', X', st⟩ := X.outThrough hlocks q (g := F0 m pc ls rest) rfl rfl rfl (cell := ce) (by rw [hT]; exact hcell) (by rw [hv]; rfl)
    (by obtain ⟨k9, h9, -⟩ := Vm.findClass_spec hcl; exact ⟨k9, h9⟩) (fun z hz => by
      rcases hpass z hz with h | ⟨hz0, nm, hl1, hn1⟩
      · exact Or.inl h
      · obtain ⟨c6, hc6, hcl6⟩ := Cond.classLink_spec hown hl1 e.platform hpl
        obtain ⟨a8, b8, h1, h2, h3⟩ := hn1
        cases Option.some.inj (h1.symm.trans hcl)
        cases Option.some.inj (h2.symm.trans hc6)
        exact Or.inr ⟨hz0, _, hcl6, h3⟩)
  obtain ⟨g₀, hfr⟩ := X'.frames_eq
  have hcell9 : ((T.setVm vm').setFrames (.throwing q :: below)).heap[q]? = some ce := by
    show T.heap[q]? = some ce
    rw [hT]; exact hcell
  have hend : Ended ((T.setVm vm').setFrames (.throwing q :: below)) below (.threw q) := State.frames_setFrames _ (State.cur_lt_of_frames hfr)
  refine ⟨(T.setVm vm').setFrames (.throwing q :: below), ?_, .threw q, X'.here.running, hend, Or.inr ⟨q, rfl, E, ce, locs, hx _ hT (X'.ends _).1.alike, hcell9, hv, hcl, (X'.ends _).1, (X'.ends _).2.mono hc hs, hf⟩⟩
  rw [X.pushThrowing_eq]
  exact st
/-- a thing of a world lies in the heap -/
theorem vx_lt {D : va_G} {cl : List vw_C} {ws : va_W} {H1 : Heap} (h : va_P D cl ws H1) {k : Nat} {q : Nat × va_E} (hk : ws[k]? = some q) : q.1 < H1.size := (h k q hk).lt
end VXS
/-! ===== END ===== -/
/-! ===== BEGIN methods with a table of their own: called by a name, returning or throwing ===== -/
section VXH
/-! vx_backW, vx_callVX, vx_callSX, vx_callVW, vx_runVW, vx_runVX, vx_runSX, vx_ofWH follow the same proofs as their sisters above (Free/Laws.lean, Shelf42/LK1.lean); vx_outP calls Shelf42/NT130.lean (outThrough). -/
section
variable {l : Launch} {R : Room} {p : Program} {e : Env} {below : List Frame} {s : State} {sargs : Array Value} {y : MethodName} {len W9 : Nat}
theorem vx_backW {ws : List Cond} {rm : Room} {Pc : Array Value → State → Prop} {Qc : Array Value → State → Outcome → State → Prop} {XC : String → State → State → Prop} {mc ms : Nat} {free : Addr → Prop} {bytes : ByteArray} {maxL : Nat} {ret : Option FieldType} {hh : List (Nat × Nat × Nat × Nat)}
    (hM : vx_Met l y ws rm Pc Qc XC mc ms free) (hblind : FrameBlind Pc) (hrc : rm.cells = mc) (hrs : rm.slots = ms)
    (hframes : rm.frames + 1 ≤ R.frames) (hlocals : W9 + (maxL + 11) + rm.locals ≤ R.locals)
    (hws : ∀ w ∈ ws, ∀ a' U, s.WarmedH U.vm → w.before a' U = true) (hcode : Cond.codeWith y bytes maxL ret hh ∈ ws) (hinit : ∀ a' U, s.WarmedH U.vm → (Cond.initialized y.cls).before a' U = true) :
    vx_Back l R p e below s sargs y len W9 (PreOf R mc ms Pc) (PostOf Qc mc ms free) (vx_Post XC mc ms free) := by
  intro m meth c A g ig mk a X hg hsize hdg hW hn hp
  have h1 : (headSpec ws rm).pre.before a A.U = true := atoms_intro fun w hw => hws w hw _ _ X.warmed
  have h2 : (Cond.codeWith y bytes maxL ret hh).before a A.U = true := hws _ hcode _ _ X.warmed
  have h3 : (Cond.initialized y.cls).before a A.U = true := hinit _ _ X.warmed
  have h4 : A.cells + (headSpec ws rm).room.cells ≤ R.cells := by rw [show (headSpec ws rm).room.cells = mc from hrc]; exact hp.1
  have h5 : A.slots + (headSpec ws rm).room.slots ≤ R.slots := by rw [show (headSpec ws rm).room.slots = ms from hrs]; exact hp.2.1
  have hPc : Pc a (A.U.calling g mk a) := hblind _ _ _ _ hp.2.2
  obtain ⟨U, Ls, c0, s0⟩ := A
  dsimp only [Pt.U, Pt.locs, Pt.cells, Pt.slots] at h1 h2 h3 h4 h5 X hn hPc ⊢
  obtain ⟨m9, methY, cY, hn9, hmY, hcY, -, hlY, -⟩ := Cond.codeWith_spec h2
  cases Option.some.inj (hn9.symm.trans hn)
  obtain ⟨kY, hkY, -⟩ := className_of_methodNamed hn
  have hinitY : kY.init = .initialized := Cond.initialized_spec (findClass_of_methodNamed hn) hkY h3
  have h : At U g.method c below := by rw [hg]; exact X.here
  have hlocals9 : W9 + (maxL + 11) + (headSpec ws rm).room.locals ≤ R.locals := hlocals
  have happ : (headSpec ws rm).appliesLoose y e.platform (U.calling g mk a) = true :=
    Spec.appliesLoose_calling (g := g) h hdg hn hkY hinitY
      (X.room_calling (g := g) (R' := (headSpec ws rm).room) hsize hmY hcY hframes (by rw [hlY]; omega) h4 h5) h1
  obtain ⟨mid, hmid⟩ := h.above
  have hfr : (U.setTop g).frames = (.java g :: mid) ++ below := by rw [State.frames_setTop' g h.top, hmid]; rfl
  obtain ⟨o, s₂, hsteps, -, hend, hq⟩ := Steps.callFree hM p X.admits X.cas X.clock (acts := []) hfr happ hPc trivial
  have hq' : vx_Q Qc XC mc ms free a (U.calling g mk a) o s₂ := hq
  rw [State.frames_setTop' g h.top] at hend
  obtain ⟨g₀, hg0⟩ := Option.isSome_iff_exists.mp h.top
  obtain ⟨r, hr⟩ := State.topJava?_eq_some.mp hg0
  have hr' : (({ U with heap := s₂.heap, slotsUsed := s₂.slotsUsed } : State).setVm s₂.vm).frames = .java g₀ :: r := hr
  rcases hq' with ⟨hqc, L, hfe, hL⟩ | ⟨q, rfl, E, ce, L, hx, hce, hcv, hcl, hW₂, hsm, hL⟩
  · obtain ⟨⟨v, rfl⟩, hW₂, e2, q2, q3, q4, q5, q6⟩ := id hfe
    have e3 : s₂ = ({ (U.calling g mk a).setFrames s₂.frames with heap := s₂.heap, slotsUsed := s₂.slotsUsed } : State).setVm s₂.vm := by
      have : s₂ = ({ s₂ with vm := (U.calling g mk a).vm } : State).setVm s₂.vm := rfl
      rw [e2] at this
      exact this
    obtain ⟨c₂, i₂, len₂, hc₂, hd₂, hf₂⟩ := hend
    have hW' : U.WarmedH s₂.vm := hW₂
    have hcc : c₂ = c := by
      have h1 : s₂.code? g.method = U.code? g.method := by
        rw [State.code?_eq, State.code?_eq, hW'.alike.method?]
      exact Option.some.inj (hc₂.symm.trans (h1.trans h.code))
    subst hcc
    have hlen : len₂ = len := by rw [hdg] at hd₂; cases hd₂; rfl
    subst hlen
    have hs₂ : s₂ = (({ U with heap := s₂.heap, slotsUsed := s₂.slotsUsed } : State).setVm s₂.vm).setTop { g with pc := g.pc + len₂, stack := v.toList ++ g.stack } := by
      refine e3.trans ?_
      rw [hf₂, State.calling_eq h.top, State.setFrames_setFrames, State.setTop_of_frames _ hr', hr]
      rfl
    have hsame : U.sameButNew ({ U with heap := s₂.heap, slotsUsed := s₂.slotsUsed } : State) L mc ms := by
      refine ⟨?_, q2, q3, q4, q5, q6⟩
      obtain ⟨t, ht, -⟩ := State.frames_cons hr
      show ({ U with heap := s₂.heap, slotsUsed := s₂.slotsUsed } : State) = { U.setFrames U.frames with heap := s₂.heap, slotsUsed := s₂.slotsUsed }
      rw [State.setFrames_self ht]
    subst hg
    refine Or.inl ⟨v, ⟨(({ U with heap := s₂.heap, slotsUsed := s₂.slotsUsed } : State).setVm s₂.vm), Ls ++ L, c0 + mc, s0 + ms⟩,
      ⟨X.admits, X.cas, X.clock, X.frames, X.room, X.hears, X.method, X.code, (X.here.setHeapUsed s₂.heap s₂.slotsUsed).setVm hW'.alike, X.tail, State.WarmedH.trans X.warmed hW', X.limits, X.bytes, X.same.trans (hsame.setVm s.vm)⟩,
      ⟨g, mk, s₂, L, rfl, rfl, hqc, rfl, hL, rfl, rfl⟩, ?_⟩
    show Steps p.tables e below _ ((({ U with heap := s₂.heap, slotsUsed := s₂.slotsUsed } : State).setVm s₂.vm).setTop { g with pc := g.pc + len₂, stack := v.toList ++ g.stack })
    rw [← hs₂]
    exact hsteps
  · obtain ⟨e2, q2, q3, q4, q5, q6⟩ := id hsm
    have e3 : s₂ = ({ (U.calling g mk a).setFrames s₂.frames with heap := s₂.heap, slotsUsed := s₂.slotsUsed } : State).setVm s₂.vm := by
      have : s₂ = ({ s₂ with vm := (U.calling g mk a).vm } : State).setVm s₂.vm := rfl
      rw [e2] at this
      exact this
    have hf₂ : s₂.frames = .throwing q :: .java g :: U.frames.tail := hend
    have hW' : U.WarmedH s₂.vm := hW₂
    have hs₂ : s₂ = ((({ U with heap := s₂.heap, slotsUsed := s₂.slotsUsed } : State).setVm s₂.vm).setTop g).pushFrame (.throwing q) := by
      refine e3.trans ?_
      rw [hf₂, State.calling_eq h.top, State.setFrames_setFrames, State.pushFrame, State.frames_setTop _ hr', State.setTop_of_frames _ hr', State.setFrames_setFrames, hr]
      rfl
    have hsame : U.sameButNew ({ U with heap := s₂.heap, slotsUsed := s₂.slotsUsed } : State) L mc ms := by
      refine ⟨?_, q2, q3, q4, q5, q6⟩
      obtain ⟨t, ht, -⟩ := State.frames_cons hr
      show ({ U with heap := s₂.heap, slotsUsed := s₂.slotsUsed } : State) = { U.setFrames U.frames with heap := s₂.heap, slotsUsed := s₂.slotsUsed }
      rw [State.setFrames_self ht]
    subst hg
    refine Or.inr ⟨q, ⟨(({ U with heap := s₂.heap, slotsUsed := s₂.slotsUsed } : State).setVm s₂.vm), Ls ++ L, c0 + mc, s0 + ms⟩,
      ⟨X.admits, X.cas, X.clock, X.frames, X.room, X.hears, X.method, X.code, (X.here.setHeapUsed s₂.heap s₂.slotsUsed).setVm hW'.alike, X.tail, State.WarmedH.trans X.warmed hW', X.limits, X.bytes, X.same.trans (hsame.setVm s.vm)⟩,
      ⟨g, mk, s₂, L, E, ce, rfl, rfl, hx, hce, hcv, hcl, rfl, hL, rfl, rfl⟩, ?_⟩
    show Steps p.tables e below _ (((({ U with heap := s₂.heap, slotsUsed := s₂.slotsUsed } : State).setVm s₂.vm).setTop g).pushFrame (.throwing q))
    rw [← hs₂]
    exact hsteps
end
variable {p : Program} {l : Launch} {e : Env} {R : Room} {s : State} {m : MethodId} {args : Array Value} {below : List Frame} {meth : Method} {c : Code} {T : State} {H : Heap} {locs : List Loc} {cells slots : Nat}
theorem vx_callVX (X : Stand p l e R s m args below meth c T locs cells slots) (hexec : p.tables.exec = Jvm.exec) {own C : String} {index : Nat} {y : MethodName} {bytes : ByteArray} {maxL : Nat} {ret : Option FieldType} {hh : List (Nat × Nat × Nat × Nat)}
    (hown : s.vm.findClass own = some m.cls) (hlink : (Cond.methodLink own index y).before args s = true) (hinst : (Cond.instanceMethod y).before args s = true) (hsel : (Cond.selects C y y).before args s = true)
    (hcode : (Cond.codeWith y bytes maxL ret hh).before args s = true) (hy : y.cls ≠ "java/lang/invoke/MethodHandle" ∧ y.cls ≠ "java/lang/invoke/VarHandle")
    {W9 : Nat} {Pre : Pt → Array Value → Prop} {Post : Pt → Array Value → Option Value → Pt → Prop} {PostX : Pt → Array Value → Addr → Pt → Prop} (hK : vx_Back l R p e below s args y 3 W9 Pre Post PostX)
    {b : Addr} {cellB : Cell} (hcell : T.heap[b]? = some cellB) (hobj : cellB.vm.isStatics = false) (hcls : s.vm.findClass C = some cellB.cls)
    {g : JFrame} (hg : g.method = m) (hsize : g.locals.size = c.maxLocals) {argsL rest : List Value} (hlen : ∀ sig, parseMethodDescriptor y.desc = some sig → argsL.length = sig.parameters.length)
    (hstack : g.stack = argsL.reverse ++ .ref b :: rest) (hW : 2 * g.monitorRoom + (rest.map fun v => v.category).sum ≤ W9) (hdg : decode c.code g.pc = .ok (.invokevirtual index, 3))
    (hpre : ∀ vm₁, s.WarmedH vm₁ → Pre ⟨T.setVm vm₁, locs, cells, slots⟩ (Value.ref b :: argsL).toArray) :
    (∃ (v : Option Value) (vm₁ : Vm) (B : Pt), s.WarmedH vm₁ ∧ Stand p l e R s m args below meth c B.U B.locs B.cells B.slots ∧ Post ⟨T.setVm vm₁, locs, cells, slots⟩ (Value.ref b :: argsL).toArray v B ∧
      ∀ target, Steps p.tables e below (B.U.setTop { g with pc := g.pc + 3, stack := v.toList ++ rest }) target → Steps p.tables e below (T.setTop g) target) ∨
    (∃ (q : Addr) (vm₁ : Vm) (B : Pt), s.WarmedH vm₁ ∧ Stand p l e R s m args below meth c B.U B.locs B.cells B.slots ∧ PostX ⟨T.setVm vm₁, locs, cells, slots⟩ (Value.ref b :: argsL).toArray q B ∧
      Steps p.tables e below (T.setTop g) ((B.U.setTop { g with stack := rest }).pushFrame (.throwing q))) := by
  obtain ⟨mk, methM, hnamed, hmethM, hstM, habM⟩ := Cond.instanceMethod_spec hinst
  obtain ⟨m8, methM', cM, hn8, hmethM', -, -, -, -, -, -, hsigM⟩ := Cond.codeWith_spec hcode
  cases Option.some.inj (hn8.symm.trans hnamed)
  cases hmethM.symm.trans hmethM'
  obtain ⟨c2, r2, m2, q1, q2, q3, q4, kP, hkP, hkPi⟩ := Cond.selects_spec hsel
  cases hcls.symm.trans q1
  cases (State.methodFound?_of_named hnamed hy).symm.trans q2
  cases hnamed.symm.trans q3
  have hselP : selectMethod e.platform s.vm cellB.cls mk = .method mk := by rw [Launch.admits_selectMethod X.admits]; exact q4
  obtain ⟨vm₁, X₁, hstep₁⟩ := X.invokevirtual hexec hown hlink hnamed hmethM hstM hkP hkPi hy (a := b) (cell := cellB) hcell
    (fun z h => by rw [h] at hobj; cases hobj) hselP hmethM habM hkP hkPi (g := g) hg (argsL := argsL) (rest := rest) (hlen _ hsigM) hstack hdg
  rcases hK m meth c ⟨T.setVm vm₁, locs, cells, slots⟩ { g with stack := rest } (.invokevirtual index) mk (Value.ref b :: argsL).toArray X₁ hg hsize hdg hW (X₁.named hnamed) (hpre vm₁ X₁.warmed) with ⟨v, B, X', hpost, hsteps⟩ | ⟨q, B, X', hpost, hsteps⟩
  · exact Or.inl ⟨v, vm₁, B, X₁.warmed, X', hpost, fun target h => hstep₁ _ fun acts => by rw [doInvoke_state]; exact hsteps.trans h⟩
  · exact Or.inr ⟨q, vm₁, B, X₁.warmed, X', hpost, hstep₁ _ fun acts => by rw [doInvoke_state]; exact hsteps⟩
theorem vx_callSX (X : Stand p l e R s m args below meth c T locs cells slots) (hexec : p.tables.exec = Jvm.exec) {own : String} {index : Nat} {y : MethodName} {bytes : ByteArray} {maxL : Nat} {ret : Option FieldType} {hh : List (Nat × Nat × Nat × Nat)}
    (hown : s.vm.findClass own = some m.cls) (hlink : (Cond.methodLink own index y).before args s = true) (hstat : (Cond.static y).before args s = true) (hinit : (Cond.initialized y.cls).before args s = true)
    (hcode : (Cond.codeWith y bytes maxL ret hh).before args s = true) (hy : y.cls ≠ "java/lang/invoke/MethodHandle" ∧ y.cls ≠ "java/lang/invoke/VarHandle")
    {W9 : Nat} {Pre : Pt → Array Value → Prop} {Post : Pt → Array Value → Option Value → Pt → Prop} {PostX : Pt → Array Value → Addr → Pt → Prop} (hK : vx_Back l R p e below s args y 3 W9 Pre Post PostX)
    {g : JFrame} (hg : g.method = m) (hsize : g.locals.size = c.maxLocals) {argsL rest : List Value} (hlen : ∀ sig, parseMethodDescriptor y.desc = some sig → argsL.length = sig.parameters.length)
    (hstack : g.stack = argsL.reverse ++ rest) (hW : 2 * g.monitorRoom + (rest.map fun v => v.category).sum ≤ W9) (hdg : decode c.code g.pc = .ok (.invokestatic index, 3))
    (hpre : ∀ vm₁, s.WarmedH vm₁ → Pre ⟨T.setVm vm₁, locs, cells, slots⟩ argsL.toArray) :
    (∃ (v : Option Value) (vm₁ : Vm) (B : Pt), s.WarmedH vm₁ ∧ Stand p l e R s m args below meth c B.U B.locs B.cells B.slots ∧ Post ⟨T.setVm vm₁, locs, cells, slots⟩ argsL.toArray v B ∧
      ∀ target, Steps p.tables e below (B.U.setTop { g with pc := g.pc + 3, stack := v.toList ++ rest }) target → Steps p.tables e below (T.setTop g) target) ∨
    (∃ (q : Addr) (vm₁ : Vm) (B : Pt), s.WarmedH vm₁ ∧ Stand p l e R s m args below meth c B.U B.locs B.cells B.slots ∧ PostX ⟨T.setVm vm₁, locs, cells, slots⟩ argsL.toArray q B ∧
      Steps p.tables e below (T.setTop g) ((B.U.setTop { g with stack := rest }).pushFrame (.throwing q))) := by
  obtain ⟨mk, methM, cM, hnamed, hmethM, -, -, -, -, -, -, hsigM⟩ := Cond.codeWith_spec hcode
  have hstatic : methM.isStatic = true := Cond.static_spec hnamed hmethM hstat
  obtain ⟨kP, hkP, -⟩ := className_of_methodNamed hnamed
  have hinitP : kP.init = .initialized := Cond.initialized_spec (findClass_of_methodNamed hnamed) hkP hinit
  obtain ⟨vm₁, X₁, hstep₁⟩ := X.invokestatic hexec hown hlink hnamed hmethM hstatic hkP hinitP hy (g := g) hg (argsL := argsL) (rest := rest) (hlen _ hsigM) hstack hdg
  rcases hK m meth c ⟨T.setVm vm₁, locs, cells, slots⟩ { g with stack := rest } (.invokestatic index) mk argsL.toArray X₁ hg hsize hdg hW (X₁.named hnamed) (hpre vm₁ X₁.warmed) with ⟨v, B, X', hpost, hsteps⟩ | ⟨q, B, X', hpost, hsteps⟩
  · exact Or.inl ⟨v, vm₁, B, X₁.warmed, X', hpost, fun target h => hstep₁ _ fun acts => by rw [doInvoke_state]; exact hsteps.trans h⟩
  · exact Or.inr ⟨q, vm₁, B, X₁.warmed, X', hpost, hstep₁ _ fun acts => by rw [doInvoke_state]; exact hsteps⟩
theorem vx_callVW (X : Stand p l e R s m args below meth c T locs cells slots) (hexec : p.tables.exec = Jvm.exec) {own C : String} {index : Nat} {y : MethodName} {bytes : ByteArray} {maxL : Nat} {ret : Option FieldType} {hh : List (Nat × Nat × Nat × Nat)}
    (hown : s.vm.findClass own = some m.cls) (hlink : (Cond.methodLink own index y).before args s = true) (hinst : (Cond.instanceMethod y).before args s = true) (hsel : (Cond.selects C y y).before args s = true)
    (hcode : (Cond.codeWith y bytes maxL ret hh).before args s = true) (hy : y.cls ≠ "java/lang/invoke/MethodHandle" ∧ y.cls ≠ "java/lang/invoke/VarHandle")
    {W9 : Nat} {Pre : Pt → Array Value → Prop} {Post : Pt → Array Value → Option Value → Pt → Prop} (hK : Back l R p e below s args y 3 W9 Pre Post)
    {b : Addr} {cellB : Cell} (hcell : T.heap[b]? = some cellB) (hobj : cellB.vm.isStatics = false) (hcls : s.vm.findClass C = some cellB.cls)
    {g : JFrame} (hg : g.method = m) (hsize : g.locals.size = c.maxLocals) {argsL rest : List Value} (hlen : ∀ sig, parseMethodDescriptor y.desc = some sig → argsL.length = sig.parameters.length)
    (hstack : g.stack = argsL.reverse ++ .ref b :: rest) (hW : 2 * g.monitorRoom + (rest.map fun v => v.category).sum ≤ W9) (hdg : decode c.code g.pc = .ok (.invokevirtual index, 3))
    (hpre : ∀ vm₁, s.WarmedH vm₁ → Pre ⟨T.setVm vm₁, locs, cells, slots⟩ (Value.ref b :: argsL).toArray) :
    ∃ (v : Option Value) (vm₁ : Vm) (B : Pt), s.WarmedH vm₁ ∧ Stand p l e R s m args below meth c B.U B.locs B.cells B.slots ∧ Post ⟨T.setVm vm₁, locs, cells, slots⟩ (Value.ref b :: argsL).toArray v B ∧
      ∀ target, Steps p.tables e below (B.U.setTop { g with pc := g.pc + 3, stack := v.toList ++ rest }) target → Steps p.tables e below (T.setTop g) target := by
  obtain ⟨mk, methM, hnamed, hmethM, hstM, habM⟩ := Cond.instanceMethod_spec hinst
  obtain ⟨m8, methM', cM, hn8, hmethM', -, -, -, -, -, -, hsigM⟩ := Cond.codeWith_spec hcode
  cases Option.some.inj (hn8.symm.trans hnamed)
  cases hmethM.symm.trans hmethM'
  obtain ⟨c2, r2, m2, q1, q2, q3, q4, kP, hkP, hkPi⟩ := Cond.selects_spec hsel
  cases hcls.symm.trans q1
  cases (State.methodFound?_of_named hnamed hy).symm.trans q2
  cases hnamed.symm.trans q3
  have hselP : selectMethod e.platform s.vm cellB.cls mk = .method mk := by rw [Launch.admits_selectMethod X.admits]; exact q4
  obtain ⟨vm₁, X₁, hstep₁⟩ := X.invokevirtual hexec hown hlink hnamed hmethM hstM hkP hkPi hy (a := b) (cell := cellB) hcell
    (fun z h => by rw [h] at hobj; cases hobj) hselP hmethM habM hkP hkPi (g := g) hg (argsL := argsL) (rest := rest) (hlen _ hsigM) hstack hdg
  obtain ⟨v, B, X', hpost, hsteps⟩ := hK m meth c ⟨T.setVm vm₁, locs, cells, slots⟩ { g with stack := rest } (.invokevirtual index) mk (Value.ref b :: argsL).toArray X₁ hg hsize hdg hW (X₁.named hnamed) (hpre vm₁ X₁.warmed)
  exact ⟨v, vm₁, B, X₁.warmed, X', hpost, fun target h => hstep₁ _ fun acts => by rw [doInvoke_state]; exact hsteps.trans h⟩
abbrev vx_CVW (R : Room) (s : State) (args : Array Value) (own C : String) (index : Nat) (y : MethodName) (bytes : ByteArray) (maxL : Nat) (ret : Option FieldType) (hh : List (Nat × Nat × Nat × Nat)) (ws : List Cond) (rm : Room) (mc ms n : Nat) : Prop :=
  (rm.cells = mc ∧ rm.slots = ms ∧ rm.frames + 1 ≤ R.frames ∧ 8 + (maxL + 11) + rm.locals ≤ R.locals ∧ (∀ w ∈ ws, ∀ (a' : Array Value) (U : State), s.WarmedH U.vm → w.before a' U = true) ∧ Cond.codeWith y bytes maxL ret hh ∈ ws) ∧
  (Cond.codeWith y bytes maxL ret hh).before args s = true ∧ (Cond.initialized y.cls).before args s = true ∧ (y.cls ≠ "java/lang/invoke/MethodHandle" ∧ y.cls ≠ "java/lang/invoke/VarHandle") ∧
  (∀ sig, parseMethodDescriptor y.desc = some sig → n = sig.parameters.length) ∧ (Cond.methodLink own index y).before args s = true ∧ (Cond.instanceMethod y).before args s = true ∧ (Cond.selects C y y).before args s = true
theorem vx_cwVW {own C : String} {index maxL mc ms : Nat} {y : MethodName} {bytes : ByteArray} {ret : Option FieldType} {hh : List (Nat × Nat × Nat × Nat)} {Ts ws ws' : List Cond} {rm : Room} (n : Nat) (ht : ∀ w ∈ Ts, w.before args s = true) (hT : GoodIn Ts (wsV own index C y ws)) (hw : ws = Cond.codeWith y bytes maxL ret hh :: ws') (hrc : rm.cells = mc) (hrs : rm.slots = ms)
    (hd : y.cls = C ∧ y.cls ≠ "java/lang/invoke/MethodHandle" ∧ y.cls ≠ "java/lang/invoke/VarHandle" ∧ (parseMethodDescriptor y.desc).map (fun d => d.parameters.length) = some n) (hR : rm.frames + 1 ≤ R.frames ∧ 8 + (maxL + 11) + rm.locals ≤ R.locals) :
    vx_CVW R s args own C index y bytes maxL ret hh ws rm mc ms n := by
  obtain ⟨hC, hd⟩ := hd
  subst hC
  have ok : ∀ w ∈ wsV own index y.cls y ws, w.before args s = true := fun w h => ht w (hT w h).1
  have hG : GoodIn Ts ws := fun w h => hT w (by unfold wsV; exact List.mem_append_right _ h)
  have hc : Cond.codeWith y bytes maxL ret hh ∈ ws := by rw [hw]; exact List.mem_cons_self
  refine ⟨⟨hrc, hrs, hR.1, hR.2, pay_in ht hG, hc⟩, ht _ (hG _ hc).1, ok _ (by simp [wsV]), ⟨hd.1, hd.2.1⟩, fun sig h => ?_, ok _ (by simp [wsV]), ok _ (by simp [wsV]), ok _ (by simp [wsV])⟩
  have h2 := hd.2.2
  rw [h] at h2
  exact (Option.some.inj h2).symm
theorem vx_runVW {y : MethodName} {bytes cc : ByteArray} {maxL nL mc ms n index : Nat} {ret : Option FieldType} {hh : List (Nat × Nat × Nat × Nat)} {ws : List Cond} {rm : Room} {Pc : Array Value → State → Prop} {Qc : Array Value → State → Outcome → State → Prop} {free : Addr → Prop} {Ts : List Cond} {own C : String} {b : Addr} {As rest : List Value} {g : JFrame}
    (S : CallFix p m c cc nL s args Ts own) (hM : Met l y ws rm Pc Qc mc ms free) (cw : vx_CVW R s args own C index y bytes maxL ret hh ws rm mc ms n) (hp : PreV s H C b Pc As)
    (hg : g.method = m) (hn : As.length = n) (hsize : g.locals.size = nL) (hstack : g.stack = As.reverse ++ .ref b :: rest) (hW : 2 * g.monitorRoom + (rest.map fun v => v.category).sum ≤ 8) (hdg : decode cc g.pc = .ok (.invokevirtual index, 3)) (hf : cells + mc ≤ R.cells ∧ slots + ms ≤ R.slots) :
    va_Run p l e R s m args below meth c H locs cells slots mc ms g rest (Qc (Value.ref b :: As).toArray) free := by
  obtain ⟨⟨hrc, hrs, hfr, hlo, hws, hcw⟩, hcode, hini, hy, hlen, hl, hin, hse⟩ := cw
  have hK : Back l R p e below s args y 3 8 (PreOf R mc ms Pc) (PostOf Qc mc ms free) := va_backW (hh := hh) (bytes := bytes) (maxL := maxL) (ret := ret) hM hp.1 hrc hrs hfr hlo hws hcw (fun a' U hW => word_at hW (Or.inl (by first | rfl | simp [Cond.onTables, Cond.keeps, Cond.steady])) hini)
  obtain ⟨hx, hb, hml, ho, -⟩ := S
  obtain ⟨-, ⟨cellB, hcB, hoB, hclB⟩, hPc⟩ := hp
  intro T hT X
  obtain ⟨v, vm₁, ⟨U', l2, c2, s2⟩, hW₁, X', ⟨g', mk, t, L, e1, e2, hq, h1, hL, h2, h3⟩, st⟩ := vx_callVW X hx (C := C) (hh := hh) (bytes := bytes) (maxL := maxL) (ret := ret) ho hl hin hse hcode hy hK (by rw [hT]; exact hcB) hoB hclB hg (hsize.trans hml.symm) (argsL := As) (rest := rest) (fun sig h => hn.trans (hlen sig h)) hstack hW (by rw [hb]; exact hdg)
    (fun vm₁ hW₁ => ⟨hf.1, hf.2, hPc (T.setVm vm₁) hT hW₁⟩)
  dsimp only [Pt.U, Pt.locs, Pt.cells, Pt.slots] at X' e1 e2 h1 h2 h3 st
  subst h1; subst h2; subst h3
  exact ⟨v, (T.setVm vm₁).calling g' mk (Value.ref b :: As).toArray, t, U', L, hT, X', hL, e1, e2, hq, st⟩
section
variable {y : MethodName} {bytes cc : ByteArray} {maxL nL mc ms n index : Nat} {ret : Option FieldType} {ws : List Cond} {rm : Room} {Pc : Array Value → State → Prop} {Qc : Array Value → State → Outcome → State → Prop} {XC : String → State → State → Prop} {free : Addr → Prop} {Ts : List Cond} {own C : String} {b : Addr} {As rest : List Value} {g : JFrame}
theorem vx_runVX {hh : List (Nat × Nat × Nat × Nat)} (S : CallFix p m c cc nL s args Ts own) (hM : vx_Met l y ws rm Pc Qc XC mc ms free) (cw : vx_CVW R s args own C index y bytes maxL ret hh ws rm mc ms n) (hp : PreV s H C b Pc As)
    (hg : g.method = m) (hn : As.length = n) (hsize : g.locals.size = nL) (hstack : g.stack = As.reverse ++ .ref b :: rest) (hW : 2 * g.monitorRoom + (rest.map fun v => v.category).sum ≤ 8) (hdg : decode cc g.pc = .ok (.invokevirtual index, 3)) (hf : cells + mc ≤ R.cells ∧ slots + ms ≤ R.slots) :
    vx_Run p l e R s m args below meth c H locs cells slots mc ms g rest (Qc (Value.ref b :: As).toArray) XC free := by
  obtain ⟨⟨hrc, hrs, hfr, hlo, hws, hcw⟩, hcode, hini, hy, hlen, hl, hin, hse⟩ := cw
  have hK : vx_Back l R p e below s args y 3 8 (PreOf R mc ms Pc) (PostOf Qc mc ms free) (vx_Post XC mc ms free) := vx_backW (hh := hh) (bytes := bytes) (maxL := maxL) (ret := ret) hM hp.1 hrc hrs hfr hlo hws hcw (fun a' U hW => word_at hW (Or.inl (by first | rfl | simp [Cond.onTables, Cond.keeps, Cond.steady])) hini)
  obtain ⟨hx, hb, hml, ho, -⟩ := S
  obtain ⟨-, ⟨cellB, hcB, hoB, hclB⟩, hPc⟩ := hp
  intro T hT X
  rcases vx_callVX X hx (C := C) (hh := hh) (bytes := bytes) (maxL := maxL) (ret := ret) ho hl hin hse hcode hy hK (by rw [hT]; exact hcB) hoB hclB hg (hsize.trans hml.symm) (argsL := As) (rest := rest) (fun sig h => hn.trans (hlen sig h)) hstack hW (by rw [hb]; exact hdg)
    (fun vm₁ hW₁ => ⟨hf.1, hf.2, hPc (T.setVm vm₁) hT hW₁⟩) with ⟨v, vm₁, ⟨U', l2, c2, s2⟩, hW₁, X', ⟨g', mk, t, L, e1, e2, hq, h1, hL, h2, h3⟩, st⟩ | ⟨q, vm₁, ⟨U', l2, c2, s2⟩, hW₁, X', ⟨g', mk, t, L, E, ce, e1, e2, hq, hce, hcv, hcl, h1, hL, h2, h3⟩, st⟩
  · dsimp only [Pt.U, Pt.locs, Pt.cells, Pt.slots] at X' e1 e2 h1 h2 h3 st
    subst h1; subst h2; subst h3
    exact Or.inl ⟨v, (T.setVm vm₁).calling g' mk (Value.ref b :: As).toArray, t, U', L, hT, X', hL, e1, e2, hq, st⟩
  · dsimp only [Pt.U, Pt.locs, Pt.cells, Pt.slots] at X' e1 e2 h1 h2 h3 st hcl
    subst h1; subst h2; subst h3
    exact Or.inr ⟨q, (T.setVm vm₁).calling g' mk (Value.ref b :: As).toArray, t, U', L, E, ce, hT, X', hL, e1, e2, hq, hce, hcv, vx_cls hW₁ hcl, st⟩
theorem vx_runSX {hh : List (Nat × Nat × Nat × Nat)} (S : CallFix p m c cc nL s args Ts own) (hM : vx_Met l y ws rm Pc Qc XC mc ms free) (cw : vx_CSW R s args own index y bytes maxL ret hh ws rm mc ms n) (hp : PreS s H Pc As)
    (hg : g.method = m) (hn : As.length = n) (hsize : g.locals.size = nL) (hstack : g.stack = As.reverse ++ rest) (hW : 2 * g.monitorRoom + (rest.map fun v => v.category).sum ≤ 8) (hdg : decode cc g.pc = .ok (.invokestatic index, 3)) (hf : cells + mc ≤ R.cells ∧ slots + ms ≤ R.slots) :
    vx_Run p l e R s m args below meth c H locs cells slots mc ms g rest (Qc As.toArray) XC free := by
  obtain ⟨⟨hrc, hrs, hfr, hlo, hws, hcw⟩, hcode, hini, hy, hlen, hl, hstt⟩ := cw
  have hK : vx_Back l R p e below s args y 3 8 (PreOf R mc ms Pc) (PostOf Qc mc ms free) (vx_Post XC mc ms free) := vx_backW (hh := hh) (bytes := bytes) (maxL := maxL) (ret := ret) hM hp.1 hrc hrs hfr hlo hws hcw (fun a' U hW => word_at hW (Or.inl (by first | rfl | simp [Cond.onTables, Cond.keeps, Cond.steady])) hini)
  obtain ⟨hx, hb, hml, ho, -⟩ := S
  intro T hT X
  rcases vx_callSX X hx (hh := hh) (bytes := bytes) (maxL := maxL) (ret := ret) ho hl hstt hini hcode hy hK hg (hsize.trans hml.symm) (argsL := As) (rest := rest) (fun sig h => hn.trans (hlen sig h)) hstack hW (by rw [hb]; exact hdg)
    (fun vm₁ hW₁ => ⟨hf.1, hf.2, hp.2 (T.setVm vm₁) hT hW₁⟩) with ⟨v, vm₁, ⟨U', l2, c2, s2⟩, hW₁, X', ⟨g', mk, t, L, e1, e2, hq, h1, hL, h2, h3⟩, st⟩ | ⟨q, vm₁, ⟨U', l2, c2, s2⟩, hW₁, X', ⟨g', mk, t, L, E, ce, e1, e2, hq, hce, hcv, hcl, h1, hL, h2, h3⟩, st⟩
  · dsimp only [Pt.U, Pt.locs, Pt.cells, Pt.slots] at X' e1 e2 h1 h2 h3 st
    subst h1; subst h2; subst h3
    exact Or.inl ⟨v, (T.setVm vm₁).calling g' mk As.toArray, t, U', L, hT, X', hL, e1, e2, hq, st⟩
  · dsimp only [Pt.U, Pt.locs, Pt.cells, Pt.slots] at X' e1 e2 h1 h2 h3 st hcl
    subst h1; subst h2; subst h3
    exact Or.inr ⟨q, (T.setVm vm₁).calling g' mk As.toArray, t, U', L, E, ce, hT, X', hL, e1, e2, hq, hce, hcv, vx_cls hW₁ hcl, st⟩
end
end VXH
theorem vx_ofWH {l : Launch} {y : MethodName} {ws ws' : List Cond} {rm : Room} {Pc : Array Value → State → Prop} {Qc : Array Value → State → Outcome → State → Prop} {XC : String → State → State → Prop} {mc ms : Nat} {free : Addr → Prop} {cc : ByteArray} {maxL : Nat} {ret : Option FieldType} {hh : List (Nat × Nat × Nat × Nat)}
    (hy : plainName y.cls = true) (hw : ws = Cond.codeWith y cc maxL ret hh :: ws')
    (body : ∀ p e s m args below meth c s₁, BodyLoose p l y (headSpec ws rm) cc maxL ret e s m args below meth c s₁ → c.maxLocals = maxL → Pc args s →
      W p l e (headSpec ws rm).room s m args below meth c s.heap [] 0 0 (vx_MQ below Qc XC args s mc ms free) (entryFrame m args maxL)) : vx_Met l y ws rm Pc Qc XC mc ms free := by
  refine MetFree.of_bodyS (code := cc) (maxLocals := maxL) (ret := ret) hy ?_ ?_
  · intro args s m h hn
    obtain ⟨m9, meth, c, hn9, h1, h2, h3, h4, -, h5, h6, -⟩ := Cond.codeWith_spec (atoms_spec (ws := ws) h _ (by rw [hw]; exact List.mem_cons_self))
    cases hn.symm.trans hn9
    exact ⟨meth, c, h1, h2, h3, h4, h5, h6⟩
  · intro p e s m args below meth c s₁ B hml hP _
    have hh0 : s₁.heap = s.heap := by rw [B.state]; rfl
    obtain ⟨t, a1, o, b1, b2, b3⟩ := body p e s m args below meth c s₁ B hml hP s₁ hh0 (Stand.of_body B)
    exact ⟨t, o, a1, b1, b2, b3⟩
/-! ===== END ===== -/
/-! ===== BEGIN what the machine throws by itself, no traces kept ===== -/
section VXM
set_option maxHeartbeats 1000000 in
/-- the machine throws cls with the message text, no traces kept: from its note over the frame g to 'throwing' over the same frame (follows the proofs of Stand.vmThrowsMessage, Shelf/KitTracedVmS.lean, and Stand.throwsMessageColdBareV, StandMessageColdV.lean, without the step out of the frame) -/
theorem vx_vmAt {p : Program} {l : Launch} {e : Env} {R : Room} {s : State} {m₀ : MethodId} {args : Array Value} {below : List Frame} {meth : Method} {c : Code} {W : State} {locs : List Loc} {cells slots : Nat}
    (X : Stand p l e R s m₀ args below meth c W locs cells slots) (hexec : p.tables.exec = Jvm.exec) (htr : e.platform.stackTraces = false) {cls : String} {names : List String} {text : String}
    (hcls : Bundle.fit cls = true) (hnames : ∀ n ∈ names, Bundle.fit n = true) (hsoe : (cls == "java/lang/StackOverflowError") = false) (hoom : (cls == "java/lang/OutOfMemoryError") = false)
    (h : ∀ a ∈ Bundle.messageArmAtoms cls names, a.before args s = true)
    (hlocs : ∀ x ∈ locs, ∀ cell, s.heap[x.base]? = some cell → cell.vm.isStatics = false)
    (htext : (text == notModelled) = false) (hlimit : ¬ (stringBytes (stringToUtf16 text)).size > e.platform.arrayLengthLimit) (hheap : ¬ (stringBytes (stringToUtf16 text)).size * componentBytes .byte > e.platform.maxHeapBytes)
    {g : JFrame} (hg : g.method = m₀) (hsize : g.locals.size = c.maxLocals)
    (hRframes : names.length + 4 < R.frames) (hRlocals : 2 * g.monitorRoom + (g.stack.map fun v => v.category).sum + 10240 ≤ R.locals) (hshort : 13 * names.length + 55 ≤ 10240)
    (hRcells : cells + 3 ≤ R.cells) (hRslots : slots + ((stringBytes (stringToUtf16 text)).size + 4 + 6) ≤ R.slots) (hlocks : meth.locks = false) :
    ∃ (S : State) (q : Addr) (ce : Cell), (∀ target, Steps p.tables e below ((S.setTop g).pushFrame (.throwing q)) target → Steps p.tables e below ((W.setTop g).pushFrame (.throwNew cls (some text) none)) target) ∧
      Stand p l e R s m₀ args below meth c S locs (cells + 3) (slots + ((stringBytes (stringToUtf16 text)).size + 4 + 6)) ∧ S.heap[q]? = some ce ∧ s.vm.findClass cls = some ce.cls ∧ ce.vm = .none := by
  have howns : e.platform.frameOwnsMonitors = true := by rw [X.admits.platform]
  have hfin : e.platform.finalization = false := by rw [X.admits.platform]
  have hpl : e.platform.magicAccessors = ({} : Platform).magicAccessors := by rw [X.admits.platform]
  have a : ∀ x, x ∈ Bundle.messageArmAtoms cls names → x.holds args s none s [] = true := fun x hx => h x hx
  obtain ⟨T, Z0, L, -, Y⟩ := ThrowableC.of_atoms (args := args) howns hfin hpl (fun x hx => h x (by simp [Bundle.messageArmAtoms, hx]))
  obtain ⟨Z, M, LZ, LM, hnZ⟩ := Init0T.ofS_atoms (args := args) hpl L Y (fun x hx => h x (by simp [Bundle.messageArmAtoms, hx]))
  obtain ⟨P1, Ps, hlen, L1, hL, hP1m, hlink1, hlink⟩ := Bundle.chainS (args := args) hpl hnZ names cls hcls hnames (fun x hx => h x (by simp [Bundle.messageArmAtoms, hx]))
  obtain ⟨Zs, LZs, hn4, hfitv, hfitc⟩ := StringT.of_atoms (args := args) (fun x hx => h x (by simp [Bundle.messageArmAtoms, hx]))
  have hfound : s.vm.findClass cls = some P1.m.cls := findClass_of_methodNamed hP1m
  obtain ⟨c1, kX, hc1, hk, hord, -, -, hn6⟩ := Cond.instantiable_spec (a (.instantiable cls 6) (by simp [Bundle.messageArmAtoms]))
  cases Option.some.inj (hc1.symm.trans hfound)
  have hinit := Cond.initialized_spec hfound hk (a (.initialized cls) (by simp [Bundle.messageArmAtoms]))
  have hctor : kX.findMethod "<init>" "(Ljava/lang/String;)V" = some P1.m.idx := findMethod_of_methodNamed hP1m hk
  have hsel0 : selectMethod e.platform s.vm P1.m.cls T.fill0 = .method T.fill0 := by
    obtain ⟨c2, r2, m2, q1, q2, q3, q4, -⟩ := Cond.selects_spec (a (.selects cls Bundle.tFill0 Bundle.tFill0) (by simp [Bundle.messageArmAtoms]))
    cases Option.some.inj (q1.symm.trans hfound)
    cases Option.some.inj (q2.symm.trans (State.methodFound?_of_named Y.fill0 (by decide)))
    cases Option.some.inj (q3.symm.trans Y.fill0)
    rw [Launch.admits_selectMethod X.admits]; exact q4
  have hselF : selectMethod e.platform s.vm P1.m.cls T.fill = .method T.fill := by
    obtain ⟨c2, r2, m2, q1, q2, q3, q4, -⟩ := Cond.selects_spec (a (.selects cls Bundle.tFill Bundle.tFill) (by simp [Bundle.messageArmAtoms]))
    cases Option.some.inj (q1.symm.trans hfound)
    cases Option.some.inj (q2.symm.trans (State.methodFound?_of_named Y.fill (by decide)))
    cases Option.some.inj (q3.symm.trans Y.fill)
    rw [Launch.admits_selectMethod X.admits]; exact q4
  obtain ⟨cellS0, hcS0, hiss⟩ := Y.statics
  obtain ⟨u0, hu0⟩ := Cond.staticRefV Y.unassigned L.unassignedStatic L.statics hcS0 hiss (a (.isRef (.static Bundle.tN "UNASSIGNED_STACK" Bundle.steD)) (by simp [Bundle.messageArmAtoms]))
  obtain ⟨sen, hsen⟩ := Cond.staticRefV Y.sentinel L.sentinelStatic L.statics hcS0 hiss (a (.isRef (.static Bundle.tN "SUPPRESSED_SENTINEL" Bundle.listD)) (by simp [Bundle.messageArmAtoms]))
  obtain ⟨ci198, i198, fB, hk198, hg198, ha198, hsB, -, hnB, htB, hffB⟩ := Cond.ownField (t := .object "java/lang/Object") Y.found L.cls (by decide +kernel) (a (.fieldLink Bundle.tN 198 Bundle.tN "backtrace" "Ljava/lang/Object;") (by simp [Bundle.messageArmAtoms])) (a (.lays Bundle.tN Bundle.tN "backtrace" "Ljava/lang/Object;") (by simp [Bundle.messageArmAtoms])) e.platform hpl
  obtain ⟨cellS, hcS', heS, -, hkeep⟩ := X.same.2.2.2.2.2 T.aS cellS0 hcS0
  have hcellS : W.heap[T.aS]? = some cellS := hcS'
  have hout' : ∀ i, (⟨T.aS, i⟩ : Loc) ∉ locs := fun i hmem => by
    have := hlocs _ hmem cellS0 hcS0
    rw [hiss] at this; cases this
  have hknownS : cellS.vm ≠ .unknown := by
    rw [heS]; intro hu
    rw [show cellS0.vm = .unknown from hu] at hiss
    cases hiss
  have hvU : cellS.slots[T.fUnassigned.slot]? = some u0.v := by rw [hkeep _ (hout' _)]; exact hu0
  have hvSen : cellS.slots[T.fSentinel.slot]? = some sen.v := by rw [hkeep _ (hout' _)]; exact hsen
  obtain ⟨iM, hffM⟩ := Y.msg
  obtain ⟨tyC, dC, hdC, hdnC⟩ := Cond.laysAt hfound hk Y.cause (a (.lays cls Bundle.tN "cause" "Ljava/lang/Throwable;") (by simp [Bundle.messageArmAtoms]))
  obtain ⟨tyS, dS, hdS, hdnS⟩ := Cond.laysAt hfound hk Y.stack (a (.lays cls Bundle.tN "stackTrace" Bundle.steD) (by simp [Bundle.messageArmAtoms]))
  obtain ⟨tyP, dP, hdP, hdnP⟩ := Cond.laysAt hfound hk Y.supp (a (.lays cls Bundle.tN "suppressedExceptions" Bundle.listD) (by simp [Bundle.messageArmAtoms]))
  obtain ⟨tyM, dM, hdM, hdnM⟩ := Cond.laysAt hfound hk hffM (a (.lays cls Bundle.tN "detailMessage" "Ljava/lang/String;") (by simp [Bundle.messageArmAtoms]))
  obtain ⟨tyB, dB, hdB, hdnB⟩ := Cond.laysAt hfound hk hffB (a (.lays cls Bundle.tN "backtrace" "Ljava/lang/Object;") (by simp [Bundle.messageArmAtoms]))
  have bC := Cond.laysApart hdB hdC hdnB hdnC (by rw [hnB, Y.causeName]; decide)
  have bS := Cond.laysApart hdB hdS hdnB hdnS (by rw [hnB, Y.stackName]; decide)
  have bP := Cond.laysApart hdB hdP hdnB hdnP (by rw [hnB, Y.suppName]; decide)
  have hbk : ((preparedCellV T.toThrowableT (freshCell P1.m.cls kX) (W.heap.size + 2) u0 sen).withEntry W.cur).slots[fB.slot]? = some .null := by
    have := fresh_default (c := P1.m.cls) tyB
    rw [htB] at this
    simpa [preparedCellV, Cell.setSlot, Cell.withEntry, Array.getElem?_setIfInBounds, bC, bS, bP, bC.symm, bS.symm, bP.symm, defaultValue] using this
  have tkC := Takes.of_laid (v := .ref (W.heap.size + 2)) hk hord tyC (by rw [Y.causeType]; rfl)
  have tkS := Takes.of_laid (v := u0.v) hk hord tyS (by rw [Y.stackType]; exact fits_refV_array _ u0)
  have tkP := Takes.of_laid (v := sen.v) hk hord tyP (by rw [Y.suppType]; exact fits_refV_object _ sen)
  have tkM := Takes.of_laid (v := .ref (W.heap.size + 1)) hk hord tyM (by rw [Y.msgType]; rfl)
  have hskip : SkipFacts T e.platform s (fun u => u) u0 ((preparedCellV T.toThrowableT (freshCell P1.m.cls kX) (W.heap.size + 2) u0 sen).withEntry W.cur) := ⟨{ ci198 := ci198, i198 := i198, fBack := fB }, ⟨hk198, hg198, ha198, hsB⟩, hbk, fun _ _ => rfl⟩
  have h0 : At W g.method c below := by rw [hg]; exact X.here
  obtain ⟨hbeyond, hfreeW⟩ := X.vmMayThrow hsize (.throwNew cls (some text) none) (fun f hf => by cases hf) rfl hRlocals
  have hfr' : W.frames.length + Ps.length + 4 < (e.platform.stackLimits W.me).1 := by have := X.framesAbove hRframes; omega
  have hwd' : (stackUse (.java g :: W.frames.tail)).2 + 13 * Ps.length + 55 ≤ (e.platform.stackLimits W.me).2 := by have := X.stackAbove hsize (K := 13 * Ps.length + 55) (by omega); omega
  have hslots : W.slotsUsed + (stringBytes (stringToUtf16 text)).size + Zs.kS.instanceTypes.size + kX.instanceTypes.size ≤ e.platform.maxSlots := by
    have := X.slotsAbove hRslots
    rw [hn4, hn6]
    omega
  obtain ⟨vm', hW', st⟩ := Steps.vmThrowsMessageColdByV p (s₀ := s) (S := W) (g := g) h0 hexec T L Z LZ M LM X.warmed (t := W.cur) rfl Zs LZs P1 L1 Ps hL hlink1 hlink hsoe hoom hfound hk hinit hord hctor
    (Launch.admits_hotImplicitExceptions X.admits) hbeyond hfreeW htext hlimit hheap (X.cellsAbove hRcells) hslots (hfitv _) (hfitc _)
    (Nn := fun u => u) heapOnly_id (fun _ _ => rfl) (fun _ => rfl) (fun u x y => setCell_twice _ _ _ _) (fun _ => Nat.le_refl _) (cN := ((preparedCellV T.toThrowableT (freshCell P1.m.cls kX) (W.heap.size + 2) u0 sen).withEntry W.cur))
    hsel0 hcellS hknownS hvU tkS (fun _ hu => hu) (fun _ hu => hu) rfl rfl rfl (by simp [preparedCellV, Cell.setSlot, Cell.withEntry]) hskip (fun _ _ hA hW _ hroom _ hrest => L.nativeOff p htr hA hW hroom hrest) hselF hvSen tkC tkP tkM Y.objLocals rfl hfr' hwd'
  rw [plainBareV_eq T.toThrowableT (W.heap.size + 2) u0 sen (.ref (W.heap.size + 1)) W.cur rfl rfl] at st
  obtain ⟨-, -, w3, w4, -, -, -⟩ := withThrown_facts e.platform W Zs text P1.m.cls kX
  have X3 := ((X.pushed (bytesOf Zs.cB (stringToUtf16 text))).pushed (stringAt Zs.cS Zs.kS Zs.fv Zs.fc (stringToUtf16 text) W.heap.size)).pushed (freshCell P1.m.cls kX)
  rw [← withString_eq] at X3
  have X4 := X3.noted hW'
  have ha : (W.heap.size + 2) < ((withThrown W Zs text P1.m.cls kX).setVm vm').heap.size := by show _ < (withThrown W Zs text P1.m.cls kX).heap.size; rw [w3]; omega
  have hcell : ((withThrown W Zs text P1.m.cls kX).setVm vm').heap[(W.heap.size + 2)]? = some (freshCell P1.m.cls kX) := w4
  have X5 := ((((X4.stored hcell T.fCause.slot (.ref (W.heap.size + 2))).storedAgain ha T.fStack.slot u0.v).storedAgain ha T.fSupp.slot sen.v).storedAgain ha T.fStack.slot u0.v).storedAgain ha T.fMsg.slot (.ref (W.heap.size + 1))
  obtain ⟨g₁, hfrM⟩ := X5.frames_eq
  have hU : ((((withThrown W Zs text P1.m.cls kX).setVm vm').setCell (W.heap.size + 2) (plainBareV T.toThrowableT (freshCell P1.m.cls kX) (W.heap.size + 2) u0 sen (.ref (W.heap.size + 1)))).setTop g).pushFrame (.throwing (W.heap.size + 2)) = (((withThrown W Zs text P1.m.cls kX).setVm vm').setCell (W.heap.size + 2) (plainBareV T.toThrowableT (freshCell P1.m.cls kX) (W.heap.size + 2) u0 sen (.ref (W.heap.size + 1)))).setFrames (.throwing (W.heap.size + 2) :: .java g :: below) := by
    rw [State.pushFrame, State.frames_setTop _ hfrM, State.setTop_of_frames _ hfrM, State.setFrames_setFrames]
  have b1 : (bytesOf Zs.cB (stringToUtf16 text)).slots.size = (stringBytes (stringToUtf16 text)).size := by
    rw [(Cell.writeAll_facts _ _).2.2]; simp [bytes0]
  have b2 : (stringAt Zs.cS Zs.kS Zs.fv Zs.fc (stringToUtf16 text) W.heap.size).slots.size = 4 := by simp [string0, Cell.setSlot, hn4]
  have b3 : (freshCell P1.m.cls kX).slots.size = 6 := by simp [hn6]
  rw [b1, b2, b3] at X5
  have e9 : slots + (stringBytes (stringToUtf16 text)).size + 4 + 6 = slots + ((stringBytes (stringToUtf16 text)).size + 4 + 6) := by omega
  rw [e9] at X5
  simp only [List.append_assoc, List.cons_append, List.nil_append] at X5
  refine ⟨((withThrown W Zs text P1.m.cls kX).setVm vm').setCell (W.heap.size + 2) (plainBareV T.toThrowableT (freshCell P1.m.cls kX) (W.heap.size + 2) u0 sen (.ref (W.heap.size + 1))), W.heap.size + 2, _, fun target ht => st _ (by rw [X.tail, ← hU]; exact ht),
    X5.forget (fun y hy => ?_), heapAt_setCell_self _ ha, hfound, rfl⟩
  simp only [List.mem_cons, List.not_mem_nil, or_false] at hy
  have hge : s.heap.size ≤ W.heap.size := X.same.2.1
  rcases hy with rfl | rfl | rfl | rfl | rfl <;> exact Nat.le_trans hge (Nat.le_add_right _ 2)
set_option maxHeartbeats 1000000 in
/-- the machine throws NullPointerException, no traces kept: from its note over the frame g to 'throwing' over the same frame (follows the proof of Stand.vmThrowsNpe, Shelf42/KT2.lean; throwsNpeColdBareVAt, Shelf42/NT91.lean, called) -/
theorem vx_npeAt {p : Program} {l : Launch} {e : Env} {R : Room} {s : State} {m₀ : MethodId} {args : Array Value} {below : List Frame} {meth : Method} {c : Code} {W : State} {locs : List Loc} {cells slots : Nat}
    (X : Stand p l e R s m₀ args below meth c W locs cells slots) (hexec : p.tables.exec = Jvm.exec) (htr : e.platform.stackTraces = false) {n : Nat}
    (h : ∀ a ∈ Bundle.npeArmAtoms n, a.before args s = true)
    (hlocs : ∀ x ∈ locs, ∀ cell, s.heap[x.base]? = some cell → cell.vm.isStatics = false)
    {g : JFrame} (hg : g.method = m₀) (hsize : g.locals.size = c.maxLocals)
    (hRframes : 7 < R.frames) (hRlocals : 2 * g.monitorRoom + (g.stack.map fun v => v.category).sum + 10240 ≤ R.locals)
    (hRcells : cells + 1 ≤ R.cells) (hRslots : slots + n ≤ R.slots) (hlocks : meth.locks = false) :
    ∃ (S : State) (q : Addr) (ce : Cell), (∀ target, Steps p.tables e below ((S.setTop g).pushFrame (.throwing q)) target → Steps p.tables e below ((W.setTop g).pushFrame (.throwNew "java/lang/NullPointerException" none none)) target) ∧
      Stand p l e R s m₀ args below meth c S locs (cells + 1) (slots + n) ∧ S.heap[q]? = some ce ∧ s.vm.findClass "java/lang/NullPointerException" = some ce.cls ∧ ce.vm = .none := by
  have howns : e.platform.frameOwnsMonitors = true := by rw [X.admits.platform]
  have hfin : e.platform.finalization = false := by rw [X.admits.platform]
  have hpl : e.platform.magicAccessors = ({} : Platform).magicAccessors := by rw [X.admits.platform]
  have hpl2 : e.platform.arrayCloneIsPublic = true := by rw [X.admits.platform]
  have a' : ∀ x, x ∈ Bundle.npeArmAtoms n → x.holds args s none s [] = true := fun x hx => h x hx
  obtain ⟨T, Z, L, LZ, Y⟩ := ThrowableC.of_atoms (args := args) howns hfin hpl (fun x hx => h x (by simp [Bundle.npeArmAtoms, hx]))
  obtain ⟨N, LN, hcN, hnNF, hordN, hffS⟩ := NpeC.of_atoms (args := args) hpl hpl2 L Y (fun x hx => h x (by simp [Bundle.npeArmAtoms, hx]))
  obtain ⟨P1, L1, hP1m, hP1s⟩ := PassC.of_atoms (args := args) (s := s) hpl (X := Bundle.nN) (Y := Bundle.rN) (by decide) (by decide) LibCode.NullPointerException.Init0.at_0 LibCode.NullPointerException.Init0.at_1 LibCode.NullPointerException.Init0.at_4 (fun x hx => h x (by simp [Bundle.npeArmAtoms, hx]))
  obtain ⟨PR, LR, hPRm, hPRs⟩ := PassC.of_atoms (args := args) (s := s) hpl (X := Bundle.rN) (Y := Bundle.eN) (by decide) (by decide) LibCode.RuntimeException.Init0.at_0 LibCode.RuntimeException.Init0.at_1 LibCode.RuntimeException.Init0.at_4 (fun x hx => h x (by simp [Bundle.npeArmAtoms, hx]))
  obtain ⟨PE, LEx, hPEm, hPEs⟩ := PassC.of_atoms (args := args) (s := s) hpl (X := Bundle.eN) (Y := Bundle.tN) (by decide) (by decide) LibCode.Exception.Init0.at_0 LibCode.Exception.Init0.at_1 LibCode.Exception.Init0.at_4 (fun x hx => h x (by simp [Bundle.npeArmAtoms, hx]))
  have hfound : s.vm.findClass Bundle.nN = some P1.m.cls := findClass_of_methodNamed hP1m
  have ecls : N.cN = P1.m.cls := Option.some.inj (hcN.symm.trans hfound)
  have hk : s.vm.classes[P1.m.cls]? = some N.kN := by rw [← ecls]; exact LN.cls
  have hinit := Cond.initialized_spec hfound hk (a' (.initialized Bundle.nN) (by simp [Bundle.npeArmAtoms]))
  have hctor : N.kN.findMethod "<init>" "()V" = some P1.m.idx := findMethod_of_methodNamed hP1m hk
  obtain ⟨c1, k1, hc1, hk1, -, -, -, hn⟩ := Cond.instantiable_spec (a' (.instantiable Bundle.nN n) (by simp [Bundle.npeArmAtoms]))
  cases Option.some.inj (hc1.symm.trans hfound)
  cases Option.some.inj (hk1.symm.trans hk)
  have hfsz : (freshCell P1.m.cls N.kN).slots.size = n := by simp [hn]
  have hlink1 : P1.sup = PR.m := Option.some.inj (hP1s.symm.trans hPRm)
  have hlinkR : PR.sup = PE.m := Option.some.inj (hPRs.symm.trans hPEm)
  have hlinkE : PE.sup = Z.m T.toThrowableT := Option.some.inj (hPEs.symm.trans Y.init0)
  have hLs : ∀ P, P ∈ [PR, PE] → P.Links0 e.platform s := fun P hP => by
    simp only [List.mem_cons, List.not_mem_nil, or_false] at hP
    rcases hP with rfl | rfl
    · exact LR
    · exact LEx
  have hsel0 : selectMethod e.platform s.vm P1.m.cls T.fill0 = .method T.fill0 := by
    obtain ⟨c2, r2, m2, q1, q2, q3, q4, -⟩ := Cond.selects_spec (a' (.selects Bundle.nN Bundle.tFill0 Bundle.tFill0) (by simp [Bundle.npeArmAtoms]))
    cases Option.some.inj (q1.symm.trans hfound)
    cases Option.some.inj (q2.symm.trans (State.methodFound?_of_named Y.fill0 (by decide)))
    cases Option.some.inj (q3.symm.trans Y.fill0)
    rw [Launch.admits_selectMethod X.admits]; exact q4
  have hselF : selectMethod e.platform s.vm P1.m.cls T.fill = .method N.fill := by
    obtain ⟨c2, r2, m2, q1, q2, q3, q4, -⟩ := Cond.selects_spec (a' (.selects Bundle.nN Bundle.tFill Bundle.nFill) (by simp [Bundle.npeArmAtoms]))
    cases Option.some.inj (q1.symm.trans hfound)
    cases Option.some.inj (q2.symm.trans (State.methodFound?_of_named Y.fill (by decide)))
    cases Option.some.inj (q3.symm.trans hnNF)
    rw [Launch.admits_selectMethod X.admits]; exact q4
  obtain ⟨cellS0, hcS0, hiss⟩ := Y.statics
  obtain ⟨u0, hu0⟩ := Cond.staticRefV Y.unassigned L.unassignedStatic L.statics hcS0 hiss (a' (.isRef (.static Bundle.tN "UNASSIGNED_STACK" Bundle.steD)) (by simp [Bundle.npeArmAtoms]))
  obtain ⟨sen, hsen⟩ := Cond.staticRefV Y.sentinel L.sentinelStatic L.statics hcS0 hiss (a' (.isRef (.static Bundle.tN "SUPPRESSED_SENTINEL" Bundle.listD)) (by simp [Bundle.npeArmAtoms]))
  obtain ⟨ci198, i198, fB, hk198, hg198, ha198, hsB, -, hnB, htB, hffB⟩ := Cond.ownField (t := .object "java/lang/Object") Y.found L.cls (by decide +kernel) (a' (.fieldLink Bundle.tN 198 Bundle.tN "backtrace" Bundle.objD) (by simp [Bundle.npeArmAtoms])) (a' (.lays Bundle.tN Bundle.tN "backtrace" Bundle.objD) (by simp [Bundle.npeArmAtoms])) e.platform hpl
  obtain ⟨cellS, hcS', heS, -, hkeep⟩ := X.same.2.2.2.2.2 T.aS cellS0 hcS0
  have hcellS : W.heap[T.aS]? = some cellS := hcS'
  have hout' : ∀ i, (⟨T.aS, i⟩ : Loc) ∉ locs := fun i hmem => by
    have := hlocs _ hmem cellS0 hcS0
    rw [hiss] at this; cases this
  have hknownS : cellS.vm ≠ .unknown := by
    rw [heS]; intro hu
    rw [show cellS0.vm = .unknown from hu] at hiss
    cases hiss
  have hvU : cellS.slots[T.fUnassigned.slot]? = some u0.v := by rw [hkeep _ (hout' _)]; exact hu0
  have hvSen : cellS.slots[T.fSentinel.slot]? = some sen.v := by rw [hkeep _ (hout' _)]; exact hsen
  obtain ⟨tyC, dC, hdC, hdnC⟩ := Cond.laysAt hfound hk Y.cause (a' (.lays Bundle.nN Bundle.tN "cause" "Ljava/lang/Throwable;") (by simp [Bundle.npeArmAtoms]))
  obtain ⟨tyS, dS, hdS, hdnS⟩ := Cond.laysAt hfound hk Y.stack (a' (.lays Bundle.nN Bundle.tN "stackTrace" Bundle.steD) (by simp [Bundle.npeArmAtoms]))
  obtain ⟨tyP, dP, hdP, hdnP⟩ := Cond.laysAt hfound hk Y.supp (a' (.lays Bundle.nN Bundle.tN "suppressedExceptions" Bundle.listD) (by simp [Bundle.npeArmAtoms]))
  obtain ⟨tyX, dX, hdX, hdnX⟩ := Cond.laysAt hfound hk hffS (a' (.lays Bundle.nN Bundle.nN "extendedMessageState" "I") (by simp [Bundle.npeArmAtoms, Bundle.npeAtoms]))
  obtain ⟨hnX, htX⟩ := State.fieldFound?_type hffS (t := .int) (by decide +kernel)
  have xC := Cond.laysApart hdC hdX hdnC hdnX (by rw [hnX, Y.causeName]; decide)
  have xS := Cond.laysApart hdS hdX hdnS hdnX (by rw [hnX, Y.stackName]; decide)
  have xP := Cond.laysApart hdP hdX hdnP hdnX (by rw [hnX, Y.suppName]; decide)
  have hv0 : (freshCell P1.m.cls N.kN).slots[N.fState.slot]? = some (.int 0) := by
    have := fresh_default (c := P1.m.cls) tyX
    rw [htX] at this; exact this
  obtain ⟨tyB, dB, hdB, hdnB⟩ := Cond.laysAt hfound hk hffB (a' (.lays Bundle.nN Bundle.tN "backtrace" Bundle.objD) (by simp [Bundle.npeArmAtoms]))
  have bC := Cond.laysApart hdB hdC hdnB hdnC (by rw [hnB, Y.causeName]; decide)
  have bS := Cond.laysApart hdB hdS hdnB hdnS (by rw [hnB, Y.stackName]; decide)
  have bP := Cond.laysApart hdB hdP hdnB hdnP (by rw [hnB, Y.suppName]; decide)
  have bX := Cond.laysApart hdB hdX hdnB hdnX (by rw [hnB, hnX]; decide)
  have hbk : ((npeCell N.toNpeT (preparedCellV T.toThrowableT (freshCell P1.m.cls N.kN) W.heap.size u0 sen) W.cur).withEntry W.cur).slots[fB.slot]? = some .null := by
    have := fresh_default (c := P1.m.cls) tyB
    rw [htB] at this
    simpa [npeCell, preparedCellV, Cell.setSlot, Cell.withEntry, Array.getElem?_setIfInBounds, bC, bS, bP, bX, bC.symm, bS.symm, bP.symm, bX.symm, defaultValue] using this
  have tkC := Takes.of_laid (v := .ref W.heap.size) hk hordN tyC (by rw [Y.causeType]; rfl)
  have tkS := Takes.of_laid (v := u0.v) hk hordN tyS (by rw [Y.stackType]; exact fits_refV_array _ u0)
  have tkP := Takes.of_laid (v := sen.v) hk hordN tyP (by rw [Y.suppType]; exact fits_refV_object _ sen)
  have tkX := Takes.of_laid (v := .int 1) hk hordN tyX (by rw [htX]; rfl)
  have hskip : SkipFacts T e.platform s (fun u => u) u0 ((npeCell N.toNpeT (preparedCellV T.toThrowableT (freshCell P1.m.cls N.kN) W.heap.size u0 sen) W.cur).withEntry W.cur) := ⟨{ ci198 := ci198, i198 := i198, fBack := fB }, ⟨hk198, hg198, ha198, hsB⟩, hbk, fun _ _ => rfl⟩
  obtain ⟨vm', X3, st, -⟩ := X.throwsNpeColdBareVAt hexec hg hsize T L Z LZ N LN P1 L1 [PR, PE] hLs hlink1 ⟨hlinkR, hlinkE, trivial⟩ hfound hk hinit hordN hctor hsel0 hselF hcellS hknownS hvU hvSen
    hv0 xC xS xP tkC tkS tkP tkX Y.objLocals hskip (fun _ _ hA hW _ hroom _ hrest => L.nativeOff p htr hA hW hroom hrest) (by simpa using hRframes) hRlocals (by simp) hRcells (by rw [hn]; exact hRslots)
  have hlt : W.heap.size < ((W.pushCell (freshCell P1.m.cls N.kN)).setVm vm').heap.size := by
    show W.heap.size < (W.pushCell (freshCell P1.m.cls N.kN)).heap.size
    rw [State.heap_size_pushCell]; omega
  rw [hfsz] at X3
  obtain ⟨g₁, hfrM⟩ := X3.frames_eq
  have hU : ((((W.pushCell (freshCell P1.m.cls N.kN)).setVm vm').setCell W.heap.size (npeBareV T.toThrowableT N.toNpeT (freshCell P1.m.cls N.kN) W.heap.size u0 sen)).setTop g).pushFrame (.throwing W.heap.size) = (((W.pushCell (freshCell P1.m.cls N.kN)).setVm vm').setCell W.heap.size (npeBareV T.toThrowableT N.toNpeT (freshCell P1.m.cls N.kN) W.heap.size u0 sen)).setFrames (.throwing W.heap.size :: .java g :: below) := by
    rw [State.pushFrame, State.frames_setTop _ hfrM, State.setTop_of_frames _ hfrM, State.setFrames_setFrames]
  refine ⟨_, W.heap.size, _, fun target ht => st.trans (by rw [← hU]; exact ht), X3.forget (fun y hy => ?_), heapAt_setCell_self _ hlt, hfound, rfl⟩
  simp only [List.mem_cons, List.not_mem_nil, or_false] at hy
  have hge : s.heap.size ≤ W.heap.size := X.same.2.1
  rcases hy with rfl | rfl | rfl | rfl | rfl <;> exact hge
/-- the words of a machine's NullPointerException, but the four that speak of the heap -/
def vx_atN (n : Nat) : List Cond := (Bundle.npeArmAtoms n).filter vx_no
/-- the words of a machine's throw with a message, but the four that speak of the heap -/
def vx_atM (X : String) (names : List String) : List Cond := (Bundle.messageArmAtoms X names).filter vx_no
section
variable {p : Program} {l : Launch} {e : Env} {R : Room} {s : State} {m : MethodId} {args : Array Value} {below : List Frame} {meth : Method} {c : Code} {H : Heap} {locs : List Loc} {cells slots : Nat}
/-- a frame seen from a rebased start, seen from the first start again -/
theorem vx_back9 {T S : State} {R' : Room} {k n : Nat} (X : Stand p l e R s m args below meth c T locs cells slots) (Y : Stand p l e R' ((T.setVm s.vm).setFrames (.invoking m args :: below)) m args below meth c T [] 0 0) (Z : Stand p l e R' ((T.setVm s.vm).setFrames (.invoking m args :: below)) m args below meth c S [] k n) :
    Stand p l e R s m args below meth c S locs (cells + k) (slots + n) := by
  have hW0 : s.WarmedH ((T.setVm s.vm).setFrames (.invoking m args :: below)).vm := State.WarmedH.refl s
  refine { admits := X.admits, cas := X.cas, clock := X.clock, frames := X.frames, room := X.room, hears := X.hears, method := X.method, code := X.code, here := Z.here, tail := Z.tail, warmed := State.WarmedH.trans hW0 Z.warmed, limits := Z.limits.trans (Y.limits.symm.trans X.limits), bytes := Z.bytes.trans (Y.bytes.symm.trans X.bytes), same := ?_ }
  obtain ⟨e1, e2⟩ := Z.same
  rw [State.setFrames_setFrames] at e1
  have h2 : (T.setVm s.vm).sameButNew (S.setVm s.vm) [] k n := ⟨e1, e2⟩
  have h3 := X.same.trans h2
  rw [List.append_nil] at h3
  exact h3
/-- from the machine's note that E is thrown here with this text -/
def vx_Note (p : Program) (l : Launch) (e : Env) (R : Room) (s : State) (m : MethodId) (args : Array Value) (below : List Frame) (meth : Method) (c : Code) (H : Heap) (locs : List Loc) (cells slots : Nat) (Q : State → Prop) (g : JFrame) (E text : String) : Prop :=
  ∀ T : State, T.heap = H → Stand p l e R s m args below meth c T locs cells slots → ∃ t, Steps p.tables e below ((T.setTop g).pushFrame (.throwNew E (some text) none)) t ∧ Q t
theorem vx_vm {pc : Nat} {ls : Array Slot} {rest : List Value} {Q : State → Prop} (hexec : p.tables.exec = Jvm.exec) (hl : l.stackTraces = false) {cls text : String} {names : List String} {nb : Nat} {A : Nat → Prop}
    (hcls : Bundle.fit cls = true) (hnames : ∀ n ∈ names, Bundle.fit n = true) (hsoe : (cls == "java/lang/StackOverflowError") = false) (hoom : (cls == "java/lang/OutOfMemoryError") = false)
    (hat : ∀ w ∈ vx_atM cls names, w.before args s = true) (hgood : ∀ w ∈ vx_atM cls names, vx_ot w = true)
    (hU : vx_Zq Bundle.tN "UNASSIGNED_STACK" Bundle.steD A s s.heap) (hN : vx_Zq Bundle.tN "SUPPRESSED_SENTINEL" Bundle.listD A s s.heap) (hS : va_S A s.heap H locs) (hsize : ls.size = c.maxLocals)
    (htext : (text == notModelled) = false) (hnb : (stringBytes (stringToUtf16 text)).size ≤ nb) (hnb1 : nb ≤ 1000)
    (hRframes : names.length + 4 < R.frames) (hRlocals : (rest.map fun v => v.category).sum + 10240 ≤ R.locals) (hshort : 13 * names.length + 55 ≤ 10240) (hRcells : cells + 3 ≤ R.cells) (hRslots : slots + (nb + 10) ≤ R.slots) (hlocks : meth.locks = false)
    (k : ∀ (H1 : Heap) (q9 : Addr) (ce : Cell), H.size ≤ H1.size → (∀ q : Nat, q < H.size → H1[q]? = H[q]?) → va_S A s.heap H1 locs → H1[q9]? = some ce → ce.vm = .none → s.vm.findClass cls = some ce.cls → vx_W p l e R s m args below meth c H1 locs (cells + 3) (slots + (nb + 10)) Q (F0 m pc ls rest) q9) :
    vx_Note p l e R s m args below meth c H locs cells slots Q (F0 m pc ls rest) cls text := by
  intro T hT X
  have htr : e.platform.stackTraces = false := (show e.platform.stackTraces = l.stackTraces by rw [X.admits.platform]).trans hl
  have Y := vx_rebase X (R' := { frames := R.frames, locals := R.locals, cells := 3, slots := nb + 10 }) (Nat.le_refl _) (Nat.le_refl _) hRcells hRslots
  have hhp : ((T.setVm s.vm).setFrames (.invoking m args :: below)).heap = H := hT
  have hW0 : s.WarmedH ((T.setVm s.vm).setFrames (.invoking m args :: below)).vm := State.WarmedH.refl s
  have hat' : ∀ w ∈ vx_atM cls names, w.before args ((T.setVm s.vm).setFrames (.invoking m args :: below)) = true := fun w hw => vx_ot_at hW0 rfl (hgood w hw) (hat w hw)
  have hU' : vx_Zq Bundle.tN "UNASSIGNED_STACK" Bundle.steD A ((T.setVm s.vm).setFrames (.invoking m args :: below)) ((T.setVm s.vm).setFrames (.invoking m args :: below)).heap := by rw [hhp]; exact vx_Zq.moved hW0.alike (hU.kept hS.2.1)
  have hN' : vx_Zq Bundle.tN "SUPPRESSED_SENTINEL" Bundle.listD A ((T.setVm s.vm).setFrames (.invoking m args :: below)) ((T.setVm s.vm).setFrames (.invoking m args :: below)).heap := by rw [hhp]; exact vx_Zq.moved hW0.alike (hN.kept hS.2.1)
  obtain ⟨S, q, ce, st, Z, hce, hcl', hv⟩ := vx_vmAt Y hexec htr (cls := cls) (names := names) (text := text) hcls hnames hsoe hoom (vx_own hat' (vx_isRefq hU'.1) (vx_isRefq hN'.1) hU'.2.word hN'.2.word) (fun x hx => nomatch hx) htext
    (by rw [Launch.admits_arrayLengthLimit X.admits]; omega) (by rw [Launch.admits_maxHeapBytes X.admits]; simp only [componentBytes]; omega)
    (g := F0 m pc ls rest) rfl hsize hRframes (by show 2 * 0 + (rest.map fun v => v.category).sum + 10240 ≤ R.locals; omega) hshort (by show 0 + 3 ≤ 3; omega) (by show 0 + (_ + 4 + 6) ≤ nb + 10; omega) hlocks
  obtain ⟨f1, f2⟩ := vx_frame Z.same
  have f1' : H.size ≤ S.heap.size := by rw [← hT]; exact f1
  have f2' : ∀ q : Nat, q < H.size → S.heap[q]? = H[q]? := fun q hq => by
    rw [← hT]
    exact f2 q (by rw [← hT] at hq; exact hq) (fun z hz => nomatch hz)
  have X5 := vx_back9 X Y Z
  have X6 : Stand p l e R s m args below meth c S locs (cells + 3) (slots + (nb + 10)) := { X5 with same := X5.same.mono (by omega) (by omega) }
  obtain ⟨t, a1, b1⟩ := k S.heap q ce f1' f2' ⟨Nat.le_trans hS.1 f1', fun q h1 h2 => (f2' q (Nat.lt_of_lt_of_le h1 hS.1)).trans (hS.2.1 q h1 h2), hS.2.2⟩ hce hv hcl' S rfl X6
  exact ⟨t, st t a1, b1⟩
/-- from the machine's note that NullPointerException is thrown here -/
def vx_NoteN (p : Program) (l : Launch) (e : Env) (R : Room) (s : State) (m : MethodId) (args : Array Value) (below : List Frame) (meth : Method) (c : Code) (H : Heap) (locs : List Loc) (cells slots : Nat) (Q : State → Prop) (g : JFrame) : Prop :=
  ∀ T : State, T.heap = H → Stand p l e R s m args below meth c T locs cells slots → ∃ t, Steps p.tables e below ((T.setTop g).pushFrame (.throwNew "java/lang/NullPointerException" none none)) t ∧ Q t
theorem vx_npe {pc : Nat} {ls : Array Slot} {rest : List Value} {Q : State → Prop} (hexec : p.tables.exec = Jvm.exec) (hl : l.stackTraces = false) {nb : Nat} {A : Nat → Prop}
    (hat : ∀ w ∈ vx_atN nb, w.before args s = true) (hgood : ∀ w ∈ vx_atN nb, vx_ot w = true)
    (hU : vx_Zq Bundle.tN "UNASSIGNED_STACK" Bundle.steD A s s.heap) (hN : vx_Zq Bundle.tN "SUPPRESSED_SENTINEL" Bundle.listD A s s.heap) (hS : va_S A s.heap H locs) (hsize : ls.size = c.maxLocals)
    (hRframes : 7 < R.frames) (hRlocals : (rest.map fun v => v.category).sum + 10240 ≤ R.locals) (hRcells : cells + 1 ≤ R.cells) (hRslots : slots + nb ≤ R.slots) (hlocks : meth.locks = false)
    (k : ∀ (H1 : Heap) (q9 : Addr) (ce : Cell), H.size ≤ H1.size → (∀ q : Nat, q < H.size → H1[q]? = H[q]?) → va_S A s.heap H1 locs → H1[q9]? = some ce → ce.vm = .none → s.vm.findClass "java/lang/NullPointerException" = some ce.cls → vx_W p l e R s m args below meth c H1 locs (cells + 1) (slots + nb) Q (F0 m pc ls rest) q9) :
    vx_NoteN p l e R s m args below meth c H locs cells slots Q (F0 m pc ls rest) := by
  intro T hT X
  have htr : e.platform.stackTraces = false := (show e.platform.stackTraces = l.stackTraces by rw [X.admits.platform]).trans hl
  have Y := vx_rebase X (R' := { frames := R.frames, locals := R.locals, cells := 1, slots := nb }) (Nat.le_refl _) (Nat.le_refl _) hRcells hRslots
  have hhp : ((T.setVm s.vm).setFrames (.invoking m args :: below)).heap = H := hT
  have hW0 : s.WarmedH ((T.setVm s.vm).setFrames (.invoking m args :: below)).vm := State.WarmedH.refl s
  have hat' : ∀ w ∈ vx_atN nb, w.before args ((T.setVm s.vm).setFrames (.invoking m args :: below)) = true := fun w hw => vx_ot_at hW0 rfl (hgood w hw) (hat w hw)
  have hU' : vx_Zq Bundle.tN "UNASSIGNED_STACK" Bundle.steD A ((T.setVm s.vm).setFrames (.invoking m args :: below)) ((T.setVm s.vm).setFrames (.invoking m args :: below)).heap := by rw [hhp]; exact vx_Zq.moved hW0.alike (hU.kept hS.2.1)
  have hN' : vx_Zq Bundle.tN "SUPPRESSED_SENTINEL" Bundle.listD A ((T.setVm s.vm).setFrames (.invoking m args :: below)) ((T.setVm s.vm).setFrames (.invoking m args :: below)).heap := by rw [hhp]; exact vx_Zq.moved hW0.alike (hN.kept hS.2.1)
  obtain ⟨S, q, ce, st, Z, hce, hcl', hv⟩ := vx_npeAt Y hexec htr (n := nb) (vx_own hat' (vx_isRefq hU'.1) (vx_isRefq hN'.1) hU'.2.word hN'.2.word) (fun x hx => nomatch hx)
    (g := F0 m pc ls rest) rfl hsize hRframes (by show 2 * 0 + (rest.map fun v => v.category).sum + 10240 ≤ R.locals; omega) (by show 0 + 1 ≤ 1; omega) (by show 0 + nb ≤ nb; omega) hlocks
  obtain ⟨f1, f2⟩ := vx_frame Z.same
  have f1' : H.size ≤ S.heap.size := by rw [← hT]; exact f1
  have f2' : ∀ q : Nat, q < H.size → S.heap[q]? = H[q]? := fun q hq => by
    rw [← hT]
    exact f2 q (by rw [← hT] at hq; exact hq) (fun z hz => nomatch hz)
  have X5 := vx_back9 X Y Z
  have X6 : Stand p l e R s m args below meth c S locs (cells + 1) (slots + nb) := { X5 with same := X5.same.mono (by omega) (by omega) }
  obtain ⟨t, a1, b1⟩ := k S.heap q ce f1' f2' ⟨Nat.le_trans hS.1 f1', fun q h1 h2 => (f2' q (Nat.lt_of_lt_of_le h1 hS.1)).trans (hS.2.1 q h1 h2), hS.2.2⟩ hce hv hcl' S rfl X6
  exact ⟨t, st t a1, b1⟩
variable {Q : State → Prop} {cc : ByteArray} {pc : Nat} {ls : Array Slot} {rest : List Value}
theorem vx_idivZ (hexec : p.tables.exec = Jvm.exec) (hb : c.code = cc) {a b : Int32} (h0 : b = 0) (d : decode cc pc = .ok (.idiv, 1)) (k : vx_Note p l e R s m args below meth c H locs cells slots Q (F0 m pc ls rest) "java/lang/ArithmeticException" "/ by zero") :
    W p l e R s m args below meth c H locs cells slots Q (F0 m pc ls (.int b :: .int a :: rest)) := by
  intro T hT X
  obtain ⟨t, st, q⟩ := k T hT X
  exact ⟨t, X.idivZero hexec (g := F0 m pc ls (.int b :: .int a :: rest)) rfl (a := a) (rest := rest) (by rw [h0]) (by rw [hb]; exact d) t st, q⟩
theorem vx_iremZ (hexec : p.tables.exec = Jvm.exec) (hb : c.code = cc) {a b : Int32} (h0 : b = 0) (d : decode cc pc = .ok (.irem, 1)) (k : vx_Note p l e R s m args below meth c H locs cells slots Q (F0 m pc ls rest) "java/lang/ArithmeticException" "/ by zero") :
    W p l e R s m args below meth c H locs cells slots Q (F0 m pc ls (.int b :: .int a :: rest)) := by
  intro T hT X
  obtain ⟨t, st, q⟩ := k T hT X
  exact ⟨t, X.iremZero hexec (g := F0 m pc ls (.int b :: .int a :: rest)) rfl (a := a) (rest := rest) (by rw [h0]) (by rw [hb]; exact d) t st, q⟩
theorem vx_ldivZ (hexec : p.tables.exec = Jvm.exec) (hb : c.code = cc) {a b : Int64} (h0 : b = 0) (d : decode cc pc = .ok (.ldiv, 1)) (k : vx_Note p l e R s m args below meth c H locs cells slots Q (F0 m pc ls rest) "java/lang/ArithmeticException" "/ by zero") :
    W p l e R s m args below meth c H locs cells slots Q (F0 m pc ls (.long b :: .long a :: rest)) := by
  intro T hT X
  obtain ⟨t, st, q⟩ := k T hT X
  exact ⟨t, X.ldivZero hexec (g := F0 m pc ls (.long b :: .long a :: rest)) rfl (a := a) (rest := rest) (by rw [h0]) (by rw [hb]; exact d) t st, q⟩
theorem vx_lremZ (hexec : p.tables.exec = Jvm.exec) (hb : c.code = cc) {a b : Int64} (h0 : b = 0) (d : decode cc pc = .ok (.lrem, 1)) (k : vx_Note p l e R s m args below meth c H locs cells slots Q (F0 m pc ls rest) "java/lang/ArithmeticException" "/ by zero") :
    W p l e R s m args below meth c H locs cells slots Q (F0 m pc ls (.long b :: .long a :: rest)) := by
  intro T hT X
  obtain ⟨t, st, q⟩ := k T hT X
  exact ⟨t, X.lremZero hexec (g := F0 m pc ls (.long b :: .long a :: rest)) rfl (a := a) (rest := rest) (by rw [h0]) (by rw [hb]; exact d) t st, q⟩
theorem vx_ialdZ {D : va_G} {cl : List vw_C} {ws : va_W} {tys : List (ClassId × FieldType)} {a : Nat} (hexec : p.tables.exec = Jvm.exec) (hb : c.code = cc) (hK : va_K D cl tys s) (hP : va_P D cl ws H) (q0 t0 : Nat) {cA : ClassId} {n : Nat} {f : Nat → Int32} (ha : ws[q0]? = some (a, .inl (cA, n, .inl f))) (ht : tys[t0]? = some (cA, .int)) {i : Int32} (hout : ¬ vp_in i n) (hdg : decode cc pc = .ok (.iaload, 1))
    (k : ∀ tx : String, tx = (toString "Index " ++ toString i ++ toString " out of bounds for length " ++ toString n : String) → vx_Note p l e R s m args below meth c H locs cells slots Q (F0 m pc ls rest) "java/lang/ArrayIndexOutOfBoundsException" tx) : W p l e R s m args below meth c H locs cells slots Q (F0 m pc ls (.int i :: .ref a :: rest)) := by
  intro T hT X
  obtain ⟨t, st, q⟩ := k _ rfl T hT X
  refine ⟨t, ?_, q⟩
  have h1 := X.ialoadOut hexec (by rw [hT]; exact hP q0 _ ha) ((hK.2 t0 _ ht).1 n (fun j => .int (f j))) (j := i) (by show (i < 0 ∨ (arrV _ _ _).slots.size ≤ _); rw [arrV_size]; exact Classical.byContradiction hout) (g := F0 m pc ls (.int i :: .ref a :: rest)) rfl (rest := rest) rfl (by rw [hb]; exact hdg) t
  simp only [arrV_size] at h1
  exact h1 st
theorem vx_iastZ {D : va_G} {cl : List vw_C} {ws : va_W} {tys : List (ClassId × FieldType)} {a : Nat} (hexec : p.tables.exec = Jvm.exec) (hb : c.code = cc) (hK : va_K D cl tys s) (hP : va_P D cl ws H) (q0 t0 : Nat) {cA : ClassId} {n : Nat} {f : Nat → Int32} (ha : ws[q0]? = some (a, .inl (cA, n, .inl f))) (ht : tys[t0]? = some (cA, .int)) {i : Int32} {x : Int32} (hout : ¬ vp_in i n) (hdg : decode cc pc = .ok (.iastore, 1))
    (k : ∀ tx : String, tx = (toString "Index " ++ toString i ++ toString " out of bounds for length " ++ toString n : String) → vx_Note p l e R s m args below meth c H locs cells slots Q (F0 m pc ls rest) "java/lang/ArrayIndexOutOfBoundsException" tx) : W p l e R s m args below meth c H locs cells slots Q (F0 m pc ls (.int x :: .int i :: .ref a :: rest)) := by
  intro T hT X
  obtain ⟨t, st, q⟩ := k _ rfl T hT X
  refine ⟨t, ?_, q⟩
  have h1 := X.iastoreOut hexec (by rw [hT]; exact hP q0 _ ha) ((hK.2 t0 _ ht).1 n (fun j => .int (f j))) (j := i) (by show (i < 0 ∨ (arrV _ _ _).slots.size ≤ _); rw [arrV_size]; exact Classical.byContradiction hout) (g := F0 m pc ls (.int x :: .int i :: .ref a :: rest)) rfl (rest := rest) rfl (by rw [hb]; exact hdg) t
  simp only [arrV_size] at h1
  exact h1 st
theorem vx_baldZ {D : va_G} {cl : List vw_C} {ws : va_W} {tys : List (ClassId × FieldType)} {a : Nat} (hexec : p.tables.exec = Jvm.exec) (hb : c.code = cc) (hK : va_K D cl tys s) (hP : va_P D cl ws H) (q0 t0 : Nat) {cA : ClassId} {n : Nat} {f : Nat → Int32} (ha : ws[q0]? = some (a, .inl (cA, n, .inl f))) (ht : tys[t0]? = some (cA, .byte)) {i : Int32} (hout : ¬ vp_in i n) (hdg : decode cc pc = .ok (.baload, 1))
    (k : ∀ tx : String, tx = (toString "Index " ++ toString i ++ toString " out of bounds for length " ++ toString n : String) → vx_Note p l e R s m args below meth c H locs cells slots Q (F0 m pc ls rest) "java/lang/ArrayIndexOutOfBoundsException" tx) : W p l e R s m args below meth c H locs cells slots Q (F0 m pc ls (.int i :: .ref a :: rest)) := by
  intro T hT X
  obtain ⟨t, st, q⟩ := k _ rfl T hT X
  refine ⟨t, ?_, q⟩
  have h1 := X.baloadOut hexec (by rw [hT]; exact hP q0 _ ha) ((hK.2 t0 _ ht).1 n (fun j => .int (f j))) (j := i) (by show (i < 0 ∨ (arrV _ _ _).slots.size ≤ _); rw [arrV_size]; exact Classical.byContradiction hout) (g := F0 m pc ls (.int i :: .ref a :: rest)) rfl (rest := rest) rfl (by rw [hb]; exact hdg) t
  simp only [arrV_size] at h1
  exact h1 st
theorem vx_bastZ {D : va_G} {cl : List vw_C} {ws : va_W} {tys : List (ClassId × FieldType)} {a : Nat} (hexec : p.tables.exec = Jvm.exec) (hb : c.code = cc) (hK : va_K D cl tys s) (hP : va_P D cl ws H) (q0 t0 : Nat) {cA : ClassId} {n : Nat} {f : Nat → Int32} (ha : ws[q0]? = some (a, .inl (cA, n, .inl f))) (ht : tys[t0]? = some (cA, .byte)) {i : Int32} {x : Int32} (hout : ¬ vp_in i n) (hdg : decode cc pc = .ok (.bastore, 1))
    (k : ∀ tx : String, tx = (toString "Index " ++ toString i ++ toString " out of bounds for length " ++ toString n : String) → vx_Note p l e R s m args below meth c H locs cells slots Q (F0 m pc ls rest) "java/lang/ArrayIndexOutOfBoundsException" tx) : W p l e R s m args below meth c H locs cells slots Q (F0 m pc ls (.int x :: .int i :: .ref a :: rest)) := by
  intro T hT X
  obtain ⟨t, st, q⟩ := k _ rfl T hT X
  refine ⟨t, ?_, q⟩
  have h1 := X.bastoreOut hexec (by rw [hT]; exact hP q0 _ ha) ((hK.2 t0 _ ht).1 n (fun j => .int (f j))) (j := i) (by show (i < 0 ∨ (arrV _ _ _).slots.size ≤ _); rw [arrV_size]; exact Classical.byContradiction hout) (g := F0 m pc ls (.int x :: .int i :: .ref a :: rest)) rfl (rest := rest) rfl (by rw [hb]; exact hdg) t
  simp only [arrV_size] at h1
  exact h1 st
theorem vx_zaldZ {D : va_G} {cl : List vw_C} {ws : va_W} {tys : List (ClassId × FieldType)} {a : Nat} (hexec : p.tables.exec = Jvm.exec) (hb : c.code = cc) (hK : va_K D cl tys s) (hP : va_P D cl ws H) (q0 t0 : Nat) {cA : ClassId} {n : Nat} {f : Nat → Int32} (ha : ws[q0]? = some (a, .inl (cA, n, .inl f))) (ht : tys[t0]? = some (cA, .boolean)) {i : Int32} (hout : ¬ vp_in i n) (hdg : decode cc pc = .ok (.baload, 1))
    (k : ∀ tx : String, tx = (toString "Index " ++ toString i ++ toString " out of bounds for length " ++ toString n : String) → vx_Note p l e R s m args below meth c H locs cells slots Q (F0 m pc ls rest) "java/lang/ArrayIndexOutOfBoundsException" tx) : W p l e R s m args below meth c H locs cells slots Q (F0 m pc ls (.int i :: .ref a :: rest)) := by
  intro T hT X
  obtain ⟨t, st, q⟩ := k _ rfl T hT X
  refine ⟨t, ?_, q⟩
  have h1 := X.baloadOut hexec (by rw [hT]; exact hP q0 _ ha) ((hK.2 t0 _ ht).1 n (fun j => .int (f j))) (j := i) (by show (i < 0 ∨ (arrV _ _ _).slots.size ≤ _); rw [arrV_size]; exact Classical.byContradiction hout) (g := F0 m pc ls (.int i :: .ref a :: rest)) rfl (rest := rest) rfl (by rw [hb]; exact hdg) t
  simp only [arrV_size] at h1
  exact h1 st
theorem vx_zastZ {D : va_G} {cl : List vw_C} {ws : va_W} {tys : List (ClassId × FieldType)} {a : Nat} (hexec : p.tables.exec = Jvm.exec) (hb : c.code = cc) (hK : va_K D cl tys s) (hP : va_P D cl ws H) (q0 t0 : Nat) {cA : ClassId} {n : Nat} {f : Nat → Int32} (ha : ws[q0]? = some (a, .inl (cA, n, .inl f))) (ht : tys[t0]? = some (cA, .boolean)) {i : Int32} {x : Int32} (hout : ¬ vp_in i n) (hdg : decode cc pc = .ok (.bastore, 1))
    (k : ∀ tx : String, tx = (toString "Index " ++ toString i ++ toString " out of bounds for length " ++ toString n : String) → vx_Note p l e R s m args below meth c H locs cells slots Q (F0 m pc ls rest) "java/lang/ArrayIndexOutOfBoundsException" tx) : W p l e R s m args below meth c H locs cells slots Q (F0 m pc ls (.int x :: .int i :: .ref a :: rest)) := by
  intro T hT X
  obtain ⟨t, st, q⟩ := k _ rfl T hT X
  refine ⟨t, ?_, q⟩
  have h1 := X.bastoreOut hexec (by rw [hT]; exact hP q0 _ ha) ((hK.2 t0 _ ht).1 n (fun j => .int (f j))) (j := i) (by show (i < 0 ∨ (arrV _ _ _).slots.size ≤ _); rw [arrV_size]; exact Classical.byContradiction hout) (g := F0 m pc ls (.int x :: .int i :: .ref a :: rest)) rfl (rest := rest) rfl (by rw [hb]; exact hdg) t
  simp only [arrV_size] at h1
  exact h1 st
theorem vx_caldZ {D : va_G} {cl : List vw_C} {ws : va_W} {tys : List (ClassId × FieldType)} {a : Nat} (hexec : p.tables.exec = Jvm.exec) (hb : c.code = cc) (hK : va_K D cl tys s) (hP : va_P D cl ws H) (q0 t0 : Nat) {cA : ClassId} {n : Nat} {f : Nat → Int32} (ha : ws[q0]? = some (a, .inl (cA, n, .inl f))) (ht : tys[t0]? = some (cA, .char)) {i : Int32} (hout : ¬ vp_in i n) (hdg : decode cc pc = .ok (.caload, 1))
    (k : ∀ tx : String, tx = (toString "Index " ++ toString i ++ toString " out of bounds for length " ++ toString n : String) → vx_Note p l e R s m args below meth c H locs cells slots Q (F0 m pc ls rest) "java/lang/ArrayIndexOutOfBoundsException" tx) : W p l e R s m args below meth c H locs cells slots Q (F0 m pc ls (.int i :: .ref a :: rest)) := by
  intro T hT X
  obtain ⟨t, st, q⟩ := k _ rfl T hT X
  refine ⟨t, ?_, q⟩
  have h1 := X.caloadOut hexec (by rw [hT]; exact hP q0 _ ha) ((hK.2 t0 _ ht).1 n (fun j => .int (f j))) (j := i) (by show (i < 0 ∨ (arrV _ _ _).slots.size ≤ _); rw [arrV_size]; exact Classical.byContradiction hout) (g := F0 m pc ls (.int i :: .ref a :: rest)) rfl (rest := rest) rfl (by rw [hb]; exact hdg) t
  simp only [arrV_size] at h1
  exact h1 st
theorem vx_castZ {D : va_G} {cl : List vw_C} {ws : va_W} {tys : List (ClassId × FieldType)} {a : Nat} (hexec : p.tables.exec = Jvm.exec) (hb : c.code = cc) (hK : va_K D cl tys s) (hP : va_P D cl ws H) (q0 t0 : Nat) {cA : ClassId} {n : Nat} {f : Nat → Int32} (ha : ws[q0]? = some (a, .inl (cA, n, .inl f))) (ht : tys[t0]? = some (cA, .char)) {i : Int32} {x : Int32} (hout : ¬ vp_in i n) (hdg : decode cc pc = .ok (.castore, 1))
    (k : ∀ tx : String, tx = (toString "Index " ++ toString i ++ toString " out of bounds for length " ++ toString n : String) → vx_Note p l e R s m args below meth c H locs cells slots Q (F0 m pc ls rest) "java/lang/ArrayIndexOutOfBoundsException" tx) : W p l e R s m args below meth c H locs cells slots Q (F0 m pc ls (.int x :: .int i :: .ref a :: rest)) := by
  intro T hT X
  obtain ⟨t, st, q⟩ := k _ rfl T hT X
  refine ⟨t, ?_, q⟩
  have h1 := X.castoreOut hexec (by rw [hT]; exact hP q0 _ ha) ((hK.2 t0 _ ht).1 n (fun j => .int (f j))) (j := i) (by show (i < 0 ∨ (arrV _ _ _).slots.size ≤ _); rw [arrV_size]; exact Classical.byContradiction hout) (g := F0 m pc ls (.int x :: .int i :: .ref a :: rest)) rfl (rest := rest) rfl (by rw [hb]; exact hdg) t
  simp only [arrV_size] at h1
  exact h1 st
theorem vx_saldZ {D : va_G} {cl : List vw_C} {ws : va_W} {tys : List (ClassId × FieldType)} {a : Nat} (hexec : p.tables.exec = Jvm.exec) (hb : c.code = cc) (hK : va_K D cl tys s) (hP : va_P D cl ws H) (q0 t0 : Nat) {cA : ClassId} {n : Nat} {f : Nat → Int32} (ha : ws[q0]? = some (a, .inl (cA, n, .inl f))) (ht : tys[t0]? = some (cA, .short)) {i : Int32} (hout : ¬ vp_in i n) (hdg : decode cc pc = .ok (.saload, 1))
    (k : ∀ tx : String, tx = (toString "Index " ++ toString i ++ toString " out of bounds for length " ++ toString n : String) → vx_Note p l e R s m args below meth c H locs cells slots Q (F0 m pc ls rest) "java/lang/ArrayIndexOutOfBoundsException" tx) : W p l e R s m args below meth c H locs cells slots Q (F0 m pc ls (.int i :: .ref a :: rest)) := by
  intro T hT X
  obtain ⟨t, st, q⟩ := k _ rfl T hT X
  refine ⟨t, ?_, q⟩
  have h1 := X.saloadOut hexec (by rw [hT]; exact hP q0 _ ha) ((hK.2 t0 _ ht).1 n (fun j => .int (f j))) (j := i) (by show (i < 0 ∨ (arrV _ _ _).slots.size ≤ _); rw [arrV_size]; exact Classical.byContradiction hout) (g := F0 m pc ls (.int i :: .ref a :: rest)) rfl (rest := rest) rfl (by rw [hb]; exact hdg) t
  simp only [arrV_size] at h1
  exact h1 st
theorem vx_sastZ {D : va_G} {cl : List vw_C} {ws : va_W} {tys : List (ClassId × FieldType)} {a : Nat} (hexec : p.tables.exec = Jvm.exec) (hb : c.code = cc) (hK : va_K D cl tys s) (hP : va_P D cl ws H) (q0 t0 : Nat) {cA : ClassId} {n : Nat} {f : Nat → Int32} (ha : ws[q0]? = some (a, .inl (cA, n, .inl f))) (ht : tys[t0]? = some (cA, .short)) {i : Int32} {x : Int32} (hout : ¬ vp_in i n) (hdg : decode cc pc = .ok (.sastore, 1))
    (k : ∀ tx : String, tx = (toString "Index " ++ toString i ++ toString " out of bounds for length " ++ toString n : String) → vx_Note p l e R s m args below meth c H locs cells slots Q (F0 m pc ls rest) "java/lang/ArrayIndexOutOfBoundsException" tx) : W p l e R s m args below meth c H locs cells slots Q (F0 m pc ls (.int x :: .int i :: .ref a :: rest)) := by
  intro T hT X
  obtain ⟨t, st, q⟩ := k _ rfl T hT X
  refine ⟨t, ?_, q⟩
  have h1 := X.sastoreOut hexec (by rw [hT]; exact hP q0 _ ha) ((hK.2 t0 _ ht).1 n (fun j => .int (f j))) (j := i) (by show (i < 0 ∨ (arrV _ _ _).slots.size ≤ _); rw [arrV_size]; exact Classical.byContradiction hout) (g := F0 m pc ls (.int x :: .int i :: .ref a :: rest)) rfl (rest := rest) rfl (by rw [hb]; exact hdg) t
  simp only [arrV_size] at h1
  exact h1 st
theorem vx_laldZ {D : va_G} {cl : List vw_C} {ws : va_W} {tys : List (ClassId × FieldType)} {a : Nat} (hexec : p.tables.exec = Jvm.exec) (hb : c.code = cc) (hK : va_K D cl tys s) (hP : va_P D cl ws H) (q0 t0 : Nat) {cA : ClassId} {n : Nat} {f : Nat → Int64} (ha : ws[q0]? = some (a, .inl (cA, n, .inr (.inl f)))) (ht : tys[t0]? = some (cA, .long)) {i : Int32} (hout : ¬ vp_in i n) (hdg : decode cc pc = .ok (.laload, 1))
    (k : ∀ tx : String, tx = (toString "Index " ++ toString i ++ toString " out of bounds for length " ++ toString n : String) → vx_Note p l e R s m args below meth c H locs cells slots Q (F0 m pc ls rest) "java/lang/ArrayIndexOutOfBoundsException" tx) : W p l e R s m args below meth c H locs cells slots Q (F0 m pc ls (.int i :: .ref a :: rest)) := by
  intro T hT X
  obtain ⟨t, st, q⟩ := k _ rfl T hT X
  refine ⟨t, ?_, q⟩
  have h1 := X.laloadOut hexec (by rw [hT]; exact hP q0 _ ha) ((hK.2 t0 _ ht).1 n (fun j => .long (f j))) (j := i) (by show (i < 0 ∨ (arrV _ _ _).slots.size ≤ _); rw [arrV_size]; exact Classical.byContradiction hout) (g := F0 m pc ls (.int i :: .ref a :: rest)) rfl (rest := rest) rfl (by rw [hb]; exact hdg) t
  simp only [arrV_size] at h1
  exact h1 st
theorem vx_lastZ {D : va_G} {cl : List vw_C} {ws : va_W} {tys : List (ClassId × FieldType)} {a : Nat} (hexec : p.tables.exec = Jvm.exec) (hb : c.code = cc) (hK : va_K D cl tys s) (hP : va_P D cl ws H) (q0 t0 : Nat) {cA : ClassId} {n : Nat} {f : Nat → Int64} (ha : ws[q0]? = some (a, .inl (cA, n, .inr (.inl f)))) (ht : tys[t0]? = some (cA, .long)) {i : Int32} {x : Int64} (hout : ¬ vp_in i n) (hdg : decode cc pc = .ok (.lastore, 1))
    (k : ∀ tx : String, tx = (toString "Index " ++ toString i ++ toString " out of bounds for length " ++ toString n : String) → vx_Note p l e R s m args below meth c H locs cells slots Q (F0 m pc ls rest) "java/lang/ArrayIndexOutOfBoundsException" tx) : W p l e R s m args below meth c H locs cells slots Q (F0 m pc ls (.long x :: .int i :: .ref a :: rest)) := by
  intro T hT X
  obtain ⟨t, st, q⟩ := k _ rfl T hT X
  refine ⟨t, ?_, q⟩
  have h1 := X.lastoreOut hexec (by rw [hT]; exact hP q0 _ ha) ((hK.2 t0 _ ht).1 n (fun j => .long (f j))) (j := i) (by show (i < 0 ∨ (arrV _ _ _).slots.size ≤ _); rw [arrV_size]; exact Classical.byContradiction hout) (g := F0 m pc ls (.long x :: .int i :: .ref a :: rest)) rfl (rest := rest) rfl (by rw [hb]; exact hdg) t
  simp only [arrV_size] at h1
  exact h1 st
theorem vx_faldZ {D : va_G} {cl : List vw_C} {ws : va_W} {tys : List (ClassId × FieldType)} {a : Nat} (hexec : p.tables.exec = Jvm.exec) (hb : c.code = cc) (hK : va_K D cl tys s) (hP : va_P D cl ws H) (q0 t0 : Nat) {cA : ClassId} {n : Nat} {f : Nat → UInt32} (ha : ws[q0]? = some (a, .inl (cA, n, .inr (.inr (.inl f))))) (ht : tys[t0]? = some (cA, .float)) {i : Int32} (hout : ¬ vp_in i n) (hdg : decode cc pc = .ok (.faload, 1))
    (k : ∀ tx : String, tx = (toString "Index " ++ toString i ++ toString " out of bounds for length " ++ toString n : String) → vx_Note p l e R s m args below meth c H locs cells slots Q (F0 m pc ls rest) "java/lang/ArrayIndexOutOfBoundsException" tx) : W p l e R s m args below meth c H locs cells slots Q (F0 m pc ls (.int i :: .ref a :: rest)) := by
  intro T hT X
  obtain ⟨t, st, q⟩ := k _ rfl T hT X
  refine ⟨t, ?_, q⟩
  have h1 := X.faloadOut hexec (by rw [hT]; exact hP q0 _ ha) ((hK.2 t0 _ ht).1 n (fun j => .float (f j))) (j := i) (by show (i < 0 ∨ (arrV _ _ _).slots.size ≤ _); rw [arrV_size]; exact Classical.byContradiction hout) (g := F0 m pc ls (.int i :: .ref a :: rest)) rfl (rest := rest) rfl (by rw [hb]; exact hdg) t
  simp only [arrV_size] at h1
  exact h1 st
theorem vx_fastZ {D : va_G} {cl : List vw_C} {ws : va_W} {tys : List (ClassId × FieldType)} {a : Nat} (hexec : p.tables.exec = Jvm.exec) (hb : c.code = cc) (hK : va_K D cl tys s) (hP : va_P D cl ws H) (q0 t0 : Nat) {cA : ClassId} {n : Nat} {f : Nat → UInt32} (ha : ws[q0]? = some (a, .inl (cA, n, .inr (.inr (.inl f))))) (ht : tys[t0]? = some (cA, .float)) {i : Int32} {x : UInt32} (hout : ¬ vp_in i n) (hdg : decode cc pc = .ok (.fastore, 1))
    (k : ∀ tx : String, tx = (toString "Index " ++ toString i ++ toString " out of bounds for length " ++ toString n : String) → vx_Note p l e R s m args below meth c H locs cells slots Q (F0 m pc ls rest) "java/lang/ArrayIndexOutOfBoundsException" tx) : W p l e R s m args below meth c H locs cells slots Q (F0 m pc ls (.float x :: .int i :: .ref a :: rest)) := by
  intro T hT X
  obtain ⟨t, st, q⟩ := k _ rfl T hT X
  refine ⟨t, ?_, q⟩
  have h1 := X.fastoreOut hexec (by rw [hT]; exact hP q0 _ ha) ((hK.2 t0 _ ht).1 n (fun j => .float (f j))) (j := i) (by show (i < 0 ∨ (arrV _ _ _).slots.size ≤ _); rw [arrV_size]; exact Classical.byContradiction hout) (g := F0 m pc ls (.float x :: .int i :: .ref a :: rest)) rfl (rest := rest) rfl (by rw [hb]; exact hdg) t
  simp only [arrV_size] at h1
  exact h1 st
theorem vx_daldZ {D : va_G} {cl : List vw_C} {ws : va_W} {tys : List (ClassId × FieldType)} {a : Nat} (hexec : p.tables.exec = Jvm.exec) (hb : c.code = cc) (hK : va_K D cl tys s) (hP : va_P D cl ws H) (q0 t0 : Nat) {cA : ClassId} {n : Nat} {f : Nat → UInt64} (ha : ws[q0]? = some (a, .inl (cA, n, .inr (.inr (.inr (.inl f)))))) (ht : tys[t0]? = some (cA, .double)) {i : Int32} (hout : ¬ vp_in i n) (hdg : decode cc pc = .ok (.daload, 1))
    (k : ∀ tx : String, tx = (toString "Index " ++ toString i ++ toString " out of bounds for length " ++ toString n : String) → vx_Note p l e R s m args below meth c H locs cells slots Q (F0 m pc ls rest) "java/lang/ArrayIndexOutOfBoundsException" tx) : W p l e R s m args below meth c H locs cells slots Q (F0 m pc ls (.int i :: .ref a :: rest)) := by
  intro T hT X
  obtain ⟨t, st, q⟩ := k _ rfl T hT X
  refine ⟨t, ?_, q⟩
  have h1 := X.daloadOut hexec (by rw [hT]; exact hP q0 _ ha) ((hK.2 t0 _ ht).1 n (fun j => .double (f j))) (j := i) (by show (i < 0 ∨ (arrV _ _ _).slots.size ≤ _); rw [arrV_size]; exact Classical.byContradiction hout) (g := F0 m pc ls (.int i :: .ref a :: rest)) rfl (rest := rest) rfl (by rw [hb]; exact hdg) t
  simp only [arrV_size] at h1
  exact h1 st
theorem vx_dastZ {D : va_G} {cl : List vw_C} {ws : va_W} {tys : List (ClassId × FieldType)} {a : Nat} (hexec : p.tables.exec = Jvm.exec) (hb : c.code = cc) (hK : va_K D cl tys s) (hP : va_P D cl ws H) (q0 t0 : Nat) {cA : ClassId} {n : Nat} {f : Nat → UInt64} (ha : ws[q0]? = some (a, .inl (cA, n, .inr (.inr (.inr (.inl f)))))) (ht : tys[t0]? = some (cA, .double)) {i : Int32} {x : UInt64} (hout : ¬ vp_in i n) (hdg : decode cc pc = .ok (.dastore, 1))
    (k : ∀ tx : String, tx = (toString "Index " ++ toString i ++ toString " out of bounds for length " ++ toString n : String) → vx_Note p l e R s m args below meth c H locs cells slots Q (F0 m pc ls rest) "java/lang/ArrayIndexOutOfBoundsException" tx) : W p l e R s m args below meth c H locs cells slots Q (F0 m pc ls (.double x :: .int i :: .ref a :: rest)) := by
  intro T hT X
  obtain ⟨t, st, q⟩ := k _ rfl T hT X
  refine ⟨t, ?_, q⟩
  have h1 := X.dastoreOut hexec (by rw [hT]; exact hP q0 _ ha) ((hK.2 t0 _ ht).1 n (fun j => .double (f j))) (j := i) (by show (i < 0 ∨ (arrV _ _ _).slots.size ≤ _); rw [arrV_size]; exact Classical.byContradiction hout) (g := F0 m pc ls (.double x :: .int i :: .ref a :: rest)) rfl (rest := rest) rfl (by rw [hb]; exact hdg) t
  simp only [arrV_size] at h1
  exact h1 st
theorem vx_arraylengthN (hexec : p.tables.exec = Jvm.exec) (hb : c.code = cc) (hdg : decode cc pc = .ok (.arraylength, 1)) (k : vx_NoteN p l e R s m args below meth c H locs cells slots Q (F0 m pc ls rest)) : W p l e R s m args below meth c H locs cells slots Q (F0 m pc ls (.null :: rest)) := by
  intro T hT X
  obtain ⟨t, st, q⟩ := k T hT X
  exact ⟨t, X.arraylengthNull hexec (g := F0 m pc ls (.null :: rest)) rfl (rest := rest) rfl (by rw [hb]; exact hdg) t st, q⟩
theorem vx_ialoadN (hexec : p.tables.exec = Jvm.exec) (hb : c.code = cc) {i : Int32} (hdg : decode cc pc = .ok (.iaload, 1)) (k : vx_NoteN p l e R s m args below meth c H locs cells slots Q (F0 m pc ls rest)) : W p l e R s m args below meth c H locs cells slots Q (F0 m pc ls (.int i :: .null :: rest)) := by
  intro T hT X
  obtain ⟨t, st, q⟩ := k T hT X
  exact ⟨t, X.ialoadNull hexec (g := F0 m pc ls (.int i :: .null :: rest)) rfl (rest := rest) rfl (by rw [hb]; exact hdg) t st, q⟩
theorem vx_laloadN (hexec : p.tables.exec = Jvm.exec) (hb : c.code = cc) {i : Int32} (hdg : decode cc pc = .ok (.laload, 1)) (k : vx_NoteN p l e R s m args below meth c H locs cells slots Q (F0 m pc ls rest)) : W p l e R s m args below meth c H locs cells slots Q (F0 m pc ls (.int i :: .null :: rest)) := by
  intro T hT X
  obtain ⟨t, st, q⟩ := k T hT X
  exact ⟨t, X.laloadNull hexec (g := F0 m pc ls (.int i :: .null :: rest)) rfl (rest := rest) rfl (by rw [hb]; exact hdg) t st, q⟩
theorem vx_faloadN (hexec : p.tables.exec = Jvm.exec) (hb : c.code = cc) {i : Int32} (hdg : decode cc pc = .ok (.faload, 1)) (k : vx_NoteN p l e R s m args below meth c H locs cells slots Q (F0 m pc ls rest)) : W p l e R s m args below meth c H locs cells slots Q (F0 m pc ls (.int i :: .null :: rest)) := by
  intro T hT X
  obtain ⟨t, st, q⟩ := k T hT X
  exact ⟨t, X.faloadNull hexec (g := F0 m pc ls (.int i :: .null :: rest)) rfl (rest := rest) rfl (by rw [hb]; exact hdg) t st, q⟩
theorem vx_daloadN (hexec : p.tables.exec = Jvm.exec) (hb : c.code = cc) {i : Int32} (hdg : decode cc pc = .ok (.daload, 1)) (k : vx_NoteN p l e R s m args below meth c H locs cells slots Q (F0 m pc ls rest)) : W p l e R s m args below meth c H locs cells slots Q (F0 m pc ls (.int i :: .null :: rest)) := by
  intro T hT X
  obtain ⟨t, st, q⟩ := k T hT X
  exact ⟨t, X.daloadNull hexec (g := F0 m pc ls (.int i :: .null :: rest)) rfl (rest := rest) rfl (by rw [hb]; exact hdg) t st, q⟩
theorem vx_aaloadN (hexec : p.tables.exec = Jvm.exec) (hb : c.code = cc) {i : Int32} (hdg : decode cc pc = .ok (.aaload, 1)) (k : vx_NoteN p l e R s m args below meth c H locs cells slots Q (F0 m pc ls rest)) : W p l e R s m args below meth c H locs cells slots Q (F0 m pc ls (.int i :: .null :: rest)) := by
  intro T hT X
  obtain ⟨t, st, q⟩ := k T hT X
  exact ⟨t, X.aaloadNull hexec (g := F0 m pc ls (.int i :: .null :: rest)) rfl (rest := rest) rfl (by rw [hb]; exact hdg) t st, q⟩
theorem vx_baloadN (hexec : p.tables.exec = Jvm.exec) (hb : c.code = cc) {i : Int32} (hdg : decode cc pc = .ok (.baload, 1)) (k : vx_NoteN p l e R s m args below meth c H locs cells slots Q (F0 m pc ls rest)) : W p l e R s m args below meth c H locs cells slots Q (F0 m pc ls (.int i :: .null :: rest)) := by
  intro T hT X
  obtain ⟨t, st, q⟩ := k T hT X
  exact ⟨t, X.baloadNull hexec (g := F0 m pc ls (.int i :: .null :: rest)) rfl (rest := rest) rfl (by rw [hb]; exact hdg) t st, q⟩
theorem vx_caloadN (hexec : p.tables.exec = Jvm.exec) (hb : c.code = cc) {i : Int32} (hdg : decode cc pc = .ok (.caload, 1)) (k : vx_NoteN p l e R s m args below meth c H locs cells slots Q (F0 m pc ls rest)) : W p l e R s m args below meth c H locs cells slots Q (F0 m pc ls (.int i :: .null :: rest)) := by
  intro T hT X
  obtain ⟨t, st, q⟩ := k T hT X
  exact ⟨t, X.caloadNull hexec (g := F0 m pc ls (.int i :: .null :: rest)) rfl (rest := rest) rfl (by rw [hb]; exact hdg) t st, q⟩
theorem vx_saloadN (hexec : p.tables.exec = Jvm.exec) (hb : c.code = cc) {i : Int32} (hdg : decode cc pc = .ok (.saload, 1)) (k : vx_NoteN p l e R s m args below meth c H locs cells slots Q (F0 m pc ls rest)) : W p l e R s m args below meth c H locs cells slots Q (F0 m pc ls (.int i :: .null :: rest)) := by
  intro T hT X
  obtain ⟨t, st, q⟩ := k T hT X
  exact ⟨t, X.saloadNull hexec (g := F0 m pc ls (.int i :: .null :: rest)) rfl (rest := rest) rfl (by rw [hb]; exact hdg) t st, q⟩
theorem vx_iastoreN (hexec : p.tables.exec = Jvm.exec) (hb : c.code = cc) {x : Int32} {i : Int32} (hdg : decode cc pc = .ok (.iastore, 1)) (k : vx_NoteN p l e R s m args below meth c H locs cells slots Q (F0 m pc ls rest)) : W p l e R s m args below meth c H locs cells slots Q (F0 m pc ls (.int x :: .int i :: .null :: rest)) := by
  intro T hT X
  obtain ⟨t, st, q⟩ := k T hT X
  exact ⟨t, X.iastoreNull hexec (g := F0 m pc ls (.int x :: .int i :: .null :: rest)) rfl (rest := rest) rfl (by rw [hb]; exact hdg) t st, q⟩
theorem vx_lastoreN (hexec : p.tables.exec = Jvm.exec) (hb : c.code = cc) {x : Int64} {i : Int32} (hdg : decode cc pc = .ok (.lastore, 1)) (k : vx_NoteN p l e R s m args below meth c H locs cells slots Q (F0 m pc ls rest)) : W p l e R s m args below meth c H locs cells slots Q (F0 m pc ls (.long x :: .int i :: .null :: rest)) := by
  intro T hT X
  obtain ⟨t, st, q⟩ := k T hT X
  exact ⟨t, X.lastoreNull hexec (g := F0 m pc ls (.long x :: .int i :: .null :: rest)) rfl (rest := rest) rfl (by rw [hb]; exact hdg) t st, q⟩
theorem vx_fastoreN (hexec : p.tables.exec = Jvm.exec) (hb : c.code = cc) {x : UInt32} {i : Int32} (hdg : decode cc pc = .ok (.fastore, 1)) (k : vx_NoteN p l e R s m args below meth c H locs cells slots Q (F0 m pc ls rest)) : W p l e R s m args below meth c H locs cells slots Q (F0 m pc ls (.float x :: .int i :: .null :: rest)) := by
  intro T hT X
  obtain ⟨t, st, q⟩ := k T hT X
  exact ⟨t, X.fastoreNull hexec (g := F0 m pc ls (.float x :: .int i :: .null :: rest)) rfl (rest := rest) rfl (by rw [hb]; exact hdg) t st, q⟩
theorem vx_dastoreN (hexec : p.tables.exec = Jvm.exec) (hb : c.code = cc) {x : UInt64} {i : Int32} (hdg : decode cc pc = .ok (.dastore, 1)) (k : vx_NoteN p l e R s m args below meth c H locs cells slots Q (F0 m pc ls rest)) : W p l e R s m args below meth c H locs cells slots Q (F0 m pc ls (.double x :: .int i :: .null :: rest)) := by
  intro T hT X
  obtain ⟨t, st, q⟩ := k T hT X
  exact ⟨t, X.dastoreNull hexec (g := F0 m pc ls (.double x :: .int i :: .null :: rest)) rfl (rest := rest) rfl (by rw [hb]; exact hdg) t st, q⟩
theorem vx_bastoreN (hexec : p.tables.exec = Jvm.exec) (hb : c.code = cc) {x : Int32} {i : Int32} (hdg : decode cc pc = .ok (.bastore, 1)) (k : vx_NoteN p l e R s m args below meth c H locs cells slots Q (F0 m pc ls rest)) : W p l e R s m args below meth c H locs cells slots Q (F0 m pc ls (.int x :: .int i :: .null :: rest)) := by
  intro T hT X
  obtain ⟨t, st, q⟩ := k T hT X
  exact ⟨t, X.bastoreNull hexec (g := F0 m pc ls (.int x :: .int i :: .null :: rest)) rfl (rest := rest) rfl (by rw [hb]; exact hdg) t st, q⟩
theorem vx_castoreN (hexec : p.tables.exec = Jvm.exec) (hb : c.code = cc) {x : Int32} {i : Int32} (hdg : decode cc pc = .ok (.castore, 1)) (k : vx_NoteN p l e R s m args below meth c H locs cells slots Q (F0 m pc ls rest)) : W p l e R s m args below meth c H locs cells slots Q (F0 m pc ls (.int x :: .int i :: .null :: rest)) := by
  intro T hT X
  obtain ⟨t, st, q⟩ := k T hT X
  exact ⟨t, X.castoreNull hexec (g := F0 m pc ls (.int x :: .int i :: .null :: rest)) rfl (rest := rest) rfl (by rw [hb]; exact hdg) t st, q⟩
theorem vx_sastoreN (hexec : p.tables.exec = Jvm.exec) (hb : c.code = cc) {x : Int32} {i : Int32} (hdg : decode cc pc = .ok (.sastore, 1)) (k : vx_NoteN p l e R s m args below meth c H locs cells slots Q (F0 m pc ls rest)) : W p l e R s m args below meth c H locs cells slots Q (F0 m pc ls (.int x :: .int i :: .null :: rest)) := by
  intro T hT X
  obtain ⟨t, st, q⟩ := k T hT X
  exact ⟨t, X.sastoreNull hexec (g := F0 m pc ls (.int x :: .int i :: .null :: rest)) rfl (rest := rest) rfl (by rw [hb]; exact hdg) t st, q⟩
theorem vx_invokeN {own C : String} {index maxL : Nat} {y : MethodName} {bytes : ByteArray} {ret : Option FieldType} (hexec : p.tables.exec = Jvm.exec) (hb : c.code = cc) (hown : s.vm.findClass own = some m.cls) (hlink : (Cond.methodLink own index y).before args s = true) (hinst : (Cond.instanceMethod y).before args s = true) (hcode : (Cond.code y bytes maxL ret).before args s = true) (hsel : (Cond.selects C y y).before args s = true)
    (hx : y.cls ≠ "java/lang/invoke/MethodHandle" ∧ y.cls ≠ "java/lang/invoke/VarHandle") {As : List Value} (hlen : (parseMethodDescriptor y.desc).map (fun d => d.parameters.length) = some As.length) (hdg : decode cc pc = .ok (.invokevirtual index, 3))
    (k : vx_NoteN p l e R s m args below meth c H locs cells slots Q (F0 m pc ls rest)) {st0 : List Value} (hst : st0 = As.reverse ++ .null :: rest) : W p l e R s m args below meth c H locs cells slots Q (F0 m pc ls st0) := by
  intro T hT X
  obtain ⟨r0, r, hn, hrm, hstR, hsigR⟩ := va_Decl.of hinst hcode
  obtain ⟨c2, r2, m2, q1, q2, q3, q4, kP, hkP, hkPi⟩ := Cond.selects_spec hsel
  cases hn.symm.trans q3
  have hl9 : As.length = r.sig.parameters.length := by
    rw [hsigR] at hlen
    exact (Option.some.inj hlen).symm
  obtain ⟨vm', X1, st1⟩ := X.invokevirtualNull hexec hown hlink hn hrm hstR hkP hkPi hx (g := F0 m pc ls st0) rfl (argsL := As) (rest := rest) hl9 hst (by rw [hb]; exact hdg)
  obtain ⟨t, st, q⟩ := k (T.setVm vm') hT X1
  exact ⟨t, st1 t st, q⟩
theorem vx_newarrayZ {atype : ArrayType} (hexec : p.tables.exec = Jvm.exec) (hb : c.code = cc) {n : Int32} (h0 : n < 0) (hdg : decode cc pc = .ok (.newarray atype, 2)) (k : ∀ tx : String, tx = toString n → vx_Note p l e R s m args below meth c H locs cells slots Q (F0 m pc ls rest) "java/lang/NegativeArraySizeException" tx) : W p l e R s m args below meth c H locs cells slots Q (F0 m pc ls (.int n :: rest)) := by
  intro T hT X
  obtain ⟨t, st, q⟩ := k _ rfl T hT X
  exact ⟨t, X.newarrayNegative hexec (g := F0 m pc ls (.int n :: rest)) rfl h0 (rest := rest) rfl (by rw [hb]; exact hdg) t st, q⟩
end
end VXM
/-! ===== END ===== -/
/-! ===== BEGIN an exception as an object: made, kept, thrown later (no traces kept) ===== -/
section VXK
variable {p : Program} {l : Launch} {e : Env} {R : Room} {s : State} {m₀ : MethodId} {args : Array Value} {below : List Frame} {meth : Method} {c : Code} {W : State} {locs : List Loc} {cells slots : Nat}
set_option maxHeartbeats 1000000 in
theorem vx_ctorMadeS (X : Stand p l e R s m₀ args below meth c W locs cells slots) (hexec : p.tables.exec = Jvm.exec) (htr : e.platform.stackTraces = false) {own cls : String} {names : List String} {ic : Nat}
    (hown : s.vm.findClass own = some m₀.cls) (hcls : Bundle.fit cls = true) (hnames : ∀ n ∈ names, Bundle.fit n = true)
    (h : ∀ a ∈ Bundle.ownAtoms own ic cls names, a.before args s = true)
    (hlocs : ∀ x ∈ locs, ∀ cell, s.heap[x.base]? = some cell → cell.vm.isStatics = false)
    {a : Addr} {cX : ClassId} {kX : Class} (hfoundX : s.vm.findClass cls = some cX) (hkX : s.vm.classes[cX]? = some kX) (hcell : W.heap[a]? = some (freshCell cX kX)) (hnew : s.heap.size ≤ a)
    {msg : Value} (hmsg : msg.isRef = true)
    {g : JFrame} (hg : g.method = m₀) (hsize : g.locals.size = c.maxLocals) {rest : List Value} (hstack : g.stack = msg :: .ref a :: .ref a :: rest)
    (hd6 : decode c.code g.pc = .ok (.invokespecial ic, 3))
    (hRframes : names.length + 3 < R.frames) (hRlocals : 2 * g.monitorRoom + ((Value.ref a :: rest).map fun v => v.category).sum + (13 * (names.length + 1) + 42) ≤ R.locals) :
    ∃ (V : State) (ce : Cell) (L : List Loc), Stand p l e R s m₀ args below meth c (V.setCell a ce) (locs ++ L) cells slots ∧ (∀ y ∈ L, y.base = a) ∧ a < V.heap.size ∧ ce.cls = cX ∧ ce.vm = .none ∧
      ∀ target, Steps p.tables e below ((V.setCell a ce).setTop { g with stack := .ref a :: rest, pc := g.pc + 3 }) target → Steps p.tables e below (W.setTop g) target := by
  have howns : e.platform.frameOwnsMonitors = true := by rw [X.admits.platform]
  have hfin : e.platform.finalization = false := by rw [X.admits.platform]
  have hpl : e.platform.magicAccessors = ({} : Platform).magicAccessors := by rw [X.admits.platform]
  have a' : ∀ x, x ∈ Bundle.ownAtoms own ic cls names → x.holds args s none s [] = true := fun x hx => h x hx
  obtain ⟨T, Z0, L, -, Y⟩ := ThrowableC.of_atoms (args := args) howns hfin hpl (fun x hx => h x (by simp [Bundle.ownAtoms, hx]))
  obtain ⟨Z, M, LZ, LM, hnZ⟩ := Init0T.ofS_atoms (args := args) hpl L Y (fun x hx => h x (by simp [Bundle.ownAtoms, hx]))
  obtain ⟨P1, Ps, hlen, L1, hL, hP1m, hlink1, hlink⟩ := Bundle.chainS (args := args) hpl hnZ names cls hcls hnames (fun x hx => h x (by simp [Bundle.ownAtoms, hx]))
  have hfound : s.vm.findClass cls = some P1.m.cls := findClass_of_methodNamed hP1m
  cases Option.some.inj (hfoundX.symm.trans hfound)
  obtain ⟨c1, kX', hc1, hk, hord, -, -, hn6⟩ := Cond.instantiable_spec (a' (.instantiable cls 6) (by simp [Bundle.ownAtoms]))
  cases Option.some.inj (hc1.symm.trans hfound)
  cases Option.some.inj (hkX.symm.trans hk)
  have hsel0 : selectMethod e.platform s.vm P1.m.cls T.fill0 = .method T.fill0 := by
    obtain ⟨c2, r2, m2, q1, q2, q3, q4, -⟩ := Cond.selects_spec (a' (.selects cls Bundle.tFill0 Bundle.tFill0) (by simp [Bundle.ownAtoms]))
    cases Option.some.inj (q1.symm.trans hfound)
    cases Option.some.inj (q2.symm.trans (State.methodFound?_of_named Y.fill0 (by decide)))
    cases Option.some.inj (q3.symm.trans Y.fill0)
    rw [Launch.admits_selectMethod X.admits]; exact q4
  have hselF : selectMethod e.platform s.vm P1.m.cls T.fill = .method T.fill := by
    obtain ⟨c2, r2, m2, q1, q2, q3, q4, -⟩ := Cond.selects_spec (a' (.selects cls Bundle.tFill Bundle.tFill) (by simp [Bundle.ownAtoms]))
    cases Option.some.inj (q1.symm.trans hfound)
    cases Option.some.inj (q2.symm.trans (State.methodFound?_of_named Y.fill (by decide)))
    cases Option.some.inj (q3.symm.trans Y.fill)
    rw [Launch.admits_selectMethod X.admits]; exact q4
  obtain ⟨cellS0, hcS0, hiss⟩ := Y.statics
  obtain ⟨u0, hu0⟩ := Cond.staticRefV Y.unassigned L.unassignedStatic L.statics hcS0 hiss (a' (.isRef (.static Bundle.tN "UNASSIGNED_STACK" Bundle.steD)) (by simp [Bundle.ownAtoms]))
  obtain ⟨sen, hsen⟩ := Cond.staticRefV Y.sentinel L.sentinelStatic L.statics hcS0 hiss (a' (.isRef (.static Bundle.tN "SUPPRESSED_SENTINEL" Bundle.listD)) (by simp [Bundle.ownAtoms]))
  obtain ⟨ci198, i198, fB, hk198, hg198, ha198, hsB, -, hnB, htB, hffB⟩ := Cond.ownField (t := .object "java/lang/Object") Y.found L.cls (by decide +kernel) (a' (.fieldLink Bundle.tN 198 Bundle.tN "backtrace" "Ljava/lang/Object;") (by simp [Bundle.ownAtoms])) (a' (.lays Bundle.tN Bundle.tN "backtrace" "Ljava/lang/Object;") (by simp [Bundle.ownAtoms])) e.platform hpl
  obtain ⟨cellS, hcS', heS, -, hkeep⟩ := X.same.2.2.2.2.2 T.aS cellS0 hcS0
  have hcellS : W.heap[T.aS]? = some cellS := hcS'
  have hout' : ∀ i, (⟨T.aS, i⟩ : Loc) ∉ locs := fun i hmem => by
    have := hlocs _ hmem cellS0 hcS0
    rw [hiss] at this; cases this
  have hknownS : cellS.vm ≠ .unknown := by
    rw [heS]; intro hu
    rw [show cellS0.vm = .unknown from hu] at hiss
    cases hiss
  have hneS : T.aS ≠ a := Nat.ne_of_lt (Nat.lt_of_lt_of_le (Array.getElem?_eq_some_iff.mp hcS0).1 hnew)
  obtain ⟨iM, hffM⟩ := Y.msg
  obtain ⟨tyC, dC, hdC, hdnC⟩ := Cond.laysAt hfound hk Y.cause (a' (.lays cls Bundle.tN "cause" "Ljava/lang/Throwable;") (by simp [Bundle.ownAtoms]))
  obtain ⟨tyS, dS, hdS, hdnS⟩ := Cond.laysAt hfound hk Y.stack (a' (.lays cls Bundle.tN "stackTrace" Bundle.steD) (by simp [Bundle.ownAtoms]))
  obtain ⟨tyP, dP, hdP, hdnP⟩ := Cond.laysAt hfound hk Y.supp (a' (.lays cls Bundle.tN "suppressedExceptions" Bundle.listD) (by simp [Bundle.ownAtoms]))
  obtain ⟨tyM, dM, hdM, hdnM⟩ := Cond.laysAt hfound hk hffM (a' (.lays cls Bundle.tN "detailMessage" "Ljava/lang/String;") (by simp [Bundle.ownAtoms]))
  obtain ⟨tyB, dB, hdB, hdnB⟩ := Cond.laysAt hfound hk hffB (a' (.lays cls Bundle.tN "backtrace" "Ljava/lang/Object;") (by simp [Bundle.ownAtoms]))
  have bC := Cond.laysApart hdB hdC hdnB hdnC (by rw [hnB, Y.causeName]; decide)
  have bS := Cond.laysApart hdB hdS hdnB hdnS (by rw [hnB, Y.stackName]; decide)
  have bP := Cond.laysApart hdB hdP hdnB hdnP (by rw [hnB, Y.suppName]; decide)
  have hskip : SkipFacts T e.platform s (fun u => u) u0 ((preparedCellV T.toThrowableT (freshCell P1.m.cls kX) a u0 sen).withEntry W.cur) :=
    ⟨{ ci198 := ci198, i198 := i198, fBack := fB }, ⟨hk198, hg198, ha198, hsB⟩, by
      have := fresh_default (c := P1.m.cls) tyB
      rw [htB] at this
      simpa [preparedCellV, Cell.setSlot, Cell.withEntry, Array.getElem?_setIfInBounds, bC, bS, bP, bC.symm, bS.symm, bP.symm, defaultValue] using this, fun _ _ => rfl⟩
  obtain ⟨tm, methC, cdC, kC, vm₁, hnC, -, -, -, -, -, -, -, hW₁, st1⟩ := Steps.initColdS (tb := p.tables) (e := e) (below := below) (s := s) (U := W) X.here hexec X.warmed hpl hown (t := Bundle.initS cls) rfl rfl (Bundle.fit_spec hcls).2
    (a' (.methodLink own ic (Bundle.initS cls)) (by simp [Bundle.ownAtoms])) (h (.instanceMethod (Bundle.initS cls)) (by cases names <;> simp [Bundle.ownAtoms, Bundle.chainSAtoms, Bundle.passSAtoms])) (bytes := Bundle.six) (maxL := 2) (h (.code (Bundle.initS cls) Bundle.six 2 none) (by cases names <;> simp [Bundle.ownAtoms, Bundle.chainSAtoms, Bundle.passSAtoms]))
    (f := g) hg (a := a) (msg := msg) (rest := .ref a :: rest) hstack hd6
  cases Option.some.inj (hnC.symm.trans hP1m)
  have X₁ := X.noted hW₁
  obtain ⟨vm₂, X₂, st2⟩ := X₁.ctorMessageOffV hexec (g := { g with stack := .ref a :: rest }) hg hsize T L Z LZ M LM (P1 :: Ps)
    (fun P hP => by rcases List.mem_cons.mp hP with rfl | hP; exact L1; exact hL P hP) ⟨hlink1, hlink⟩ (u0 := u0) (sen := sen) (self := a) hmsg (cell := freshCell P1.m.cls kX) (cellS := cellS)
    hcell (fun _ => by simp) (by simp) rfl rfl hsel0 hselF hcellS hneS hknownS (by rw [hkeep _ (hout' _)]; exact hu0) (by rw [hkeep _ (hout' _)]; exact hsen)
    (Takes.of_laid hk hord tyC (by rw [Y.causeType]; rfl)) (Takes.of_laid hk hord tyS (by rw [Y.stackType]; exact fits_refV_array _ u0)) (Takes.of_laid hk hord tyP (by rw [Y.suppType]; exact fits_refV_object _ sen))
    (Takes.of_laid hk hord tyM (by rw [Y.msgType]; exact fits_refV_object _ ⟨msg, hmsg⟩)) Y.objLocals hskip htr [] hd6
    (by simp only [List.length_cons, hlen]; omega) (by simp only [List.length_cons, hlen]; exact hRlocals)
  have hlt : a < ((W.setVm vm₁).setVm vm₂).heap.size := (Array.getElem?_eq_some_iff.mp hcell).1
  refine ⟨(W.setVm vm₁).setVm vm₂, _, _, X₂, fun y hy => ?_, hlt, rfl, rfl, fun target hwalk => st1 _ (fun acts => ?_)⟩
  · simp only [List.mem_cons, List.not_mem_nil, or_false] at hy
    rcases hy with rfl | rfl | rfl | rfl | rfl <;> rfl
  · rw [doInvoke_state]
    exact st2 _ hwalk
set_option maxHeartbeats 1000000 in
theorem vx_ctorMade0 (X : Stand p l e R s m₀ args below meth c W locs cells slots) (hexec : p.tables.exec = Jvm.exec) (htr : e.platform.stackTraces = false) {own cls : String} {names : List String} {ic : Nat}
    (hown : s.vm.findClass own = some m₀.cls) (hcls : Bundle.fit cls = true) (hnames : ∀ n ∈ names, Bundle.fit n = true)
    (h : ∀ a ∈ Bundle.ownAtoms0 own ic cls names, a.before args s = true)
    (hlocs : ∀ x ∈ locs, ∀ cell, s.heap[x.base]? = some cell → cell.vm.isStatics = false)
    {a : Addr} {cX : ClassId} {kX : Class} (hfoundX : s.vm.findClass cls = some cX) (hkX : s.vm.classes[cX]? = some kX) (hcell : W.heap[a]? = some (freshCell cX kX)) (hnew : s.heap.size ≤ a)
    {g : JFrame} (hg : g.method = m₀) (hsize : g.locals.size = c.maxLocals) {rest : List Value} (hstack : g.stack = .ref a :: .ref a :: rest)
    (hd6 : decode c.code g.pc = .ok (.invokespecial ic, 3))
    (hRframes : names.length + 3 < R.frames) (hRlocals : 2 * g.monitorRoom + ((Value.ref a :: rest).map fun v => v.category).sum + (13 * (names.length + 1) + 41) ≤ R.locals) :
    ∃ (V : State) (ce : Cell) (L : List Loc), Stand p l e R s m₀ args below meth c (V.setCell a ce) (locs ++ L) cells slots ∧ (∀ y ∈ L, y.base = a) ∧ a < V.heap.size ∧ ce.cls = cX ∧ ce.vm = .none ∧
      ∀ target, Steps p.tables e below ((V.setCell a ce).setTop { g with stack := .ref a :: rest, pc := g.pc + 3 }) target → Steps p.tables e below (W.setTop g) target := by
  have howns : e.platform.frameOwnsMonitors = true := by rw [X.admits.platform]
  have hfin : e.platform.finalization = false := by rw [X.admits.platform]
  have hpl : e.platform.magicAccessors = ({} : Platform).magicAccessors := by rw [X.admits.platform]
  have a' : ∀ x, x ∈ Bundle.ownAtoms0 own ic cls names → x.holds args s none s [] = true := fun x hx => h x hx
  obtain ⟨T, Z, L, LZ, Y⟩ := ThrowableC.of_atoms (args := args) howns hfin hpl (fun x hx => h x (by simp [Bundle.ownAtoms0, hx]))
  obtain ⟨P1, Ps, hlen, L1, hL, hP1m, hlink1, hlink⟩ := Bundle.chain0 (args := args) hpl Y.init0 names cls hcls hnames (fun x hx => h x (by simp [Bundle.ownAtoms0, hx]))
  have hfound : s.vm.findClass cls = some P1.m.cls := findClass_of_methodNamed hP1m
  cases Option.some.inj (hfoundX.symm.trans hfound)
  obtain ⟨c1, kX', hc1, hk, hord, -, -, hn6⟩ := Cond.instantiable_spec (a' (.instantiable cls 6) (by simp [Bundle.ownAtoms0]))
  cases Option.some.inj (hc1.symm.trans hfound)
  cases Option.some.inj (hkX.symm.trans hk)
  have hsel0 : selectMethod e.platform s.vm P1.m.cls T.fill0 = .method T.fill0 := by
    obtain ⟨c2, r2, m2, q1, q2, q3, q4, -⟩ := Cond.selects_spec (a' (.selects cls Bundle.tFill0 Bundle.tFill0) (by simp [Bundle.ownAtoms0]))
    cases Option.some.inj (q1.symm.trans hfound)
    cases Option.some.inj (q2.symm.trans (State.methodFound?_of_named Y.fill0 (by decide)))
    cases Option.some.inj (q3.symm.trans Y.fill0)
    rw [Launch.admits_selectMethod X.admits]; exact q4
  have hselF : selectMethod e.platform s.vm P1.m.cls T.fill = .method T.fill := by
    obtain ⟨c2, r2, m2, q1, q2, q3, q4, -⟩ := Cond.selects_spec (a' (.selects cls Bundle.tFill Bundle.tFill) (by simp [Bundle.ownAtoms0]))
    cases Option.some.inj (q1.symm.trans hfound)
    cases Option.some.inj (q2.symm.trans (State.methodFound?_of_named Y.fill (by decide)))
    cases Option.some.inj (q3.symm.trans Y.fill)
    rw [Launch.admits_selectMethod X.admits]; exact q4
  obtain ⟨cellS0, hcS0, hiss⟩ := Y.statics
  obtain ⟨u0, hu0⟩ := Cond.staticRefV Y.unassigned L.unassignedStatic L.statics hcS0 hiss (a' (.isRef (.static Bundle.tN "UNASSIGNED_STACK" Bundle.steD)) (by simp [Bundle.ownAtoms0]))
  obtain ⟨sen, hsen⟩ := Cond.staticRefV Y.sentinel L.sentinelStatic L.statics hcS0 hiss (a' (.isRef (.static Bundle.tN "SUPPRESSED_SENTINEL" Bundle.listD)) (by simp [Bundle.ownAtoms0]))
  obtain ⟨ci198, i198, fB, hk198, hg198, ha198, hsB, -, hnB, htB, hffB⟩ := Cond.ownField (t := .object "java/lang/Object") Y.found L.cls (by decide +kernel) (a' (.fieldLink Bundle.tN 198 Bundle.tN "backtrace" "Ljava/lang/Object;") (by simp [Bundle.ownAtoms0])) (a' (.lays Bundle.tN Bundle.tN "backtrace" "Ljava/lang/Object;") (by simp [Bundle.ownAtoms0])) e.platform hpl
  obtain ⟨cellS, hcS', heS, -, hkeep⟩ := X.same.2.2.2.2.2 T.aS cellS0 hcS0
  have hcellS : W.heap[T.aS]? = some cellS := hcS'
  have hout' : ∀ i, (⟨T.aS, i⟩ : Loc) ∉ locs := fun i hmem => by
    have := hlocs _ hmem cellS0 hcS0
    rw [hiss] at this; cases this
  have hknownS : cellS.vm ≠ .unknown := by
    rw [heS]; intro hu
    rw [show cellS0.vm = .unknown from hu] at hiss
    cases hiss
  have hneS : T.aS ≠ a := Nat.ne_of_lt (Nat.lt_of_lt_of_le (Array.getElem?_eq_some_iff.mp hcS0).1 hnew)
  obtain ⟨iM, hffM⟩ := Y.msg
  obtain ⟨tyC, dC, hdC, hdnC⟩ := Cond.laysAt hfound hk Y.cause (a' (.lays cls Bundle.tN "cause" "Ljava/lang/Throwable;") (by simp [Bundle.ownAtoms0]))
  obtain ⟨tyS, dS, hdS, hdnS⟩ := Cond.laysAt hfound hk Y.stack (a' (.lays cls Bundle.tN "stackTrace" Bundle.steD) (by simp [Bundle.ownAtoms0]))
  obtain ⟨tyP, dP, hdP, hdnP⟩ := Cond.laysAt hfound hk Y.supp (a' (.lays cls Bundle.tN "suppressedExceptions" Bundle.listD) (by simp [Bundle.ownAtoms0]))
  obtain ⟨tyM, dM, hdM, hdnM⟩ := Cond.laysAt hfound hk hffM (a' (.lays cls Bundle.tN "detailMessage" "Ljava/lang/String;") (by simp [Bundle.ownAtoms0]))
  obtain ⟨tyB, dB, hdB, hdnB⟩ := Cond.laysAt hfound hk hffB (a' (.lays cls Bundle.tN "backtrace" "Ljava/lang/Object;") (by simp [Bundle.ownAtoms0]))
  have bC := Cond.laysApart hdB hdC hdnB hdnC (by rw [hnB, Y.causeName]; decide)
  have bS := Cond.laysApart hdB hdS hdnB hdnS (by rw [hnB, Y.stackName]; decide)
  have bP := Cond.laysApart hdB hdP hdnB hdnP (by rw [hnB, Y.suppName]; decide)
  have hskip : SkipFacts T e.platform s (fun u => u) u0 ((preparedCellV T.toThrowableT (freshCell P1.m.cls kX) a u0 sen).withEntry W.cur) :=
    ⟨{ ci198 := ci198, i198 := i198, fBack := fB }, ⟨hk198, hg198, ha198, hsB⟩, by
      have := fresh_default (c := P1.m.cls) tyB
      rw [htB] at this
      simpa [preparedCellV, Cell.setSlot, Cell.withEntry, Array.getElem?_setIfInBounds, bC, bS, bP, bC.symm, bS.symm, bP.symm, defaultValue] using this, fun _ _ => rfl⟩
  obtain ⟨tm, methC, cdC, kC, vm₁, hnC, -, -, -, -, -, -, -, hW₁, st1⟩ := Steps.initCold (tb := p.tables) (e := e) (below := below) (s := s) (U := W) X.here hexec X.warmed hpl hown (t := Bundle.init0 cls) rfl rfl (Bundle.fit_spec hcls).2
    (a' (.methodLink own ic (Bundle.init0 cls)) (by simp [Bundle.ownAtoms0])) (h (.instanceMethod (Bundle.init0 cls)) (by cases names <;> simp [Bundle.ownAtoms0, Bundle.chain0Atoms, Bundle.passAtoms])) (bytes := Bundle.five) (maxL := 1) (h (.code (Bundle.init0 cls) Bundle.five 1 none) (by cases names <;> simp [Bundle.ownAtoms0, Bundle.chain0Atoms, Bundle.passAtoms]))
    (f := g) hg (a := a) (rest := .ref a :: rest) hstack hd6
  cases Option.some.inj (hnC.symm.trans hP1m)
  have X₁ := X.noted hW₁
  obtain ⟨vm₂, X₂, st2⟩ := X₁.ctorPlainOffV hexec (g := { g with stack := .ref a :: rest }) hg hsize T L Z LZ (P1 :: Ps)
    (fun P hP => by rcases List.mem_cons.mp hP with rfl | hP; exact L1; exact hL P hP) ⟨hlink1, hlink⟩ (u0 := u0) (sen := sen) (self := a) (cell := freshCell P1.m.cls kX) (cellS := cellS)
    hcell (fun _ => by simp) (by simp) rfl rfl hsel0 hselF hcellS hneS hknownS (by rw [hkeep _ (hout' _)]; exact hu0) (by rw [hkeep _ (hout' _)]; exact hsen)
    (Takes.of_laid hk hord tyC (by rw [Y.causeType]; rfl)) (Takes.of_laid hk hord tyS (by rw [Y.stackType]; exact fits_refV_array _ u0)) (Takes.of_laid hk hord tyP (by rw [Y.suppType]; exact fits_refV_object _ sen)) Y.objLocals hskip htr [] hd6
    (by simp only [List.length_cons, hlen]; omega) (by simp only [List.length_cons, hlen]; exact hRlocals)
  have hlt : a < ((W.setVm vm₁).setVm vm₂).heap.size := (Array.getElem?_eq_some_iff.mp hcell).1
  refine ⟨(W.setVm vm₁).setVm vm₂, _, _, X₂, fun y hy => ?_, hlt, rfl, rfl, fun target hwalk => st1 _ (fun acts => ?_)⟩
  · simp only [List.mem_cons, List.not_mem_nil, or_false] at hy
    rcases hy with rfl | rfl | rfl | rfl <;> rfl
  · rw [doInvoke_state]
    exact st2 _ hwalk
end VXK
section VXK2
variable {p : Program} {l : Launch} {e : Env} {R : Room} {s : State} {m : MethodId} {args : Array Value} {below : List Frame} {meth : Method} {c : Code} {H : Heap} {locs : List Loc} {cells slots : Nat} {Q : State → Prop}
variable {ls : Array Slot} {rest : List Value} {D : va_G} {cl : List vw_C} {tys : List (ClassId × FieldType)} {ws : va_W}
/-- 'new E("text")' that isn't thrown at once: the object goes on the stack -/
theorem vx_makeS {cc : ByteArray} {pc : Nat} (hexec : p.tables.exec = Jvm.exec) (hb : c.code = cc) (hl : l.stackTraces = false) {own cls text : String} {names : List String} {ik is ic sa ci : Nat} {A : Nat → Prop} {T0 : u_T}
    (hown : s.vm.findClass own = some m.cls) (hcls : Bundle.fit cls = true) (hnames : ∀ n ∈ names, Bundle.fit n = true)
    (hk : (Cond.classLink own ik cls).before args s = true) (hini : (Cond.initialized cls).before args s = true) (hstr : vk_R own is text sa s) (hat : ∀ w ∈ vx_atS own ic cls names, w.before args s = true)
    (hgood : ∀ w ∈ Cond.classLink own ik cls :: Cond.initialized cls :: vx_atS own ic cls names, vx_ot w = true)
    (hU : vx_Zq Bundle.tN "UNASSIGNED_STACK" Bundle.steD A s s.heap) (hN : vx_Zq Bundle.tN "SUPPRESSED_SENTINEL" Bundle.listD A s s.heap) (hS : va_S A s.heap H locs) (hsize : ls.size = c.maxLocals)
    (d0 : decode cc pc = .ok (.new ik, 3)) (d3 : decode cc (pc + 3) = .ok (.dup, 1)) (d4 : decode cc (pc + 4) = .ok (.ldc is, 2)) (d6 : decode cc (pc + 6) = .ok (.invokespecial ic, 3))
    (hK : va_K D cl tys s) (hP : va_P D cl ws H) (hD : va_D A ws) (hA : ∀ q, s.heap.size ≤ q → A q) (hc : cl[ci]? = some (cls, T0, 0))
    (hRframes : names.length + 3 < R.frames) (hRlocals : (rest.map fun v => v.category).sum + (13 * (names.length + 1) + 43) ≤ R.locals) (hRcells : cells + 1 ≤ R.cells) (hRslots : slots + 6 ≤ R.slots)
    (kk : ∀ (q : Nat) (H1 : Heap), va_P D cl (ws ++ [(q, .inr (ci, []))]) H1 → va_D A (ws ++ [(q, .inr (ci, []))]) → va_S A s.heap H1 locs → W p l e R s m args below meth c H1 locs (cells + 1) (slots + 6) Q (F0 m (pc + 9) ls (.ref q :: rest))) :
    W p l e R s m args below meth c H locs cells slots Q (F0 m pc ls rest) := by
  intro T hT X
  subst hT
  have htr : e.platform.stackTraces = false := (show e.platform.stackTraces = l.stackTraces by rw [X.admits.platform]).trans hl
  have Y := vx_rebase X (R' := { frames := R.frames, locals := R.locals, cells := 1, slots := 6 }) (Nat.le_refl _) (Nat.le_refl _) hRcells hRslots
  obtain ⟨s', hA'⟩ : ∃ z, z = (T.setVm s.vm).setFrames (.invoking m args :: below) := ⟨_, rfl⟩
  rw [← hA'] at Y
  have hvm : s'.vm = s.vm := by rw [hA']; rfl
  have hhp : s'.heap = T.heap := by rw [hA']; rfl
  have hW0 : s.WarmedH s'.vm := by rw [hvm]; exact State.WarmedH.refl s
  have hat' : ∀ w ∈ vx_atS own ic cls names, w.before args s' = true := fun w hw => vx_ot_at hW0 hvm.symm (hgood w (List.mem_cons_of_mem _ (List.mem_cons_of_mem _ hw))) (hat w hw)
  have hk' : (Cond.classLink own ik cls).before args s' = true := vx_ot_at hW0 hvm.symm (hgood _ List.mem_cons_self) hk
  have hini' : (Cond.initialized cls).before args s' = true := vx_ot_at hW0 hvm.symm (hgood _ (List.mem_cons_of_mem _ List.mem_cons_self)) hini
  have hU' : vx_Zq Bundle.tN "UNASSIGNED_STACK" Bundle.steD A s' s'.heap := by rw [hhp]; exact vx_Zq.moved hW0.alike (hU.kept hS.2.1)
  have hN' : vx_Zq Bundle.tN "SUPPRESSED_SENTINEL" Bundle.listD A s' s'.heap := by rw [hhp]; exact vx_Zq.moved hW0.alike (hN.kept hS.2.1)
  have h : ∀ w ∈ Bundle.ownAtoms own ic cls names, w.before args s' = true := vx_own hat' (vx_isRefq hU'.1) (vx_isRefq hN'.1) hU'.2.word hN'.2.word
  have hown' : s'.vm.findClass own = some m.cls := by rw [hvm]; exact hown
  have hins : (Cond.instantiable cls 6).before args s' = true := h _ (by simp [Bundle.ownAtoms])
  obtain ⟨vm₁, cX, kX, hfX, hkX, -, -, X₁, st1⟩ := Y.newCold hexec (own := own) (C := cls) (index := ik) (n := 6) hown' hk' hins hini'
    (g := F0 m pc ls rest) rfl (by rw [hb]; exact d0) (Nat.le_refl _) (Nat.le_refl _)
  generalize hT1 : (T.setVm vm₁).pushCell { cls := cX, slots := kX.instanceTypes.map defaultValue, vm := .none } = T1 at X₁ st1
  have hcat : (Value.ref T.heap.size).category = 1 := rfl
  have hcellA : T1.heap[T.heap.size]? = some (freshCell cX kX) := by rw [← hT1]; exact State.heap_pushCell_size _ _
  have d3' : decode c.code (pc + 3) = .ok (.dup, 1) := by rw [hb]; exact d3
  have d4' : decode c.code (pc + 4) = .ok (.ldc is, 2) := by rw [hb]; exact d4
  have hstr' : vk_R own is text sa s' := vk_R.warm hW0 hstr
  obtain ⟨V, ce, L, Z, hL, hlt, hcl9, hvm9, st⟩ := vx_ctorMadeS X₁ hexec htr (own := own) (cls := cls) (names := names) (ic := ic) hown' hcls hnames h (fun x hx => nomatch hx) hfX hkX hcellA (by rw [hhp]; exact Nat.le_refl _) (msg := .ref sa) rfl
    (g := { method := m, pc := pc + 6, locals := ls, stack := .ref sa :: .ref T.heap.size :: .ref T.heap.size :: rest, locked := none }) rfl hsize (rest := rest) rfl
    (by rw [hb]; exact d6) hRframes (by simp only [List.map_cons, List.sum_cons, hcat]; omega)
  have Z0 := Stand.forget (locs := []) Z (fun y hy => by rw [hL y hy, hhp]; exact Nat.le_refl _)
  obtain ⟨f1, f2⟩ := vx_frame Z0.same
  rw [hhp] at f1 f2
  have hcid : ce.cls = D.1 ci := by
    rw [hcl9]
    have h1 := (hK.1 ci _ hc).2.1
    rw [hvm] at hfX
    exact Option.some.inj (hfX.symm.trans h1)
  have hh : (V.setCell T.heap.size ce).heap[T.heap.size]? = some ce := heapAt_setCell_self (s := V) ce hlt
  subst hA'
  have X5 := vx_back9 X Y Z0
  have X6 : Stand p l e R s m args below meth c (V.setCell T.heap.size ce) locs (cells + 1) (slots + 6) := { X5 with same := X5.same.mono (by omega) (by omega) }
  have hk9 : ∀ (k : Nat) (x : Nat × va_E), ws[k]? = some x → (V.setCell T.heap.size ce).heap[x.1]? = T.heap[x.1]? := fun k x hx => f2 x.1 ((hP k x hx).lt) (fun z hz => nomatch hz)
  obtain ⟨t, a1, b1⟩ := kk T.heap.size (V.setCell T.heap.size ce).heap ((hP.kept hk9).app (fun k x hx => by
      have hz : k < 1 := (List.getElem?_eq_some_iff.mp hx).1
      rw [show k = 0 by omega] at hx
      cases hx
      exact ⟨_, hc, ce, hh, hcid, hvm9, fun k hk => absurd hk (Nat.not_lt_zero k)⟩)) (hD.push hP rfl (hA _ hS.1)) ⟨Nat.le_trans hS.1 f1, fun q h1 h2 => (f2 q (Nat.lt_of_lt_of_le h1 hS.1) (fun z hz => nomatch hz)).trans (hS.2.1 q h1 h2), hS.2.2⟩ _ rfl X6
  refine ⟨t, st1 _ ?_, b1⟩
  show Steps p.tables e below (T1.setTop { method := m, pc := pc + 3, locals := ls, stack := .ref T.heap.size :: rest, locked := none }) _
  jvm_step X₁.here [X₁.here.top, hexec, d3', Value.category]
  exact X₁.ldcString hexec (own := own) (text := text) (index := is) (a := sa) hown' hstr'.1 hstr'.2
    (g := { method := m, pc := pc + 4, locals := ls, stack := .ref T.heap.size :: .ref T.heap.size :: rest, locked := none }) rfl d4' _ (st _ a1)
/-- 'new E()' that isn't thrown at once: the object goes on the stack -/
theorem vx_make0 {cc : ByteArray} {pc : Nat} (hexec : p.tables.exec = Jvm.exec) (hb : c.code = cc) (hl : l.stackTraces = false) {own cls : String} {names : List String} {ik ic ci : Nat} {A : Nat → Prop} {T0 : u_T}
    (hown : s.vm.findClass own = some m.cls) (hcls : Bundle.fit cls = true) (hnames : ∀ n ∈ names, Bundle.fit n = true)
    (hk : (Cond.classLink own ik cls).before args s = true) (hini : (Cond.initialized cls).before args s = true) (hat : ∀ w ∈ vx_at0 own ic cls names, w.before args s = true)
    (hgood : ∀ w ∈ Cond.classLink own ik cls :: Cond.initialized cls :: vx_at0 own ic cls names, vx_ot w = true)
    (hU : vx_Zq Bundle.tN "UNASSIGNED_STACK" Bundle.steD A s s.heap) (hN : vx_Zq Bundle.tN "SUPPRESSED_SENTINEL" Bundle.listD A s s.heap) (hS : va_S A s.heap H locs) (hsize : ls.size = c.maxLocals)
    (d0 : decode cc pc = .ok (.new ik, 3)) (d3 : decode cc (pc + 3) = .ok (.dup, 1)) (d4 : decode cc (pc + 4) = .ok (.invokespecial ic, 3))
    (hK : va_K D cl tys s) (hP : va_P D cl ws H) (hD : va_D A ws) (hA : ∀ q, s.heap.size ≤ q → A q) (hc : cl[ci]? = some (cls, T0, 0))
    (hRframes : names.length + 3 < R.frames) (hRlocals : (rest.map fun v => v.category).sum + (13 * (names.length + 1) + 42) ≤ R.locals) (hRcells : cells + 1 ≤ R.cells) (hRslots : slots + 6 ≤ R.slots)
    (kk : ∀ (q : Nat) (H1 : Heap), va_P D cl (ws ++ [(q, .inr (ci, []))]) H1 → va_D A (ws ++ [(q, .inr (ci, []))]) → va_S A s.heap H1 locs → W p l e R s m args below meth c H1 locs (cells + 1) (slots + 6) Q (F0 m (pc + 7) ls (.ref q :: rest))) :
    W p l e R s m args below meth c H locs cells slots Q (F0 m pc ls rest) := by
  intro T hT X
  subst hT
  have htr : e.platform.stackTraces = false := (show e.platform.stackTraces = l.stackTraces by rw [X.admits.platform]).trans hl
  have Y := vx_rebase X (R' := { frames := R.frames, locals := R.locals, cells := 1, slots := 6 }) (Nat.le_refl _) (Nat.le_refl _) hRcells hRslots
  obtain ⟨s', hA'⟩ : ∃ z, z = (T.setVm s.vm).setFrames (.invoking m args :: below) := ⟨_, rfl⟩
  rw [← hA'] at Y
  have hvm : s'.vm = s.vm := by rw [hA']; rfl
  have hhp : s'.heap = T.heap := by rw [hA']; rfl
  have hW0 : s.WarmedH s'.vm := by rw [hvm]; exact State.WarmedH.refl s
  have hat' : ∀ w ∈ vx_at0 own ic cls names, w.before args s' = true := fun w hw => vx_ot_at hW0 hvm.symm (hgood w (List.mem_cons_of_mem _ (List.mem_cons_of_mem _ hw))) (hat w hw)
  have hk' : (Cond.classLink own ik cls).before args s' = true := vx_ot_at hW0 hvm.symm (hgood _ List.mem_cons_self) hk
  have hini' : (Cond.initialized cls).before args s' = true := vx_ot_at hW0 hvm.symm (hgood _ (List.mem_cons_of_mem _ List.mem_cons_self)) hini
  have hU' : vx_Zq Bundle.tN "UNASSIGNED_STACK" Bundle.steD A s' s'.heap := by rw [hhp]; exact vx_Zq.moved hW0.alike (hU.kept hS.2.1)
  have hN' : vx_Zq Bundle.tN "SUPPRESSED_SENTINEL" Bundle.listD A s' s'.heap := by rw [hhp]; exact vx_Zq.moved hW0.alike (hN.kept hS.2.1)
  have h : ∀ w ∈ Bundle.ownAtoms0 own ic cls names, w.before args s' = true := vx_own hat' (vx_isRefq hU'.1) (vx_isRefq hN'.1) hU'.2.word hN'.2.word
  have hown' : s'.vm.findClass own = some m.cls := by rw [hvm]; exact hown
  have hins : (Cond.instantiable cls 6).before args s' = true := h _ (by simp [Bundle.ownAtoms0])
  obtain ⟨vm₁, cX, kX, hfX, hkX, -, -, X₁, st1⟩ := Y.newCold hexec (own := own) (C := cls) (index := ik) (n := 6) hown' hk' hins hini'
    (g := F0 m pc ls rest) rfl (by rw [hb]; exact d0) (Nat.le_refl _) (Nat.le_refl _)
  generalize hT1 : (T.setVm vm₁).pushCell { cls := cX, slots := kX.instanceTypes.map defaultValue, vm := .none } = T1 at X₁ st1
  have hcat : (Value.ref T.heap.size).category = 1 := rfl
  have hcellA : T1.heap[T.heap.size]? = some (freshCell cX kX) := by rw [← hT1]; exact State.heap_pushCell_size _ _
  have d3' : decode c.code (pc + 3) = .ok (.dup, 1) := by rw [hb]; exact d3
  obtain ⟨V, ce, L, Z, hL, hlt, hcl9, hvm9, st⟩ := vx_ctorMade0 X₁ hexec htr (own := own) (cls := cls) (names := names) (ic := ic) hown' hcls hnames h (fun x hx => nomatch hx) hfX hkX hcellA (by rw [hhp]; exact Nat.le_refl _)
    (g := { method := m, pc := pc + 4, locals := ls, stack := .ref T.heap.size :: .ref T.heap.size :: rest, locked := none }) rfl hsize (rest := rest) rfl
    (by rw [hb]; exact d4) hRframes (by simp only [List.map_cons, List.sum_cons, hcat]; omega)
  have Z0 := Stand.forget (locs := []) Z (fun y hy => by rw [hL y hy, hhp]; exact Nat.le_refl _)
  obtain ⟨f1, f2⟩ := vx_frame Z0.same
  rw [hhp] at f1 f2
  have hcid : ce.cls = D.1 ci := by
    rw [hcl9]
    have h1 := (hK.1 ci _ hc).2.1
    rw [hvm] at hfX
    exact Option.some.inj (hfX.symm.trans h1)
  have hh : (V.setCell T.heap.size ce).heap[T.heap.size]? = some ce := heapAt_setCell_self (s := V) ce hlt
  subst hA'
  have X5 := vx_back9 X Y Z0
  have X6 : Stand p l e R s m args below meth c (V.setCell T.heap.size ce) locs (cells + 1) (slots + 6) := { X5 with same := X5.same.mono (by omega) (by omega) }
  have hk9 : ∀ (k : Nat) (x : Nat × va_E), ws[k]? = some x → (V.setCell T.heap.size ce).heap[x.1]? = T.heap[x.1]? := fun k x hx => f2 x.1 ((hP k x hx).lt) (fun z hz => nomatch hz)
  obtain ⟨t, a1, b1⟩ := kk T.heap.size (V.setCell T.heap.size ce).heap ((hP.kept hk9).app (fun k x hx => by
      have hz : k < 1 := (List.getElem?_eq_some_iff.mp hx).1
      rw [show k = 0 by omega] at hx
      cases hx
      exact ⟨_, hc, ce, hh, hcid, hvm9, fun k hk => absurd hk (Nat.not_lt_zero k)⟩)) (hD.push hP rfl (hA _ hS.1)) ⟨Nat.le_trans hS.1 f1, fun q h1 h2 => (f2 q (Nat.lt_of_lt_of_le h1 hS.1) (fun z hz => nomatch hz)).trans (hS.2.1 q h1 h2), hS.2.2⟩ _ rfl X6
  refine ⟨t, st1 _ ?_, b1⟩
  show Steps p.tables e below (T1.setTop { method := m, pc := pc + 3, locals := ls, stack := .ref T.heap.size :: rest, locked := none }) _
  jvm_step X₁.here [X₁.here.top, hexec, d3', Value.category]
  exact st _ a1
/-- 'throw x' of an object that was made before -/
theorem vx_athrow {cc : ByteArray} {pc : Nat} (hexec : p.tables.exec = Jvm.exec) (hb : c.code = cc) {q : Addr} (hdg : decode cc pc = .ok (.athrow, 1)) (k : vx_W p l e R s m args below meth c H locs cells slots Q (F0 m pc ls rest) q) : W p l e R s m args below meth c H locs cells slots Q (F0 m pc ls (.ref q :: rest)) := by
  intro T hT X
  obtain ⟨t, st, hq⟩ := k T hT X
  refine ⟨t, ?_, hq⟩
  have hdg' : decode c.code pc = .ok (.athrow, 1) := by rw [hb]; exact hdg
  jvm_step X.here [X.here.top, hexec, hdg', athrow.wp_sem]
  exact st
end VXK2
/-! ===== END ===== -/
/-! ===== BEGIN a constructor that throws (launches without stack traces) ===== -/
section VXIA
variable {p : Program} {l : Launch} {e : Env} {R : Room} {s : State} {m : MethodId} {args : Array Value} {below : List Frame} {meth : Method} {c : Code} {T : State} {locs : List Loc} {cells slots : Nat}
theorem vx_callI (X : Stand p l e R s m args below meth c T locs cells slots) (hexec : p.tables.exec = Jvm.exec) {own : String} {index : Nat} {y : MethodName} {bytes : ByteArray} {maxL : Nat}
    (hown : s.vm.findClass own = some m.cls) (hy1 : y.name = "<init>") (hlink : (Cond.methodLink own index y).before args s = true) (hinst : (Cond.instanceMethod y).before args s = true)
    (hcode : (Cond.code y bytes maxL none).before args s = true) (hy : y.cls ≠ "java/lang/invoke/MethodHandle" ∧ y.cls ≠ "java/lang/invoke/VarHandle")
    {W9 : Nat} {Pre : Pt → Array Value → Prop} {Post : Pt → Array Value → Option Value → Pt → Prop} {PostX : Pt → Array Value → Addr → Pt → Prop} (hK : vx_Back l R p e below s args y 3 W9 Pre Post PostX)
    {g : JFrame} (hg : g.method = m) (hsize : g.locals.size = c.maxLocals) {a : Addr} {argsL rest : List Value} (hlen : ∀ sig, parseMethodDescriptor y.desc = some sig → argsL.length = sig.parameters.length)
    (hstack : g.stack = argsL.reverse ++ .ref a :: rest) (hW : 2 * g.monitorRoom + (rest.map fun v => v.category).sum ≤ W9) (hdg : decode c.code g.pc = .ok (.invokespecial index, 3))
    (hpre : ∀ vm₁, s.WarmedH vm₁ → Pre ⟨T.setVm vm₁, locs, cells, slots⟩ (Value.ref a :: argsL).toArray) :
    (∃ (v : Option Value) (vm₁ : Vm) (B : Pt), s.WarmedH vm₁ ∧ Stand p l e R s m args below meth c B.U B.locs B.cells B.slots ∧ Post ⟨T.setVm vm₁, locs, cells, slots⟩ (Value.ref a :: argsL).toArray v B ∧
      ∀ target, Steps p.tables e below (B.U.setTop { g with pc := g.pc + 3, stack := v.toList ++ rest }) target → Steps p.tables e below (T.setTop g) target) ∨
    (∃ (q : Addr) (vm₁ : Vm) (B : Pt), s.WarmedH vm₁ ∧ Stand p l e R s m args below meth c B.U B.locs B.cells B.slots ∧ PostX ⟨T.setVm vm₁, locs, cells, slots⟩ (Value.ref a :: argsL).toArray q B ∧
      Steps p.tables e below (T.setTop g) ((B.U.setTop { g with stack := rest }).pushFrame (.throwing q))) := by
  subst hg
  have hpl : e.platform.magicAccessors = ({} : Platform).magicAccessors := by rw [X.admits.platform]
  obtain ⟨mk, methM, cM, kP, vm₁, hnamed, hmethM, hcodeM, -, hlocalsM, -, hkP, -, hW₁, hstep₁⟩ := Steps.initColdArgs (e := e) X.here hexec X.warmed hpl hown hy1 hy hlink hinst hcode (f := g) rfl hlen hstack hdg
  have X₁ := X.noted hW₁
  rcases hK g.method meth c ⟨T.setVm vm₁, locs, cells, slots⟩ { g with stack := rest } (.invokespecial index) mk (Value.ref a :: argsL).toArray X₁ rfl hsize hdg hW (X₁.named hnamed) (hpre vm₁ X₁.warmed) with ⟨v, B, X', hpost, hsteps⟩ | ⟨q, B, X', hpost, hsteps⟩
  · exact Or.inl ⟨v, vm₁, B, X₁.warmed, X', hpost, fun target h => hstep₁ _ fun acts => by rw [doInvoke_state]; exact hsteps.trans h⟩
  · exact Or.inr ⟨q, vm₁, B, X₁.warmed, X', hpost, hstep₁ _ fun acts => by rw [doInvoke_state]; exact hsteps⟩
end VXIA
section VXIB
variable {p : Program} {l : Launch} {e : Env} {R : Room} {s : State} {m : MethodId} {args : Array Value} {below : List Frame} {meth : Method} {c : Code} {H : Heap} {locs : List Loc} {cells slots : Nat}
variable {y : MethodName} {bytes cc : ByteArray} {maxL nL mc ms n index : Nat} {ret : Option FieldType} {ws : List Cond} {rm : Room} {Pc : Array Value → State → Prop} {Qc : Array Value → State → Outcome → State → Prop} {XC : String → State → State → Prop} {free : Addr → Prop} {Ts : List Cond} {own C : String} {b : Addr} {As rest : List Value} {g : JFrame}
theorem vx_runI (S : CallFix p m c cc nL s args Ts own) (hM : vx_Met l y ws rm Pc Qc XC mc ms free) (cw : CallB R s args own index y bytes maxL none ws rm mc ms n ∧ y.name = "<init>" ∧ (Cond.instanceMethod y).before args s = true) (hp : PreS s H Pc (.ref b :: As))
    (hg : g.method = m) (hn : As.length = n) (hsize : g.locals.size = nL) (hstack : g.stack = As.reverse ++ .ref b :: rest) (hW : 2 * g.monitorRoom + (rest.map fun v => v.category).sum ≤ 8) (hdg : decode cc g.pc = .ok (.invokespecial index, 3)) (hf : cells + mc ≤ R.cells ∧ slots + ms ≤ R.slots) :
    vx_Run p l e R s m args below meth c H locs cells slots mc ms g rest (Qc (Value.ref b :: As).toArray) XC free := by
  have hK : vx_Back l R p e below s args y 3 8 (PreOf R mc ms Pc) (PostOf Qc mc ms free) (vx_Post XC mc ms free) := vx_callBack cw.1 hM hp.1
  obtain ⟨⟨-, -, -, -, -, -, hcode, -, hy, hlen, hl⟩, hy1, hin⟩ := cw
  obtain ⟨hx, hb, hml, ho, -⟩ := S
  have hPc := hp.2
  intro T hT X
  rcases vx_callI X hx (bytes := bytes) (maxL := maxL) ho hy1 hl hin hcode hy hK hg (hsize.trans hml.symm) (a := b) (argsL := As) (rest := rest) (fun sig h => hn.trans (hlen sig h)) hstack hW (by rw [hb]; exact hdg)
    (fun vm₁ hW₁ => ⟨hf.1, hf.2, hPc (T.setVm vm₁) hT hW₁⟩) with ⟨v, vm₁, ⟨U', l2, c2, s2⟩, hW₁, X', ⟨g', mk, t, L, e1, e2, hq, h1, hL, h2, h3⟩, st⟩ | ⟨q, vm₁, ⟨U', l2, c2, s2⟩, hW₁, X', ⟨g', mk, t, L, E, ce, e1, e2, hq, hce, hcv, hcl, h1, hL, h2, h3⟩, st⟩
  · dsimp only [Pt.U, Pt.locs, Pt.cells, Pt.slots] at X' e1 e2 h1 h2 h3 st
    subst h1; subst h2; subst h3
    exact Or.inl ⟨v, (T.setVm vm₁).calling g' mk (Value.ref b :: As).toArray, t, U', L, hT, X', hL, e1, e2, hq, st⟩
  · dsimp only [Pt.U, Pt.locs, Pt.cells, Pt.slots] at X' e1 e2 h1 h2 h3 st hcl
    subst h1; subst h2; subst h3
    exact Or.inr ⟨q, (T.setVm vm₁).calling g' mk (Value.ref b :: As).toArray, t, U', L, E, ce, hT, X', hL, e1, e2, hq, hce, hcv, vx_cls hW₁ hcl, st⟩
end VXIB
/-! ===== END ===== -/
/-! ===== BEGIN a private constructor of a nest mate that throws ===== -/
section VXIC
variable {p : Program} {l : Launch} {e : Env} {R : Room} {s : State} {m : MethodId} {args : Array Value} {below : List Frame} {meth : Method} {c : Code} {T : State} {locs : List Loc} {cells slots : Nat}
theorem vx_callIN (X : Stand p l e R s m args below meth c T locs cells slots) (hexec : p.tables.exec = Jvm.exec) {own : String} {index : Nat} {host : String} {y : MethodName} {bytes : ByteArray} {maxL : Nat}
    (hown : s.vm.findClass own = some m.cls) (hy1 : y.name = "<init>") (hlink : (Cond.methodLinkNest own index y host).before args s = true) (hinst : (Cond.instanceMethod y).before args s = true)
    (hcode : (Cond.code y bytes maxL none).before args s = true) (hy : y.cls ≠ "java/lang/invoke/MethodHandle" ∧ y.cls ≠ "java/lang/invoke/VarHandle")
    {W9 : Nat} {Pre : Pt → Array Value → Prop} {Post : Pt → Array Value → Option Value → Pt → Prop} {PostX : Pt → Array Value → Addr → Pt → Prop} (hK : vx_Back l R p e below s args y 3 W9 Pre Post PostX)
    {g : JFrame} (hg : g.method = m) (hsize : g.locals.size = c.maxLocals) {a : Addr} {argsL rest : List Value} (hlen : ∀ sig, parseMethodDescriptor y.desc = some sig → argsL.length = sig.parameters.length)
    (hstack : g.stack = argsL.reverse ++ .ref a :: rest) (hW : 2 * g.monitorRoom + (rest.map fun v => v.category).sum ≤ W9) (hdg : decode c.code g.pc = .ok (.invokespecial index, 3))
    (hpre : ∀ vm₁, s.WarmedH vm₁ → Pre ⟨T.setVm vm₁, locs, cells, slots⟩ (Value.ref a :: argsL).toArray) :
    (∃ (v : Option Value) (vm₁ : Vm) (B : Pt), s.WarmedH vm₁ ∧ Stand p l e R s m args below meth c B.U B.locs B.cells B.slots ∧ Post ⟨T.setVm vm₁, locs, cells, slots⟩ (Value.ref a :: argsL).toArray v B ∧
      ∀ target, Steps p.tables e below (B.U.setTop { g with pc := g.pc + 3, stack := v.toList ++ rest }) target → Steps p.tables e below (T.setTop g) target) ∨
    (∃ (q : Addr) (vm₁ : Vm) (B : Pt), s.WarmedH vm₁ ∧ Stand p l e R s m args below meth c B.U B.locs B.cells B.slots ∧ PostX ⟨T.setVm vm₁, locs, cells, slots⟩ (Value.ref a :: argsL).toArray q B ∧
      Steps p.tables e below (T.setTop g) ((B.U.setTop { g with stack := rest }).pushFrame (.throwing q))) := by
  subst hg
  have hpl : e.platform.magicAccessors = ({} : Platform).magicAccessors := by rw [X.admits.platform]
  obtain ⟨mk, methM, cM, kP, vm₁, hnamed, hmethM, hcodeM, -, hlocalsM, -, hkP, -, hW₁, hstep₁⟩ := Steps.initColdArgsNest (e := e) X.here hexec X.warmed hpl hown hy1 hy hlink hinst hcode (f := g) rfl hlen hstack hdg
  have X₁ := X.noted hW₁
  rcases hK g.method meth c ⟨T.setVm vm₁, locs, cells, slots⟩ { g with stack := rest } (.invokespecial index) mk (Value.ref a :: argsL).toArray X₁ rfl hsize hdg hW (X₁.named hnamed) (hpre vm₁ X₁.warmed) with ⟨v, B, X', hpost, hsteps⟩ | ⟨q, B, X', hpost, hsteps⟩
  · exact Or.inl ⟨v, vm₁, B, X₁.warmed, X', hpost, fun target h => hstep₁ _ fun acts => by rw [doInvoke_state]; exact hsteps.trans h⟩
  · exact Or.inr ⟨q, vm₁, B, X₁.warmed, X', hpost, hstep₁ _ fun acts => by rw [doInvoke_state]; exact hsteps⟩
end VXIC
section VXID
variable {p : Program} {l : Launch} {e : Env} {R : Room} {s : State} {m : MethodId} {args : Array Value} {below : List Frame} {meth : Method} {c : Code} {H : Heap} {locs : List Loc} {cells slots : Nat}
theorem vx_runIN {y : MethodName} {bytes cc : ByteArray} {maxL nL mc ms n index : Nat} {ws : List Cond} {rm : Room} {Pc : Array Value → State → Prop} {Qc : Array Value → State → Outcome → State → Prop} {XC : String → State → State → Prop} {free : Addr → Prop} {Ts : List Cond} {own host : String} {b : Addr} {As rest : List Value} {g : JFrame}
    (S : CallFix p m c cc nL s args Ts own) (hM : vx_Met l y ws rm Pc Qc XC mc ms free) (cw : va_CN R s args own index y host bytes maxL none ws rm mc ms n ∧ y.name = "<init>" ∧ (Cond.instanceMethod y).before args s = true) (hp : PreS s H Pc (.ref b :: As))
    (hg : g.method = m) (hn : As.length = n) (hsize : g.locals.size = nL) (hstack : g.stack = As.reverse ++ .ref b :: rest) (hW : 2 * g.monitorRoom + (rest.map fun v => v.category).sum ≤ 8) (hdg : decode cc g.pc = .ok (.invokespecial index, 3)) (hf : cells + mc ≤ R.cells ∧ slots + ms ≤ R.slots) :
    vx_Run p l e R s m args below meth c H locs cells slots mc ms g rest (Qc (Value.ref b :: As).toArray) XC free := by
  obtain ⟨⟨⟨hrc, hrs, hfr, hlo, hws, hcw⟩, hcode, hini, hy, hlen, hl⟩, hx1, hx2⟩ := cw
  have hK : vx_Back l R p e below s args y 3 8 (PreOf R mc ms Pc) (PostOf Qc mc ms free) (vx_Post XC mc ms free) := vx_back (bytes := bytes) (maxL := maxL) (ret := none) hM hp.1 hrc hrs hfr hlo hws hcw (fun a' U hW => word_at hW (Or.inl (by first | rfl | simp [Cond.onTables, Cond.keeps, Cond.steady])) hini)
  obtain ⟨hx, hb, hml, ho, -⟩ := S
  have hPc := hp.2
  intro T hT X
  rcases vx_callIN X hx (bytes := bytes) (maxL := maxL) ho hx1 hl hx2 hcode hy hK hg (hsize.trans hml.symm) (a := b) (argsL := As) (rest := rest) (fun sig h => hn.trans (hlen sig h)) hstack hW (by rw [hb]; exact hdg)
    (fun vm₁ hW₁ => ⟨hf.1, hf.2, hPc (T.setVm vm₁) hT hW₁⟩) with ⟨v, vm₁, ⟨U', l2, c2, s2⟩, hW₁, X', ⟨g', mk, t, L, e1, e2, hq, h1, hL, h2, h3⟩, st⟩ | ⟨q, vm₁, ⟨U', l2, c2, s2⟩, hW₁, X', ⟨g', mk, t, L, E, ce, e1, e2, hq, hce, hcv, hcl, h1, hL, h2, h3⟩, st⟩
  · dsimp only [Pt.U, Pt.locs, Pt.cells, Pt.slots] at X' e1 e2 h1 h2 h3 st
    subst h1; subst h2; subst h3
    exact Or.inl ⟨v, (T.setVm vm₁).calling g' mk (Value.ref b :: As).toArray, t, U', L, hT, X', hL, e1, e2, hq, st⟩
  · dsimp only [Pt.U, Pt.locs, Pt.cells, Pt.slots] at X' e1 e2 h1 h2 h3 st hcl
    subst h1; subst h2; subst h3
    exact Or.inr ⟨q, (T.setVm vm₁).calling g' mk (Value.ref b :: As).toArray, t, U', L, E, ce, hT, X', hL, e1, e2, hq, hce, hcv, vx_cls hW₁ hcl, st⟩
end VXID
/-! ===== END ===== -/
/-! ===== BEGIN a method of a class above, found by the receiver, that may throw (follows va_callVU, va_runU of this kit) ===== -/
section
variable {p : Program} {l : Launch} {e : Env} {R : Room} {s : State} {m : MethodId} {args : Array Value} {below : List Frame} {meth : Method} {c : Code} {H : Heap} {locs : List Loc} {cells slots : Nat}
theorem vx_callVU {T : State} {locs : List Loc} {cells slots : Nat} (X : Stand p l e R s m args below meth c T locs cells slots) (hexec : p.tables.exec = Jvm.exec) {own C owner : String} {index : Nat} {x y : MethodName} {bytes : ByteArray} {maxL : Nat} {ret : Option FieldType}
    (hown : s.vm.findClass own = some m.cls) (hlink : (Cond.methodLink own index x).before args s = true) (hsame : (Cond.sameMethod x.cls owner x.name x.desc).before args s = true)
    (hd0 : va_Decl s ⟨owner, x.name, x.desc⟩) (howner : owner ≠ "java/lang/invoke/MethodHandle" ∧ owner ≠ "java/lang/invoke/VarHandle")
    (hsel : (Cond.selects C x y).before args s = true) (hinst : (Cond.instanceMethod y).before args s = true) (hcode : (Cond.code y bytes maxL ret).before args s = true)
    {W : Nat} {Pre : Pt → Array Value → Prop} {Post : Pt → Array Value → Option Value → Pt → Prop} {PostX : Pt → Array Value → Addr → Pt → Prop} (hK : vx_Back l R p e below s args y 3 W Pre Post PostX)
    {b : Addr} {cellB : Cell} (hcell : T.heap[b]? = some cellB) (hobj : cellB.vm.isStatics = false) (hcls : s.vm.findClass C = some cellB.cls)
    {g : JFrame} (hg : g.method = m) (hsize : g.locals.size = c.maxLocals) {argsL rest : List Value} (hlen : ∀ sig, parseMethodDescriptor x.desc = some sig → argsL.length = sig.parameters.length)
    (hstack : g.stack = argsL.reverse ++ .ref b :: rest) (hW : 2 * g.monitorRoom + (rest.map fun v => v.category).sum ≤ W) (hdg : decode c.code g.pc = .ok (.invokevirtual index, 3))
    (hpre : ∀ vm₁, s.WarmedH vm₁ → Pre ⟨T.setVm vm₁, locs, cells, slots⟩ (Value.ref b :: argsL).toArray) :
    (∃ (v : Option Value) (vm₁ : Vm) (B : Pt), s.WarmedH vm₁ ∧ Stand p l e R s m args below meth c B.U B.locs B.cells B.slots ∧ Post ⟨T.setVm vm₁, locs, cells, slots⟩ (Value.ref b :: argsL).toArray v B ∧
      ∀ target, Steps p.tables e below (B.U.setTop { g with pc := g.pc + 3, stack := v.toList ++ rest }) target → Steps p.tables e below (T.setTop g) target) ∨
    (∃ (q : Addr) (vm₁ : Vm) (B : Pt), s.WarmedH vm₁ ∧ Stand p l e R s m args below meth c B.U B.locs B.cells B.slots ∧ PostX ⟨T.setVm vm₁, locs, cells, slots⟩ (Value.ref b :: argsL).toArray q B ∧
      Steps p.tables e below (T.setTop g) ((B.U.setTop { g with stack := rest }).pushFrame (.throwing q))) := by
  obtain ⟨r0, r, hn, hrm, hstR, hsigR⟩ := hd0
  obtain ⟨cn, ck, r1, hcn, hck, hni, hf, hn1⟩ := Cond.sameMethod_found hsame
  cases hn.symm.trans hn1
  obtain ⟨mk, methM, hnamed, hmethM, -, habM⟩ := Cond.instanceMethod_spec hinst
  obtain ⟨c2, r2, m2, q1, q2, q3, q4, kP, hkP, hkPi⟩ := Cond.selects_spec hsel
  cases hcls.symm.trans q1
  cases hf.symm.trans q2
  cases hnamed.symm.trans q3
  have hselP : selectMethod e.platform s.vm cellB.cls r0 = .method mk := by rw [Launch.admits_selectMethod X.admits]; exact q4
  obtain ⟨vm₁, X₁, hstep₁⟩ := X.invokevirtualUp hexec hown hlink hsame howner hn hrm hstR (a := b) (cell := cellB) hcell
    (fun z h => by rw [h] at hobj; cases hobj) hselP hmethM habM hkP hkPi (g := g) hg (argsL := argsL) (rest := rest) (hlen _ hsigR) hstack hdg
  rcases hK m meth c ⟨T.setVm vm₁, locs, cells, slots⟩ { g with stack := rest } (.invokevirtual index) mk (Value.ref b :: argsL).toArray X₁ hg hsize hdg hW (X₁.named hnamed) (hpre vm₁ X₁.warmed) with ⟨v, B, X', hpost, hsteps⟩ | ⟨q, B, X', hpost, hsteps⟩
  · exact Or.inl ⟨v, vm₁, B, X₁.warmed, X', hpost, fun target h => hstep₁ _ fun acts => by rw [doInvoke_state]; exact hsteps.trans h⟩
  · exact Or.inr ⟨q, vm₁, B, X₁.warmed, X', hpost, hstep₁ _ fun acts => by rw [doInvoke_state]; exact hsteps⟩
theorem vx_runU {x y : MethodName} {bytes cc : ByteArray} {maxL nL mc ms n index : Nat} {ret : Option FieldType} {ws : List Cond} {rm : Room} {Pc : Array Value → State → Prop} {Qc : Array Value → State → Outcome → State → Prop} {XC : String → State → State → Prop} {free : Addr → Prop} {Ts : List Cond} {own C owner : String} {b : Addr} {As rest : List Value} {g : JFrame}
    (S : CallFix p m c cc nL s args Ts own) (hM : vx_Met l y ws rm Pc Qc XC mc ms free) (cw : va_CU R s args own C owner index x y bytes maxL ret ws rm mc ms n) (hp : PreV s H C b Pc As)
    (hg : g.method = m) (hn : As.length = n) (hsize : g.locals.size = nL) (hstack : g.stack = As.reverse ++ .ref b :: rest) (hW : 2 * g.monitorRoom + (rest.map fun v => v.category).sum ≤ 8) (hdg : decode cc g.pc = .ok (.invokevirtual index, 3)) (hf : cells + mc ≤ R.cells ∧ slots + ms ≤ R.slots) :
    vx_Run p l e R s m args below meth c H locs cells slots mc ms g rest (Qc (Value.ref b :: As).toArray) XC free := by
  obtain ⟨hrc, hrs, hfr, hlo, hws, hcw⟩ := cw.back
  have hini := cw.init
  have hK : vx_Back l R p e below s args y 3 8 (PreOf R mc ms Pc) (PostOf Qc mc ms free) (vx_Post XC mc ms free) := vx_back (bytes := bytes) (maxL := maxL) (ret := ret) hM hp.1 hrc hrs hfr hlo hws hcw (fun a' U hW => word_at hW (Or.inl (by first | rfl | simp [Cond.onTables, Cond.keeps, Cond.steady])) hini)
  obtain ⟨hx, hb, hml, ho, -⟩ := S
  obtain ⟨-, ⟨cellB, hcB, hoB, hclB⟩, hPc⟩ := hp
  intro T hT X
  rcases vx_callVU X hx (C := C) (owner := owner) (bytes := bytes) (maxL := maxL) (ret := ret) ho cw.link cw.same cw.decl cw.notMH cw.sel cw.inst cw.code hK (by rw [hT]; exact hcB) hoB hclB hg (hsize.trans hml.symm) (argsL := As) (rest := rest) (fun sig h => hn.trans (cw.len sig h)) hstack hW (by rw [hb]; exact hdg)
    (fun vm₁ hW₁ => ⟨hf.1, hf.2, hPc (T.setVm vm₁) hT hW₁⟩) with ⟨v, vm₁, ⟨U', l2, c2, s2⟩, hW₁, X', ⟨g', mk, t, L, e1, e2, hq, h1, hL, h2, h3⟩, st⟩ | ⟨q, vm₁, ⟨U', l2, c2, s2⟩, hW₁, X', ⟨g', mk, t, L, E, ce, e1, e2, hq, hce, hcv, hcl, h1, hL, h2, h3⟩, st⟩
  · dsimp only [Pt.U, Pt.locs, Pt.cells, Pt.slots] at X' e1 e2 h1 h2 h3 st
    subst h1; subst h2; subst h3
    exact Or.inl ⟨v, (T.setVm vm₁).calling g' mk (Value.ref b :: As).toArray, t, U', L, hT, X', hL, e1, e2, hq, st⟩
  · dsimp only [Pt.U, Pt.locs, Pt.cells, Pt.slots] at X' e1 e2 h1 h2 h3 st hcl
    subst h1; subst h2; subst h3
    exact Or.inr ⟨q, (T.setVm vm₁).calling g' mk (Value.ref b :: As).toArray, t, U', L, E, ce, hT, X', hL, e1, e2, hq, hce, hcv, vx_cls hW₁ hcl, st⟩
end
/-! ===== END ===== -/
/-! ===== BEGIN super.m(..) that may throw (follows va_callSU, va_runSU) ===== -/
section
variable {p : Program} {l : Launch} {e : Env} {R : Room} {s : State} {m : MethodId} {args : Array Value} {below : List Frame} {meth : Method} {c : Code} {H : Heap} {locs : List Loc} {cells slots : Nat}
theorem vx_callSU {T : State} {locs : List Loc} {cells slots : Nat} (X : Stand p l e R s m args below meth c T locs cells slots) (hexec : p.tables.exec = Jvm.exec) {own : String} {index : Nat} {y : MethodName} {bytes : ByteArray} {maxL : Nat} {ret : Option FieldType}
    (hown : s.vm.findClass own = some m.cls) (hlink : (Cond.methodLink own index y).before args s = true) (hsame : (Cond.sameMethod y.cls y.cls y.name y.desc).before args s = true) (hsup : (Cond.superclass own y.cls).before args s = true)
    (hinst : (Cond.instanceMethod y).before args s = true) (hcode : (Cond.code y bytes maxL ret).before args s = true) (hno : y.name ≠ "<init>")
    {W : Nat} {Pre : Pt → Array Value → Prop} {Post : Pt → Array Value → Option Value → Pt → Prop} {PostX : Pt → Array Value → Addr → Pt → Prop} (hK : vx_Back l R p e below s args y 3 W Pre Post PostX)
    {b : Addr} {cellB : Cell} {kB : Class} (hcell : T.heap[b]? = some cellB) (hobj : cellB.vm.isStatics = false) (hkB : s.vm.classes[cellB.cls]? = some kB)
    {g : JFrame} (hg : g.method = m) (hsize : g.locals.size = c.maxLocals) {argsL rest : List Value} (hlen : ∀ sig, parseMethodDescriptor y.desc = some sig → argsL.length = sig.parameters.length)
    (hstack : g.stack = argsL.reverse ++ .ref b :: rest) (hW : 2 * g.monitorRoom + (rest.map fun v => v.category).sum ≤ W) (hdg : decode c.code g.pc = .ok (.invokespecial index, 3))
    (hpre : ∀ vm₁, s.WarmedH vm₁ → Pre ⟨T.setVm vm₁, locs, cells, slots⟩ (Value.ref b :: argsL).toArray) :
    (∃ (v : Option Value) (vm₁ : Vm) (B : Pt), s.WarmedH vm₁ ∧ Stand p l e R s m args below meth c B.U B.locs B.cells B.slots ∧ Post ⟨T.setVm vm₁, locs, cells, slots⟩ (Value.ref b :: argsL).toArray v B ∧
      ∀ target, Steps p.tables e below (B.U.setTop { g with pc := g.pc + 3, stack := v.toList ++ rest }) target → Steps p.tables e below (T.setTop g) target) ∨
    (∃ (q : Addr) (vm₁ : Vm) (B : Pt), s.WarmedH vm₁ ∧ Stand p l e R s m args below meth c B.U B.locs B.cells B.slots ∧ PostX ⟨T.setVm vm₁, locs, cells, slots⟩ (Value.ref b :: argsL).toArray q B ∧
      Steps p.tables e below (T.setTop g) ((B.U.setTop { g with stack := rest }).pushFrame (.throwing q))) := by
  obtain ⟨mk, methM, hnamed, hmethM, hstM, habM⟩ := Cond.instanceMethod_spec hinst
  obtain ⟨methM', cM, hmethM', -, -, -, -, -, -, hsigM⟩ := Cond.code_spec hnamed hcode
  cases hmethM.symm.trans hmethM'
  obtain ⟨ps, dk, kp, hps, hdk, hkp, hsuper, -, -, hnid⟩ := Cond.superclass_spec hown hsup
  have hn : s.methodNamed? ⟨y.cls, y.name, y.desc⟩ = some mk := hnamed
  have hpm : ps = mk.cls := Option.some.inj (hps.symm.trans (findClass_of_methodNamed hnamed))
  have hsub : s.vm.isSubclass ps mk.cls = true := by rw [hpm]; simp [Vm.isSubclass, Vm.isSubclassAux]
  obtain ⟨vm₁, X₁, hstep₁⟩ := X.invokespecialUp hexec hown hlink hsame hn hmethM hstM habM hno hdk hnid hps hsuper hsub (a := b) (cell := cellB) hcell
    (fun z h => by rw [h] at hobj; cases hobj) hkB (g := g) hg (argsL := argsL) (rest := rest) (hlen _ hsigM) hstack hdg
  rcases hK m meth c ⟨T.setVm vm₁, locs, cells, slots⟩ { g with stack := rest } (.invokespecial index) mk (Value.ref b :: argsL).toArray X₁ hg hsize hdg hW (X₁.named hnamed) (hpre vm₁ X₁.warmed) with ⟨v, B, X', hpost, hsteps⟩ | ⟨q, B, X', hpost, hsteps⟩
  · exact Or.inl ⟨v, vm₁, B, X₁.warmed, X', hpost, fun target h => hstep₁ _ (by rw [doInvoke_state]; exact hsteps.trans h)⟩
  · exact Or.inr ⟨q, vm₁, B, X₁.warmed, X', hpost, hstep₁ _ (by rw [doInvoke_state]; exact hsteps)⟩
theorem vx_runSU {y : MethodName} {bytes cc : ByteArray} {maxL nL mc ms n index : Nat} {ret : Option FieldType} {ws : List Cond} {rm : Room} {Pc : Array Value → State → Prop} {Qc : Array Value → State → Outcome → State → Prop} {XC : String → State → State → Prop} {free : Addr → Prop} {Ts : List Cond} {own C : String} {cC : ClassId} {b : Addr} {As rest : List Value} {g : JFrame}
    (hat : ClassAt s C cC) (S : CallFix p m c cc nL s args Ts own) (hM : vx_Met l y ws rm Pc Qc XC mc ms free) (cw : va_CS R s args own index y bytes maxL ret ws rm mc ms n) (hp : PreV s H C b Pc As)
    (hg : g.method = m) (hn : As.length = n) (hsize : g.locals.size = nL) (hstack : g.stack = As.reverse ++ .ref b :: rest) (hW : 2 * g.monitorRoom + (rest.map fun v => v.category).sum ≤ 8) (hdg : decode cc g.pc = .ok (.invokespecial index, 3)) (hf : cells + mc ≤ R.cells ∧ slots + ms ≤ R.slots) :
    vx_Run p l e R s m args below meth c H locs cells slots mc ms g rest (Qc (Value.ref b :: As).toArray) XC free := by
  obtain ⟨⟨hrc, hrs, hfr, hlo, hws, hcw⟩, hl1, hl2, hl3, hl4, hini, hcode, hno, hlen⟩ := cw
  have hK : vx_Back l R p e below s args y 3 8 (PreOf R mc ms Pc) (PostOf Qc mc ms free) (vx_Post XC mc ms free) := vx_back (bytes := bytes) (maxL := maxL) (ret := ret) hM hp.1 hrc hrs hfr hlo hws hcw (fun a' U hW => word_at hW (Or.inl (by first | rfl | simp [Cond.onTables, Cond.keeps, Cond.steady])) hini)
  obtain ⟨hx, hb, hml, ho, -⟩ := S
  obtain ⟨-, ⟨cellB, hcB, hoB, hclB⟩, hPc⟩ := hp
  obtain ⟨hfc, kB, hkB, -⟩ := hat
  cases hfc.symm.trans hclB
  intro T hT X
  rcases vx_callSU X hx (bytes := bytes) (maxL := maxL) (ret := ret) ho hl1 hl2 hl3 hl4 hcode hno hK (by rw [hT]; exact hcB) hoB hkB hg (hsize.trans hml.symm) (argsL := As) (rest := rest) (fun sig h => hn.trans (hlen sig h)) hstack hW (by rw [hb]; exact hdg)
    (fun vm₁ hW₁ => ⟨hf.1, hf.2, hPc (T.setVm vm₁) hT hW₁⟩) with ⟨v, vm₁, ⟨U', l2, c2, s2⟩, hW₁, X', ⟨g', mk, t, L, e1, e2, hq, h1, hL, h2, h3⟩, st⟩ | ⟨q, vm₁, ⟨U', l2, c2, s2⟩, hW₁, X', ⟨g', mk, t, L, E, ce, e1, e2, hq, hce, hcv, hcl, h1, hL, h2, h3⟩, st⟩
  · dsimp only [Pt.U, Pt.locs, Pt.cells, Pt.slots] at X' e1 e2 h1 h2 h3 st
    subst h1; subst h2; subst h3
    exact Or.inl ⟨v, (T.setVm vm₁).calling g' mk (Value.ref b :: As).toArray, t, U', L, hT, X', hL, e1, e2, hq, st⟩
  · dsimp only [Pt.U, Pt.locs, Pt.cells, Pt.slots] at X' e1 e2 h1 h2 h3 st hcl
    subst h1; subst h2; subst h3
    exact Or.inr ⟨q, (T.setVm vm₁).calling g' mk (Value.ref b :: As).toArray, t, U', L, E, ce, hT, X', hL, e1, e2, hq, hce, hcv, vx_cls hW₁ hcl, st⟩
end
/-! ===== END ===== -/
/-! ===== BEGIN a private method of a nest mate that may throw (follows va_callVN, va_callSN, va_runVN, va_runSN) ===== -/
section
variable {p : Program} {l : Launch} {e : Env} {R : Room} {s : State} {m : MethodId} {args : Array Value} {below : List Frame} {meth : Method} {c : Code} {H : Heap} {locs : List Loc} {cells slots : Nat}
variable {T : State}
theorem vx_callVN (X : Stand p l e R s m args below meth c T locs cells slots) (hexec : p.tables.exec = Jvm.exec) {own C : String} {index : Nat} {host : String} {y : MethodName} {bytes : ByteArray} {maxL : Nat} {ret : Option FieldType}
    (hown : s.vm.findClass own = some m.cls) (hlink : (Cond.methodLinkNest own index y host).before args s = true) (hinst : (Cond.instanceMethod y).before args s = true) (hsel : (Cond.selects C y y).before args s = true)
    (hcode : (Cond.code y bytes maxL ret).before args s = true) (hy : y.cls ≠ "java/lang/invoke/MethodHandle" ∧ y.cls ≠ "java/lang/invoke/VarHandle")
    {W : Nat} {Pre : Pt → Array Value → Prop} {Post : Pt → Array Value → Option Value → Pt → Prop} {PostX : Pt → Array Value → Addr → Pt → Prop} (hK : vx_Back l R p e below s args y 3 W Pre Post PostX)
    {b : Addr} {cellB : Cell} (hcell : T.heap[b]? = some cellB) (hobj : cellB.vm.isStatics = false) (hcls : s.vm.findClass C = some cellB.cls)
    {g : JFrame} (hg : g.method = m) (hsize : g.locals.size = c.maxLocals) {argsL rest : List Value} (hlen : ∀ sig, parseMethodDescriptor y.desc = some sig → argsL.length = sig.parameters.length)
    (hstack : g.stack = argsL.reverse ++ .ref b :: rest) (hW : 2 * g.monitorRoom + (rest.map fun v => v.category).sum ≤ W) (hdg : decode c.code g.pc = .ok (.invokevirtual index, 3))
    (hpre : ∀ vm₁, s.WarmedH vm₁ → Pre ⟨T.setVm vm₁, locs, cells, slots⟩ (Value.ref b :: argsL).toArray) :
    (∃ (v : Option Value) (vm₁ : Vm) (B : Pt), s.WarmedH vm₁ ∧ Stand p l e R s m args below meth c B.U B.locs B.cells B.slots ∧ Post ⟨T.setVm vm₁, locs, cells, slots⟩ (Value.ref b :: argsL).toArray v B ∧
      ∀ target, Steps p.tables e below (B.U.setTop { g with pc := g.pc + 3, stack := v.toList ++ rest }) target → Steps p.tables e below (T.setTop g) target) ∨
    (∃ (q : Addr) (vm₁ : Vm) (B : Pt), s.WarmedH vm₁ ∧ Stand p l e R s m args below meth c B.U B.locs B.cells B.slots ∧ PostX ⟨T.setVm vm₁, locs, cells, slots⟩ (Value.ref b :: argsL).toArray q B ∧
      Steps p.tables e below (T.setTop g) ((B.U.setTop { g with stack := rest }).pushFrame (.throwing q))) := by
  obtain ⟨mk, methM, hnamed, hmethM, hstM, habM⟩ := Cond.instanceMethod_spec hinst
  obtain ⟨methM', cM, hmethM', -, -, -, -, -, -, hsigM⟩ := Cond.code_spec hnamed hcode
  cases hmethM.symm.trans hmethM'
  obtain ⟨c2, r2, m2, q1, q2, q3, q4, kP, hkP, hkPi⟩ := Cond.selects_spec hsel
  cases hcls.symm.trans q1
  cases (State.methodFound?_of_named hnamed hy).symm.trans q2
  cases hnamed.symm.trans q3
  have hselP : selectMethod e.platform s.vm cellB.cls mk = .method mk := by rw [Launch.admits_selectMethod X.admits]; exact q4
  obtain ⟨vm₁, X₁, hstep₁⟩ := X.invokevirtualNest hexec hown hlink hnamed hmethM hstM hkP hkPi hy (a := b) (cell := cellB) hcell
    (fun z h => by rw [h] at hobj; cases hobj) hselP hmethM habM hkP hkPi (g := g) hg (argsL := argsL) (rest := rest) (hlen _ hsigM) hstack hdg
  rcases hK m meth c ⟨T.setVm vm₁, locs, cells, slots⟩ { g with stack := rest } (.invokevirtual index) mk (Value.ref b :: argsL).toArray X₁ hg hsize hdg hW (X₁.named hnamed) (hpre vm₁ X₁.warmed) with ⟨v, B, X', hpost, hsteps⟩ | ⟨q, B, X', hpost, hsteps⟩
  · exact Or.inl ⟨v, vm₁, B, X₁.warmed, X', hpost, fun target h => hstep₁ _ fun acts => by rw [doInvoke_state]; exact hsteps.trans h⟩
  · exact Or.inr ⟨q, vm₁, B, X₁.warmed, X', hpost, hstep₁ _ fun acts => by rw [doInvoke_state]; exact hsteps⟩
theorem vx_callSN (X : Stand p l e R s m args below meth c T locs cells slots) (hexec : p.tables.exec = Jvm.exec) {own : String} {index : Nat} {host : String} {y : MethodName} {bytes : ByteArray} {maxL : Nat} {ret : Option FieldType}
    (hown : s.vm.findClass own = some m.cls) (hlink : (Cond.methodLinkNest own index y host).before args s = true) (hstat : (Cond.static y).before args s = true) (hinit : (Cond.initialized y.cls).before args s = true)
    (hcode : (Cond.code y bytes maxL ret).before args s = true) (hy : y.cls ≠ "java/lang/invoke/MethodHandle" ∧ y.cls ≠ "java/lang/invoke/VarHandle")
    {W : Nat} {Pre : Pt → Array Value → Prop} {Post : Pt → Array Value → Option Value → Pt → Prop} {PostX : Pt → Array Value → Addr → Pt → Prop} (hK : vx_Back l R p e below s args y 3 W Pre Post PostX)
    {g : JFrame} (hg : g.method = m) (hsize : g.locals.size = c.maxLocals) {argsL rest : List Value} (hlen : ∀ sig, parseMethodDescriptor y.desc = some sig → argsL.length = sig.parameters.length)
    (hstack : g.stack = argsL.reverse ++ rest) (hW : 2 * g.monitorRoom + (rest.map fun v => v.category).sum ≤ W) (hdg : decode c.code g.pc = .ok (.invokestatic index, 3))
    (hpre : ∀ vm₁, s.WarmedH vm₁ → Pre ⟨T.setVm vm₁, locs, cells, slots⟩ argsL.toArray) :
    (∃ (v : Option Value) (vm₁ : Vm) (B : Pt), s.WarmedH vm₁ ∧ Stand p l e R s m args below meth c B.U B.locs B.cells B.slots ∧ Post ⟨T.setVm vm₁, locs, cells, slots⟩ argsL.toArray v B ∧
      ∀ target, Steps p.tables e below (B.U.setTop { g with pc := g.pc + 3, stack := v.toList ++ rest }) target → Steps p.tables e below (T.setTop g) target) ∨
    (∃ (q : Addr) (vm₁ : Vm) (B : Pt), s.WarmedH vm₁ ∧ Stand p l e R s m args below meth c B.U B.locs B.cells B.slots ∧ PostX ⟨T.setVm vm₁, locs, cells, slots⟩ argsL.toArray q B ∧
      Steps p.tables e below (T.setTop g) ((B.U.setTop { g with stack := rest }).pushFrame (.throwing q))) := by
  obtain ⟨mk, hnamed⟩ := Cond.code_named hcode
  obtain ⟨methM, cM, hmethM, -, -, -, -, -, -, hsigM⟩ := Cond.code_spec hnamed hcode
  have hstatic : methM.isStatic = true := Cond.static_spec hnamed hmethM hstat
  obtain ⟨kP, hkP, -⟩ := className_of_methodNamed hnamed
  have hinitP : kP.init = .initialized := Cond.initialized_spec (findClass_of_methodNamed hnamed) hkP hinit
  obtain ⟨vm₁, X₁, hstep₁⟩ := X.invokestaticNest hexec hown hlink hnamed hmethM hstatic hkP hinitP hy (g := g) hg (argsL := argsL) (rest := rest) (hlen _ hsigM) hstack hdg
  rcases hK m meth c ⟨T.setVm vm₁, locs, cells, slots⟩ { g with stack := rest } (.invokestatic index) mk argsL.toArray X₁ hg hsize hdg hW (X₁.named hnamed) (hpre vm₁ X₁.warmed) with ⟨v, B, X', hpost, hsteps⟩ | ⟨q, B, X', hpost, hsteps⟩
  · exact Or.inl ⟨v, vm₁, B, X₁.warmed, X', hpost, fun target h => hstep₁ _ fun acts => by rw [doInvoke_state]; exact hsteps.trans h⟩
  · exact Or.inr ⟨q, vm₁, B, X₁.warmed, X', hpost, hstep₁ _ fun acts => by rw [doInvoke_state]; exact hsteps⟩
theorem vx_runVN {y : MethodName} {bytes cc : ByteArray} {maxL nL mc ms n index : Nat} {ret : Option FieldType} {ws : List Cond} {rm : Room} {Pc : Array Value → State → Prop} {Qc : Array Value → State → Outcome → State → Prop} {XC : String → State → State → Prop} {free : Addr → Prop} {Ts : List Cond} {own C host : String} {b : Addr} {As rest : List Value} {g : JFrame}
    (S : CallFix p m c cc nL s args Ts own) (hM : vx_Met l y ws rm Pc Qc XC mc ms free) (cw : va_CN R s args own index y host bytes maxL ret ws rm mc ms n ∧ (Cond.instanceMethod y).before args s = true ∧ (Cond.selects C y y).before args s = true) (hp : PreV s H C b Pc As)
    (hg : g.method = m) (hn : As.length = n) (hsize : g.locals.size = nL) (hstack : g.stack = As.reverse ++ .ref b :: rest) (hW : 2 * g.monitorRoom + (rest.map fun v => v.category).sum ≤ 8) (hdg : decode cc g.pc = .ok (.invokevirtual index, 3)) (hf : cells + mc ≤ R.cells ∧ slots + ms ≤ R.slots) :
    vx_Run p l e R s m args below meth c H locs cells slots mc ms g rest (Qc (Value.ref b :: As).toArray) XC free := by
  obtain ⟨⟨⟨hrc, hrs, hfr, hlo, hws, hcw⟩, hcode, hini, hy, hlen, hl⟩, hx1, hx2⟩ := cw
  have hK : vx_Back l R p e below s args y 3 8 (PreOf R mc ms Pc) (PostOf Qc mc ms free) (vx_Post XC mc ms free) := vx_back (bytes := bytes) (maxL := maxL) (ret := ret) hM hp.1 hrc hrs hfr hlo hws hcw (fun a' U hW => word_at hW (Or.inl (by first | rfl | simp [Cond.onTables, Cond.keeps, Cond.steady])) hini)
  obtain ⟨hx, hb, hml, ho, -⟩ := S
  obtain ⟨-, ⟨cellB, hcB, hoB, hclB⟩, hPc⟩ := hp
  intro T hT X
  rcases vx_callVN X hx (C := C) (bytes := bytes) (maxL := maxL) (ret := ret) ho hl hx1 hx2 hcode hy hK (by rw [hT]; exact hcB) hoB hclB hg (hsize.trans hml.symm) (argsL := As) (rest := rest) (fun sig h => hn.trans (hlen sig h)) hstack hW (by rw [hb]; exact hdg)
    (fun vm₁ hW₁ => ⟨hf.1, hf.2, hPc (T.setVm vm₁) hT hW₁⟩) with ⟨v, vm₁, ⟨U', l2, c2, s2⟩, hW₁, X', ⟨g', mk, t, L, e1, e2, hq, h1, hL, h2, h3⟩, st⟩ | ⟨q, vm₁, ⟨U', l2, c2, s2⟩, hW₁, X', ⟨g', mk, t, L, E, ce, e1, e2, hq, hce, hcv, hcl, h1, hL, h2, h3⟩, st⟩
  · dsimp only [Pt.U, Pt.locs, Pt.cells, Pt.slots] at X' e1 e2 h1 h2 h3 st
    subst h1; subst h2; subst h3
    exact Or.inl ⟨v, (T.setVm vm₁).calling g' mk (Value.ref b :: As).toArray, t, U', L, hT, X', hL, e1, e2, hq, st⟩
  · dsimp only [Pt.U, Pt.locs, Pt.cells, Pt.slots] at X' e1 e2 h1 h2 h3 st hcl
    subst h1; subst h2; subst h3
    exact Or.inr ⟨q, (T.setVm vm₁).calling g' mk (Value.ref b :: As).toArray, t, U', L, E, ce, hT, X', hL, e1, e2, hq, hce, hcv, vx_cls hW₁ hcl, st⟩
theorem vx_runSN {y : MethodName} {bytes cc : ByteArray} {maxL nL mc ms n index : Nat} {ret : Option FieldType} {ws : List Cond} {rm : Room} {Pc : Array Value → State → Prop} {Qc : Array Value → State → Outcome → State → Prop} {XC : String → State → State → Prop} {free : Addr → Prop} {Ts : List Cond} {own host : String} {As rest : List Value} {g : JFrame}
    (S : CallFix p m c cc nL s args Ts own) (hM : vx_Met l y ws rm Pc Qc XC mc ms free) (cw : va_CN R s args own index y host bytes maxL ret ws rm mc ms n ∧ (Cond.static y).before args s = true ∧ True) (hp : PreS s H Pc As)
    (hg : g.method = m) (hn : As.length = n) (hsize : g.locals.size = nL) (hstack : g.stack = As.reverse ++ rest) (hW : 2 * g.monitorRoom + (rest.map fun v => v.category).sum ≤ 8) (hdg : decode cc g.pc = .ok (.invokestatic index, 3)) (hf : cells + mc ≤ R.cells ∧ slots + ms ≤ R.slots) :
    vx_Run p l e R s m args below meth c H locs cells slots mc ms g rest (Qc As.toArray) XC free := by
  obtain ⟨⟨⟨hrc, hrs, hfr, hlo, hws, hcw⟩, hcode, hini, hy, hlen, hl⟩, hx1, hx2⟩ := cw
  have hK : vx_Back l R p e below s args y 3 8 (PreOf R mc ms Pc) (PostOf Qc mc ms free) (vx_Post XC mc ms free) := vx_back (bytes := bytes) (maxL := maxL) (ret := ret) hM hp.1 hrc hrs hfr hlo hws hcw (fun a' U hW => word_at hW (Or.inl (by first | rfl | simp [Cond.onTables, Cond.keeps, Cond.steady])) hini)
  obtain ⟨hx, hb, hml, ho, -⟩ := S
  have hPc := hp.2
  intro T hT X
  rcases vx_callSN X hx (bytes := bytes) (maxL := maxL) (ret := ret) ho hl hx1 hini hcode hy hK hg (hsize.trans hml.symm) (argsL := As) (rest := rest) (fun sig h => hn.trans (hlen sig h)) hstack hW (by rw [hb]; exact hdg)
    (fun vm₁ hW₁ => ⟨hf.1, hf.2, hPc (T.setVm vm₁) hT hW₁⟩) with ⟨v, vm₁, ⟨U', l2, c2, s2⟩, hW₁, X', ⟨g', mk, t, L, e1, e2, hq, h1, hL, h2, h3⟩, st⟩ | ⟨q, vm₁, ⟨U', l2, c2, s2⟩, hW₁, X', ⟨g', mk, t, L, E, ce, e1, e2, hq, hce, hcv, hcl, h1, hL, h2, h3⟩, st⟩
  · dsimp only [Pt.U, Pt.locs, Pt.cells, Pt.slots] at X' e1 e2 h1 h2 h3 st
    subst h1; subst h2; subst h3
    exact Or.inl ⟨v, (T.setVm vm₁).calling g' mk As.toArray, t, U', L, hT, X', hL, e1, e2, hq, st⟩
  · dsimp only [Pt.U, Pt.locs, Pt.cells, Pt.slots] at X' e1 e2 h1 h2 h3 st hcl
    subst h1; subst h2; subst h3
    exact Or.inr ⟨q, (T.setVm vm₁).calling g' mk As.toArray, t, U', L, E, ce, hT, X', hL, e1, e2, hq, hce, hcv, vx_cls hW₁ hcl, st⟩
end
/-! ===== END ===== -/
/-! ===== BEGIN calls by an interface of methods that may throw (vx_callIF, vx_runF follow va_callIF, va_runF of this kit) ===== -/
section
variable {p : Program} {l : Launch} {e : Env} {R : Room} {s : State} {m : MethodId} {args : Array Value} {below : List Frame} {meth : Method} {c : Code} {H : Heap} {locs : List Loc} {cells slots : Nat} {Q : State → Prop}
variable {mc ms : Nat} {free : Addr → Prop} {A0 A1 : Nat → Prop} {H0 : Heap} {a : Array Value} {pc : Nat} {ls : Array Slot} {st0 rest : List Value}
def vx_Run5 (p : Program) (l : Launch) (e : Env) (R : Room) (s : State) (m : MethodId) (args : Array Value) (below : List Frame) (meth : Method) (c : Code) (H : Heap) (locs : List Loc) (cells slots mc ms : Nat) (g : JFrame) (rest : List Value) (Qa : State → Outcome → State → Prop) (XC : String → State → State → Prop) (free : Addr → Prop) : Prop :=
  ∀ T : State, T.heap = H → Stand p l e R s m args below meth c T locs cells slots →
    (∃ (v : Option Value) (st₀ t T' : State) (L : List Loc), st₀.heap = H ∧ Stand p l e R s m args below meth c T' (locs ++ L) (cells + mc) (slots + ms) ∧ (∀ q ∈ L, free q.base) ∧ T'.heap = t.heap ∧ T'.vm = t.vm ∧ Qa st₀ (.returned v) t ∧
      Goes p e below T g T' { g with pc := g.pc + 5, stack := v.toList ++ rest }) ∨
    (∃ (q : Addr) (st₀ t T' : State) (L : List Loc) (E : String) (ce : Cell), st₀.heap = H ∧ Stand p l e R s m args below meth c T' (locs ++ L) (cells + mc) (slots + ms) ∧ (∀ z ∈ L, free z.base) ∧ T'.heap = t.heap ∧ T'.vm = t.vm ∧ XC E st₀ t ∧ t.heap[q]? = some ce ∧ ce.vm = .none ∧ s.vm.findClass E = some ce.cls ∧
      Steps p.tables e below (T.setTop g) ((T'.setTop { g with stack := rest }).pushFrame (.throwing q)))
theorem vx_callIF {T : State} (X : Stand p l e R s m args below meth c T locs cells slots) (hexec : p.tables.exec = Jvm.exec) {own C : String} {index count : Nat} {x y : MethodName} {bytes : ByteArray} {maxL : Nat} {ret : Option FieldType}
    (hown : s.vm.findClass own = some m.cls) (hlink : (Cond.methodLink own index x).before args s = true) (hdecl : (Cond.declares x).before args s = true) (hface : (Cond.interfaceMethod x.cls x.cls x.name x.desc).before args s = true)
    (hsel : (Cond.selects C x y).before args s = true) (hinst : (Cond.instanceMethod y).before args s = true) (hpub : (Cond.publicMethod y).before args s = true) (hunh : (Cond.unhidden C x.name x.desc).before args s = true)
    (hcast : (Cond.castable C x.cls).before args s = true) (hcode : (Cond.code y bytes maxL ret).before args s = true) (hx : x.cls ≠ "java/lang/invoke/MethodHandle" ∧ x.cls ≠ "java/lang/invoke/VarHandle")
    {W9 : Nat} {Pre : Pt → Array Value → Prop} {Post : Pt → Array Value → Option Value → Pt → Prop} {PostX : Pt → Array Value → Addr → Pt → Prop} (hK : vx_Back l R p e below s args y 5 W9 Pre Post PostX)
    {b : Addr} {cellB : Cell} {kB : Class} (hcell : T.heap[b]? = some cellB) (hobj : cellB.vm.isStatics = false) (hcls : s.vm.findClass C = some cellB.cls) (hkB : s.vm.classes[cellB.cls]? = some kB)
    {g : JFrame} (hg : g.method = m) (hsize : g.locals.size = c.maxLocals) {argsL rest : List Value} (hlen : ∀ sig, parseMethodDescriptor x.desc = some sig → argsL.length = sig.parameters.length)
    (hstack : g.stack = argsL.reverse ++ .ref b :: rest) (hW : 2 * g.monitorRoom + (rest.map fun v => v.category).sum ≤ W9) (hdg : decode c.code g.pc = .ok (.invokeinterface index count, 5))
    (hpre : ∀ vm₁, s.WarmedH vm₁ → Pre ⟨T.setVm vm₁, locs, cells, slots⟩ (Value.ref b :: argsL).toArray) :
    (∃ (v : Option Value) (vm₁ : Vm) (B : Pt), s.WarmedH vm₁ ∧ Stand p l e R s m args below meth c B.U B.locs B.cells B.slots ∧ Post ⟨T.setVm vm₁, locs, cells, slots⟩ (Value.ref b :: argsL).toArray v B ∧
      ∀ target, Steps p.tables e below (B.U.setTop { g with pc := g.pc + 5, stack := v.toList ++ rest }) target → Steps p.tables e below (T.setTop g) target) ∨
    (∃ (q : Addr) (vm₁ : Vm) (B : Pt), s.WarmedH vm₁ ∧ Stand p l e R s m args below meth c B.U B.locs B.cells B.slots ∧ PostX ⟨T.setVm vm₁, locs, cells, slots⟩ (Value.ref b :: argsL).toArray q B ∧
      Steps p.tables e below (T.setTop g) ((B.U.setTop { g with stack := rest }).pushFrame (.throwing q))) := by
  obtain ⟨r0, r, hn, hrm, hstR, hsigR⟩ := Cond.declares_spec hdecl
  obtain ⟨cL, kL, r1, hcL, hkL, hiL, hfoundL, hn1⟩ := Cond.interfaceMethod_spec hface
  cases hn.symm.trans hn1
  have hr0cls : r0.cls = cL := Option.some.inj ((findClass_of_methodNamed hn).symm.trans hcL)
  obtain ⟨hnameR, hdescR⟩ := name_of_methodNamed hn hrm
  obtain ⟨mk, methM, hnamed, hmethM, -, habM⟩ := Cond.instanceMethod_spec hinst
  obtain ⟨c2, r2, m2, q1, q2, q3, q4, -⟩ := Cond.selects_spec hsel
  cases hcls.symm.trans q1
  cases hfoundL.symm.trans q2
  cases hnamed.symm.trans q3
  have hselP : selectMethod e.platform s.vm cellB.cls r0 = .method mk := by rw [Launch.admits_selectMethod X.admits]; exact q4
  have hpubM : hasFlag methM.accessFlags Acc.public_ = true := Cond.publicMethod_spec hnamed hmethM hpub
  have hway : ((cellB.cls :: s.vm.superclasses cellB.cls).any fun k => (declaredIn s.vm r.name r.desc k).any fun (_, z) => z.isPrivate || z.isStatic) = false := by
    rw [hnameR, hdescR]; exact Cond.unhidden_spec hcls hunh
  obtain ⟨c3, t3, w1, w2, w3⟩ := Cond.castable_spec hcast
  cases hcls.symm.trans w1
  cases hcL.symm.trans w2
  obtain ⟨vm₁, X₁, hstep₁⟩ := X.invokeinterface hexec hown hlink hn hrm hstR (by rw [hr0cls]; exact hkL) hiL hx (a := b) (cell := cellB) (kcell := kB) hcell
    (fun z h => by rw [h] at hobj; cases hobj) hkB (by rw [hr0cls]; exact w3) hselP hmethM hway hpubM habM (g := g) hg (argsL := argsL) (rest := rest) (hlen _ hsigR) hstack hdg
  rcases hK m meth c ⟨T.setVm vm₁, locs, cells, slots⟩ { g with stack := rest } (.invokeinterface index count) mk (Value.ref b :: argsL).toArray X₁ hg hsize hdg hW (X₁.named hnamed) (hpre vm₁ X₁.warmed) with ⟨v, B, X', hpost, hsteps⟩ | ⟨q, B, X', hpost, hsteps⟩
  · exact Or.inl ⟨v, vm₁, B, X₁.warmed, X', hpost, fun target h => hstep₁ _ fun acts => by rw [doInvoke_state]; exact hsteps.trans h⟩
  · exact Or.inr ⟨q, vm₁, B, X₁.warmed, X', hpost, hstep₁ _ fun acts => by rw [doInvoke_state]; exact hsteps⟩
theorem vx_runF {x y : MethodName} {bytes cc : ByteArray} {maxL nL mc ms n index count : Nat} {ret : Option FieldType} {ws : List Cond} {rm : Room} {Pc : Array Value → State → Prop} {Qc : Array Value → State → Outcome → State → Prop} {XC : String → State → State → Prop} {free : Addr → Prop} {Ts : List Cond} {own C : String} {cC : ClassId} {b : Addr} {As rest : List Value} {g : JFrame}
    (hat : ClassAt s C cC) (S : CallFix p m c cc nL s args Ts own) (hM : vx_Met l y ws rm Pc Qc XC mc ms free) (cw : va_CI R s args own C index x y bytes maxL ret ws rm mc ms n) (hp : PreV s H C b Pc As)
    (hg : g.method = m) (hn : As.length = n) (hsize : g.locals.size = nL) (hstack : g.stack = As.reverse ++ .ref b :: rest) (hW : 2 * g.monitorRoom + (rest.map fun v => v.category).sum ≤ 8) (hdg : decode cc g.pc = .ok (.invokeinterface index count, 5)) (hf : cells + mc ≤ R.cells ∧ slots + ms ≤ R.slots) :
    vx_Run5 p l e R s m args below meth c H locs cells slots mc ms g rest (Qc (Value.ref b :: As).toArray) XC free := by
  obtain ⟨hrc, hrs, hfr, hlo, hws, hcw⟩ := cw.back
  have hini := cw.init
  have hK : vx_Back l R p e below s args y 5 8 (PreOf R mc ms Pc) (PostOf Qc mc ms free) (vx_Post XC mc ms free) := vx_back (bytes := bytes) (maxL := maxL) (ret := ret) hM hp.1 hrc hrs hfr hlo hws hcw (fun a' U hW => word_at hW (Or.inl (by first | rfl | simp [Cond.onTables, Cond.keeps, Cond.steady])) hini)
  obtain ⟨hx, hb, hml, ho, -⟩ := S
  obtain ⟨-, ⟨cellB, hcB, hoB, hclB⟩, hPc⟩ := hp
  obtain ⟨hfc, kB, hkB, -⟩ := hat
  cases hfc.symm.trans hclB
  intro T hT X
  rcases vx_callIF X hx (C := C) (bytes := bytes) (maxL := maxL) (ret := ret) ho cw.link cw.decl cw.face cw.sel cw.inst cw.pub cw.unh cw.cast cw.code cw.notMH hK (by rw [hT]; exact hcB) hoB hclB hkB hg (hsize.trans hml.symm) (argsL := As) (rest := rest) (fun sig h => hn.trans (cw.len sig h)) hstack hW (by rw [hb]; exact hdg)
    (fun vm₁ hW₁ => ⟨hf.1, hf.2, hPc (T.setVm vm₁) hT hW₁⟩) with ⟨v, vm₁, ⟨U', l2, c2, s2⟩, hW₁, X', ⟨g', mk, t, L, e1, e2, hq, h1, hL, h2, h3⟩, st⟩ | ⟨q, vm₁, ⟨U', l2, c2, s2⟩, hW₁, X', ⟨g', mk, t, L, E, ce, e1, e2, hq, hce, hcv, hcl, h1, hL, h2, h3⟩, st⟩
  · dsimp only [Pt.U, Pt.locs, Pt.cells, Pt.slots] at X' e1 e2 h1 h2 h3 st
    subst h1; subst h2; subst h3
    exact Or.inl ⟨v, (T.setVm vm₁).calling g' mk (Value.ref b :: As).toArray, t, U', L, hT, X', hL, e1, e2, hq, st⟩
  · dsimp only [Pt.U, Pt.locs, Pt.cells, Pt.slots] at X' e1 e2 h1 h2 h3 st hcl
    subst h1; subst h2; subst h3
    exact Or.inr ⟨q, (T.setVm vm₁).calling g' mk (Value.ref b :: As).toArray, t, U', L, E, ce, hT, X', hL, e1, e2, hq, hce, hcv, vx_cls hW₁ hcl, st⟩
theorem vx_callFv {S SX : Type} {post : S → Prop} {px : SX → Prop} {B : S → State → Prop} {BX : String → SX → State → Prop} {AX : Nat → Prop} (hr : vx_Run5 p l e R s m args below meth c H locs cells slots mc ms (F0 m pc ls st0) rest (va_Qv post B A1 a) (vx_X px BX AX) free) (hS : va_S A0 H0 H locs) (hA : ∀ q, q < H.size → A1 q → A0 q) (hf : ∀ q, free q → A0 q) (hAX : ∀ q, q < H.size → AX q → A0 q)
    (kx : ∀ (E : String) (ce : Cell) (q9 : Addr) (u : SX) (t : State) (H1 : Heap) (locs1 : List Loc), t.heap = H1 → s.vm.Alike t.vm → px u → BX E u t → H.size ≤ H1.size → (∀ q : Nat, q < H.size → ¬ AX q → H1[q]? = H[q]?) → va_S A0 H0 H1 locs1 → H1[q9]? = some ce → ce.vm = .none → s.vm.findClass E = some ce.cls → vx_W p l e R s m args below meth c H1 locs1 (cells + mc) (slots + ms) Q (F0 m pc ls rest) q9)
    (kk : ∀ (u : S) (t : State) (H1 : Heap) (locs1 : List Loc), t.heap = H1 → s.vm.Alike t.vm → post u → B u t → H.size ≤ H1.size → (∀ q : Nat, q < H.size → ¬ A1 q → H1[q]? = H[q]?) → va_S A0 H0 H1 locs1 → W p l e R s m args below meth c H1 locs1 (cells + mc) (slots + ms) Q (F0 m (pc + 5) ls (rest))) : W p l e R s m args below meth c H locs cells slots Q (F0 m pc ls st0) := by
  intro T hT X
  rcases hr T hT X with ⟨v, st₀, t, T', L, h0, X', hL, e1, e2, ⟨⟨u, hv, hp, hb⟩, hF⟩, st⟩ | ⟨q, st₀, t, T', L, E, ce, h0, X', hL, e1, e2, ⟨u, hp, hb, hF⟩, hce, hcv, hcl, st⟩
  · cases hv
    obtain ⟨k1, k2, k3⟩ := vx_keep h0 e1 hS hA hf hL hF
    obtain ⟨t2, a1, b1⟩ := kk u t T'.heap (locs ++ L) e1.symm (by rw [← e2]; exact X'.warmed.alike) hp hb k1 k2 k3 T' rfl X'
    exact ⟨t2, st t2 a1, b1⟩
  · obtain ⟨k1, k2, k3⟩ := vx_keep h0 e1 hS hAX hf hL hF
    obtain ⟨t2, a1, b1⟩ := kx E ce q u t T'.heap (locs ++ L) e1.symm (by rw [← e2]; exact X'.warmed.alike) hp hb k1 k2 k3 (by rw [e1]; exact hce) hcv hcl T' rfl X'
    exact ⟨t2, st.trans a1, b1⟩
theorem vx_callFi {S SX : Type} {post : Int32 → S → Prop} {px : SX → Prop} {B : S → State → Prop} {BX : String → SX → State → Prop} {AX : Nat → Prop} (hr : vx_Run5 p l e R s m args below meth c H locs cells slots mc ms (F0 m pc ls st0) rest (va_Qi post B A1 a) (vx_X px BX AX) free) (hS : va_S A0 H0 H locs) (hA : ∀ q, q < H.size → A1 q → A0 q) (hf : ∀ q, free q → A0 q) (hAX : ∀ q, q < H.size → AX q → A0 q)
    (kx : ∀ (E : String) (ce : Cell) (q9 : Addr) (u : SX) (t : State) (H1 : Heap) (locs1 : List Loc), t.heap = H1 → s.vm.Alike t.vm → px u → BX E u t → H.size ≤ H1.size → (∀ q : Nat, q < H.size → ¬ AX q → H1[q]? = H[q]?) → va_S A0 H0 H1 locs1 → H1[q9]? = some ce → ce.vm = .none → s.vm.findClass E = some ce.cls → vx_W p l e R s m args below meth c H1 locs1 (cells + mc) (slots + ms) Q (F0 m pc ls rest) q9)
    (kk : ∀ (r : Int32) (u : S) (t : State) (H1 : Heap) (locs1 : List Loc), t.heap = H1 → s.vm.Alike t.vm → post r u → B u t → H.size ≤ H1.size → (∀ q : Nat, q < H.size → ¬ A1 q → H1[q]? = H[q]?) → va_S A0 H0 H1 locs1 → W p l e R s m args below meth c H1 locs1 (cells + mc) (slots + ms) Q (F0 m (pc + 5) ls (.int r :: rest))) : W p l e R s m args below meth c H locs cells slots Q (F0 m pc ls st0) := by
  intro T hT X
  rcases hr T hT X with ⟨v, st₀, t, T', L, h0, X', hL, e1, e2, ⟨⟨r, u, hv, hp, hb⟩, hF⟩, st⟩ | ⟨q, st₀, t, T', L, E, ce, h0, X', hL, e1, e2, ⟨u, hp, hb, hF⟩, hce, hcv, hcl, st⟩
  · cases hv
    obtain ⟨k1, k2, k3⟩ := vx_keep h0 e1 hS hA hf hL hF
    obtain ⟨t2, a1, b1⟩ := kk r u t T'.heap (locs ++ L) e1.symm (by rw [← e2]; exact X'.warmed.alike) hp hb k1 k2 k3 T' rfl X'
    exact ⟨t2, st t2 a1, b1⟩
  · obtain ⟨k1, k2, k3⟩ := vx_keep h0 e1 hS hAX hf hL hF
    obtain ⟨t2, a1, b1⟩ := kx E ce q u t T'.heap (locs ++ L) e1.symm (by rw [← e2]; exact X'.warmed.alike) hp hb k1 k2 k3 (by rw [e1]; exact hce) hcv hcl T' rfl X'
    exact ⟨t2, st.trans a1, b1⟩
theorem vx_callFl {S SX : Type} {post : Int64 → S → Prop} {px : SX → Prop} {B : S → State → Prop} {BX : String → SX → State → Prop} {AX : Nat → Prop} (hr : vx_Run5 p l e R s m args below meth c H locs cells slots mc ms (F0 m pc ls st0) rest (va_Ql post B A1 a) (vx_X px BX AX) free) (hS : va_S A0 H0 H locs) (hA : ∀ q, q < H.size → A1 q → A0 q) (hf : ∀ q, free q → A0 q) (hAX : ∀ q, q < H.size → AX q → A0 q)
    (kx : ∀ (E : String) (ce : Cell) (q9 : Addr) (u : SX) (t : State) (H1 : Heap) (locs1 : List Loc), t.heap = H1 → s.vm.Alike t.vm → px u → BX E u t → H.size ≤ H1.size → (∀ q : Nat, q < H.size → ¬ AX q → H1[q]? = H[q]?) → va_S A0 H0 H1 locs1 → H1[q9]? = some ce → ce.vm = .none → s.vm.findClass E = some ce.cls → vx_W p l e R s m args below meth c H1 locs1 (cells + mc) (slots + ms) Q (F0 m pc ls rest) q9)
    (kk : ∀ (r : Int64) (u : S) (t : State) (H1 : Heap) (locs1 : List Loc), t.heap = H1 → s.vm.Alike t.vm → post r u → B u t → H.size ≤ H1.size → (∀ q : Nat, q < H.size → ¬ A1 q → H1[q]? = H[q]?) → va_S A0 H0 H1 locs1 → W p l e R s m args below meth c H1 locs1 (cells + mc) (slots + ms) Q (F0 m (pc + 5) ls (.long r :: rest))) : W p l e R s m args below meth c H locs cells slots Q (F0 m pc ls st0) := by
  intro T hT X
  rcases hr T hT X with ⟨v, st₀, t, T', L, h0, X', hL, e1, e2, ⟨⟨r, u, hv, hp, hb⟩, hF⟩, st⟩ | ⟨q, st₀, t, T', L, E, ce, h0, X', hL, e1, e2, ⟨u, hp, hb, hF⟩, hce, hcv, hcl, st⟩
  · cases hv
    obtain ⟨k1, k2, k3⟩ := vx_keep h0 e1 hS hA hf hL hF
    obtain ⟨t2, a1, b1⟩ := kk r u t T'.heap (locs ++ L) e1.symm (by rw [← e2]; exact X'.warmed.alike) hp hb k1 k2 k3 T' rfl X'
    exact ⟨t2, st t2 a1, b1⟩
  · obtain ⟨k1, k2, k3⟩ := vx_keep h0 e1 hS hAX hf hL hF
    obtain ⟨t2, a1, b1⟩ := kx E ce q u t T'.heap (locs ++ L) e1.symm (by rw [← e2]; exact X'.warmed.alike) hp hb k1 k2 k3 (by rw [e1]; exact hce) hcv hcl T' rfl X'
    exact ⟨t2, st.trans a1, b1⟩
theorem vx_callFf {S SX : Type} {post : UInt32 → S → Prop} {px : SX → Prop} {B : S → State → Prop} {BX : String → SX → State → Prop} {AX : Nat → Prop} (hr : vx_Run5 p l e R s m args below meth c H locs cells slots mc ms (F0 m pc ls st0) rest (va_Qf post B A1 a) (vx_X px BX AX) free) (hS : va_S A0 H0 H locs) (hA : ∀ q, q < H.size → A1 q → A0 q) (hf : ∀ q, free q → A0 q) (hAX : ∀ q, q < H.size → AX q → A0 q)
    (kx : ∀ (E : String) (ce : Cell) (q9 : Addr) (u : SX) (t : State) (H1 : Heap) (locs1 : List Loc), t.heap = H1 → s.vm.Alike t.vm → px u → BX E u t → H.size ≤ H1.size → (∀ q : Nat, q < H.size → ¬ AX q → H1[q]? = H[q]?) → va_S A0 H0 H1 locs1 → H1[q9]? = some ce → ce.vm = .none → s.vm.findClass E = some ce.cls → vx_W p l e R s m args below meth c H1 locs1 (cells + mc) (slots + ms) Q (F0 m pc ls rest) q9)
    (kk : ∀ (r : UInt32) (u : S) (t : State) (H1 : Heap) (locs1 : List Loc), t.heap = H1 → s.vm.Alike t.vm → post r u → B u t → H.size ≤ H1.size → (∀ q : Nat, q < H.size → ¬ A1 q → H1[q]? = H[q]?) → va_S A0 H0 H1 locs1 → W p l e R s m args below meth c H1 locs1 (cells + mc) (slots + ms) Q (F0 m (pc + 5) ls (.float r :: rest))) : W p l e R s m args below meth c H locs cells slots Q (F0 m pc ls st0) := by
  intro T hT X
  rcases hr T hT X with ⟨v, st₀, t, T', L, h0, X', hL, e1, e2, ⟨⟨r, u, hv, hp, hb⟩, hF⟩, st⟩ | ⟨q, st₀, t, T', L, E, ce, h0, X', hL, e1, e2, ⟨u, hp, hb, hF⟩, hce, hcv, hcl, st⟩
  · cases hv
    obtain ⟨k1, k2, k3⟩ := vx_keep h0 e1 hS hA hf hL hF
    obtain ⟨t2, a1, b1⟩ := kk r u t T'.heap (locs ++ L) e1.symm (by rw [← e2]; exact X'.warmed.alike) hp hb k1 k2 k3 T' rfl X'
    exact ⟨t2, st t2 a1, b1⟩
  · obtain ⟨k1, k2, k3⟩ := vx_keep h0 e1 hS hAX hf hL hF
    obtain ⟨t2, a1, b1⟩ := kx E ce q u t T'.heap (locs ++ L) e1.symm (by rw [← e2]; exact X'.warmed.alike) hp hb k1 k2 k3 (by rw [e1]; exact hce) hcv hcl T' rfl X'
    exact ⟨t2, st.trans a1, b1⟩
theorem vx_callFd {S SX : Type} {post : UInt64 → S → Prop} {px : SX → Prop} {B : S → State → Prop} {BX : String → SX → State → Prop} {AX : Nat → Prop} (hr : vx_Run5 p l e R s m args below meth c H locs cells slots mc ms (F0 m pc ls st0) rest (va_Qd post B A1 a) (vx_X px BX AX) free) (hS : va_S A0 H0 H locs) (hA : ∀ q, q < H.size → A1 q → A0 q) (hf : ∀ q, free q → A0 q) (hAX : ∀ q, q < H.size → AX q → A0 q)
    (kx : ∀ (E : String) (ce : Cell) (q9 : Addr) (u : SX) (t : State) (H1 : Heap) (locs1 : List Loc), t.heap = H1 → s.vm.Alike t.vm → px u → BX E u t → H.size ≤ H1.size → (∀ q : Nat, q < H.size → ¬ AX q → H1[q]? = H[q]?) → va_S A0 H0 H1 locs1 → H1[q9]? = some ce → ce.vm = .none → s.vm.findClass E = some ce.cls → vx_W p l e R s m args below meth c H1 locs1 (cells + mc) (slots + ms) Q (F0 m pc ls rest) q9)
    (kk : ∀ (r : UInt64) (u : S) (t : State) (H1 : Heap) (locs1 : List Loc), t.heap = H1 → s.vm.Alike t.vm → post r u → B u t → H.size ≤ H1.size → (∀ q : Nat, q < H.size → ¬ A1 q → H1[q]? = H[q]?) → va_S A0 H0 H1 locs1 → W p l e R s m args below meth c H1 locs1 (cells + mc) (slots + ms) Q (F0 m (pc + 5) ls (.double r :: rest))) : W p l e R s m args below meth c H locs cells slots Q (F0 m pc ls st0) := by
  intro T hT X
  rcases hr T hT X with ⟨v, st₀, t, T', L, h0, X', hL, e1, e2, ⟨⟨r, u, hv, hp, hb⟩, hF⟩, st⟩ | ⟨q, st₀, t, T', L, E, ce, h0, X', hL, e1, e2, ⟨u, hp, hb, hF⟩, hce, hcv, hcl, st⟩
  · cases hv
    obtain ⟨k1, k2, k3⟩ := vx_keep h0 e1 hS hA hf hL hF
    obtain ⟨t2, a1, b1⟩ := kk r u t T'.heap (locs ++ L) e1.symm (by rw [← e2]; exact X'.warmed.alike) hp hb k1 k2 k3 T' rfl X'
    exact ⟨t2, st t2 a1, b1⟩
  · obtain ⟨k1, k2, k3⟩ := vx_keep h0 e1 hS hAX hf hL hF
    obtain ⟨t2, a1, b1⟩ := kx E ce q u t T'.heap (locs ++ L) e1.symm (by rw [← e2]; exact X'.warmed.alike) hp hb k1 k2 k3 (by rw [e1]; exact hce) hcv hcl T' rfl X'
    exact ⟨t2, st.trans a1, b1⟩
end
/-! ===== END ===== -/
/-! ===== BEGIN by an interface, a method with a table of its own that may throw (follows va_callIFW, va_runFW) ===== -/
section
variable {p : Program} {l : Launch} {e : Env} {R : Room} {s : State} {m : MethodId} {args : Array Value} {below : List Frame} {meth : Method} {c : Code} {H : Heap} {locs : List Loc} {cells slots : Nat}
theorem vx_callIFW {T : State} (X : Stand p l e R s m args below meth c T locs cells slots) (hexec : p.tables.exec = Jvm.exec) {own C : String} {index count : Nat} {x y : MethodName} {bytes : ByteArray} {maxL : Nat} {ret : Option FieldType} {hh : List (Nat × Nat × Nat × Nat)}
    (hown : s.vm.findClass own = some m.cls) (hlink : (Cond.methodLink own index x).before args s = true) (hdecl : (Cond.declares x).before args s = true) (hface : (Cond.interfaceMethod x.cls x.cls x.name x.desc).before args s = true)
    (hsel : (Cond.selects C x y).before args s = true) (hinst : (Cond.instanceMethod y).before args s = true) (hpub : (Cond.publicMethod y).before args s = true) (hunh : (Cond.unhidden C x.name x.desc).before args s = true)
    (hcast : (Cond.castable C x.cls).before args s = true) (hcode : (Cond.codeWith y bytes maxL ret hh).before args s = true) (hx : x.cls ≠ "java/lang/invoke/MethodHandle" ∧ x.cls ≠ "java/lang/invoke/VarHandle")
    {W : Nat} {Pre : Pt → Array Value → Prop} {Post : Pt → Array Value → Option Value → Pt → Prop} {PostX : Pt → Array Value → Addr → Pt → Prop} (hK : vx_Back l R p e below s args y 5 W Pre Post PostX)
    {b : Addr} {cellB : Cell} {kB : Class} (hcell : T.heap[b]? = some cellB) (hobj : cellB.vm.isStatics = false) (hcls : s.vm.findClass C = some cellB.cls) (hkB : s.vm.classes[cellB.cls]? = some kB)
    {g : JFrame} (hg : g.method = m) (hsize : g.locals.size = c.maxLocals) {argsL rest : List Value} (hlen : ∀ sig, parseMethodDescriptor x.desc = some sig → argsL.length = sig.parameters.length)
    (hstack : g.stack = argsL.reverse ++ .ref b :: rest) (hW : 2 * g.monitorRoom + (rest.map fun v => v.category).sum ≤ W) (hdg : decode c.code g.pc = .ok (.invokeinterface index count, 5))
    (hpre : ∀ vm₁, s.WarmedH vm₁ → Pre ⟨T.setVm vm₁, locs, cells, slots⟩ (Value.ref b :: argsL).toArray) :
    (∃ (v : Option Value) (vm₁ : Vm) (B : Pt), s.WarmedH vm₁ ∧ Stand p l e R s m args below meth c B.U B.locs B.cells B.slots ∧ Post ⟨T.setVm vm₁, locs, cells, slots⟩ (Value.ref b :: argsL).toArray v B ∧
      ∀ target, Steps p.tables e below (B.U.setTop { g with pc := g.pc + 5, stack := v.toList ++ rest }) target → Steps p.tables e below (T.setTop g) target) ∨
    (∃ (q : Addr) (vm₁ : Vm) (B : Pt), s.WarmedH vm₁ ∧ Stand p l e R s m args below meth c B.U B.locs B.cells B.slots ∧ PostX ⟨T.setVm vm₁, locs, cells, slots⟩ (Value.ref b :: argsL).toArray q B ∧
      Steps p.tables e below (T.setTop g) ((B.U.setTop { g with stack := rest }).pushFrame (.throwing q))) := by
  obtain ⟨r0, r, hn, hrm, hstR, hsigR⟩ := Cond.declares_spec hdecl
  obtain ⟨cL, kL, r1, hcL, hkL, hiL, hfoundL, hn1⟩ := Cond.interfaceMethod_spec hface
  cases hn.symm.trans hn1
  have hr0cls : r0.cls = cL := Option.some.inj ((findClass_of_methodNamed hn).symm.trans hcL)
  obtain ⟨hnameR, hdescR⟩ := name_of_methodNamed hn hrm
  obtain ⟨mk, methM, hnamed, hmethM, -, habM⟩ := Cond.instanceMethod_spec hinst
  obtain ⟨c2, r2, m2, q1, q2, q3, q4, -⟩ := Cond.selects_spec hsel
  cases hcls.symm.trans q1
  cases hfoundL.symm.trans q2
  cases hnamed.symm.trans q3
  have hselP : selectMethod e.platform s.vm cellB.cls r0 = .method mk := by rw [Launch.admits_selectMethod X.admits]; exact q4
  have hpubM : hasFlag methM.accessFlags Acc.public_ = true := Cond.publicMethod_spec hnamed hmethM hpub
  have hway : ((cellB.cls :: s.vm.superclasses cellB.cls).any fun k => (declaredIn s.vm r.name r.desc k).any fun (_, z) => z.isPrivate || z.isStatic) = false := by
    rw [hnameR, hdescR]; exact Cond.unhidden_spec hcls hunh
  obtain ⟨c3, t3, w1, w2, w3⟩ := Cond.castable_spec hcast
  cases hcls.symm.trans w1
  cases hcL.symm.trans w2
  obtain ⟨vm₁, X₁, hstep₁⟩ := X.invokeinterface hexec hown hlink hn hrm hstR (by rw [hr0cls]; exact hkL) hiL hx (a := b) (cell := cellB) (kcell := kB) hcell
    (fun z h => by rw [h] at hobj; cases hobj) hkB (by rw [hr0cls]; exact w3) hselP hmethM hway hpubM habM (g := g) hg (argsL := argsL) (rest := rest) (hlen _ hsigR) hstack hdg
  rcases hK m meth c ⟨T.setVm vm₁, locs, cells, slots⟩ { g with stack := rest } (.invokeinterface index count) mk (Value.ref b :: argsL).toArray X₁ hg hsize hdg hW (X₁.named hnamed) (hpre vm₁ X₁.warmed) with ⟨v, B, X', hpost, hsteps⟩ | ⟨q, B, X', hpost, hsteps⟩
  · exact Or.inl ⟨v, vm₁, B, X₁.warmed, X', hpost, fun target h => hstep₁ _ fun acts => by rw [doInvoke_state]; exact hsteps.trans h⟩
  · exact Or.inr ⟨q, vm₁, B, X₁.warmed, X', hpost, hstep₁ _ fun acts => by rw [doInvoke_state]; exact hsteps⟩
theorem vx_runFW {x y : MethodName} {bytes cc : ByteArray} {maxL nL mc ms n index count : Nat} {ret : Option FieldType} {hh : List (Nat × Nat × Nat × Nat)} {ws : List Cond} {rm : Room} {Pc : Array Value → State → Prop} {Qc : Array Value → State → Outcome → State → Prop} {XC : String → State → State → Prop} {free : Addr → Prop} {Ts : List Cond} {own C : String} {cC : ClassId} {b : Addr} {As rest : List Value} {g : JFrame}
    (hat : ClassAt s C cC) (S : CallFix p m c cc nL s args Ts own) (hM : vx_Met l y ws rm Pc Qc XC mc ms free) (cw : va_CIW R s args own C index x y bytes maxL ret hh ws rm mc ms n) (hp : PreV s H C b Pc As)
    (hg : g.method = m) (hn : As.length = n) (hsize : g.locals.size = nL) (hstack : g.stack = As.reverse ++ .ref b :: rest) (hW : 2 * g.monitorRoom + (rest.map fun v => v.category).sum ≤ 8) (hdg : decode cc g.pc = .ok (.invokeinterface index count, 5)) (hf : cells + mc ≤ R.cells ∧ slots + ms ≤ R.slots) :
    vx_Run5 p l e R s m args below meth c H locs cells slots mc ms g rest (Qc (Value.ref b :: As).toArray) XC free := by
  obtain ⟨hrc, hrs, hfr, hlo, hws, hcw⟩ := cw.back
  have hini := cw.init
  have hK : vx_Back l R p e below s args y 5 8 (PreOf R mc ms Pc) (PostOf Qc mc ms free) (vx_Post XC mc ms free) := vx_backW (hh := hh) (bytes := bytes) (maxL := maxL) (ret := ret) hM hp.1 hrc hrs hfr hlo hws hcw (fun a' U hW => word_at hW (Or.inl (by first | rfl | simp [Cond.onTables, Cond.keeps, Cond.steady])) hini)
  obtain ⟨hx, hb, hml, ho, -⟩ := S
  obtain ⟨-, ⟨cellB, hcB, hoB, hclB⟩, hPc⟩ := hp
  obtain ⟨hfc, kB, hkB, -⟩ := hat
  cases hfc.symm.trans hclB
  intro T hT X
  rcases vx_callIFW X hx (C := C) (hh := hh) (bytes := bytes) (maxL := maxL) (ret := ret) ho cw.link cw.decl cw.face cw.sel cw.inst cw.pub cw.unh cw.cast cw.code cw.notMH hK (by rw [hT]; exact hcB) hoB hclB hkB hg (hsize.trans hml.symm) (argsL := As) (rest := rest) (fun sig h => hn.trans (cw.len sig h)) hstack hW (by rw [hb]; exact hdg)
    (fun vm₁ hW₁ => ⟨hf.1, hf.2, hPc (T.setVm vm₁) hT hW₁⟩) with ⟨v, vm₁, ⟨U', l2, c2, s2⟩, hW₁, X', ⟨g', mk, t, L, e1, e2, hq, h1, hL, h2, h3⟩, st⟩ | ⟨q, vm₁, ⟨U', l2, c2, s2⟩, hW₁, X', ⟨g', mk, t, L, E, ce, e1, e2, hq, hce, hcv, hcl, h1, hL, h2, h3⟩, st⟩
  · dsimp only [Pt.U, Pt.locs, Pt.cells, Pt.slots] at X' e1 e2 h1 h2 h3 st
    subst h1; subst h2; subst h3
    exact Or.inl ⟨v, (T.setVm vm₁).calling g' mk (Value.ref b :: As).toArray, t, U', L, hT, X', hL, e1, e2, hq, st⟩
  · dsimp only [Pt.U, Pt.locs, Pt.cells, Pt.slots] at X' e1 e2 h1 h2 h3 st hcl
    subst h1; subst h2; subst h3
    exact Or.inr ⟨q, (T.setVm vm₁).calling g' mk (Value.ref b :: As).toArray, t, U', L, E, ce, hT, X', hL, e1, e2, hq, hce, hcv, vx_cls hW₁ hcl, st⟩
end
/-! ===== END ===== -/
/-! ===== BEGIN .. of methods that hand back an object of the pool ===== -/
section
variable {p : Program} {l : Launch} {e : Env} {R : Room} {s : State} {m : MethodId} {args : Array Value} {below : List Frame} {meth : Method} {c : Code} {H : Heap} {locs : List Loc} {cells slots : Nat} {Q : State → Prop}
variable {mc ms : Nat} {free : Addr → Prop} {A0 A1 : Nat → Prop} {H0 : Heap} {a : Array Value} {pc : Nat} {ls : Array Slot} {st0 rest : List Value}
theorem vx_callq {S SX : Type} {post : Option Nat → S → Prop} {px : SX → Prop} {B : S → State → Prop} {BX : String → SX → State → Prop} {AX : Nat → Prop} (hr : vx_Run p l e R s m args below meth c H locs cells slots mc ms (F0 m pc ls st0) rest (va_Qq post B A1 a) (vx_X px BX AX) free) (hS : va_S A0 H0 H locs) (hA : ∀ q, q < H.size → A1 q → A0 q) (hf : ∀ q, free q → A0 q) (hAX : ∀ q, q < H.size → AX q → A0 q)
    (kx : ∀ (E : String) (ce : Cell) (q9 : Addr) (u : SX) (t : State) (H1 : Heap) (locs1 : List Loc), t.heap = H1 → s.vm.Alike t.vm → px u → BX E u t → H.size ≤ H1.size → (∀ q : Nat, q < H.size → ¬ AX q → H1[q]? = H[q]?) → va_S A0 H0 H1 locs1 → H1[q9]? = some ce → ce.vm = .none → s.vm.findClass E = some ce.cls → vx_W p l e R s m args below meth c H1 locs1 (cells + mc) (slots + ms) Q (F0 m pc ls rest) q9)
    (kk : ∀ (r : Option Nat) (u : S) (t : State) (H1 : Heap) (locs1 : List Loc), t.heap = H1 → s.vm.Alike t.vm → post r u → B u t → H.size ≤ H1.size → (∀ q : Nat, q < H.size → ¬ A1 q → H1[q]? = H[q]?) → va_S A0 H0 H1 locs1 → W p l e R s m args below meth c H1 locs1 (cells + mc) (slots + ms) Q (F0 m (pc + 3) ls (va_rf r :: rest))) : W p l e R s m args below meth c H locs cells slots Q (F0 m pc ls st0) := by
  intro T hT X
  rcases hr T hT X with ⟨v, st₀, t, T', L, h0, X', hL, e1, e2, ⟨⟨r, u, hv, hp, hb⟩, hF⟩, st⟩ | ⟨q, st₀, t, T', L, E, ce, h0, X', hL, e1, e2, ⟨u, hp, hb, hF⟩, hce, hcv, hcl, st⟩
  · cases hv
    obtain ⟨k1, k2, k3⟩ := vx_keep h0 e1 hS hA hf hL hF
    obtain ⟨t2, a1, b1⟩ := kk r u t T'.heap (locs ++ L) e1.symm (by rw [← e2]; exact X'.warmed.alike) hp hb k1 k2 k3 T' rfl X'
    exact ⟨t2, st t2 a1, b1⟩
  · obtain ⟨k1, k2, k3⟩ := vx_keep h0 e1 hS hAX hf hL hF
    obtain ⟨t2, a1, b1⟩ := kx E ce q u t T'.heap (locs ++ L) e1.symm (by rw [← e2]; exact X'.warmed.alike) hp hb k1 k2 k3 (by rw [e1]; exact hce) hcv hcl T' rfl X'
    exact ⟨t2, st.trans a1, b1⟩
end
/-! ===== END ===== -/
/-! ===== BEGIN .. a constant ===== -/
section
variable {p : Program} {l : Launch} {e : Env} {R : Room} {s : State} {m : MethodId} {args : Array Value} {below : List Frame} {meth : Method} {c : Code} {H : Heap} {locs : List Loc} {cells slots : Nat} {Q : State → Prop}
variable {mc ms : Nat} {free : Addr → Prop} {A0 A1 : Nat → Prop} {H0 : Heap} {a : Array Value} {pc : Nat} {ls : Array Slot} {st0 rest : List Value}
theorem vx_calle {ad : Nat → Nat} {S SX : Type} {post : Option Nat → S → Prop} {px : SX → Prop} {B : S → State → Prop} {BX : String → SX → State → Prop} {AX : Nat → Prop} (hr : vx_Run p l e R s m args below meth c H locs cells slots mc ms (F0 m pc ls st0) rest (va_Qe ad post B A1 a) (vx_X px BX AX) free) (hS : va_S A0 H0 H locs) (hA : ∀ q, q < H.size → A1 q → A0 q) (hf : ∀ q, free q → A0 q) (hAX : ∀ q, q < H.size → AX q → A0 q)
    (kx : ∀ (E : String) (ce : Cell) (q9 : Addr) (u : SX) (t : State) (H1 : Heap) (locs1 : List Loc), t.heap = H1 → s.vm.Alike t.vm → px u → BX E u t → H.size ≤ H1.size → (∀ q : Nat, q < H.size → ¬ AX q → H1[q]? = H[q]?) → va_S A0 H0 H1 locs1 → H1[q9]? = some ce → ce.vm = .none → s.vm.findClass E = some ce.cls → vx_W p l e R s m args below meth c H1 locs1 (cells + mc) (slots + ms) Q (F0 m pc ls rest) q9)
    (kk : ∀ (r : Option Nat) (u : S) (t : State) (H1 : Heap) (locs1 : List Loc), t.heap = H1 → s.vm.Alike t.vm → post r u → B u t → H.size ≤ H1.size → (∀ q : Nat, q < H.size → ¬ A1 q → H1[q]? = H[q]?) → va_S A0 H0 H1 locs1 → W p l e R s m args below meth c H1 locs1 (cells + mc) (slots + ms) Q (F0 m (pc + 3) ls (va_re ad r :: rest))) : W p l e R s m args below meth c H locs cells slots Q (F0 m pc ls st0) := by
  intro T hT X
  rcases hr T hT X with ⟨v, st₀, t, T', L, h0, X', hL, e1, e2, ⟨⟨r, u, hv, hp, hb⟩, hF⟩, st⟩ | ⟨q, st₀, t, T', L, E, ce, h0, X', hL, e1, e2, ⟨u, hp, hb, hF⟩, hce, hcv, hcl, st⟩
  · cases hv
    obtain ⟨k1, k2, k3⟩ := vx_keep h0 e1 hS hA hf hL hF
    obtain ⟨t2, a1, b1⟩ := kk r u t T'.heap (locs ++ L) e1.symm (by rw [← e2]; exact X'.warmed.alike) hp hb k1 k2 k3 T' rfl X'
    exact ⟨t2, st t2 a1, b1⟩
  · obtain ⟨k1, k2, k3⟩ := vx_keep h0 e1 hS hAX hf hL hF
    obtain ⟨t2, a1, b1⟩ := kx E ce q u t T'.heap (locs ++ L) e1.symm (by rw [← e2]; exact X'.warmed.alike) hp hb k1 k2 k3 (by rw [e1]; exact hce) hcv hcl T' rfl X'
    exact ⟨t2, st.trans a1, b1⟩
end
/-! ===== END ===== -/
/-! ===== BEGIN .. by an interface, an object ===== -/
section
variable {p : Program} {l : Launch} {e : Env} {R : Room} {s : State} {m : MethodId} {args : Array Value} {below : List Frame} {meth : Method} {c : Code} {H : Heap} {locs : List Loc} {cells slots : Nat} {Q : State → Prop}
variable {mc ms : Nat} {free : Addr → Prop} {A0 A1 : Nat → Prop} {H0 : Heap} {a : Array Value} {pc : Nat} {ls : Array Slot} {st0 rest : List Value}
theorem vx_callFq {S SX : Type} {post : Option Nat → S → Prop} {px : SX → Prop} {B : S → State → Prop} {BX : String → SX → State → Prop} {AX : Nat → Prop} (hr : vx_Run5 p l e R s m args below meth c H locs cells slots mc ms (F0 m pc ls st0) rest (va_Qq post B A1 a) (vx_X px BX AX) free) (hS : va_S A0 H0 H locs) (hA : ∀ q, q < H.size → A1 q → A0 q) (hf : ∀ q, free q → A0 q) (hAX : ∀ q, q < H.size → AX q → A0 q)
    (kx : ∀ (E : String) (ce : Cell) (q9 : Addr) (u : SX) (t : State) (H1 : Heap) (locs1 : List Loc), t.heap = H1 → s.vm.Alike t.vm → px u → BX E u t → H.size ≤ H1.size → (∀ q : Nat, q < H.size → ¬ AX q → H1[q]? = H[q]?) → va_S A0 H0 H1 locs1 → H1[q9]? = some ce → ce.vm = .none → s.vm.findClass E = some ce.cls → vx_W p l e R s m args below meth c H1 locs1 (cells + mc) (slots + ms) Q (F0 m pc ls rest) q9)
    (kk : ∀ (r : Option Nat) (u : S) (t : State) (H1 : Heap) (locs1 : List Loc), t.heap = H1 → s.vm.Alike t.vm → post r u → B u t → H.size ≤ H1.size → (∀ q : Nat, q < H.size → ¬ A1 q → H1[q]? = H[q]?) → va_S A0 H0 H1 locs1 → W p l e R s m args below meth c H1 locs1 (cells + mc) (slots + ms) Q (F0 m (pc + 5) ls (va_rf r :: rest))) : W p l e R s m args below meth c H locs cells slots Q (F0 m pc ls st0) := by
  intro T hT X
  rcases hr T hT X with ⟨v, st₀, t, T', L, h0, X', hL, e1, e2, ⟨⟨r, u, hv, hp, hb⟩, hF⟩, st⟩ | ⟨q, st₀, t, T', L, E, ce, h0, X', hL, e1, e2, ⟨u, hp, hb, hF⟩, hce, hcv, hcl, st⟩
  · cases hv
    obtain ⟨k1, k2, k3⟩ := vx_keep h0 e1 hS hA hf hL hF
    obtain ⟨t2, a1, b1⟩ := kk r u t T'.heap (locs ++ L) e1.symm (by rw [← e2]; exact X'.warmed.alike) hp hb k1 k2 k3 T' rfl X'
    exact ⟨t2, st t2 a1, b1⟩
  · obtain ⟨k1, k2, k3⟩ := vx_keep h0 e1 hS hAX hf hL hF
    obtain ⟨t2, a1, b1⟩ := kx E ce q u t T'.heap (locs ++ L) e1.symm (by rw [← e2]; exact X'.warmed.alike) hp hb k1 k2 k3 (by rw [e1]; exact hce) hcv hcl T' rfl X'
    exact ⟨t2, st.trans a1, b1⟩
end
/-! ===== END ===== -/
/-! ===== BEGIN .. by an interface, a constant ===== -/
section
variable {p : Program} {l : Launch} {e : Env} {R : Room} {s : State} {m : MethodId} {args : Array Value} {below : List Frame} {meth : Method} {c : Code} {H : Heap} {locs : List Loc} {cells slots : Nat} {Q : State → Prop}
variable {mc ms : Nat} {free : Addr → Prop} {A0 A1 : Nat → Prop} {H0 : Heap} {a : Array Value} {pc : Nat} {ls : Array Slot} {st0 rest : List Value}
theorem vx_callFe {ad : Nat → Nat} {S SX : Type} {post : Option Nat → S → Prop} {px : SX → Prop} {B : S → State → Prop} {BX : String → SX → State → Prop} {AX : Nat → Prop} (hr : vx_Run5 p l e R s m args below meth c H locs cells slots mc ms (F0 m pc ls st0) rest (va_Qe ad post B A1 a) (vx_X px BX AX) free) (hS : va_S A0 H0 H locs) (hA : ∀ q, q < H.size → A1 q → A0 q) (hf : ∀ q, free q → A0 q) (hAX : ∀ q, q < H.size → AX q → A0 q)
    (kx : ∀ (E : String) (ce : Cell) (q9 : Addr) (u : SX) (t : State) (H1 : Heap) (locs1 : List Loc), t.heap = H1 → s.vm.Alike t.vm → px u → BX E u t → H.size ≤ H1.size → (∀ q : Nat, q < H.size → ¬ AX q → H1[q]? = H[q]?) → va_S A0 H0 H1 locs1 → H1[q9]? = some ce → ce.vm = .none → s.vm.findClass E = some ce.cls → vx_W p l e R s m args below meth c H1 locs1 (cells + mc) (slots + ms) Q (F0 m pc ls rest) q9)
    (kk : ∀ (r : Option Nat) (u : S) (t : State) (H1 : Heap) (locs1 : List Loc), t.heap = H1 → s.vm.Alike t.vm → post r u → B u t → H.size ≤ H1.size → (∀ q : Nat, q < H.size → ¬ A1 q → H1[q]? = H[q]?) → va_S A0 H0 H1 locs1 → W p l e R s m args below meth c H1 locs1 (cells + mc) (slots + ms) Q (F0 m (pc + 5) ls (va_re ad r :: rest))) : W p l e R s m args below meth c H locs cells slots Q (F0 m pc ls st0) := by
  intro T hT X
  rcases hr T hT X with ⟨v, st₀, t, T', L, h0, X', hL, e1, e2, ⟨⟨r, u, hv, hp, hb⟩, hF⟩, st⟩ | ⟨q, st₀, t, T', L, E, ce, h0, X', hL, e1, e2, ⟨u, hp, hb, hF⟩, hce, hcv, hcl, st⟩
  · cases hv
    obtain ⟨k1, k2, k3⟩ := vx_keep h0 e1 hS hA hf hL hF
    obtain ⟨t2, a1, b1⟩ := kk r u t T'.heap (locs ++ L) e1.symm (by rw [← e2]; exact X'.warmed.alike) hp hb k1 k2 k3 T' rfl X'
    exact ⟨t2, st t2 a1, b1⟩
  · obtain ⟨k1, k2, k3⟩ := vx_keep h0 e1 hS hAX hf hL hF
    obtain ⟨t2, a1, b1⟩ := kx E ce q u t T'.heap (locs ++ L) e1.symm (by rw [← e2]; exact X'.warmed.alike) hp hb k1 k2 k3 (by rw [e1]; exact hce) hcv hcl T' rfl X'
    exact ⟨t2, st.trans a1, b1⟩
end
/-! ===== END ===== -/
/-! ===== BEGIN what the machine throws by itself: null at a field, at athrow ===== -/
section VXM2
variable {p : Program} {l : Launch} {e : Env} {R : Room} {s : State} {m : MethodId} {args : Array Value} {below : List Frame} {meth : Method} {c : Code} {H : Heap} {locs : List Loc} {cells slots : Nat}
variable {Q : State → Prop} {cc : ByteArray} {pc : Nat} {ls : Array Slot} {rest : List Value}
theorem vx_getfN {D cl tys} {own ref C : String} {T : u_T} {N ci index : Nat} {Ts : List Cond} (hexec : p.tables.exec = Jvm.exec) (hb : c.code = cc) (hts : ∀ w ∈ Ts, w.before args s = true) (hin : ∀ w ∈ u_ws C T N, w ∈ Ts) (hown : s.vm.findClass own = some m.cls) (hK : va_K D cl tys s) (hc : cl[ci]? = some (C, T, N)) (k : Nat) (hk : k < N) (hlink : (Cond.fieldLink own index ref (T k).2.1 (T k).2.2.1).before args s = true) (hsame : ∀ x, s.fieldFound? (T k).1 (T k).2.1 (T k).2.2.1 = some x → s.fieldFound? ref (T k).2.1 (T k).2.2.1 = some x) (hdg : decode cc pc = .ok (.getfield index, 3)) (kk : vx_NoteN p l e R s m args below meth c H locs cells slots Q (F0 m pc ls rest)) : W p l e R s m args below meth c H locs cells slots Q (F0 m pc ls (.null :: rest)) := by
  obtain ⟨hS, hfc, kC, hkC, -⟩ := hK.1 ci _ hc
  obtain ⟨cf, kf, fi, f, hi, -⟩ := hS k hk
  intro U hU X
  obtain ⟨vm', X1, st1⟩ := X.getfieldNull hexec hown hlink (hsame _ hi) (u_facts hfc hkC (u_lays hts hin hk) hi).1 (g := F0 m pc ls (.null :: rest)) rfl (rest := rest) rfl (by rw [hb]; exact hdg)
  obtain ⟨t, st, q⟩ := kk (U.setVm vm') hU X1
  exact ⟨t, st1 t st, q⟩
theorem vx_getfNN {D cl tys} {own ref C host : String} {T : u_T} {N ci index : Nat} {Ts : List Cond} (hexec : p.tables.exec = Jvm.exec) (hb : c.code = cc) (hts : ∀ w ∈ Ts, w.before args s = true) (hin : ∀ w ∈ u_ws C T N, w ∈ Ts) (hown : s.vm.findClass own = some m.cls) (hK : va_K D cl tys s) (hc : cl[ci]? = some (C, T, N)) (k : Nat) (hk : k < N) (hlink : (Cond.fieldLinkNest own index ref (T k).2.1 (T k).2.2.1 host).before args s = true) (hsame : ∀ x, s.fieldFound? (T k).1 (T k).2.1 (T k).2.2.1 = some x → s.fieldFound? ref (T k).2.1 (T k).2.2.1 = some x) (hdg : decode cc pc = .ok (.getfield index, 3)) (kk : vx_NoteN p l e R s m args below meth c H locs cells slots Q (F0 m pc ls rest)) : W p l e R s m args below meth c H locs cells slots Q (F0 m pc ls (.null :: rest)) := by
  obtain ⟨hS, hfc, kC, hkC, -⟩ := hK.1 ci _ hc
  obtain ⟨cf, kf, fi, f, hi, -⟩ := hS k hk
  intro U hU X
  obtain ⟨vm', X1, st1⟩ := X.getfieldNullNest hexec hown hlink (hsame _ hi) (u_facts hfc hkC (u_lays hts hin hk) hi).1 (g := F0 m pc ls (.null :: rest)) rfl (rest := rest) rfl (by rw [hb]; exact hdg)
  obtain ⟨t, st, q⟩ := kk (U.setVm vm') hU X1
  exact ⟨t, st1 t st, q⟩
theorem vx_putfN {D cl tys} {own ref C : String} {T : u_T} {N ci index : Nat} {Ts : List Cond} (hexec : p.tables.exec = Jvm.exec) (hb : c.code = cc) (hts : ∀ w ∈ Ts, w.before args s = true) (hin : ∀ w ∈ u_ws C T N, w ∈ Ts) (hown : s.vm.findClass own = some m.cls) (hK : va_K D cl tys s) (hc : cl[ci]? = some (C, T, N)) (k : Nat) (hk : k < N) (hlink : (Cond.fieldLink own index ref (T k).2.1 (T k).2.2.1).before args s = true) (hsame : ∀ x, s.fieldFound? (T k).1 (T k).2.1 (T k).2.2.1 = some x → s.fieldFound? ref (T k).2.1 (T k).2.2.1 = some x) (hfin : (T k).2.2.2 = false) {v : Value} (hdg : decode cc pc = .ok (.putfield index, 3)) (kk : vx_NoteN p l e R s m args below meth c H locs cells slots Q (F0 m pc ls rest)) : W p l e R s m args below meth c H locs cells slots Q (F0 m pc ls (v :: .null :: rest)) := by
  obtain ⟨hS, hfc, kC, hkC, -⟩ := hK.1 ci _ hc
  obtain ⟨cf, kf, fi, f, hi, -⟩ := hS k hk
  have hlay := hts _ (hin _ (u_in_lay hk))
  unfold u_lay at hlay
  rw [if_neg (by rw [hfin]; decide)] at hlay
  obtain ⟨c9, k9, cf9, kf9, fi9, f9, -, -, hi9, hst9, hnf9, -⟩ := Cond.lays_spec hlay
  cases hi.symm.trans hi9
  intro U hU X
  obtain ⟨vm', X1, st1⟩ := X.putfieldNull hexec hown hlink (hsame _ hi) hst9 hnf9 (g := F0 m pc ls (v :: .null :: rest)) rfl (v := v) (rest := rest) rfl (by rw [hb]; exact hdg)
  obtain ⟨t, st, q⟩ := kk (U.setVm vm') hU X1
  exact ⟨t, st1 t st, q⟩
theorem vx_putfNN {D cl tys} {own ref C host : String} {T : u_T} {N ci index : Nat} {Ts : List Cond} (hexec : p.tables.exec = Jvm.exec) (hb : c.code = cc) (hts : ∀ w ∈ Ts, w.before args s = true) (hin : ∀ w ∈ u_ws C T N, w ∈ Ts) (hown : s.vm.findClass own = some m.cls) (hK : va_K D cl tys s) (hc : cl[ci]? = some (C, T, N)) (k : Nat) (hk : k < N) (hlink : (Cond.fieldLinkNest own index ref (T k).2.1 (T k).2.2.1 host).before args s = true) (hsame : ∀ x, s.fieldFound? (T k).1 (T k).2.1 (T k).2.2.1 = some x → s.fieldFound? ref (T k).2.1 (T k).2.2.1 = some x) (hfin : (T k).2.2.2 = false) {v : Value} (hdg : decode cc pc = .ok (.putfield index, 3)) (kk : vx_NoteN p l e R s m args below meth c H locs cells slots Q (F0 m pc ls rest)) : W p l e R s m args below meth c H locs cells slots Q (F0 m pc ls (v :: .null :: rest)) := by
  obtain ⟨hS, hfc, kC, hkC, -⟩ := hK.1 ci _ hc
  obtain ⟨cf, kf, fi, f, hi, -⟩ := hS k hk
  have hlay := hts _ (hin _ (u_in_lay hk))
  unfold u_lay at hlay
  rw [if_neg (by rw [hfin]; decide)] at hlay
  obtain ⟨c9, k9, cf9, kf9, fi9, f9, -, -, hi9, hst9, hnf9, -⟩ := Cond.lays_spec hlay
  cases hi.symm.trans hi9
  intro U hU X
  obtain ⟨vm', X1, st1⟩ := X.putfieldNullNest hexec hown hlink (hsame _ hi) hst9 hnf9 (g := F0 m pc ls (v :: .null :: rest)) rfl (v := v) (rest := rest) rfl (by rw [hb]; exact hdg)
  obtain ⟨t, st, q⟩ := kk (U.setVm vm') hU X1
  exact ⟨t, st1 t st, q⟩
theorem vx_athrowN (hexec : p.tables.exec = Jvm.exec) (hb : c.code = cc) (hdg : decode cc pc = .ok (.athrow, 1)) (k : vx_NoteN p l e R s m args below meth c H locs cells slots Q (F0 m pc ls rest)) : W p l e R s m args below meth c H locs cells slots Q (F0 m pc ls (.null :: rest)) := by
  intro T hT X
  obtain ⟨t, st, q⟩ := k T hT X
  exact ⟨t, X.athrowNull hexec (g := F0 m pc ls (.null :: rest)) rfl (rest := rest) rfl (by rw [hb]; exact hdg) t st, q⟩
end VXM2
/-! ===== END ===== -/
end
section
def RX0 : String := "Schemabridge$Bytes"
def TX0 : u_T := fun k => match k with
  | 0 => ("Schemabridge$Bytes", "cells", "[B", true)
  | _ => ("Schemabridge$Bytes", "count", "I", false)
def tyX0 : Nat → FieldType := fun k => match k with
  | 0 => .array .byte
  | _ => .int
theorem nmX0 : ∀ a, a < 2 → ∀ b, b < 2 → a ≠ b → (TX0 a).2.1 ≠ (TX0 b).2.1 := by decide +kernel
theorem tyX0_ok : ∀ k, k < 2 → parseFieldDescriptor (TX0 k).2.2.1 = some (tyX0 k) := by decide +kernel
abbrev cX0_init : ByteArray := prog_2_method_1_code
def yX0_init : MethodName := ⟨RX0, "<init>", "()V"⟩
abbrev cX0_count : ByteArray := prog_2_method_2_code
def yX0_count : MethodName := ⟨RX0, "count", "()I"⟩
abbrev cX0_at : ByteArray := prog_2_method_3_code
def yX0_at : MethodName := ⟨RX0, "at", "(I)B"⟩
abbrev cX0_keepFirst : ByteArray := prog_2_method_4_code
def yX0_keepFirst : MethodName := ⟨RX0, "keepFirst", "(I)V"⟩
abbrev cX0_add : ByteArray := prog_2_method_5_code
def yX0_add : MethodName := ⟨RX0, "add", "(B)V"⟩
abbrev cX0_addRange : ByteArray := prog_2_method_6_code
def yX0_addRange : MethodName := ⟨RX0, "addRange", "(LSchemabridge$Bytes;II)V"⟩
abbrev cX0_replaceBy : ByteArray := prog_2_method_7_code
def yX0_replaceBy : MethodName := ⟨RX0, "replaceBy", "(LSchemabridge$Bytes;)V"⟩
abbrev cX0_addNumberField : ByteArray := prog_2_method_8_code
def yX0_addNumberField : MethodName := ⟨RX0, "addNumberField", "(III)V"⟩
abbrev cX0_addBytesHead : ByteArray := prog_2_method_9_code
def yX0_addBytesHead : MethodName := ⟨RX0, "addBytesHead", "(II)V"⟩
abbrev cX0_isSameAs : ByteArray := prog_2_method_10_code
def yX0_isSameAs : MethodName := ⟨RX0, "isSameAs", "(LSchemabridge$Bytes;)Z"⟩
abbrev cX0_hasSameRange : ByteArray := prog_2_method_11_code
def yX0_hasSameRange : MethodName := ⟨RX0, "hasSameRange", "(ILSchemabridge$Bytes;II)Z"⟩
abbrev cX0_addKey : ByteArray := prog_2_method_12_code
def yX0_addKey : MethodName := ⟨RX0, "addKey", "(II)V"⟩
abbrev cX0_addGroups : ByteArray := prog_2_method_13_code
def yX0_addGroups : MethodName := ⟨RX0, "addGroups", "(I)V"⟩
abbrev cX0_addFour : ByteArray := prog_2_method_14_code
def yX0_addFour : MethodName := ⟨RX0, "addFour", "(I)V"⟩
def RX1 : String := "Schemabridge$Canon"
def TX1 : u_T := fun k => match k with
  | 0 => ("Schemabridge$Canon", "fields", "LSchemabridge$Fields;", true)
  | 1 => ("Schemabridge$Canon", "order", "[I", true)
  | 2 => ("Schemabridge$Canon", "lasts", "[I", true)
  | _ => ("Schemabridge$Canon", "count", "I", false)
def tyX1 : Nat → FieldType := fun k => match k with
  | 0 => .object "Schemabridge$Fields"
  | 1 => .array .int
  | 2 => .array .int
  | _ => .int
theorem nmX1 : ∀ a, a < 4 → ∀ b, b < 4 → a ≠ b → (TX1 a).2.1 ≠ (TX1 b).2.1 := by decide +kernel
theorem tyX1_ok : ∀ k, k < 4 → parseFieldDescriptor (TX1 k).2.2.1 = some (tyX1 k) := by decide +kernel
abbrev cX1_init : ByteArray := prog_3_method_1_code
def yX1_init : MethodName := ⟨RX1, "<init>", "()V"⟩
abbrev cX1_choose : ByteArray := prog_3_method_2_code
def yX1_choose : MethodName := ⟨RX1, "choose", "(LSchemabridge$Bytes;LSchemabridge$Schema;)V"⟩
abbrev cX1_writeTo : ByteArray := prog_3_method_3_code
def yX1_writeTo : MethodName := ⟨RX1, "writeTo", "(LSchemabridge$Bytes;)V"⟩
abbrev cX1_hasSameFields : ByteArray := prog_3_method_4_code
def yX1_hasSameFields : MethodName := ⟨RX1, "hasSameFields", "(LSchemabridge$Canon;)Z"⟩
abbrev cX1_placeAt : ByteArray := prog_3_method_5_code
def yX1_placeAt : MethodName := ⟨RX1, "placeAt", "(I)I"⟩
abbrev cX1_noteLasts : ByteArray := prog_3_method_6_code
def yX1_noteLasts : MethodName := ⟨RX1, "noteLasts", "(LSchemabridge$Schema;)V"⟩
abbrev cX1_isToldBy : ByteArray := prog_3_method_7_code
def yX1_isToldBy : MethodName := ⟨RX1, "isToldBy", "(LSchemabridge$Schema;I)Z"⟩
abbrev cX1_insert : ByteArray := prog_3_method_8_code
def yX1_insert : MethodName := ⟨RX1, "insert", "(I)V"⟩
def RX2 : String := "Schemabridge$Fields"
def TX2 : u_T := fun k => match k with
  | 0 => ("Schemabridge$Fields", "tags", "[I", true)
  | 1 => ("Schemabridge$Fields", "types", "[I", true)
  | 2 => ("Schemabridge$Fields", "numbers", "[I", true)
  | 3 => ("Schemabridge$Fields", "ends", "[I", true)
  | 4 => ("Schemabridge$Fields", "count", "I", false)
  | 5 => ("Schemabridge$Fields", "source", "LSchemabridge$Bytes;", false)
  | 6 => ("Schemabridge$Fields", "next", "I", false)
  | 7 => ("Schemabridge$Fields", "limit", "I", false)
  | 8 => ("Schemabridge$Fields", "problem", "I", false)
  | _ => ("Schemabridge$Fields", "problemAt", "I", false)
def tyX2 : Nat → FieldType := fun k => match k with
  | 0 => .array .int
  | 1 => .array .int
  | 2 => .array .int
  | 3 => .array .int
  | 4 => .int
  | 5 => .object "Schemabridge$Bytes"
  | 6 => .int
  | 7 => .int
  | 8 => .int
  | _ => .int
theorem nmX2 : ∀ a, a < 10 → ∀ b, b < 10 → a ≠ b → (TX2 a).2.1 ≠ (TX2 b).2.1 := by decide +kernel
theorem tyX2_ok : ∀ k, k < 10 → parseFieldDescriptor (TX2 k).2.2.1 = some (tyX2 k) := by decide +kernel
abbrev cX2_init : ByteArray := prog_4_method_1_code
def yX2_init : MethodName := ⟨RX2, "<init>", "()V"⟩
abbrev cX2_scan : ByteArray := prog_4_method_2_code
def yX2_scan : MethodName := ⟨RX2, "scan", "(LSchemabridge$Bytes;II)V"⟩
abbrev cX2_count : ByteArray := prog_4_method_3_code
def yX2_count : MethodName := ⟨RX2, "count", "()I"⟩
abbrev cX2_problem : ByteArray := prog_4_method_4_code
def yX2_problem : MethodName := ⟨RX2, "problem", "()I"⟩
abbrev cX2_problemAt : ByteArray := prog_4_method_5_code
def yX2_problemAt : MethodName := ⟨RX2, "problemAt", "()I"⟩
abbrev cX2_tagAt : ByteArray := prog_4_method_6_code
def yX2_tagAt : MethodName := ⟨RX2, "tagAt", "(I)I"⟩
abbrev cX2_typeAt : ByteArray := prog_4_method_7_code
def yX2_typeAt : MethodName := ⟨RX2, "typeAt", "(I)I"⟩
abbrev cX2_numberAt : ByteArray := prog_4_method_8_code
def yX2_numberAt : MethodName := ⟨RX2, "numberAt", "(I)I"⟩
abbrev cX2_endAt : ByteArray := prog_4_method_9_code
def yX2_endAt : MethodName := ⟨RX2, "endAt", "(I)I"⟩
abbrev cX2_bytesAt : ByteArray := prog_4_method_10_code
def yX2_bytesAt : MethodName := ⟨RX2, "bytesAt", "(I)I"⟩
abbrev cX2_bytesBeginAt : ByteArray := prog_4_method_11_code
def yX2_bytesBeginAt : MethodName := ⟨RX2, "bytesBeginAt", "(I)I"⟩
abbrev cX2_isKnown : ByteArray := prog_4_method_12_code
def yX2_isKnown : MethodName := ⟨RX2, "isKnown", "(LSchemabridge$Schema;I)Z"⟩
abbrev cX2_lastKnown : ByteArray := prog_4_method_13_code
def yX2_lastKnown : MethodName := ⟨RX2, "lastKnown", "(LSchemabridge$Schema;I)I"⟩
abbrev cX2_writeTo : ByteArray := prog_4_method_14_code
def yX2_writeTo : MethodName := ⟨RX2, "writeTo", "(LSchemabridge$Bytes;I)V"⟩
abbrev cX2_isSameAt : ByteArray := prog_4_method_15_code
def yX2_isSameAt : MethodName := ⟨RX2, "isSameAt", "(ILSchemabridge$Fields;I)Z"⟩
abbrev cX2_isPlace : ByteArray := prog_4_method_16_code
def yX2_isPlace : MethodName := ⟨RX2, "isPlace", "(I)Z"⟩
abbrev cX2_scanField : ByteArray := prog_4_method_17_code
def yX2_scanField : MethodName := ⟨RX2, "scanField", "()V"⟩
abbrev cX2_keyProblem : ByteArray := prog_4_method_18_code
def yX2_keyProblem : MethodName := ⟨RX2, "keyProblem", "(II)I"⟩
abbrev cX2_scanGroups : ByteArray := prog_4_method_19_code
def yX2_scanGroups : MethodName := ⟨RX2, "scanGroups", "()I"⟩
abbrev cX2_scanFour : ByteArray := prog_4_method_20_code
def yX2_scanFour : MethodName := ⟨RX2, "scanFour", "()I"⟩
abbrev cX2_skipBytes : ByteArray := prog_4_method_21_code
def yX2_skipBytes : MethodName := ⟨RX2, "skipBytes", "(I)V"⟩
abbrev cX2_keepField : ByteArray := prog_4_method_22_code
def yX2_keepField : MethodName := ⟨RX2, "keepField", "(III)V"⟩
def RX3 : String := "Schemabridge$Message"
def TX3 : u_T := fun k => match k with
  | 0 => ("Schemabridge$Message", "schema", "LSchemabridge$Schema;", true)
  | _ => ("Schemabridge$Message", "row", "LSchemabridge$Bytes;", true)
def tyX3 : Nat → FieldType := fun k => match k with
  | 0 => .object "Schemabridge$Schema"
  | _ => .object "Schemabridge$Bytes"
theorem nmX3 : ∀ a, a < 2 → ∀ b, b < 2 → a ≠ b → (TX3 a).2.1 ≠ (TX3 b).2.1 := by decide +kernel
theorem tyX3_ok : ∀ k, k < 2 → parseFieldDescriptor (TX3 k).2.2.1 = some (tyX3 k) := by decide +kernel
abbrev cX3_init : ByteArray := prog_5_method_1_code
def yX3_init : MethodName := ⟨RX3, "<init>", "(LSchemabridge$Schema;)V"⟩
def RX4 : String := "Schemabridge$PairSearch"
def TX4 : u_T := fun k => match k with
  | 0 => ("Schemabridge$PairSearch", "olders", "[LSchemabridge$Schema;", true)
  | 1 => ("Schemabridge$PairSearch", "successors", "[LSchemabridge$Schema;", true)
  | 2 => ("Schemabridge$PairSearch", "isNoted", "[Z", true)
  | _ => ("Schemabridge$PairSearch", "count", "I", false)
def tyX4 : Nat → FieldType := fun k => match k with
  | 0 => .array (.object "Schemabridge$Schema")
  | 1 => .array (.object "Schemabridge$Schema")
  | 2 => .array .boolean
  | _ => .int
theorem nmX4 : ∀ a, a < 4 → ∀ b, b < 4 → a ≠ b → (TX4 a).2.1 ≠ (TX4 b).2.1 := by decide +kernel
theorem tyX4_ok : ∀ k, k < 4 → parseFieldDescriptor (TX4 k).2.2.1 = some (tyX4 k) := by decide +kernel
abbrev cX4_init : ByteArray := prog_6_method_1_code
def yX4_init : MethodName := ⟨RX4, "<init>", "()V"⟩
abbrev cX4_leastReason : ByteArray := prog_6_method_2_code
def yX4_leastReason : MethodName := ⟨RX4, "leastReason", "(LSchemabridge$Schema;LSchemabridge$Schema;)I"⟩
abbrev cX4_leadsToDifference : ByteArray := prog_6_method_3_code
def yX4_leadsToDifference : MethodName := ⟨RX4, "leadsToDifference", "(LSchemabridge$Schema;LSchemabridge$Schema;I)Z"⟩
abbrev cX4_differsSomewhere : ByteArray := prog_6_method_4_code
def yX4_differsSomewhere : MethodName := ⟨RX4, "differsSomewhere", "(LSchemabridge$Schema;LSchemabridge$Schema;)Z"⟩
abbrev cX4_notePartsAt : ByteArray := prog_6_method_5_code
def yX4_notePartsAt : MethodName := ⟨RX4, "notePartsAt", "(LSchemabridge$Schema;LSchemabridge$Schema;I)V"⟩
abbrev cX4_notePair : ByteArray := prog_6_method_6_code
def yX4_notePair : MethodName := ⟨RX4, "notePair", "(LSchemabridge$Schema;LSchemabridge$Schema;)V"⟩
abbrev cX4_forgetPairs : ByteArray := prog_6_method_7_code
def yX4_forgetPairs : MethodName := ⟨RX4, "forgetPairs", "()V"⟩
def RX5 : String := "Schemabridge$Schema"
def TX5 : u_T := fun k => match k with
  | 0 => ("Schemabridge$Schema", "number", "I", true)
  | 1 => ("Schemabridge$Schema", "kinds", "[I", true)
  | 2 => ("Schemabridge$Schema", "defaults", "[I", true)
  | _ => ("Schemabridge$Schema", "parts", "[LSchemabridge$Schema;", true)
def tyX5 : Nat → FieldType := fun k => match k with
  | 0 => .int
  | 1 => .array .int
  | 2 => .array .int
  | _ => .array (.object "Schemabridge$Schema")
theorem nmX5 : ∀ a, a < 4 → ∀ b, b < 4 → a ≠ b → (TX5 a).2.1 ≠ (TX5 b).2.1 := by decide +kernel
theorem tyX5_ok : ∀ k, k < 4 → parseFieldDescriptor (TX5 k).2.2.1 = some (tyX5 k) := by decide +kernel
abbrev cX5_init : ByteArray := prog_7_method_1_code
def yX5_init : MethodName := ⟨RX5, "<init>", "(I)V"⟩
abbrev cX5_kindAt : ByteArray := prog_7_method_2_code
def yX5_kindAt : MethodName := ⟨RX5, "kindAt", "(I)I"⟩
abbrev cX5_defaultAt : ByteArray := prog_7_method_3_code
def yX5_defaultAt : MethodName := ⟨RX5, "defaultAt", "(I)I"⟩
abbrev cX5_partOf : ByteArray := prog_7_method_4_code
def yX5_partOf : MethodName := ⟨RX5, "partOf", "(I)LSchemabridge$Schema;"⟩
abbrev cX5_giveKind : ByteArray := prog_7_method_5_code
def yX5_giveKind : MethodName := ⟨RX5, "giveKind", "(IILSchemabridge$Schema;)V"⟩
abbrev cX5_giveDefault : ByteArray := prog_7_method_6_code
def yX5_giveDefault : MethodName := ⟨RX5, "giveDefault", "(II)V"⟩
abbrev cX5_hasInt : ByteArray := prog_7_method_7_code
def yX5_hasInt : MethodName := ⟨RX5, "hasInt", "(I)Z"⟩
abbrev cX5_hasBytes : ByteArray := prog_7_method_8_code
def yX5_hasBytes : MethodName := ⟨RX5, "hasBytes", "(I)Z"⟩
abbrev cX5_knows : ByteArray := prog_7_method_9_code
def yX5_knows : MethodName := ⟨RX5, "knows", "(II)Z"⟩
abbrev cX5_typeAt : ByteArray := prog_7_method_10_code
def yX5_typeAt : MethodName := ⟨RX5, "typeAt", "(I)I"⟩
abbrev cX5_numberOf : ByteArray := prog_7_method_11_code
def yX5_numberOf : MethodName := ⟨RX5, "numberOf", "(II)I"⟩
abbrev cX5_valueOf : ByteArray := prog_7_method_12_code
def yX5_valueOf : MethodName := ⟨RX5, "valueOf", "(II)I"⟩
abbrev cX5_isDefault : ByteArray := prog_7_method_13_code
def yX5_isDefault : MethodName := ⟨RX5, "isDefault", "(II)Z"⟩
abbrev cX5_differsAt : ByteArray := prog_7_method_14_code
def yX5_differsAt : MethodName := ⟨RX5, "differsAt", "(LSchemabridge$Schema;I)Z"⟩
abbrev cX5_isIntKind : ByteArray := prog_7_method_15_code
def yX5_isIntKind : MethodName := ⟨RX5, "isIntKind", "(I)Z"⟩
def RX6 : String := "Schemabridge"
def TX6 : u_T := fun k => match k with
  | 0 => ("Schemabridge", "schemas", "[LSchemabridge$Schema;", true)
  | 1 => ("Schemabridge", "messages", "[LSchemabridge$Message;", true)
  | 2 => ("Schemabridge", "tape", "LSchemabridge$Bytes;", true)
  | 3 => ("Schemabridge", "schemaCount", "I", false)
  | 4 => ("Schemabridge", "pairSearch", "LSchemabridge$PairSearch;", true)
  | 5 => ("Schemabridge", "scanned", "LSchemabridge$Fields;", true)
  | 6 => ("Schemabridge", "canon", "LSchemabridge$Canon;", true)
  | 7 => ("Schemabridge", "otherCanon", "LSchemabridge$Canon;", true)
  | 8 => ("Schemabridge", "canonical", "LSchemabridge$Bytes;", true)
  | 9 => ("Schemabridge", "otherCanonical", "LSchemabridge$Bytes;", true)
  | _ => ("Schemabridge", "draft", "LSchemabridge$Bytes;", true)
def tyX6 : Nat → FieldType := fun k => match k with
  | 0 => .array (.object "Schemabridge$Schema")
  | 1 => .array (.object "Schemabridge$Message")
  | 2 => .object "Schemabridge$Bytes"
  | 3 => .int
  | 4 => .object "Schemabridge$PairSearch"
  | 5 => .object "Schemabridge$Fields"
  | 6 => .object "Schemabridge$Canon"
  | 7 => .object "Schemabridge$Canon"
  | 8 => .object "Schemabridge$Bytes"
  | 9 => .object "Schemabridge$Bytes"
  | _ => .object "Schemabridge$Bytes"
theorem nmX6 : ∀ a, a < 11 → ∀ b, b < 11 → a ≠ b → (TX6 a).2.1 ≠ (TX6 b).2.1 := by decide +kernel
theorem tyX6_ok : ∀ k, k < 11 → parseFieldDescriptor (TX6 k).2.2.1 = some (tyX6 k) := by decide +kernel
abbrev cX6_init : ByteArray := prog_1_method_1_code
def yX6_init : MethodName := ⟨RX6, "<init>", "()V"⟩
abbrev cX6_addSchema : ByteArray := prog_1_method_2_code
def yX6_addSchema : MethodName := ⟨RX6, "addSchema", "()I"⟩
abbrev cX6_setKind : ByteArray := prog_1_method_3_code
def yX6_setKind : MethodName := ⟨RX6, "setKind", "(IIII)I"⟩
abbrev cX6_dropKind : ByteArray := prog_1_method_4_code
def yX6_dropKind : MethodName := ⟨RX6, "dropKind", "(II)I"⟩
abbrev cX6_setDefault : ByteArray := prog_1_method_5_code
def yX6_setDefault : MethodName := ⟨RX6, "setDefault", "(III)I"⟩
abbrev cX6_kindOf : ByteArray := prog_1_method_6_code
def yX6_kindOf : MethodName := ⟨RX6, "kindOf", "(II)I"⟩
abbrev cX6_conflict : ByteArray := prog_1_method_7_code
def yX6_conflict : MethodName := ⟨RX6, "conflict", "(II)I"⟩
abbrev cX6_create : ByteArray := prog_1_method_8_code
def yX6_create : MethodName := ⟨RX6, "create", "(I)I"⟩
abbrev cX6_copy : ByteArray := prog_1_method_9_code
def yX6_copy : MethodName := ⟨RX6, "copy", "(II)I"⟩
abbrev cX6_discard : ByteArray := prog_1_method_10_code
def yX6_discard : MethodName := ⟨RX6, "discard", "(I)I"⟩
abbrev cX6_set : ByteArray := prog_1_method_11_code
def yX6_set : MethodName := ⟨RX6, "set", "(III)V"⟩
abbrev cX6_append : ByteArray := prog_1_method_12_code
def yX6_append : MethodName := ⟨RX6, "append", "(IIB)I"⟩
abbrev cX6_setPart : ByteArray := prog_1_method_13_code
def yX6_setPart : MethodName := ⟨RX6, "setPart", "(III)I"⟩
abbrev cX6_clear : ByteArray := prog_1_method_14_code
def yX6_clear : MethodName := ⟨RX6, "clear", "(II)I"⟩
abbrev cX6_schemaOf : ByteArray := prog_1_method_15_code
def yX6_schemaOf : MethodName := ⟨RX6, "schemaOf", "(I)I"⟩
abbrev cX6_has : ByteArray := prog_1_method_16_code
def yX6_has : MethodName := ⟨RX6, "has", "(II)Z"⟩
abbrev cX6_get : ByteArray := prog_1_method_17_code
def yX6_get : MethodName := ⟨RX6, "get", "(II)I"⟩
abbrev cX6_byteOf : ByteArray := prog_1_method_18_code
def yX6_byteOf : MethodName := ⟨RX6, "byteOf", "(III)B"⟩
abbrev cX6_open : ByteArray := prog_1_method_19_code
def yX6_open : MethodName := ⟨RX6, "open", "(II)I"⟩
abbrev cX6_unknowns : ByteArray := prog_1_method_20_code
def yX6_unknowns : MethodName := ⟨RX6, "unknowns", "(I)I"⟩
abbrev cX6_unknownTag : ByteArray := prog_1_method_21_code
def yX6_unknownTag : MethodName := ⟨RX6, "unknownTag", "(II)I"⟩
abbrev cX6_weight : ByteArray := prog_1_method_22_code
def yX6_weight : MethodName := ⟨RX6, "weight", "(I)I"⟩
abbrev cX6_areSame : ByteArray := prog_1_method_23_code
def yX6_areSame : MethodName := ⟨RX6, "areSame", "(II)Z"⟩
abbrev cX6_areSameByBytes : ByteArray := prog_1_method_24_code
def yX6_areSameByBytes : MethodName := ⟨RX6, "areSameByBytes", "(II)Z"⟩
abbrev cX6_write : ByteArray := prog_1_method_25_code
def yX6_write : MethodName := ⟨RX6, "write", "(I)I"⟩
abbrev cX6_put : ByteArray := prog_1_method_26_code
def yX6_put : MethodName := ⟨RX6, "put", "(B)I"⟩
abbrev cX6_cut : ByteArray := prog_1_method_27_code
def yX6_cut : MethodName := ⟨RX6, "cut", "(I)I"⟩
abbrev cX6_length : ByteArray := prog_1_method_28_code
def yX6_length : MethodName := ⟨RX6, "length", "()I"⟩
abbrev cX6_byteAt : ByteArray := prog_1_method_29_code
def yX6_byteAt : MethodName := ⟨RX6, "byteAt", "(I)B"⟩
abbrev cX6_fault : ByteArray := prog_1_method_30_code
def yX6_fault : MethodName := ⟨RX6, "fault", "()I"⟩
abbrev cX6_faultAt : ByteArray := prog_1_method_31_code
def yX6_faultAt : MethodName := ⟨RX6, "faultAt", "()I"⟩
abbrev cX6_read : ByteArray := prog_1_method_32_code
def yX6_read : MethodName := ⟨RX6, "read", "(I)I"⟩
abbrev cX6_isCanonical : ByteArray := prog_1_method_33_code
def yX6_isCanonical : MethodName := ⟨RX6, "isCanonical", "(I)Z"⟩
abbrev cX6_schemaAt : ByteArray := prog_1_method_34_code
def yX6_schemaAt : MethodName := ⟨RX6, "schemaAt", "(I)LSchemabridge$Schema;"⟩
abbrev cX6_messageAt : ByteArray := prog_1_method_35_code
def yX6_messageAt : MethodName := ⟨RX6, "messageAt", "(I)LSchemabridge$Message;"⟩
abbrev cX6_isTag : ByteArray := prog_1_method_36_code
def yX6_isTag : MethodName := ⟨RX6, "isTag", "(I)Z"⟩
abbrev cX6_checkTag : ByteArray := prog_1_method_37_code
def yX6_checkTag : MethodName := ⟨RX6, "checkTag", "(I)V"⟩
abbrev cX6_checkHasInt : ByteArray := prog_1_method_38_code
def yX6_checkHasInt : MethodName := ⟨RX6, "checkHasInt", "(LSchemabridge$Schema;I)V"⟩
abbrev cX6_checkHasBytes : ByteArray := prog_1_method_39_code
def yX6_checkHasBytes : MethodName := ⟨RX6, "checkHasBytes", "(LSchemabridge$Schema;I)V"⟩
abbrev cX6_partAt : ByteArray := prog_1_method_40_code
def yX6_partAt : MethodName := ⟨RX6, "partAt", "(LSchemabridge$Schema;I)LSchemabridge$Schema;"⟩
abbrev cX6_lastKnownOrThrow : ByteArray := prog_1_method_41_code
def yX6_lastKnownOrThrow : MethodName := ⟨RX6, "lastKnownOrThrow", "(LSchemabridge$Fields;LSchemabridge$Schema;I)I"⟩
abbrev cX6_fieldsOf : ByteArray := prog_1_method_42_code
def yX6_fieldsOf : MethodName := ⟨RX6, "fieldsOf", "(LSchemabridge$Message;)LSchemabridge$Fields;"⟩
abbrev cX6_fieldsOfTape : ByteArray := prog_1_method_43_code
def yX6_fieldsOfTape : MethodName := ⟨RX6, "fieldsOfTape", "()LSchemabridge$Fields;"⟩
abbrev cX6_fieldsIn : ByteArray := prog_1_method_44_code
def yX6_fieldsIn : MethodName := ⟨RX6, "fieldsIn", "(LSchemabridge$Bytes;II)LSchemabridge$Fields;"⟩
abbrev cX6_chooseBoth : ByteArray := prog_1_method_45_code
def yX6_chooseBoth : MethodName := ⟨RX6, "chooseBoth", "(LSchemabridge$Message;LSchemabridge$Message;)V"⟩
abbrev cX6_messageOf : ByteArray := prog_1_method_46_code
def yX6_messageOf : MethodName := ⟨RX6, "messageOf", "(LSchemabridge$Fields;LSchemabridge$Schema;)LSchemabridge$Message;"⟩
abbrev cX6_addMessage : ByteArray := prog_1_method_47_code
def yX6_addMessage : MethodName := ⟨RX6, "addMessage", "(LSchemabridge$Message;)I"⟩
abbrev cX6_removeMessage : ByteArray := prog_1_method_48_code
def yX6_removeMessage : MethodName := ⟨RX6, "removeMessage", "(I)V"⟩
abbrev cX6_draftWithoutKnown : ByteArray := prog_1_method_49_code
def yX6_draftWithoutKnown : MethodName := ⟨RX6, "draftWithoutKnown", "(LSchemabridge$Fields;LSchemabridge$Schema;I)V"⟩
abbrev cX6_takeDraft : ByteArray := prog_1_method_50_code
def yX6_takeDraft : MethodName := ⟨RX6, "takeDraft", "(LSchemabridge$Message;)V"⟩
def RX7 : String := "SchemabridgeModel"
def TX7 : u_T := fun k => match k with
  | 0 => ("SchemabridgeModel", "thrown", "I", false)
  | 1 => ("SchemabridgeModel", "schemas", "I", false)
  | 2 => ("SchemabridgeModel", "kinds", "[I", true)
  | 3 => ("SchemabridgeModel", "parts", "[I", true)
  | 4 => ("SchemabridgeModel", "defaults", "[I", true)
  | 5 => ("SchemabridgeModel", "isThere", "[Z", true)
  | 6 => ("SchemabridgeModel", "schema", "[I", true)
  | 7 => ("SchemabridgeModel", "length", "[I", true)
  | 8 => ("SchemabridgeModel", "data", "[I", true)
  | 9 => ("SchemabridgeModel", "onTape", "I", false)
  | 10 => ("SchemabridgeModel", "tape", "[I", true)
  | 11 => ("SchemabridgeModel", "at", "I", false)
  | 12 => ("SchemabridgeModel", "fault", "I", false)
  | 13 => ("SchemabridgeModel", "tag", "I", false)
  | 14 => ("SchemabridgeModel", "type", "I", false)
  | 15 => ("SchemabridgeModel", "value", "I", false)
  | 16 => ("SchemabridgeModel", "from", "I", false)
  | 17 => ("SchemabridgeModel", "begin", "I", false)
  | 18 => ("SchemabridgeModel", "written", "I", false)
  | 19 => ("SchemabridgeModel", "out", "[I", true)
  | 20 => ("SchemabridgeModel", "kept", "I", false)
  | 21 => ("SchemabridgeModel", "aside", "[I", true)
  | _ => ("SchemabridgeModel", "differs", "[Z", true)
def tyX7 : Nat → FieldType := fun k => match k with
  | 0 => .int
  | 1 => .int
  | 2 => .array .int
  | 3 => .array .int
  | 4 => .array .int
  | 5 => .array .boolean
  | 6 => .array .int
  | 7 => .array .int
  | 8 => .array .int
  | 9 => .int
  | 10 => .array .int
  | 11 => .int
  | 12 => .int
  | 13 => .int
  | 14 => .int
  | 15 => .int
  | 16 => .int
  | 17 => .int
  | 18 => .int
  | 19 => .array .int
  | 20 => .int
  | 21 => .array .int
  | _ => .array .boolean
theorem nmX7 : ∀ a, a < 23 → ∀ b, b < 23 → a ≠ b → (TX7 a).2.1 ≠ (TX7 b).2.1 := by decide +kernel
theorem tyX7_ok : ∀ k, k < 23 → parseFieldDescriptor (TX7 k).2.2.1 = some (tyX7 k) := by decide +kernel
abbrev cX7_init : ByteArray := prog_9_method_1_code
def yX7_init : MethodName := ⟨RX7, "<init>", "()V"⟩
abbrev cX7_thrown : ByteArray := prog_9_method_2_code
def yX7_thrown : MethodName := ⟨RX7, "thrown", "()I"⟩
abbrev cX7_in : ByteArray := prog_9_method_3_code
def yX7_in : MethodName := ⟨RX7, "in", "(III)Z"⟩
abbrev cX7_isSchema : ByteArray := prog_9_method_4_code
def yX7_isSchema : MethodName := ⟨RX7, "isSchema", "(I)Z"⟩
abbrev cX7_isTag : ByteArray := prog_9_method_5_code
def yX7_isTag : MethodName := ⟨RX7, "isTag", "(I)Z"⟩
abbrev cX7_isMessage : ByteArray := prog_9_method_6_code
def yX7_isMessage : MethodName := ⟨RX7, "isMessage", "(I)Z"⟩
abbrev cX7_group : ByteArray := prog_9_method_7_code
def yX7_group : MethodName := ⟨RX7, "group", "([II)I"⟩
abbrev cX7_field : ByteArray := prog_9_method_8_code
def yX7_field : MethodName := ⟨RX7, "field", "([II)V"⟩
abbrev cX7_writes : ByteArray := prog_9_method_9_code
def yX7_writes : MethodName := ⟨RX7, "writes", "(I)V"⟩
abbrev cX7_writesGroup : ByteArray := prog_9_method_10_code
def yX7_writesGroup : MethodName := ⟨RX7, "writesGroup", "(I)V"⟩
abbrev cX7_writesNumber : ByteArray := prog_9_method_11_code
def yX7_writesNumber : MethodName := ⟨RX7, "writesNumber", "(III)V"⟩
abbrev cX7_writesField : ByteArray := prog_9_method_12_code
def yX7_writesField : MethodName := ⟨RX7, "writesField", "([I)V"⟩
abbrev cX7_becomes : ByteArray := prog_9_method_13_code
def yX7_becomes : MethodName := ⟨RX7, "becomes", "(I)V"⟩
abbrev cX7_typeOf : ByteArray := prog_9_method_14_code
def yX7_typeOf : MethodName := ⟨RX7, "typeOf", "(I)I"⟩
abbrev cX7_kind : ByteArray := prog_9_method_15_code
def yX7_kind : MethodName := ⟨RX7, "kind", "(II)I"⟩
abbrev cX7_isInt : ByteArray := prog_9_method_16_code
def yX7_isInt : MethodName := ⟨RX7, "isInt", "(I)Z"⟩
abbrev cX7_hasBytes : ByteArray := prog_9_method_17_code
def yX7_hasBytes : MethodName := ⟨RX7, "hasBytes", "(I)Z"⟩
abbrev cX7_isKnown : ByteArray := prog_9_method_18_code
def yX7_isKnown : MethodName := ⟨RX7, "isKnown", "(I)Z"⟩
abbrev cX7_standsFor : ByteArray := prog_9_method_19_code
def yX7_standsFor : MethodName := ⟨RX7, "standsFor", "(II)I"⟩
abbrev cX7_standsAs : ByteArray := prog_9_method_20_code
def yX7_standsAs : MethodName := ⟨RX7, "standsAs", "(II)I"⟩
abbrev cX7_lastKnown : ByteArray := prog_9_method_21_code
def yX7_lastKnown : MethodName := ⟨RX7, "lastKnown", "(II)I"⟩
abbrev cX7_finds : ByteArray := prog_9_method_22_code
def yX7_finds : MethodName := ⟨RX7, "finds", "(II)Z"⟩
abbrev cX7_writesOthers : ByteArray := prog_9_method_23_code
def yX7_writesOthers : MethodName := ⟨RX7, "writesOthers", "(II)V"⟩
abbrev cX7_writesCanonical : ByteArray := prog_9_method_24_code
def yX7_writesCanonical : MethodName := ⟨RX7, "writesCanonical", "(I)V"⟩
abbrev cX7_putsAside : ByteArray := prog_9_method_25_code
def yX7_putsAside : MethodName := ⟨RX7, "putsAside", "()V"⟩
abbrev cX7_isAsAside : ByteArray := prog_9_method_26_code
def yX7_isAsAside : MethodName := ⟨RX7, "isAsAside", "()Z"⟩
abbrev cX7_free : ByteArray := prog_9_method_27_code
def yX7_free : MethodName := ⟨RX7, "free", "()I"⟩
abbrev cX7_isFull : ByteArray := prog_9_method_28_code
def yX7_isFull : MethodName := ⟨RX7, "isFull", "()Z"⟩
abbrev cX7_makes : ByteArray := prog_9_method_29_code
def yX7_makes : MethodName := ⟨RX7, "makes", "(I)I"⟩
abbrev cX7_addSchema : ByteArray := prog_9_method_30_code
def yX7_addSchema : MethodName := ⟨RX7, "addSchema", "()I"⟩
abbrev cX7_setKind : ByteArray := prog_9_method_31_code
def yX7_setKind : MethodName := ⟨RX7, "setKind", "(IIII)I"⟩
abbrev cX7_dropKind : ByteArray := prog_9_method_32_code
def yX7_dropKind : MethodName := ⟨RX7, "dropKind", "(II)I"⟩
abbrev cX7_setDefault : ByteArray := prog_9_method_33_code
def yX7_setDefault : MethodName := ⟨RX7, "setDefault", "(III)I"⟩
abbrev cX7_kindOf : ByteArray := prog_9_method_34_code
def yX7_kindOf : MethodName := ⟨RX7, "kindOf", "(II)I"⟩
abbrev cX7_differsAt : ByteArray := prog_9_method_35_code
def yX7_differsAt : MethodName := ⟨RX7, "differsAt", "(III)Z"⟩
abbrev cX7_leadsTo : ByteArray := prog_9_method_36_code
def yX7_leadsTo : MethodName := ⟨RX7, "leadsTo", "(III)I"⟩
abbrev cX7_isReason : ByteArray := prog_9_method_37_code
def yX7_isReason : MethodName := ⟨RX7, "isReason", "(III)Z"⟩
abbrev cX7_conflict : ByteArray := prog_9_method_38_code
def yX7_conflict : MethodName := ⟨RX7, "conflict", "(II)I"⟩
abbrev cX7_create : ByteArray := prog_9_method_39_code
def yX7_create : MethodName := ⟨RX7, "create", "(I)I"⟩
abbrev cX7_copy : ByteArray := prog_9_method_40_code
def yX7_copy : MethodName := ⟨RX7, "copy", "(II)I"⟩
abbrev cX7_fields : ByteArray := prog_9_method_41_code
def yX7_fields : MethodName := ⟨RX7, "fields", "(I)I"⟩
abbrev cX7_discard : ByteArray := prog_9_method_42_code
def yX7_discard : MethodName := ⟨RX7, "discard", "(I)I"⟩
abbrev cX7_isWritten : ByteArray := prog_9_method_43_code
def yX7_isWritten : MethodName := ⟨RX7, "isWritten", "(I)V"⟩
abbrev cX7_kindIn : ByteArray := prog_9_method_44_code
def yX7_kindIn : MethodName := ⟨RX7, "kindIn", "(II)I"⟩
abbrev cX7_set : ByteArray := prog_9_method_45_code
def yX7_set : MethodName := ⟨RX7, "set", "(III)V"⟩
abbrev cX7_append : ByteArray := prog_9_method_46_code
def yX7_append : MethodName := ⟨RX7, "append", "(IIB)I"⟩
abbrev cX7_setsBytes : ByteArray := prog_9_method_47_code
def yX7_setsBytes : MethodName := ⟨RX7, "setsBytes", "(II)I"⟩
abbrev cX7_setPart : ByteArray := prog_9_method_48_code
def yX7_setPart : MethodName := ⟨RX7, "setPart", "(III)I"⟩
abbrev cX7_clear : ByteArray := prog_9_method_49_code
def yX7_clear : MethodName := ⟨RX7, "clear", "(II)I"⟩
abbrev cX7_schemaOf : ByteArray := prog_9_method_50_code
def yX7_schemaOf : MethodName := ⟨RX7, "schemaOf", "(I)I"⟩
abbrev cX7_has : ByteArray := prog_9_method_51_code
def yX7_has : MethodName := ⟨RX7, "has", "(II)Z"⟩
abbrev cX7_get : ByteArray := prog_9_method_52_code
def yX7_get : MethodName := ⟨RX7, "get", "(II)I"⟩
abbrev cX7_byteOf : ByteArray := prog_9_method_53_code
def yX7_byteOf : MethodName := ⟨RX7, "byteOf", "(III)B"⟩
abbrev cX7_reads : ByteArray := prog_9_method_54_code
def yX7_reads : MethodName := ⟨RX7, "reads", "([III)I"⟩
abbrev cX7_open : ByteArray := prog_9_method_55_code
def yX7_open : MethodName := ⟨RX7, "open", "(II)I"⟩
abbrev cX7_unknowns : ByteArray := prog_9_method_56_code
def yX7_unknowns : MethodName := ⟨RX7, "unknowns", "(I)I"⟩
abbrev cX7_manyUnknown : ByteArray := prog_9_method_57_code
def yX7_manyUnknown : MethodName := ⟨RX7, "manyUnknown", "(I)I"⟩
abbrev cX7_unknownTag : ByteArray := prog_9_method_58_code
def yX7_unknownTag : MethodName := ⟨RX7, "unknownTag", "(II)I"⟩
abbrev cX7_weight : ByteArray := prog_9_method_59_code
def yX7_weight : MethodName := ⟨RX7, "weight", "(I)I"⟩
abbrev cX7_areAlike : ByteArray := prog_9_method_60_code
def yX7_areAlike : MethodName := ⟨RX7, "areAlike", "(II)Z"⟩
abbrev cX7_areSame : ByteArray := prog_9_method_61_code
def yX7_areSame : MethodName := ⟨RX7, "areSame", "(II)Z"⟩
abbrev cX7_areSameByBytes : ByteArray := prog_9_method_62_code
def yX7_areSameByBytes : MethodName := ⟨RX7, "areSameByBytes", "(II)Z"⟩
abbrev cX7_write : ByteArray := prog_9_method_63_code
def yX7_write : MethodName := ⟨RX7, "write", "(I)I"⟩
abbrev cX7_put : ByteArray := prog_9_method_64_code
def yX7_put : MethodName := ⟨RX7, "put", "(B)I"⟩
abbrev cX7_cut : ByteArray := prog_9_method_65_code
def yX7_cut : MethodName := ⟨RX7, "cut", "(I)I"⟩
abbrev cX7_length : ByteArray := prog_9_method_66_code
def yX7_length : MethodName := ⟨RX7, "length", "()I"⟩
abbrev cX7_byteAt : ByteArray := prog_9_method_67_code
def yX7_byteAt : MethodName := ⟨RX7, "byteAt", "(I)B"⟩
abbrev cX7_fault : ByteArray := prog_9_method_68_code
def yX7_fault : MethodName := ⟨RX7, "fault", "()I"⟩
abbrev cX7_faultAt : ByteArray := prog_9_method_69_code
def yX7_faultAt : MethodName := ⟨RX7, "faultAt", "()I"⟩
abbrev cX7_read : ByteArray := prog_9_method_70_code
def yX7_read : MethodName := ⟨RX7, "read", "(I)I"⟩
abbrev cX7_isOwn : ByteArray := prog_9_method_71_code
def yX7_isOwn : MethodName := ⟨RX7, "isOwn", "(I)Z"⟩
abbrev cX7_isCanonical : ByteArray := prog_9_method_72_code
def yX7_isCanonical : MethodName := ⟨RX7, "isCanonical", "(I)Z"⟩
def RJx145de : String := "java/io/Serializable"
def RJ0 : String := "java/lang/String"
def RJ7 : String := "java/util/Arrays"
abbrev cJ7_fill_53178 : ByteArray := prog_18_method_103_code
def yJ7_fill_53178 : MethodName := ⟨RJ7, "fill", "([II)V"⟩
def RL : String := "SchemabridgeLaw"
abbrev cL_addSchema : ByteArray := method_3_code
def yL_addSchema : MethodName := ⟨RL, "addSchema", "(LSchemabridge;[J)I"⟩
abbrev cL_setKind : ByteArray := method_4_code
def yL_setKind : MethodName := ⟨RL, "setKind", "(LSchemabridge;IIII[J)I"⟩
abbrev cL_dropKind : ByteArray := method_5_code
def yL_dropKind : MethodName := ⟨RL, "dropKind", "(LSchemabridge;II[J)I"⟩
abbrev cL_setDefault : ByteArray := method_6_code
def yL_setDefault : MethodName := ⟨RL, "setDefault", "(LSchemabridge;III[J)I"⟩
abbrev cL_kindOf : ByteArray := method_7_code
def yL_kindOf : MethodName := ⟨RL, "kindOf", "(LSchemabridge;II[J)I"⟩
abbrev cL_conflict : ByteArray := method_8_code
def yL_conflict : MethodName := ⟨RL, "conflict", "(LSchemabridge;II[J)I"⟩
abbrev cL_create : ByteArray := method_9_code
def yL_create : MethodName := ⟨RL, "create", "(LSchemabridge;I[J)I"⟩
abbrev cL_copy : ByteArray := method_10_code
def yL_copy : MethodName := ⟨RL, "copy", "(LSchemabridge;II[J)I"⟩
abbrev cL_discard : ByteArray := method_11_code
def yL_discard : MethodName := ⟨RL, "discard", "(LSchemabridge;I[J)I"⟩
abbrev cL_set : ByteArray := method_12_code
def yL_set : MethodName := ⟨RL, "set", "(LSchemabridge;III)I"⟩
abbrev cL_append : ByteArray := method_13_code
def yL_append : MethodName := ⟨RL, "append", "(LSchemabridge;IIB[J)I"⟩
abbrev cL_setPart : ByteArray := method_14_code
def yL_setPart : MethodName := ⟨RL, "setPart", "(LSchemabridge;III[J)I"⟩
abbrev cL_clear : ByteArray := method_15_code
def yL_clear : MethodName := ⟨RL, "clear", "(LSchemabridge;II[J)I"⟩
abbrev cL_schemaOf : ByteArray := method_16_code
def yL_schemaOf : MethodName := ⟨RL, "schemaOf", "(LSchemabridge;I[J)I"⟩
abbrev cL_has : ByteArray := method_17_code
def yL_has : MethodName := ⟨RL, "has", "(LSchemabridge;II[J)I"⟩
abbrev cL_get : ByteArray := method_18_code
def yL_get : MethodName := ⟨RL, "get", "(LSchemabridge;II[J)I"⟩
abbrev cL_byteOf : ByteArray := method_19_code
def yL_byteOf : MethodName := ⟨RL, "byteOf", "(LSchemabridge;III[J)I"⟩
abbrev cL_open : ByteArray := method_20_code
def yL_open : MethodName := ⟨RL, "open", "(LSchemabridge;II[J)I"⟩
abbrev cL_unknowns : ByteArray := method_21_code
def yL_unknowns : MethodName := ⟨RL, "unknowns", "(LSchemabridge;I[J)I"⟩
abbrev cL_unknownTag : ByteArray := method_22_code
def yL_unknownTag : MethodName := ⟨RL, "unknownTag", "(LSchemabridge;II[J)I"⟩
abbrev cL_weight : ByteArray := method_23_code
def yL_weight : MethodName := ⟨RL, "weight", "(LSchemabridge;I[J)I"⟩
abbrev cL_areSame : ByteArray := method_24_code
def yL_areSame : MethodName := ⟨RL, "areSame", "(LSchemabridge;II[J)I"⟩
abbrev cL_areSameByBytes : ByteArray := method_25_code
def yL_areSameByBytes : MethodName := ⟨RL, "areSameByBytes", "(LSchemabridge;II[J)I"⟩
abbrev cL_write : ByteArray := method_26_code
def yL_write : MethodName := ⟨RL, "write", "(LSchemabridge;I[J)I"⟩
abbrev cL_put : ByteArray := method_27_code
def yL_put : MethodName := ⟨RL, "put", "(LSchemabridge;B[J)I"⟩
abbrev cL_cut : ByteArray := method_28_code
def yL_cut : MethodName := ⟨RL, "cut", "(LSchemabridge;I[J)I"⟩
abbrev cL_byteAt : ByteArray := method_29_code
def yL_byteAt : MethodName := ⟨RL, "byteAt", "(LSchemabridge;I[J)I"⟩
abbrev cL_read : ByteArray := method_30_code
def yL_read : MethodName := ⟨RL, "read", "(LSchemabridge;I[J)I"⟩
abbrev cL_isCanonical : ByteArray := method_31_code
def yL_isCanonical : MethodName := ⟨RL, "isCanonical", "(LSchemabridge;I[J)I"⟩
abbrev cL_law : ByteArray := code
def yL_law : MethodName := ⟨RL, "law", "([I)Z"⟩
abbrev vwCl : List vw_C := [(RX0, TX0, 2), (RX1, TX1, 4), (RX2, TX2, 10), (RX3, TX3, 2), (RX4, TX4, 4), (RX5, TX5, 4), (RX6, TX6, 11), (RX7, TX7, 23)]
end
section
theorem dX7_init_0 : decode cX7_init 0 = .ok (.aload_n 0, 1) := by decide +kernel
theorem dX7_init_1 : decode cX7_init 1 = .ok (.invokespecial 1, 3) := by decide +kernel
theorem dX7_init_4 : decode cX7_init 4 = .ok (.aload_n 0, 1) := by decide +kernel
theorem dX7_init_5 : decode cX7_init 5 = .ok (.sipush 192, 3) := by decide +kernel
theorem dX7_init_8 : decode cX7_init 8 = .ok (.newarray .int, 2) := by decide +kernel
theorem dX7_init_10 : decode cX7_init 10 = .ok (.putfield 7, 3) := by decide +kernel
theorem dX7_init_13 : decode cX7_init 13 = .ok (.aload_n 0, 1) := by decide +kernel
theorem dX7_init_14 : decode cX7_init 14 = .ok (.sipush 192, 3) := by decide +kernel
theorem dX7_init_17 : decode cX7_init 17 = .ok (.newarray .int, 2) := by decide +kernel
theorem dX7_init_19 : decode cX7_init 19 = .ok (.putfield 13, 3) := by decide +kernel
theorem dX7_init_22 : decode cX7_init 22 = .ok (.aload_n 0, 1) := by decide +kernel
theorem dX7_init_23 : decode cX7_init 23 = .ok (.sipush 192, 3) := by decide +kernel
theorem dX7_init_26 : decode cX7_init 26 = .ok (.newarray .int, 2) := by decide +kernel
theorem dX7_init_28 : decode cX7_init 28 = .ok (.putfield 16, 3) := by decide +kernel
theorem dX7_init_31 : decode cX7_init 31 = .ok (.aload_n 0, 1) := by decide +kernel
theorem dX7_init_32 : decode cX7_init 32 = .ok (.bipush 12, 2) := by decide +kernel
theorem dX7_init_34 : decode cX7_init 34 = .ok (.newarray .boolean, 2) := by decide +kernel
theorem dX7_init_36 : decode cX7_init 36 = .ok (.putfield 19, 3) := by decide +kernel
theorem dX7_init_39 : decode cX7_init 39 = .ok (.aload_n 0, 1) := by decide +kernel
theorem dX7_init_40 : decode cX7_init 40 = .ok (.bipush 12, 2) := by decide +kernel
theorem dX7_init_42 : decode cX7_init 42 = .ok (.newarray .int, 2) := by decide +kernel
theorem dX7_init_44 : decode cX7_init 44 = .ok (.putfield 23, 3) := by decide +kernel
theorem dX7_init_47 : decode cX7_init 47 = .ok (.aload_n 0, 1) := by decide +kernel
theorem dX7_init_48 : decode cX7_init 48 = .ok (.bipush 12, 2) := by decide +kernel
theorem dX7_init_50 : decode cX7_init 50 = .ok (.newarray .int, 2) := by decide +kernel
theorem dX7_init_52 : decode cX7_init 52 = .ok (.putfield 26, 3) := by decide +kernel
theorem dX7_init_55 : decode cX7_init 55 = .ok (.aload_n 0, 1) := by decide +kernel
theorem dX7_init_56 : decode cX7_init 56 = .ok (.sipush 1440, 3) := by decide +kernel
theorem dX7_init_59 : decode cX7_init 59 = .ok (.newarray .int, 2) := by decide +kernel
theorem dX7_init_61 : decode cX7_init 61 = .ok (.putfield 29, 3) := by decide +kernel
theorem dX7_init_64 : decode cX7_init 64 = .ok (.aload_n 0, 1) := by decide +kernel
theorem dX7_init_65 : decode cX7_init 65 = .ok (.bipush 120, 2) := by decide +kernel
theorem dX7_init_67 : decode cX7_init 67 = .ok (.newarray .int, 2) := by decide +kernel
theorem dX7_init_69 : decode cX7_init 69 = .ok (.putfield 32, 3) := by decide +kernel
theorem dX7_init_72 : decode cX7_init 72 = .ok (.aload_n 0, 1) := by decide +kernel
theorem dX7_init_73 : decode cX7_init 73 = .ok (.sipush 300, 3) := by decide +kernel
theorem dX7_init_76 : decode cX7_init 76 = .ok (.newarray .int, 2) := by decide +kernel
theorem dX7_init_78 : decode cX7_init 78 = .ok (.putfield 35, 3) := by decide +kernel
theorem dX7_init_81 : decode cX7_init 81 = .ok (.aload_n 0, 1) := by decide +kernel
theorem dX7_init_82 : decode cX7_init 82 = .ok (.sipush 300, 3) := by decide +kernel
theorem dX7_init_85 : decode cX7_init 85 = .ok (.newarray .int, 2) := by decide +kernel
theorem dX7_init_87 : decode cX7_init 87 = .ok (.putfield 38, 3) := by decide +kernel
theorem dX7_init_90 : decode cX7_init 90 = .ok (.aload_n 0, 1) := by decide +kernel
theorem dX7_init_91 : decode cX7_init 91 = .ok (.bipush 36, 2) := by decide +kernel
theorem dX7_init_93 : decode cX7_init 93 = .ok (.newarray .boolean, 2) := by decide +kernel
theorem dX7_init_95 : decode cX7_init 95 = .ok (.putfield 41, 3) := by decide +kernel
theorem dX7_init_98 : decode cX7_init 98 = .ok (.return_, 1) := by decide +kernel
theorem dX7_thrown_0 : decode cX7_thrown 0 = .ok (.aload_n 0, 1) := by decide +kernel
theorem dX7_thrown_1 : decode cX7_thrown 1 = .ok (.getfield 44, 3) := by decide +kernel
theorem dX7_thrown_4 : decode cX7_thrown 4 = .ok (.ireturn, 1) := by decide +kernel
theorem dX7_in_0 : decode cX7_in 0 = .ok (.iload_n 0, 1) := by decide +kernel
theorem dX7_in_1 : decode cX7_in 1 = .ok (.iload_n 1, 1) := by decide +kernel
theorem dX7_in_2 : decode cX7_in 2 = .ok (.if_icmp .lt 12, 3) := by decide +kernel
theorem dX7_in_5 : decode cX7_in 5 = .ok (.iload_n 0, 1) := by decide +kernel
theorem dX7_in_6 : decode cX7_in 6 = .ok (.iload_n 2, 1) := by decide +kernel
theorem dX7_in_7 : decode cX7_in 7 = .ok (.if_icmp .gt 7, 3) := by decide +kernel
theorem dX7_in_10 : decode cX7_in 10 = .ok (.iconst 1, 1) := by decide +kernel
theorem dX7_in_11 : decode cX7_in 11 = .ok (.goto 4, 3) := by decide +kernel
theorem dX7_in_14 : decode cX7_in 14 = .ok (.iconst 0, 1) := by decide +kernel
theorem dX7_in_15 : decode cX7_in 15 = .ok (.ireturn, 1) := by decide +kernel
theorem dX7_isSchema_0 : decode cX7_isSchema 0 = .ok (.iload_n 1, 1) := by decide +kernel
theorem dX7_isSchema_1 : decode cX7_isSchema 1 = .ok (.iconst 0, 1) := by decide +kernel
theorem dX7_isSchema_2 : decode cX7_isSchema 2 = .ok (.aload_n 0, 1) := by decide +kernel
theorem dX7_isSchema_3 : decode cX7_isSchema 3 = .ok (.getfield 48, 3) := by decide +kernel
theorem dX7_isSchema_6 : decode cX7_isSchema 6 = .ok (.iconst 1, 1) := by decide +kernel
theorem dX7_isSchema_7 : decode cX7_isSchema 7 = .ok (.isub, 1) := by decide +kernel
theorem dX7_isSchema_8 : decode cX7_isSchema 8 = .ok (.invokestatic 51, 3) := by decide +kernel
theorem dX7_isSchema_11 : decode cX7_isSchema 11 = .ok (.ireturn, 1) := by decide +kernel
theorem dX7_isTag_0 : decode cX7_isTag 0 = .ok (.iload_n 0, 1) := by decide +kernel
theorem dX7_isTag_1 : decode cX7_isTag 1 = .ok (.iconst 1, 1) := by decide +kernel
theorem dX7_isTag_2 : decode cX7_isTag 2 = .ok (.bipush 31, 2) := by decide +kernel
theorem dX7_isTag_4 : decode cX7_isTag 4 = .ok (.invokestatic 51, 3) := by decide +kernel
theorem dX7_isTag_7 : decode cX7_isTag 7 = .ok (.ireturn, 1) := by decide +kernel
theorem dX7_isMessage_0 : decode cX7_isMessage 0 = .ok (.iload_n 1, 1) := by decide +kernel
theorem dX7_isMessage_1 : decode cX7_isMessage 1 = .ok (.iconst 0, 1) := by decide +kernel
theorem dX7_isMessage_2 : decode cX7_isMessage 2 = .ok (.bipush 11, 2) := by decide +kernel
theorem dX7_isMessage_4 : decode cX7_isMessage 4 = .ok (.invokestatic 51, 3) := by decide +kernel
theorem dX7_isMessage_7 : decode cX7_isMessage 7 = .ok (.ifCond .eq 16, 3) := by decide +kernel
theorem dX7_isMessage_10 : decode cX7_isMessage 10 = .ok (.aload_n 0, 1) := by decide +kernel
theorem dX7_isMessage_11 : decode cX7_isMessage 11 = .ok (.getfield 19, 3) := by decide +kernel
theorem dX7_isMessage_14 : decode cX7_isMessage 14 = .ok (.iload_n 1, 1) := by decide +kernel
theorem dX7_isMessage_15 : decode cX7_isMessage 15 = .ok (.baload, 1) := by decide +kernel
theorem dX7_isMessage_16 : decode cX7_isMessage 16 = .ok (.ifCond .eq 7, 3) := by decide +kernel
theorem dX7_isMessage_19 : decode cX7_isMessage 19 = .ok (.iconst 1, 1) := by decide +kernel
theorem dX7_isMessage_20 : decode cX7_isMessage 20 = .ok (.goto 4, 3) := by decide +kernel
theorem dX7_isMessage_23 : decode cX7_isMessage 23 = .ok (.iconst 0, 1) := by decide +kernel
theorem dX7_isMessage_24 : decode cX7_isMessage 24 = .ok (.ireturn, 1) := by decide +kernel
theorem dX7_group_0 : decode cX7_group 0 = .ok (.iconst 0, 1) := by decide +kernel
theorem dX7_group_1 : decode cX7_group 1 = .ok (.istore_n 3, 1) := by decide +kernel
theorem dX7_group_2 : decode cX7_group 2 = .ok (.iconst 0, 1) := by decide +kernel
theorem dX7_group_3 : decode cX7_group 3 = .ok (.istore 4, 2) := by decide +kernel
theorem dX7_group_5 : decode cX7_group 5 = .ok (.iload 4, 2) := by decide +kernel
theorem dX7_group_7 : decode cX7_group 7 = .ok (.iconst 5, 1) := by decide +kernel
theorem dX7_group_8 : decode cX7_group 8 = .ok (.if_icmp .ge 86, 3) := by decide +kernel
theorem dX7_group_11 : decode cX7_group 11 = .ok (.aload_n 0, 1) := by decide +kernel
theorem dX7_group_12 : decode cX7_group 12 = .ok (.getfield 55, 3) := by decide +kernel
theorem dX7_group_15 : decode cX7_group 15 = .ok (.iload_n 2, 1) := by decide +kernel
theorem dX7_group_16 : decode cX7_group 16 = .ok (.if_icmp .ne 10, 3) := by decide +kernel
theorem dX7_group_19 : decode cX7_group 19 = .ok (.aload_n 0, 1) := by decide +kernel
theorem dX7_group_20 : decode cX7_group 20 = .ok (.iconst 1, 1) := by decide +kernel
theorem dX7_group_21 : decode cX7_group 21 = .ok (.putfield 58, 3) := by decide +kernel
theorem dX7_group_24 : decode cX7_group 24 = .ok (.iconst 0, 1) := by decide +kernel
theorem dX7_group_25 : decode cX7_group 25 = .ok (.ireturn, 1) := by decide +kernel
theorem dX7_group_26 : decode cX7_group 26 = .ok (.aload_n 1, 1) := by decide +kernel
theorem dX7_group_27 : decode cX7_group 27 = .ok (.aload_n 0, 1) := by decide +kernel
theorem dX7_group_28 : decode cX7_group 28 = .ok (.getfield 55, 3) := by decide +kernel
theorem dX7_group_31 : decode cX7_group 31 = .ok (.iaload, 1) := by decide +kernel
theorem dX7_group_32 : decode cX7_group 32 = .ok (.istore 5, 2) := by decide +kernel
theorem dX7_group_34 : decode cX7_group 34 = .ok (.aload_n 0, 1) := by decide +kernel
theorem dX7_group_35 : decode cX7_group 35 = .ok (.dup, 1) := by decide +kernel
theorem dX7_group_36 : decode cX7_group 36 = .ok (.getfield 55, 3) := by decide +kernel
theorem dX7_group_39 : decode cX7_group 39 = .ok (.iconst 1, 1) := by decide +kernel
theorem dX7_group_40 : decode cX7_group 40 = .ok (.iadd, 1) := by decide +kernel
theorem dX7_group_41 : decode cX7_group 41 = .ok (.putfield 55, 3) := by decide +kernel
theorem dX7_group_44 : decode cX7_group 44 = .ok (.iload 4, 2) := by decide +kernel
theorem dX7_group_46 : decode cX7_group 46 = .ok (.iconst 4, 1) := by decide +kernel
theorem dX7_group_47 : decode cX7_group 47 = .ok (.if_icmp .ne 17, 3) := by decide +kernel
theorem dX7_group_50 : decode cX7_group 50 = .ok (.iload 5, 2) := by decide +kernel
theorem dX7_group_52 : decode cX7_group 52 = .ok (.bipush 15, 2) := by decide +kernel
theorem dX7_group_54 : decode cX7_group 54 = .ok (.if_icmp .le 10, 3) := by decide +kernel
theorem dX7_group_57 : decode cX7_group 57 = .ok (.aload_n 0, 1) := by decide +kernel
theorem dX7_group_58 : decode cX7_group 58 = .ok (.iconst 2, 1) := by decide +kernel
theorem dX7_group_59 : decode cX7_group 59 = .ok (.putfield 58, 3) := by decide +kernel
theorem dX7_group_62 : decode cX7_group 62 = .ok (.iconst 0, 1) := by decide +kernel
theorem dX7_group_63 : decode cX7_group 63 = .ok (.ireturn, 1) := by decide +kernel
theorem dX7_group_64 : decode cX7_group 64 = .ok (.iload_n 3, 1) := by decide +kernel
theorem dX7_group_65 : decode cX7_group 65 = .ok (.iload 5, 2) := by decide +kernel
theorem dX7_group_67 : decode cX7_group 67 = .ok (.bipush 127, 2) := by decide +kernel
theorem dX7_group_69 : decode cX7_group 69 = .ok (.iand, 1) := by decide +kernel
theorem dX7_group_70 : decode cX7_group 70 = .ok (.bipush 7, 2) := by decide +kernel
theorem dX7_group_72 : decode cX7_group 72 = .ok (.iload 4, 2) := by decide +kernel
theorem dX7_group_74 : decode cX7_group 74 = .ok (.imul, 1) := by decide +kernel
theorem dX7_group_75 : decode cX7_group 75 = .ok (.ishl, 1) := by decide +kernel
theorem dX7_group_76 : decode cX7_group 76 = .ok (.ior, 1) := by decide +kernel
theorem dX7_group_77 : decode cX7_group 77 = .ok (.istore_n 3, 1) := by decide +kernel
theorem dX7_group_78 : decode cX7_group 78 = .ok (.iload 5, 2) := by decide +kernel
theorem dX7_group_80 : decode cX7_group 80 = .ok (.sipush 128, 3) := by decide +kernel
theorem dX7_group_83 : decode cX7_group 83 = .ok (.if_icmp .ge 5, 3) := by decide +kernel
theorem dX7_group_86 : decode cX7_group 86 = .ok (.iload_n 3, 1) := by decide +kernel
theorem dX7_group_87 : decode cX7_group 87 = .ok (.ireturn, 1) := by decide +kernel
theorem dX7_group_88 : decode cX7_group 88 = .ok (.iinc 4 1, 3) := by decide +kernel
theorem dX7_group_91 : decode cX7_group 91 = .ok (.goto (-86), 3) := by decide +kernel
theorem dX7_group_94 : decode cX7_group 94 = .ok (.iload_n 3, 1) := by decide +kernel
theorem dX7_group_95 : decode cX7_group 95 = .ok (.ireturn, 1) := by decide +kernel
theorem dX7_field_0 : decode cX7_field 0 = .ok (.aload_n 0, 1) := by decide +kernel
theorem dX7_field_1 : decode cX7_field 1 = .ok (.iconst 0, 1) := by decide +kernel
theorem dX7_field_2 : decode cX7_field 2 = .ok (.putfield 58, 3) := by decide +kernel
theorem dX7_field_5 : decode cX7_field 5 = .ok (.aload_n 0, 1) := by decide +kernel
theorem dX7_field_6 : decode cX7_field 6 = .ok (.aload_n 0, 1) := by decide +kernel
theorem dX7_field_7 : decode cX7_field 7 = .ok (.getfield 55, 3) := by decide +kernel
theorem dX7_field_10 : decode cX7_field 10 = .ok (.putfield 61, 3) := by decide +kernel
theorem dX7_field_13 : decode cX7_field 13 = .ok (.aload_n 0, 1) := by decide +kernel
theorem dX7_field_14 : decode cX7_field 14 = .ok (.aload_n 1, 1) := by decide +kernel
theorem dX7_field_15 : decode cX7_field 15 = .ok (.iload_n 2, 1) := by decide +kernel
theorem dX7_field_16 : decode cX7_field 16 = .ok (.invokevirtual 64, 3) := by decide +kernel
theorem dX7_field_19 : decode cX7_field 19 = .ok (.istore_n 3, 1) := by decide +kernel
theorem dX7_field_20 : decode cX7_field 20 = .ok (.aload_n 0, 1) := by decide +kernel
theorem dX7_field_21 : decode cX7_field 21 = .ok (.getfield 58, 3) := by decide +kernel
theorem dX7_field_24 : decode cX7_field 24 = .ok (.ifCond .le 4, 3) := by decide +kernel
theorem dX7_field_27 : decode cX7_field 27 = .ok (.return_, 1) := by decide +kernel
theorem dX7_field_28 : decode cX7_field 28 = .ok (.aload_n 0, 1) := by decide +kernel
theorem dX7_field_29 : decode cX7_field 29 = .ok (.iload_n 3, 1) := by decide +kernel
theorem dX7_field_30 : decode cX7_field 30 = .ok (.iconst 3, 1) := by decide +kernel
theorem dX7_field_31 : decode cX7_field 31 = .ok (.iushr, 1) := by decide +kernel
theorem dX7_field_32 : decode cX7_field 32 = .ok (.putfield 68, 3) := by decide +kernel
theorem dX7_field_35 : decode cX7_field 35 = .ok (.aload_n 0, 1) := by decide +kernel
theorem dX7_field_36 : decode cX7_field 36 = .ok (.iload_n 3, 1) := by decide +kernel
theorem dX7_field_37 : decode cX7_field 37 = .ok (.bipush 7, 2) := by decide +kernel
theorem dX7_field_39 : decode cX7_field 39 = .ok (.iand, 1) := by decide +kernel
theorem dX7_field_40 : decode cX7_field 40 = .ok (.putfield 71, 3) := by decide +kernel
theorem dX7_field_43 : decode cX7_field 43 = .ok (.aload_n 0, 1) := by decide +kernel
theorem dX7_field_44 : decode cX7_field 44 = .ok (.aload_n 0, 1) := by decide +kernel
theorem dX7_field_45 : decode cX7_field 45 = .ok (.getfield 68, 3) := by decide +kernel
theorem dX7_field_48 : decode cX7_field 48 = .ok (.invokestatic 74, 3) := by decide +kernel
theorem dX7_field_51 : decode cX7_field 51 = .ok (.ifCond .ne 7, 3) := by decide +kernel
theorem dX7_field_54 : decode cX7_field 54 = .ok (.iconst 3, 1) := by decide +kernel
theorem dX7_field_55 : decode cX7_field 55 = .ok (.goto 31, 3) := by decide +kernel
theorem dX7_field_58 : decode cX7_field 58 = .ok (.aload_n 0, 1) := by decide +kernel
theorem dX7_field_59 : decode cX7_field 59 = .ok (.getfield 71, 3) := by decide +kernel
theorem dX7_field_62 : decode cX7_field 62 = .ok (.ifCond .eq 19, 3) := by decide +kernel
theorem dX7_field_65 : decode cX7_field 65 = .ok (.aload_n 0, 1) := by decide +kernel
theorem dX7_field_66 : decode cX7_field 66 = .ok (.getfield 71, 3) := by decide +kernel
theorem dX7_field_69 : decode cX7_field 69 = .ok (.iconst 2, 1) := by decide +kernel
theorem dX7_field_70 : decode cX7_field 70 = .ok (.if_icmp .eq 11, 3) := by decide +kernel
theorem dX7_field_73 : decode cX7_field 73 = .ok (.aload_n 0, 1) := by decide +kernel
theorem dX7_field_74 : decode cX7_field 74 = .ok (.getfield 71, 3) := by decide +kernel
theorem dX7_field_77 : decode cX7_field 77 = .ok (.iconst 5, 1) := by decide +kernel
theorem dX7_field_78 : decode cX7_field 78 = .ok (.if_icmp .ne 7, 3) := by decide +kernel
theorem dX7_field_81 : decode cX7_field 81 = .ok (.iconst 0, 1) := by decide +kernel
theorem dX7_field_82 : decode cX7_field 82 = .ok (.goto 4, 3) := by decide +kernel
theorem dX7_field_85 : decode cX7_field 85 = .ok (.iconst 4, 1) := by decide +kernel
theorem dX7_field_86 : decode cX7_field 86 = .ok (.putfield 58, 3) := by decide +kernel
theorem dX7_field_89 : decode cX7_field 89 = .ok (.aload_n 0, 1) := by decide +kernel
theorem dX7_field_90 : decode cX7_field 90 = .ok (.getfield 58, 3) := by decide +kernel
theorem dX7_field_93 : decode cX7_field 93 = .ok (.ifCond .le 4, 3) := by decide +kernel
theorem dX7_field_96 : decode cX7_field 96 = .ok (.return_, 1) := by decide +kernel
theorem dX7_field_97 : decode cX7_field 97 = .ok (.aload_n 0, 1) := by decide +kernel
theorem dX7_field_98 : decode cX7_field 98 = .ok (.getfield 71, 3) := by decide +kernel
theorem dX7_field_101 : decode cX7_field 101 = .ok (.iconst 5, 1) := by decide +kernel
theorem dX7_field_102 : decode cX7_field 102 = .ok (.if_icmp .ne 76, 3) := by decide +kernel
theorem dX7_field_105 : decode cX7_field 105 = .ok (.iload_n 2, 1) := by decide +kernel
theorem dX7_field_106 : decode cX7_field 106 = .ok (.aload_n 0, 1) := by decide +kernel
theorem dX7_field_107 : decode cX7_field 107 = .ok (.getfield 55, 3) := by decide +kernel
theorem dX7_field_110 : decode cX7_field 110 = .ok (.isub, 1) := by decide +kernel
theorem dX7_field_111 : decode cX7_field 111 = .ok (.iconst 4, 1) := by decide +kernel
theorem dX7_field_112 : decode cX7_field 112 = .ok (.if_icmp .ge 9, 3) := by decide +kernel
theorem dX7_field_115 : decode cX7_field 115 = .ok (.aload_n 0, 1) := by decide +kernel
theorem dX7_field_116 : decode cX7_field 116 = .ok (.iconst 1, 1) := by decide +kernel
theorem dX7_field_117 : decode cX7_field 117 = .ok (.putfield 58, 3) := by decide +kernel
theorem dX7_field_120 : decode cX7_field 120 = .ok (.return_, 1) := by decide +kernel
theorem dX7_field_121 : decode cX7_field 121 = .ok (.aload_n 0, 1) := by decide +kernel
theorem dX7_field_122 : decode cX7_field 122 = .ok (.aload_n 1, 1) := by decide +kernel
theorem dX7_field_123 : decode cX7_field 123 = .ok (.aload_n 0, 1) := by decide +kernel
theorem dX7_field_124 : decode cX7_field 124 = .ok (.getfield 55, 3) := by decide +kernel
theorem dX7_field_127 : decode cX7_field 127 = .ok (.iaload, 1) := by decide +kernel
theorem dX7_field_128 : decode cX7_field 128 = .ok (.aload_n 1, 1) := by decide +kernel
theorem dX7_field_129 : decode cX7_field 129 = .ok (.aload_n 0, 1) := by decide +kernel
theorem dX7_field_130 : decode cX7_field 130 = .ok (.getfield 55, 3) := by decide +kernel
theorem dX7_field_133 : decode cX7_field 133 = .ok (.iconst 1, 1) := by decide +kernel
theorem dX7_field_134 : decode cX7_field 134 = .ok (.iadd, 1) := by decide +kernel
theorem dX7_field_135 : decode cX7_field 135 = .ok (.iaload, 1) := by decide +kernel
theorem dX7_field_136 : decode cX7_field 136 = .ok (.bipush 8, 2) := by decide +kernel
theorem dX7_field_138 : decode cX7_field 138 = .ok (.ishl, 1) := by decide +kernel
theorem dX7_field_139 : decode cX7_field 139 = .ok (.ior, 1) := by decide +kernel
theorem dX7_field_140 : decode cX7_field 140 = .ok (.aload_n 1, 1) := by decide +kernel
theorem dX7_field_141 : decode cX7_field 141 = .ok (.aload_n 0, 1) := by decide +kernel
theorem dX7_field_142 : decode cX7_field 142 = .ok (.getfield 55, 3) := by decide +kernel
theorem dX7_field_145 : decode cX7_field 145 = .ok (.iconst 2, 1) := by decide +kernel
theorem dX7_field_146 : decode cX7_field 146 = .ok (.iadd, 1) := by decide +kernel
theorem dX7_field_147 : decode cX7_field 147 = .ok (.iaload, 1) := by decide +kernel
theorem dX7_field_148 : decode cX7_field 148 = .ok (.bipush 16, 2) := by decide +kernel
theorem dX7_field_150 : decode cX7_field 150 = .ok (.ishl, 1) := by decide +kernel
theorem dX7_field_151 : decode cX7_field 151 = .ok (.ior, 1) := by decide +kernel
theorem dX7_field_152 : decode cX7_field 152 = .ok (.aload_n 1, 1) := by decide +kernel
theorem dX7_field_153 : decode cX7_field 153 = .ok (.aload_n 0, 1) := by decide +kernel
theorem dX7_field_154 : decode cX7_field 154 = .ok (.getfield 55, 3) := by decide +kernel
theorem dX7_field_157 : decode cX7_field 157 = .ok (.iconst 3, 1) := by decide +kernel
theorem dX7_field_158 : decode cX7_field 158 = .ok (.iadd, 1) := by decide +kernel
theorem dX7_field_159 : decode cX7_field 159 = .ok (.iaload, 1) := by decide +kernel
theorem dX7_field_160 : decode cX7_field 160 = .ok (.bipush 24, 2) := by decide +kernel
theorem dX7_field_162 : decode cX7_field 162 = .ok (.ishl, 1) := by decide +kernel
theorem dX7_field_163 : decode cX7_field 163 = .ok (.ior, 1) := by decide +kernel
theorem dX7_field_164 : decode cX7_field 164 = .ok (.putfield 78, 3) := by decide +kernel
theorem dX7_field_167 : decode cX7_field 167 = .ok (.aload_n 0, 1) := by decide +kernel
theorem dX7_field_168 : decode cX7_field 168 = .ok (.dup, 1) := by decide +kernel
theorem dX7_field_169 : decode cX7_field 169 = .ok (.getfield 55, 3) := by decide +kernel
theorem dX7_field_172 : decode cX7_field 172 = .ok (.iconst 4, 1) := by decide +kernel
theorem dX7_field_173 : decode cX7_field 173 = .ok (.iadd, 1) := by decide +kernel
theorem dX7_field_174 : decode cX7_field 174 = .ok (.putfield 55, 3) := by decide +kernel
theorem dX7_field_177 : decode cX7_field 177 = .ok (.return_, 1) := by decide +kernel
theorem dX7_field_178 : decode cX7_field 178 = .ok (.aload_n 0, 1) := by decide +kernel
theorem dX7_field_179 : decode cX7_field 179 = .ok (.aload_n 0, 1) := by decide +kernel
theorem dX7_field_180 : decode cX7_field 180 = .ok (.aload_n 1, 1) := by decide +kernel
theorem dX7_field_181 : decode cX7_field 181 = .ok (.iload_n 2, 1) := by decide +kernel
theorem dX7_field_182 : decode cX7_field 182 = .ok (.invokevirtual 64, 3) := by decide +kernel
theorem dX7_field_185 : decode cX7_field 185 = .ok (.putfield 78, 3) := by decide +kernel
theorem dX7_field_188 : decode cX7_field 188 = .ok (.aload_n 0, 1) := by decide +kernel
theorem dX7_field_189 : decode cX7_field 189 = .ok (.aload_n 0, 1) := by decide +kernel
theorem dX7_field_190 : decode cX7_field 190 = .ok (.getfield 55, 3) := by decide +kernel
theorem dX7_field_193 : decode cX7_field 193 = .ok (.putfield 81, 3) := by decide +kernel
theorem dX7_field_196 : decode cX7_field 196 = .ok (.aload_n 0, 1) := by decide +kernel
theorem dX7_field_197 : decode cX7_field 197 = .ok (.getfield 58, 3) := by decide +kernel
theorem dX7_field_200 : decode cX7_field 200 = .ok (.ifCond .ne 50, 3) := by decide +kernel
theorem dX7_field_203 : decode cX7_field 203 = .ok (.aload_n 0, 1) := by decide +kernel
theorem dX7_field_204 : decode cX7_field 204 = .ok (.getfield 71, 3) := by decide +kernel
theorem dX7_field_207 : decode cX7_field 207 = .ok (.iconst 2, 1) := by decide +kernel
theorem dX7_field_208 : decode cX7_field 208 = .ok (.if_icmp .ne 42, 3) := by decide +kernel
theorem dX7_field_211 : decode cX7_field 211 = .ok (.aload_n 0, 1) := by decide +kernel
theorem dX7_field_212 : decode cX7_field 212 = .ok (.getfield 78, 3) := by decide +kernel
theorem dX7_field_215 : decode cX7_field 215 = .ok (.ifCond .lt 16, 3) := by decide +kernel
theorem dX7_field_218 : decode cX7_field 218 = .ok (.aload_n 0, 1) := by decide +kernel
theorem dX7_field_219 : decode cX7_field 219 = .ok (.getfield 78, 3) := by decide +kernel
theorem dX7_field_222 : decode cX7_field 222 = .ok (.iload_n 2, 1) := by decide +kernel
theorem dX7_field_223 : decode cX7_field 223 = .ok (.aload_n 0, 1) := by decide +kernel
theorem dX7_field_224 : decode cX7_field 224 = .ok (.getfield 55, 3) := by decide +kernel
theorem dX7_field_227 : decode cX7_field 227 = .ok (.isub, 1) := by decide +kernel
theorem dX7_field_228 : decode cX7_field 228 = .ok (.if_icmp .le 9, 3) := by decide +kernel
theorem dX7_field_231 : decode cX7_field 231 = .ok (.aload_n 0, 1) := by decide +kernel
theorem dX7_field_232 : decode cX7_field 232 = .ok (.iconst 1, 1) := by decide +kernel
theorem dX7_field_233 : decode cX7_field 233 = .ok (.putfield 58, 3) := by decide +kernel
theorem dX7_field_236 : decode cX7_field 236 = .ok (.return_, 1) := by decide +kernel
theorem dX7_field_237 : decode cX7_field 237 = .ok (.aload_n 0, 1) := by decide +kernel
theorem dX7_field_238 : decode cX7_field 238 = .ok (.dup, 1) := by decide +kernel
theorem dX7_field_239 : decode cX7_field 239 = .ok (.getfield 55, 3) := by decide +kernel
theorem dX7_field_242 : decode cX7_field 242 = .ok (.aload_n 0, 1) := by decide +kernel
theorem dX7_field_243 : decode cX7_field 243 = .ok (.getfield 78, 3) := by decide +kernel
theorem dX7_field_246 : decode cX7_field 246 = .ok (.iadd, 1) := by decide +kernel
theorem dX7_field_247 : decode cX7_field 247 = .ok (.putfield 55, 3) := by decide +kernel
theorem dX7_field_250 : decode cX7_field 250 = .ok (.return_, 1) := by decide +kernel
theorem dX7_writes_0 : decode cX7_writes 0 = .ok (.aload_n 0, 1) := by decide +kernel
theorem dX7_writes_1 : decode cX7_writes 1 = .ok (.getfield 35, 3) := by decide +kernel
theorem dX7_writes_4 : decode cX7_writes 4 = .ok (.aload_n 0, 1) := by decide +kernel
theorem dX7_writes_5 : decode cX7_writes 5 = .ok (.getfield 84, 3) := by decide +kernel
theorem dX7_writes_8 : decode cX7_writes 8 = .ok (.iload_n 1, 1) := by decide +kernel
theorem dX7_writes_9 : decode cX7_writes 9 = .ok (.iastore, 1) := by decide +kernel
theorem dX7_writes_10 : decode cX7_writes 10 = .ok (.aload_n 0, 1) := by decide +kernel
theorem dX7_writes_11 : decode cX7_writes 11 = .ok (.dup, 1) := by decide +kernel
theorem dX7_writes_12 : decode cX7_writes 12 = .ok (.getfield 84, 3) := by decide +kernel
theorem dX7_writes_15 : decode cX7_writes 15 = .ok (.iconst 1, 1) := by decide +kernel
theorem dX7_writes_16 : decode cX7_writes 16 = .ok (.iadd, 1) := by decide +kernel
theorem dX7_writes_17 : decode cX7_writes 17 = .ok (.putfield 84, 3) := by decide +kernel
theorem dX7_writes_20 : decode cX7_writes 20 = .ok (.return_, 1) := by decide +kernel
theorem dX7_writesGroup_0 : decode cX7_writesGroup 0 = .ok (.iload_n 1, 1) := by decide +kernel
theorem dX7_writesGroup_1 : decode cX7_writesGroup 1 = .ok (.istore_n 2, 1) := by decide +kernel
theorem dX7_writesGroup_2 : decode cX7_writesGroup 2 = .ok (.iload_n 2, 1) := by decide +kernel
theorem dX7_writesGroup_3 : decode cX7_writesGroup 3 = .ok (.bipush 7, 2) := by decide +kernel
theorem dX7_writesGroup_5 : decode cX7_writesGroup 5 = .ok (.iushr, 1) := by decide +kernel
theorem dX7_writesGroup_6 : decode cX7_writesGroup 6 = .ok (.ifCond .eq 23, 3) := by decide +kernel
theorem dX7_writesGroup_9 : decode cX7_writesGroup 9 = .ok (.aload_n 0, 1) := by decide +kernel
theorem dX7_writesGroup_10 : decode cX7_writesGroup 10 = .ok (.iload_n 2, 1) := by decide +kernel
theorem dX7_writesGroup_11 : decode cX7_writesGroup 11 = .ok (.bipush 127, 2) := by decide +kernel
theorem dX7_writesGroup_13 : decode cX7_writesGroup 13 = .ok (.iand, 1) := by decide +kernel
theorem dX7_writesGroup_14 : decode cX7_writesGroup 14 = .ok (.sipush 128, 3) := by decide +kernel
theorem dX7_writesGroup_17 : decode cX7_writesGroup 17 = .ok (.ior, 1) := by decide +kernel
theorem dX7_writesGroup_18 : decode cX7_writesGroup 18 = .ok (.invokevirtual 87, 3) := by decide +kernel
theorem dX7_writesGroup_21 : decode cX7_writesGroup 21 = .ok (.iload_n 2, 1) := by decide +kernel
theorem dX7_writesGroup_22 : decode cX7_writesGroup 22 = .ok (.bipush 7, 2) := by decide +kernel
theorem dX7_writesGroup_24 : decode cX7_writesGroup 24 = .ok (.iushr, 1) := by decide +kernel
theorem dX7_writesGroup_25 : decode cX7_writesGroup 25 = .ok (.istore_n 2, 1) := by decide +kernel
theorem dX7_writesGroup_26 : decode cX7_writesGroup 26 = .ok (.goto (-24), 3) := by decide +kernel
theorem dX7_writesGroup_29 : decode cX7_writesGroup 29 = .ok (.aload_n 0, 1) := by decide +kernel
theorem dX7_writesGroup_30 : decode cX7_writesGroup 30 = .ok (.iload_n 2, 1) := by decide +kernel
theorem dX7_writesGroup_31 : decode cX7_writesGroup 31 = .ok (.invokevirtual 87, 3) := by decide +kernel
theorem dX7_writesGroup_34 : decode cX7_writesGroup 34 = .ok (.return_, 1) := by decide +kernel
theorem dX7_writesNumber_0 : decode cX7_writesNumber 0 = .ok (.aload_n 0, 1) := by decide +kernel
theorem dX7_writesNumber_1 : decode cX7_writesNumber 1 = .ok (.bipush 8, 2) := by decide +kernel
theorem dX7_writesNumber_3 : decode cX7_writesNumber 3 = .ok (.iload_n 1, 1) := by decide +kernel
theorem dX7_writesNumber_4 : decode cX7_writesNumber 4 = .ok (.imul, 1) := by decide +kernel
theorem dX7_writesNumber_5 : decode cX7_writesNumber 5 = .ok (.iload_n 2, 1) := by decide +kernel
theorem dX7_writesNumber_6 : decode cX7_writesNumber 6 = .ok (.iadd, 1) := by decide +kernel
theorem dX7_writesNumber_7 : decode cX7_writesNumber 7 = .ok (.invokevirtual 91, 3) := by decide +kernel
theorem dX7_writesNumber_10 : decode cX7_writesNumber 10 = .ok (.iload_n 2, 1) := by decide +kernel
theorem dX7_writesNumber_11 : decode cX7_writesNumber 11 = .ok (.iconst 5, 1) := by decide +kernel
theorem dX7_writesNumber_12 : decode cX7_writesNumber 12 = .ok (.if_icmp .ne 36, 3) := by decide +kernel
theorem dX7_writesNumber_15 : decode cX7_writesNumber 15 = .ok (.iconst 0, 1) := by decide +kernel
theorem dX7_writesNumber_16 : decode cX7_writesNumber 16 = .ok (.istore 4, 2) := by decide +kernel
theorem dX7_writesNumber_18 : decode cX7_writesNumber 18 = .ok (.iload 4, 2) := by decide +kernel
theorem dX7_writesNumber_20 : decode cX7_writesNumber 20 = .ok (.iconst 4, 1) := by decide +kernel
theorem dX7_writesNumber_21 : decode cX7_writesNumber 21 = .ok (.if_icmp .ge 24, 3) := by decide +kernel
theorem dX7_writesNumber_24 : decode cX7_writesNumber 24 = .ok (.aload_n 0, 1) := by decide +kernel
theorem dX7_writesNumber_25 : decode cX7_writesNumber 25 = .ok (.iload_n 3, 1) := by decide +kernel
theorem dX7_writesNumber_26 : decode cX7_writesNumber 26 = .ok (.bipush 8, 2) := by decide +kernel
theorem dX7_writesNumber_28 : decode cX7_writesNumber 28 = .ok (.iload 4, 2) := by decide +kernel
theorem dX7_writesNumber_30 : decode cX7_writesNumber 30 = .ok (.imul, 1) := by decide +kernel
theorem dX7_writesNumber_31 : decode cX7_writesNumber 31 = .ok (.iushr, 1) := by decide +kernel
theorem dX7_writesNumber_32 : decode cX7_writesNumber 32 = .ok (.sipush 255, 3) := by decide +kernel
theorem dX7_writesNumber_35 : decode cX7_writesNumber 35 = .ok (.iand, 1) := by decide +kernel
theorem dX7_writesNumber_36 : decode cX7_writesNumber 36 = .ok (.invokevirtual 87, 3) := by decide +kernel
theorem dX7_writesNumber_39 : decode cX7_writesNumber 39 = .ok (.iinc 4 1, 3) := by decide +kernel
theorem dX7_writesNumber_42 : decode cX7_writesNumber 42 = .ok (.goto (-24), 3) := by decide +kernel
theorem dX7_writesNumber_45 : decode cX7_writesNumber 45 = .ok (.goto 8, 3) := by decide +kernel
theorem dX7_writesNumber_48 : decode cX7_writesNumber 48 = .ok (.aload_n 0, 1) := by decide +kernel
theorem dX7_writesNumber_49 : decode cX7_writesNumber 49 = .ok (.iload_n 3, 1) := by decide +kernel
theorem dX7_writesNumber_50 : decode cX7_writesNumber 50 = .ok (.invokevirtual 91, 3) := by decide +kernel
theorem dX7_writesNumber_53 : decode cX7_writesNumber 53 = .ok (.return_, 1) := by decide +kernel
theorem dX7_writesField_0 : decode cX7_writesField 0 = .ok (.aload_n 0, 1) := by decide +kernel
theorem dX7_writesField_1 : decode cX7_writesField 1 = .ok (.aload_n 0, 1) := by decide +kernel
theorem dX7_writesField_2 : decode cX7_writesField 2 = .ok (.getfield 68, 3) := by decide +kernel
theorem dX7_writesField_5 : decode cX7_writesField 5 = .ok (.aload_n 0, 1) := by decide +kernel
theorem dX7_writesField_6 : decode cX7_writesField 6 = .ok (.getfield 71, 3) := by decide +kernel
theorem dX7_writesField_9 : decode cX7_writesField 9 = .ok (.aload_n 0, 1) := by decide +kernel
theorem dX7_writesField_10 : decode cX7_writesField 10 = .ok (.getfield 78, 3) := by decide +kernel
theorem dX7_writesField_13 : decode cX7_writesField 13 = .ok (.invokevirtual 94, 3) := by decide +kernel
theorem dX7_writesField_16 : decode cX7_writesField 16 = .ok (.iconst 0, 1) := by decide +kernel
theorem dX7_writesField_17 : decode cX7_writesField 17 = .ok (.istore_n 2, 1) := by decide +kernel
theorem dX7_writesField_18 : decode cX7_writesField 18 = .ok (.iload_n 2, 1) := by decide +kernel
theorem dX7_writesField_19 : decode cX7_writesField 19 = .ok (.aload_n 0, 1) := by decide +kernel
theorem dX7_writesField_20 : decode cX7_writesField 20 = .ok (.getfield 78, 3) := by decide +kernel
theorem dX7_writesField_23 : decode cX7_writesField 23 = .ok (.if_icmp .ge 29, 3) := by decide +kernel
theorem dX7_writesField_26 : decode cX7_writesField 26 = .ok (.aload_n 0, 1) := by decide +kernel
theorem dX7_writesField_27 : decode cX7_writesField 27 = .ok (.getfield 71, 3) := by decide +kernel
theorem dX7_writesField_30 : decode cX7_writesField 30 = .ok (.iconst 2, 1) := by decide +kernel
theorem dX7_writesField_31 : decode cX7_writesField 31 = .ok (.if_icmp .ne 21, 3) := by decide +kernel
theorem dX7_writesField_34 : decode cX7_writesField 34 = .ok (.aload_n 0, 1) := by decide +kernel
theorem dX7_writesField_35 : decode cX7_writesField 35 = .ok (.aload_n 1, 1) := by decide +kernel
theorem dX7_writesField_36 : decode cX7_writesField 36 = .ok (.aload_n 0, 1) := by decide +kernel
theorem dX7_writesField_37 : decode cX7_writesField 37 = .ok (.getfield 81, 3) := by decide +kernel
theorem dX7_writesField_40 : decode cX7_writesField 40 = .ok (.iload_n 2, 1) := by decide +kernel
theorem dX7_writesField_41 : decode cX7_writesField 41 = .ok (.iadd, 1) := by decide +kernel
theorem dX7_writesField_42 : decode cX7_writesField 42 = .ok (.iaload, 1) := by decide +kernel
theorem dX7_writesField_43 : decode cX7_writesField 43 = .ok (.invokevirtual 87, 3) := by decide +kernel
theorem dX7_writesField_46 : decode cX7_writesField 46 = .ok (.iinc 2 1, 3) := by decide +kernel
theorem dX7_writesField_49 : decode cX7_writesField 49 = .ok (.goto (-31), 3) := by decide +kernel
theorem dX7_writesField_52 : decode cX7_writesField 52 = .ok (.return_, 1) := by decide +kernel
theorem dX7_becomes_0 : decode cX7_becomes 0 = .ok (.iconst 0, 1) := by decide +kernel
theorem dX7_becomes_1 : decode cX7_becomes 1 = .ok (.istore_n 2, 1) := by decide +kernel
theorem dX7_becomes_2 : decode cX7_becomes 2 = .ok (.iload_n 2, 1) := by decide +kernel
theorem dX7_becomes_3 : decode cX7_becomes 3 = .ok (.aload_n 0, 1) := by decide +kernel
theorem dX7_becomes_4 : decode cX7_becomes 4 = .ok (.getfield 84, 3) := by decide +kernel
theorem dX7_becomes_7 : decode cX7_becomes 7 = .ok (.if_icmp .ge 26, 3) := by decide +kernel
theorem dX7_becomes_10 : decode cX7_becomes 10 = .ok (.aload_n 0, 1) := by decide +kernel
theorem dX7_becomes_11 : decode cX7_becomes 11 = .ok (.getfield 29, 3) := by decide +kernel
theorem dX7_becomes_14 : decode cX7_becomes 14 = .ok (.bipush 120, 2) := by decide +kernel
theorem dX7_becomes_16 : decode cX7_becomes 16 = .ok (.iload_n 1, 1) := by decide +kernel
theorem dX7_becomes_17 : decode cX7_becomes 17 = .ok (.imul, 1) := by decide +kernel
theorem dX7_becomes_18 : decode cX7_becomes 18 = .ok (.iload_n 2, 1) := by decide +kernel
theorem dX7_becomes_19 : decode cX7_becomes 19 = .ok (.iadd, 1) := by decide +kernel
theorem dX7_becomes_20 : decode cX7_becomes 20 = .ok (.aload_n 0, 1) := by decide +kernel
theorem dX7_becomes_21 : decode cX7_becomes 21 = .ok (.getfield 35, 3) := by decide +kernel
theorem dX7_becomes_24 : decode cX7_becomes 24 = .ok (.iload_n 2, 1) := by decide +kernel
theorem dX7_becomes_25 : decode cX7_becomes 25 = .ok (.iaload, 1) := by decide +kernel
theorem dX7_becomes_26 : decode cX7_becomes 26 = .ok (.iastore, 1) := by decide +kernel
theorem dX7_becomes_27 : decode cX7_becomes 27 = .ok (.iinc 2 1, 3) := by decide +kernel
theorem dX7_becomes_30 : decode cX7_becomes 30 = .ok (.goto (-28), 3) := by decide +kernel
theorem dX7_becomes_33 : decode cX7_becomes 33 = .ok (.aload_n 0, 1) := by decide +kernel
theorem dX7_becomes_34 : decode cX7_becomes 34 = .ok (.getfield 26, 3) := by decide +kernel
theorem dX7_becomes_37 : decode cX7_becomes 37 = .ok (.iload_n 1, 1) := by decide +kernel
theorem dX7_becomes_38 : decode cX7_becomes 38 = .ok (.aload_n 0, 1) := by decide +kernel
theorem dX7_becomes_39 : decode cX7_becomes 39 = .ok (.getfield 84, 3) := by decide +kernel
theorem dX7_becomes_42 : decode cX7_becomes 42 = .ok (.iastore, 1) := by decide +kernel
theorem dX7_becomes_43 : decode cX7_becomes 43 = .ok (.return_, 1) := by decide +kernel
theorem dX7_typeOf_0 : decode cX7_typeOf 0 = .ok (.iload_n 0, 1) := by decide +kernel
theorem dX7_typeOf_1 : decode cX7_typeOf 1 = .ok (.iconst 2, 1) := by decide +kernel
theorem dX7_typeOf_2 : decode cX7_typeOf 2 = .ok (.if_icmp .ne 7, 3) := by decide +kernel
theorem dX7_typeOf_5 : decode cX7_typeOf 5 = .ok (.iconst 5, 1) := by decide +kernel
theorem dX7_typeOf_6 : decode cX7_typeOf 6 = .ok (.goto 17, 3) := by decide +kernel
theorem dX7_typeOf_9 : decode cX7_typeOf 9 = .ok (.iload_n 0, 1) := by decide +kernel
theorem dX7_typeOf_10 : decode cX7_typeOf 10 = .ok (.ifCond .eq 8, 3) := by decide +kernel
theorem dX7_typeOf_13 : decode cX7_typeOf 13 = .ok (.iload_n 0, 1) := by decide +kernel
theorem dX7_typeOf_14 : decode cX7_typeOf 14 = .ok (.iconst 1, 1) := by decide +kernel
theorem dX7_typeOf_15 : decode cX7_typeOf 15 = .ok (.if_icmp .ne 7, 3) := by decide +kernel
theorem dX7_typeOf_18 : decode cX7_typeOf 18 = .ok (.iconst 0, 1) := by decide +kernel
theorem dX7_typeOf_19 : decode cX7_typeOf 19 = .ok (.goto 4, 3) := by decide +kernel
theorem dX7_typeOf_22 : decode cX7_typeOf 22 = .ok (.iconst 2, 1) := by decide +kernel
theorem dX7_typeOf_23 : decode cX7_typeOf 23 = .ok (.ireturn, 1) := by decide +kernel
theorem dX7_kind_0 : decode cX7_kind 0 = .ok (.iload_n 2, 1) := by decide +kernel
theorem dX7_kind_1 : decode cX7_kind 1 = .ok (.invokestatic 74, 3) := by decide +kernel
theorem dX7_kind_4 : decode cX7_kind 4 = .ok (.ifCond .eq 17, 3) := by decide +kernel
theorem dX7_kind_7 : decode cX7_kind 7 = .ok (.aload_n 0, 1) := by decide +kernel
theorem dX7_kind_8 : decode cX7_kind 8 = .ok (.getfield 7, 3) := by decide +kernel
theorem dX7_kind_11 : decode cX7_kind 11 = .ok (.bipush 32, 2) := by decide +kernel
theorem dX7_kind_13 : decode cX7_kind 13 = .ok (.iload_n 1, 1) := by decide +kernel
theorem dX7_kind_14 : decode cX7_kind 14 = .ok (.imul, 1) := by decide +kernel
theorem dX7_kind_15 : decode cX7_kind 15 = .ok (.iload_n 2, 1) := by decide +kernel
theorem dX7_kind_16 : decode cX7_kind 16 = .ok (.iadd, 1) := by decide +kernel
theorem dX7_kind_17 : decode cX7_kind 17 = .ok (.iaload, 1) := by decide +kernel
theorem dX7_kind_18 : decode cX7_kind 18 = .ok (.goto 4, 3) := by decide +kernel
theorem dX7_kind_21 : decode cX7_kind 21 = .ok (.iconst (-1), 1) := by decide +kernel
theorem dX7_kind_22 : decode cX7_kind 22 = .ok (.ireturn, 1) := by decide +kernel
theorem dX7_isInt_0 : decode cX7_isInt 0 = .ok (.iload_n 0, 1) := by decide +kernel
theorem dX7_isInt_1 : decode cX7_isInt 1 = .ok (.iconst 0, 1) := by decide +kernel
theorem dX7_isInt_2 : decode cX7_isInt 2 = .ok (.iconst 2, 1) := by decide +kernel
theorem dX7_isInt_3 : decode cX7_isInt 3 = .ok (.invokestatic 51, 3) := by decide +kernel
theorem dX7_isInt_6 : decode cX7_isInt 6 = .ok (.ireturn, 1) := by decide +kernel
theorem dX7_hasBytes_0 : decode cX7_hasBytes 0 = .ok (.iload_n 0, 1) := by decide +kernel
theorem dX7_hasBytes_1 : decode cX7_hasBytes 1 = .ok (.iconst 3, 1) := by decide +kernel
theorem dX7_hasBytes_2 : decode cX7_hasBytes 2 = .ok (.if_icmp .eq 8, 3) := by decide +kernel
theorem dX7_hasBytes_5 : decode cX7_hasBytes 5 = .ok (.iload_n 0, 1) := by decide +kernel
theorem dX7_hasBytes_6 : decode cX7_hasBytes 6 = .ok (.iconst 4, 1) := by decide +kernel
theorem dX7_hasBytes_7 : decode cX7_hasBytes 7 = .ok (.if_icmp .ne 7, 3) := by decide +kernel
theorem dX7_hasBytes_10 : decode cX7_hasBytes 10 = .ok (.iconst 1, 1) := by decide +kernel
theorem dX7_hasBytes_11 : decode cX7_hasBytes 11 = .ok (.goto 4, 3) := by decide +kernel
theorem dX7_hasBytes_14 : decode cX7_hasBytes 14 = .ok (.iconst 0, 1) := by decide +kernel
theorem dX7_hasBytes_15 : decode cX7_hasBytes 15 = .ok (.ireturn, 1) := by decide +kernel
theorem dX7_isKnown_0 : decode cX7_isKnown 0 = .ok (.aload_n 0, 1) := by decide +kernel
theorem dX7_isKnown_1 : decode cX7_isKnown 1 = .ok (.iload_n 1, 1) := by decide +kernel
theorem dX7_isKnown_2 : decode cX7_isKnown 2 = .ok (.aload_n 0, 1) := by decide +kernel
theorem dX7_isKnown_3 : decode cX7_isKnown 3 = .ok (.getfield 68, 3) := by decide +kernel
theorem dX7_isKnown_6 : decode cX7_isKnown 6 = .ok (.invokevirtual 98, 3) := by decide +kernel
theorem dX7_isKnown_9 : decode cX7_isKnown 9 = .ok (.istore_n 2, 1) := by decide +kernel
theorem dX7_isKnown_10 : decode cX7_isKnown 10 = .ok (.iload_n 2, 1) := by decide +kernel
theorem dX7_isKnown_11 : decode cX7_isKnown 11 = .ok (.iconst (-1), 1) := by decide +kernel
theorem dX7_isKnown_12 : decode cX7_isKnown 12 = .ok (.if_icmp .eq 18, 3) := by decide +kernel
theorem dX7_isKnown_15 : decode cX7_isKnown 15 = .ok (.iload_n 2, 1) := by decide +kernel
theorem dX7_isKnown_16 : decode cX7_isKnown 16 = .ok (.invokestatic 102, 3) := by decide +kernel
theorem dX7_isKnown_19 : decode cX7_isKnown 19 = .ok (.aload_n 0, 1) := by decide +kernel
theorem dX7_isKnown_20 : decode cX7_isKnown 20 = .ok (.getfield 71, 3) := by decide +kernel
theorem dX7_isKnown_23 : decode cX7_isKnown 23 = .ok (.if_icmp .ne 7, 3) := by decide +kernel
theorem dX7_isKnown_26 : decode cX7_isKnown 26 = .ok (.iconst 1, 1) := by decide +kernel
theorem dX7_isKnown_27 : decode cX7_isKnown 27 = .ok (.goto 4, 3) := by decide +kernel
theorem dX7_isKnown_30 : decode cX7_isKnown 30 = .ok (.iconst 0, 1) := by decide +kernel
theorem dX7_isKnown_31 : decode cX7_isKnown 31 = .ok (.ireturn, 1) := by decide +kernel
theorem dX7_standsFor_0 : decode cX7_standsFor 0 = .ok (.iload_n 0, 1) := by decide +kernel
theorem dX7_standsFor_1 : decode cX7_standsFor 1 = .ok (.iconst 1, 1) := by decide +kernel
theorem dX7_standsFor_2 : decode cX7_standsFor 2 = .ok (.if_icmp .ne 14, 3) := by decide +kernel
theorem dX7_standsFor_5 : decode cX7_standsFor 5 = .ok (.iload_n 1, 1) := by decide +kernel
theorem dX7_standsFor_6 : decode cX7_standsFor 6 = .ok (.iconst 1, 1) := by decide +kernel
theorem dX7_standsFor_7 : decode cX7_standsFor 7 = .ok (.iushr, 1) := by decide +kernel
theorem dX7_standsFor_8 : decode cX7_standsFor 8 = .ok (.iload_n 1, 1) := by decide +kernel
theorem dX7_standsFor_9 : decode cX7_standsFor 9 = .ok (.iconst 1, 1) := by decide +kernel
theorem dX7_standsFor_10 : decode cX7_standsFor 10 = .ok (.iand, 1) := by decide +kernel
theorem dX7_standsFor_11 : decode cX7_standsFor 11 = .ok (.ineg, 1) := by decide +kernel
theorem dX7_standsFor_12 : decode cX7_standsFor 12 = .ok (.ixor, 1) := by decide +kernel
theorem dX7_standsFor_13 : decode cX7_standsFor 13 = .ok (.goto 4, 3) := by decide +kernel
theorem dX7_standsFor_16 : decode cX7_standsFor 16 = .ok (.iload_n 1, 1) := by decide +kernel
theorem dX7_standsFor_17 : decode cX7_standsFor 17 = .ok (.ireturn, 1) := by decide +kernel
theorem dX7_standsAs_0 : decode cX7_standsAs 0 = .ok (.iload_n 0, 1) := by decide +kernel
theorem dX7_standsAs_1 : decode cX7_standsAs 1 = .ok (.iconst 1, 1) := by decide +kernel
theorem dX7_standsAs_2 : decode cX7_standsAs 2 = .ok (.if_icmp .ne 14, 3) := by decide +kernel
theorem dX7_standsAs_5 : decode cX7_standsAs 5 = .ok (.iload_n 1, 1) := by decide +kernel
theorem dX7_standsAs_6 : decode cX7_standsAs 6 = .ok (.iconst 1, 1) := by decide +kernel
theorem dX7_standsAs_7 : decode cX7_standsAs 7 = .ok (.ishl, 1) := by decide +kernel
theorem dX7_standsAs_8 : decode cX7_standsAs 8 = .ok (.iload_n 1, 1) := by decide +kernel
theorem dX7_standsAs_9 : decode cX7_standsAs 9 = .ok (.bipush 31, 2) := by decide +kernel
theorem dX7_standsAs_11 : decode cX7_standsAs 11 = .ok (.ishr, 1) := by decide +kernel
theorem dX7_standsAs_12 : decode cX7_standsAs 12 = .ok (.ixor, 1) := by decide +kernel
theorem dX7_standsAs_13 : decode cX7_standsAs 13 = .ok (.goto 4, 3) := by decide +kernel
theorem dX7_standsAs_16 : decode cX7_standsAs 16 = .ok (.iload_n 1, 1) := by decide +kernel
theorem dX7_standsAs_17 : decode cX7_standsAs 17 = .ok (.ireturn, 1) := by decide +kernel
theorem dX7_lastKnown_0 : decode cX7_lastKnown 0 = .ok (.iconst (-1), 1) := by decide +kernel
theorem dX7_lastKnown_1 : decode cX7_lastKnown 1 = .ok (.istore_n 3, 1) := by decide +kernel
theorem dX7_lastKnown_2 : decode cX7_lastKnown 2 = .ok (.aload_n 0, 1) := by decide +kernel
theorem dX7_lastKnown_3 : decode cX7_lastKnown 3 = .ok (.bipush 120, 2) := by decide +kernel
theorem dX7_lastKnown_5 : decode cX7_lastKnown 5 = .ok (.iload_n 1, 1) := by decide +kernel
theorem dX7_lastKnown_6 : decode cX7_lastKnown 6 = .ok (.imul, 1) := by decide +kernel
theorem dX7_lastKnown_7 : decode cX7_lastKnown 7 = .ok (.putfield 55, 3) := by decide +kernel
theorem dX7_lastKnown_10 : decode cX7_lastKnown 10 = .ok (.aload_n 0, 1) := by decide +kernel
theorem dX7_lastKnown_11 : decode cX7_lastKnown 11 = .ok (.getfield 55, 3) := by decide +kernel
theorem dX7_lastKnown_14 : decode cX7_lastKnown 14 = .ok (.bipush 120, 2) := by decide +kernel
theorem dX7_lastKnown_16 : decode cX7_lastKnown 16 = .ok (.iload_n 1, 1) := by decide +kernel
theorem dX7_lastKnown_17 : decode cX7_lastKnown 17 = .ok (.imul, 1) := by decide +kernel
theorem dX7_lastKnown_18 : decode cX7_lastKnown 18 = .ok (.aload_n 0, 1) := by decide +kernel
theorem dX7_lastKnown_19 : decode cX7_lastKnown 19 = .ok (.getfield 26, 3) := by decide +kernel
theorem dX7_lastKnown_22 : decode cX7_lastKnown 22 = .ok (.iload_n 1, 1) := by decide +kernel
theorem dX7_lastKnown_23 : decode cX7_lastKnown 23 = .ok (.iaload, 1) := by decide +kernel
theorem dX7_lastKnown_24 : decode cX7_lastKnown 24 = .ok (.iadd, 1) := by decide +kernel
theorem dX7_lastKnown_25 : decode cX7_lastKnown 25 = .ok (.if_icmp .ge 55, 3) := by decide +kernel
theorem dX7_lastKnown_28 : decode cX7_lastKnown 28 = .ok (.aload_n 0, 1) := by decide +kernel
theorem dX7_lastKnown_29 : decode cX7_lastKnown 29 = .ok (.aload_n 0, 1) := by decide +kernel
theorem dX7_lastKnown_30 : decode cX7_lastKnown 30 = .ok (.getfield 29, 3) := by decide +kernel
theorem dX7_lastKnown_33 : decode cX7_lastKnown 33 = .ok (.bipush 120, 2) := by decide +kernel
theorem dX7_lastKnown_35 : decode cX7_lastKnown 35 = .ok (.iload_n 1, 1) := by decide +kernel
theorem dX7_lastKnown_36 : decode cX7_lastKnown 36 = .ok (.imul, 1) := by decide +kernel
theorem dX7_lastKnown_37 : decode cX7_lastKnown 37 = .ok (.aload_n 0, 1) := by decide +kernel
theorem dX7_lastKnown_38 : decode cX7_lastKnown 38 = .ok (.getfield 26, 3) := by decide +kernel
theorem dX7_lastKnown_41 : decode cX7_lastKnown 41 = .ok (.iload_n 1, 1) := by decide +kernel
theorem dX7_lastKnown_42 : decode cX7_lastKnown 42 = .ok (.iaload, 1) := by decide +kernel
theorem dX7_lastKnown_43 : decode cX7_lastKnown 43 = .ok (.iadd, 1) := by decide +kernel
theorem dX7_lastKnown_44 : decode cX7_lastKnown 44 = .ok (.invokevirtual 106, 3) := by decide +kernel
theorem dX7_lastKnown_47 : decode cX7_lastKnown 47 = .ok (.aload_n 0, 1) := by decide +kernel
theorem dX7_lastKnown_48 : decode cX7_lastKnown 48 = .ok (.getfield 68, 3) := by decide +kernel
theorem dX7_lastKnown_51 : decode cX7_lastKnown 51 = .ok (.iload_n 2, 1) := by decide +kernel
theorem dX7_lastKnown_52 : decode cX7_lastKnown 52 = .ok (.if_icmp .ne 23, 3) := by decide +kernel
theorem dX7_lastKnown_55 : decode cX7_lastKnown 55 = .ok (.aload_n 0, 1) := by decide +kernel
theorem dX7_lastKnown_56 : decode cX7_lastKnown 56 = .ok (.aload_n 0, 1) := by decide +kernel
theorem dX7_lastKnown_57 : decode cX7_lastKnown 57 = .ok (.getfield 23, 3) := by decide +kernel
theorem dX7_lastKnown_60 : decode cX7_lastKnown 60 = .ok (.iload_n 1, 1) := by decide +kernel
theorem dX7_lastKnown_61 : decode cX7_lastKnown 61 = .ok (.iaload, 1) := by decide +kernel
theorem dX7_lastKnown_62 : decode cX7_lastKnown 62 = .ok (.invokevirtual 110, 3) := by decide +kernel
theorem dX7_lastKnown_65 : decode cX7_lastKnown 65 = .ok (.ifCond .eq 10, 3) := by decide +kernel
theorem dX7_lastKnown_68 : decode cX7_lastKnown 68 = .ok (.aload_n 0, 1) := by decide +kernel
theorem dX7_lastKnown_69 : decode cX7_lastKnown 69 = .ok (.getfield 61, 3) := by decide +kernel
theorem dX7_lastKnown_72 : decode cX7_lastKnown 72 = .ok (.goto 4, 3) := by decide +kernel
theorem dX7_lastKnown_75 : decode cX7_lastKnown 75 = .ok (.iload_n 3, 1) := by decide +kernel
theorem dX7_lastKnown_76 : decode cX7_lastKnown 76 = .ok (.istore_n 3, 1) := by decide +kernel
theorem dX7_lastKnown_77 : decode cX7_lastKnown 77 = .ok (.goto (-67), 3) := by decide +kernel
theorem dX7_lastKnown_80 : decode cX7_lastKnown 80 = .ok (.iload_n 3, 1) := by decide +kernel
theorem dX7_lastKnown_81 : decode cX7_lastKnown 81 = .ok (.ireturn, 1) := by decide +kernel
theorem dX7_finds_0 : decode cX7_finds 0 = .ok (.aload_n 0, 1) := by decide +kernel
theorem dX7_finds_1 : decode cX7_finds 1 = .ok (.iload_n 1, 1) := by decide +kernel
theorem dX7_finds_2 : decode cX7_finds 2 = .ok (.iload_n 2, 1) := by decide +kernel
theorem dX7_finds_3 : decode cX7_finds 3 = .ok (.invokevirtual 113, 3) := by decide +kernel
theorem dX7_finds_6 : decode cX7_finds 6 = .ok (.istore_n 3, 1) := by decide +kernel
theorem dX7_finds_7 : decode cX7_finds 7 = .ok (.iload_n 3, 1) := by decide +kernel
theorem dX7_finds_8 : decode cX7_finds 8 = .ok (.iconst (-1), 1) := by decide +kernel
theorem dX7_finds_9 : decode cX7_finds 9 = .ok (.if_icmp .eq 27, 3) := by decide +kernel
theorem dX7_finds_12 : decode cX7_finds 12 = .ok (.aload_n 0, 1) := by decide +kernel
theorem dX7_finds_13 : decode cX7_finds 13 = .ok (.iload_n 3, 1) := by decide +kernel
theorem dX7_finds_14 : decode cX7_finds 14 = .ok (.putfield 55, 3) := by decide +kernel
theorem dX7_finds_17 : decode cX7_finds 17 = .ok (.aload_n 0, 1) := by decide +kernel
theorem dX7_finds_18 : decode cX7_finds 18 = .ok (.aload_n 0, 1) := by decide +kernel
theorem dX7_finds_19 : decode cX7_finds 19 = .ok (.getfield 29, 3) := by decide +kernel
theorem dX7_finds_22 : decode cX7_finds 22 = .ok (.bipush 120, 2) := by decide +kernel
theorem dX7_finds_24 : decode cX7_finds 24 = .ok (.iload_n 1, 1) := by decide +kernel
theorem dX7_finds_25 : decode cX7_finds 25 = .ok (.imul, 1) := by decide +kernel
theorem dX7_finds_26 : decode cX7_finds 26 = .ok (.aload_n 0, 1) := by decide +kernel
theorem dX7_finds_27 : decode cX7_finds 27 = .ok (.getfield 26, 3) := by decide +kernel
theorem dX7_finds_30 : decode cX7_finds 30 = .ok (.iload_n 1, 1) := by decide +kernel
theorem dX7_finds_31 : decode cX7_finds 31 = .ok (.iaload, 1) := by decide +kernel
theorem dX7_finds_32 : decode cX7_finds 32 = .ok (.iadd, 1) := by decide +kernel
theorem dX7_finds_33 : decode cX7_finds 33 = .ok (.invokevirtual 106, 3) := by decide +kernel
theorem dX7_finds_36 : decode cX7_finds 36 = .ok (.iload_n 3, 1) := by decide +kernel
theorem dX7_finds_37 : decode cX7_finds 37 = .ok (.iconst (-1), 1) := by decide +kernel
theorem dX7_finds_38 : decode cX7_finds 38 = .ok (.if_icmp .eq 7, 3) := by decide +kernel
theorem dX7_finds_41 : decode cX7_finds 41 = .ok (.iconst 1, 1) := by decide +kernel
theorem dX7_finds_42 : decode cX7_finds 42 = .ok (.goto 4, 3) := by decide +kernel
theorem dX7_finds_45 : decode cX7_finds 45 = .ok (.iconst 0, 1) := by decide +kernel
theorem dX7_finds_46 : decode cX7_finds 46 = .ok (.ireturn, 1) := by decide +kernel
theorem dX7_writesOthers_0 : decode cX7_writesOthers 0 = .ok (.aload_n 0, 1) := by decide +kernel
theorem dX7_writesOthers_1 : decode cX7_writesOthers 1 = .ok (.iconst 0, 1) := by decide +kernel
theorem dX7_writesOthers_2 : decode cX7_writesOthers 2 = .ok (.putfield 84, 3) := by decide +kernel
theorem dX7_writesOthers_5 : decode cX7_writesOthers 5 = .ok (.aload_n 0, 1) := by decide +kernel
theorem dX7_writesOthers_6 : decode cX7_writesOthers 6 = .ok (.bipush 120, 2) := by decide +kernel
theorem dX7_writesOthers_8 : decode cX7_writesOthers 8 = .ok (.iload_n 1, 1) := by decide +kernel
theorem dX7_writesOthers_9 : decode cX7_writesOthers 9 = .ok (.imul, 1) := by decide +kernel
theorem dX7_writesOthers_10 : decode cX7_writesOthers 10 = .ok (.putfield 55, 3) := by decide +kernel
theorem dX7_writesOthers_13 : decode cX7_writesOthers 13 = .ok (.aload_n 0, 1) := by decide +kernel
theorem dX7_writesOthers_14 : decode cX7_writesOthers 14 = .ok (.getfield 55, 3) := by decide +kernel
theorem dX7_writesOthers_17 : decode cX7_writesOthers 17 = .ok (.bipush 120, 2) := by decide +kernel
theorem dX7_writesOthers_19 : decode cX7_writesOthers 19 = .ok (.iload_n 1, 1) := by decide +kernel
theorem dX7_writesOthers_20 : decode cX7_writesOthers 20 = .ok (.imul, 1) := by decide +kernel
theorem dX7_writesOthers_21 : decode cX7_writesOthers 21 = .ok (.aload_n 0, 1) := by decide +kernel
theorem dX7_writesOthers_22 : decode cX7_writesOthers 22 = .ok (.getfield 26, 3) := by decide +kernel
theorem dX7_writesOthers_25 : decode cX7_writesOthers 25 = .ok (.iload_n 1, 1) := by decide +kernel
theorem dX7_writesOthers_26 : decode cX7_writesOthers 26 = .ok (.iaload, 1) := by decide +kernel
theorem dX7_writesOthers_27 : decode cX7_writesOthers 27 = .ok (.iadd, 1) := by decide +kernel
theorem dX7_writesOthers_28 : decode cX7_writesOthers 28 = .ok (.if_icmp .ge 54, 3) := by decide +kernel
theorem dX7_writesOthers_31 : decode cX7_writesOthers 31 = .ok (.aload_n 0, 1) := by decide +kernel
theorem dX7_writesOthers_32 : decode cX7_writesOthers 32 = .ok (.aload_n 0, 1) := by decide +kernel
theorem dX7_writesOthers_33 : decode cX7_writesOthers 33 = .ok (.getfield 29, 3) := by decide +kernel
theorem dX7_writesOthers_36 : decode cX7_writesOthers 36 = .ok (.bipush 120, 2) := by decide +kernel
theorem dX7_writesOthers_38 : decode cX7_writesOthers 38 = .ok (.iload_n 1, 1) := by decide +kernel
theorem dX7_writesOthers_39 : decode cX7_writesOthers 39 = .ok (.imul, 1) := by decide +kernel
theorem dX7_writesOthers_40 : decode cX7_writesOthers 40 = .ok (.aload_n 0, 1) := by decide +kernel
theorem dX7_writesOthers_41 : decode cX7_writesOthers 41 = .ok (.getfield 26, 3) := by decide +kernel
theorem dX7_writesOthers_44 : decode cX7_writesOthers 44 = .ok (.iload_n 1, 1) := by decide +kernel
theorem dX7_writesOthers_45 : decode cX7_writesOthers 45 = .ok (.iaload, 1) := by decide +kernel
theorem dX7_writesOthers_46 : decode cX7_writesOthers 46 = .ok (.iadd, 1) := by decide +kernel
theorem dX7_writesOthers_47 : decode cX7_writesOthers 47 = .ok (.invokevirtual 106, 3) := by decide +kernel
theorem dX7_writesOthers_50 : decode cX7_writesOthers 50 = .ok (.aload_n 0, 1) := by decide +kernel
theorem dX7_writesOthers_51 : decode cX7_writesOthers 51 = .ok (.getfield 68, 3) := by decide +kernel
theorem dX7_writesOthers_54 : decode cX7_writesOthers 54 = .ok (.iload_n 2, 1) := by decide +kernel
theorem dX7_writesOthers_55 : decode cX7_writesOthers 55 = .ok (.if_icmp .ne 16, 3) := by decide +kernel
theorem dX7_writesOthers_58 : decode cX7_writesOthers 58 = .ok (.aload_n 0, 1) := by decide +kernel
theorem dX7_writesOthers_59 : decode cX7_writesOthers 59 = .ok (.aload_n 0, 1) := by decide +kernel
theorem dX7_writesOthers_60 : decode cX7_writesOthers 60 = .ok (.getfield 23, 3) := by decide +kernel
theorem dX7_writesOthers_63 : decode cX7_writesOthers 63 = .ok (.iload_n 1, 1) := by decide +kernel
theorem dX7_writesOthers_64 : decode cX7_writesOthers 64 = .ok (.iaload, 1) := by decide +kernel
theorem dX7_writesOthers_65 : decode cX7_writesOthers 65 = .ok (.invokevirtual 110, 3) := by decide +kernel
theorem dX7_writesOthers_68 : decode cX7_writesOthers 68 = .ok (.ifCond .ne (-55), 3) := by decide +kernel
theorem dX7_writesOthers_71 : decode cX7_writesOthers 71 = .ok (.aload_n 0, 1) := by decide +kernel
theorem dX7_writesOthers_72 : decode cX7_writesOthers 72 = .ok (.aload_n 0, 1) := by decide +kernel
theorem dX7_writesOthers_73 : decode cX7_writesOthers 73 = .ok (.getfield 29, 3) := by decide +kernel
theorem dX7_writesOthers_76 : decode cX7_writesOthers 76 = .ok (.invokevirtual 116, 3) := by decide +kernel
theorem dX7_writesOthers_79 : decode cX7_writesOthers 79 = .ok (.goto (-66), 3) := by decide +kernel
theorem dX7_writesOthers_82 : decode cX7_writesOthers 82 = .ok (.return_, 1) := by decide +kernel
theorem dX7_writesCanonical_0 : decode cX7_writesCanonical 0 = .ok (.aload_n 0, 1) := by decide +kernel
theorem dX7_writesCanonical_1 : decode cX7_writesCanonical 1 = .ok (.getfield 23, 3) := by decide +kernel
theorem dX7_writesCanonical_4 : decode cX7_writesCanonical 4 = .ok (.iload_n 1, 1) := by decide +kernel
theorem dX7_writesCanonical_5 : decode cX7_writesCanonical 5 = .ok (.iaload, 1) := by decide +kernel
theorem dX7_writesCanonical_6 : decode cX7_writesCanonical 6 = .ok (.istore_n 2, 1) := by decide +kernel
theorem dX7_writesCanonical_7 : decode cX7_writesCanonical 7 = .ok (.aload_n 0, 1) := by decide +kernel
theorem dX7_writesCanonical_8 : decode cX7_writesCanonical 8 = .ok (.iconst 0, 1) := by decide +kernel
theorem dX7_writesCanonical_9 : decode cX7_writesCanonical 9 = .ok (.putfield 84, 3) := by decide +kernel
theorem dX7_writesCanonical_12 : decode cX7_writesCanonical 12 = .ok (.iconst 1, 1) := by decide +kernel
theorem dX7_writesCanonical_13 : decode cX7_writesCanonical 13 = .ok (.istore_n 3, 1) := by decide +kernel
theorem dX7_writesCanonical_14 : decode cX7_writesCanonical 14 = .ok (.iload_n 3, 1) := by decide +kernel
theorem dX7_writesCanonical_15 : decode cX7_writesCanonical 15 = .ok (.bipush 32, 2) := by decide +kernel
theorem dX7_writesCanonical_17 : decode cX7_writesCanonical 17 = .ok (.if_icmp .ge 149, 3) := by decide +kernel
theorem dX7_writesCanonical_20 : decode cX7_writesCanonical 20 = .ok (.aload_n 0, 1) := by decide +kernel
theorem dX7_writesCanonical_21 : decode cX7_writesCanonical 21 = .ok (.iload_n 1, 1) := by decide +kernel
theorem dX7_writesCanonical_22 : decode cX7_writesCanonical 22 = .ok (.iload_n 3, 1) := by decide +kernel
theorem dX7_writesCanonical_23 : decode cX7_writesCanonical 23 = .ok (.invokevirtual 113, 3) := by decide +kernel
theorem dX7_writesCanonical_26 : decode cX7_writesCanonical 26 = .ok (.istore 4, 2) := by decide +kernel
theorem dX7_writesCanonical_28 : decode cX7_writesCanonical 28 = .ok (.aload_n 0, 1) := by decide +kernel
theorem dX7_writesCanonical_29 : decode cX7_writesCanonical 29 = .ok (.bipush 120, 2) := by decide +kernel
theorem dX7_writesCanonical_31 : decode cX7_writesCanonical 31 = .ok (.iload_n 1, 1) := by decide +kernel
theorem dX7_writesCanonical_32 : decode cX7_writesCanonical 32 = .ok (.imul, 1) := by decide +kernel
theorem dX7_writesCanonical_33 : decode cX7_writesCanonical 33 = .ok (.putfield 55, 3) := by decide +kernel
theorem dX7_writesCanonical_36 : decode cX7_writesCanonical 36 = .ok (.aload_n 0, 1) := by decide +kernel
theorem dX7_writesCanonical_37 : decode cX7_writesCanonical 37 = .ok (.getfield 55, 3) := by decide +kernel
theorem dX7_writesCanonical_40 : decode cX7_writesCanonical 40 = .ok (.bipush 120, 2) := by decide +kernel
theorem dX7_writesCanonical_42 : decode cX7_writesCanonical 42 = .ok (.iload_n 1, 1) := by decide +kernel
theorem dX7_writesCanonical_43 : decode cX7_writesCanonical 43 = .ok (.imul, 1) := by decide +kernel
theorem dX7_writesCanonical_44 : decode cX7_writesCanonical 44 = .ok (.aload_n 0, 1) := by decide +kernel
theorem dX7_writesCanonical_45 : decode cX7_writesCanonical 45 = .ok (.getfield 26, 3) := by decide +kernel
theorem dX7_writesCanonical_48 : decode cX7_writesCanonical 48 = .ok (.iload_n 1, 1) := by decide +kernel
theorem dX7_writesCanonical_49 : decode cX7_writesCanonical 49 = .ok (.iaload, 1) := by decide +kernel
theorem dX7_writesCanonical_50 : decode cX7_writesCanonical 50 = .ok (.iadd, 1) := by decide +kernel
theorem dX7_writesCanonical_51 : decode cX7_writesCanonical 51 = .ok (.if_icmp .ge 109, 3) := by decide +kernel
theorem dX7_writesCanonical_54 : decode cX7_writesCanonical 54 = .ok (.aload_n 0, 1) := by decide +kernel
theorem dX7_writesCanonical_55 : decode cX7_writesCanonical 55 = .ok (.aload_n 0, 1) := by decide +kernel
theorem dX7_writesCanonical_56 : decode cX7_writesCanonical 56 = .ok (.getfield 29, 3) := by decide +kernel
theorem dX7_writesCanonical_59 : decode cX7_writesCanonical 59 = .ok (.bipush 120, 2) := by decide +kernel
theorem dX7_writesCanonical_61 : decode cX7_writesCanonical 61 = .ok (.iload_n 1, 1) := by decide +kernel
theorem dX7_writesCanonical_62 : decode cX7_writesCanonical 62 = .ok (.imul, 1) := by decide +kernel
theorem dX7_writesCanonical_63 : decode cX7_writesCanonical 63 = .ok (.aload_n 0, 1) := by decide +kernel
theorem dX7_writesCanonical_64 : decode cX7_writesCanonical 64 = .ok (.getfield 26, 3) := by decide +kernel
theorem dX7_writesCanonical_67 : decode cX7_writesCanonical 67 = .ok (.iload_n 1, 1) := by decide +kernel
theorem dX7_writesCanonical_68 : decode cX7_writesCanonical 68 = .ok (.iaload, 1) := by decide +kernel
theorem dX7_writesCanonical_69 : decode cX7_writesCanonical 69 = .ok (.iadd, 1) := by decide +kernel
theorem dX7_writesCanonical_70 : decode cX7_writesCanonical 70 = .ok (.invokevirtual 106, 3) := by decide +kernel
theorem dX7_writesCanonical_73 : decode cX7_writesCanonical 73 = .ok (.aload_n 0, 1) := by decide +kernel
theorem dX7_writesCanonical_74 : decode cX7_writesCanonical 74 = .ok (.iload_n 2, 1) := by decide +kernel
theorem dX7_writesCanonical_75 : decode cX7_writesCanonical 75 = .ok (.iload_n 3, 1) := by decide +kernel
theorem dX7_writesCanonical_76 : decode cX7_writesCanonical 76 = .ok (.invokevirtual 98, 3) := by decide +kernel
theorem dX7_writesCanonical_79 : decode cX7_writesCanonical 79 = .ok (.invokestatic 120, 3) := by decide +kernel
theorem dX7_writesCanonical_82 : decode cX7_writesCanonical 82 = .ok (.ifCond .eq 34, 3) := by decide +kernel
theorem dX7_writesCanonical_85 : decode cX7_writesCanonical 85 = .ok (.aload_n 0, 1) := by decide +kernel
theorem dX7_writesCanonical_86 : decode cX7_writesCanonical 86 = .ok (.iload_n 2, 1) := by decide +kernel
theorem dX7_writesCanonical_87 : decode cX7_writesCanonical 87 = .ok (.iload_n 3, 1) := by decide +kernel
theorem dX7_writesCanonical_88 : decode cX7_writesCanonical 88 = .ok (.invokevirtual 98, 3) := by decide +kernel
theorem dX7_writesCanonical_91 : decode cX7_writesCanonical 91 = .ok (.aload_n 0, 1) := by decide +kernel
theorem dX7_writesCanonical_92 : decode cX7_writesCanonical 92 = .ok (.getfield 78, 3) := by decide +kernel
theorem dX7_writesCanonical_95 : decode cX7_writesCanonical 95 = .ok (.invokestatic 123, 3) := by decide +kernel
theorem dX7_writesCanonical_98 : decode cX7_writesCanonical 98 = .ok (.aload_n 0, 1) := by decide +kernel
theorem dX7_writesCanonical_99 : decode cX7_writesCanonical 99 = .ok (.getfield 16, 3) := by decide +kernel
theorem dX7_writesCanonical_102 : decode cX7_writesCanonical 102 = .ok (.bipush 32, 2) := by decide +kernel
theorem dX7_writesCanonical_104 : decode cX7_writesCanonical 104 = .ok (.iload_n 2, 1) := by decide +kernel
theorem dX7_writesCanonical_105 : decode cX7_writesCanonical 105 = .ok (.imul, 1) := by decide +kernel
theorem dX7_writesCanonical_106 : decode cX7_writesCanonical 106 = .ok (.iload_n 3, 1) := by decide +kernel
theorem dX7_writesCanonical_107 : decode cX7_writesCanonical 107 = .ok (.iadd, 1) := by decide +kernel
theorem dX7_writesCanonical_108 : decode cX7_writesCanonical 108 = .ok (.iaload, 1) := by decide +kernel
theorem dX7_writesCanonical_109 : decode cX7_writesCanonical 109 = .ok (.if_icmp .ne 7, 3) := by decide +kernel
theorem dX7_writesCanonical_112 : decode cX7_writesCanonical 112 = .ok (.iconst 1, 1) := by decide +kernel
theorem dX7_writesCanonical_113 : decode cX7_writesCanonical 113 = .ok (.goto 4, 3) := by decide +kernel
theorem dX7_writesCanonical_116 : decode cX7_writesCanonical 116 = .ok (.iconst 0, 1) := by decide +kernel
theorem dX7_writesCanonical_117 : decode cX7_writesCanonical 117 = .ok (.istore 5, 2) := by decide +kernel
theorem dX7_writesCanonical_119 : decode cX7_writesCanonical 119 = .ok (.aload_n 0, 1) := by decide +kernel
theorem dX7_writesCanonical_120 : decode cX7_writesCanonical 120 = .ok (.getfield 68, 3) := by decide +kernel
theorem dX7_writesCanonical_123 : decode cX7_writesCanonical 123 = .ok (.iload_n 3, 1) := by decide +kernel
theorem dX7_writesCanonical_124 : decode cX7_writesCanonical 124 = .ok (.if_icmp .ne 33, 3) := by decide +kernel
theorem dX7_writesCanonical_127 : decode cX7_writesCanonical 127 = .ok (.aload_n 0, 1) := by decide +kernel
theorem dX7_writesCanonical_128 : decode cX7_writesCanonical 128 = .ok (.iload_n 2, 1) := by decide +kernel
theorem dX7_writesCanonical_129 : decode cX7_writesCanonical 129 = .ok (.invokevirtual 110, 3) := by decide +kernel
theorem dX7_writesCanonical_132 : decode cX7_writesCanonical 132 = .ok (.ifCond .eq 17, 3) := by decide +kernel
theorem dX7_writesCanonical_135 : decode cX7_writesCanonical 135 = .ok (.aload_n 0, 1) := by decide +kernel
theorem dX7_writesCanonical_136 : decode cX7_writesCanonical 136 = .ok (.getfield 61, 3) := by decide +kernel
theorem dX7_writesCanonical_139 : decode cX7_writesCanonical 139 = .ok (.iload 4, 2) := by decide +kernel
theorem dX7_writesCanonical_141 : decode cX7_writesCanonical 141 = .ok (.if_icmp .ne 16, 3) := by decide +kernel
theorem dX7_writesCanonical_144 : decode cX7_writesCanonical 144 = .ok (.iload 5, 2) := by decide +kernel
theorem dX7_writesCanonical_146 : decode cX7_writesCanonical 146 = .ok (.ifCond .ne 11, 3) := by decide +kernel
theorem dX7_writesCanonical_149 : decode cX7_writesCanonical 149 = .ok (.aload_n 0, 1) := by decide +kernel
theorem dX7_writesCanonical_150 : decode cX7_writesCanonical 150 = .ok (.aload_n 0, 1) := by decide +kernel
theorem dX7_writesCanonical_151 : decode cX7_writesCanonical 151 = .ok (.getfield 29, 3) := by decide +kernel
theorem dX7_writesCanonical_154 : decode cX7_writesCanonical 154 = .ok (.invokevirtual 116, 3) := by decide +kernel
theorem dX7_writesCanonical_157 : decode cX7_writesCanonical 157 = .ok (.goto (-121), 3) := by decide +kernel
theorem dX7_writesCanonical_160 : decode cX7_writesCanonical 160 = .ok (.iinc 3 1, 3) := by decide +kernel
theorem dX7_writesCanonical_163 : decode cX7_writesCanonical 163 = .ok (.goto (-149), 3) := by decide +kernel
theorem dX7_writesCanonical_166 : decode cX7_writesCanonical 166 = .ok (.return_, 1) := by decide +kernel
theorem dX7_putsAside_0 : decode cX7_putsAside 0 = .ok (.iconst 0, 1) := by decide +kernel
theorem dX7_putsAside_1 : decode cX7_putsAside 1 = .ok (.istore_n 1, 1) := by decide +kernel
theorem dX7_putsAside_2 : decode cX7_putsAside 2 = .ok (.iload_n 1, 1) := by decide +kernel
theorem dX7_putsAside_3 : decode cX7_putsAside 3 = .ok (.aload_n 0, 1) := by decide +kernel
theorem dX7_putsAside_4 : decode cX7_putsAside 4 = .ok (.getfield 84, 3) := by decide +kernel
theorem dX7_putsAside_7 : decode cX7_putsAside 7 = .ok (.if_icmp .ge 21, 3) := by decide +kernel
theorem dX7_putsAside_10 : decode cX7_putsAside 10 = .ok (.aload_n 0, 1) := by decide +kernel
theorem dX7_putsAside_11 : decode cX7_putsAside 11 = .ok (.getfield 38, 3) := by decide +kernel
theorem dX7_putsAside_14 : decode cX7_putsAside 14 = .ok (.iload_n 1, 1) := by decide +kernel
theorem dX7_putsAside_15 : decode cX7_putsAside 15 = .ok (.aload_n 0, 1) := by decide +kernel
theorem dX7_putsAside_16 : decode cX7_putsAside 16 = .ok (.getfield 35, 3) := by decide +kernel
theorem dX7_putsAside_19 : decode cX7_putsAside 19 = .ok (.iload_n 1, 1) := by decide +kernel
theorem dX7_putsAside_20 : decode cX7_putsAside 20 = .ok (.iaload, 1) := by decide +kernel
theorem dX7_putsAside_21 : decode cX7_putsAside 21 = .ok (.iastore, 1) := by decide +kernel
theorem dX7_putsAside_22 : decode cX7_putsAside 22 = .ok (.iinc 1 1, 3) := by decide +kernel
theorem dX7_putsAside_25 : decode cX7_putsAside 25 = .ok (.goto (-23), 3) := by decide +kernel
theorem dX7_putsAside_28 : decode cX7_putsAside 28 = .ok (.aload_n 0, 1) := by decide +kernel
theorem dX7_putsAside_29 : decode cX7_putsAside 29 = .ok (.aload_n 0, 1) := by decide +kernel
theorem dX7_putsAside_30 : decode cX7_putsAside 30 = .ok (.getfield 84, 3) := by decide +kernel
theorem dX7_putsAside_33 : decode cX7_putsAside 33 = .ok (.putfield 126, 3) := by decide +kernel
theorem dX7_putsAside_36 : decode cX7_putsAside 36 = .ok (.return_, 1) := by decide +kernel
theorem dX7_isAsAside_0 : decode cX7_isAsAside 0 = .ok (.aload_n 0, 1) := by decide +kernel
theorem dX7_isAsAside_1 : decode cX7_isAsAside 1 = .ok (.getfield 84, 3) := by decide +kernel
theorem dX7_isAsAside_4 : decode cX7_isAsAside 4 = .ok (.aload_n 0, 1) := by decide +kernel
theorem dX7_isAsAside_5 : decode cX7_isAsAside 5 = .ok (.getfield 126, 3) := by decide +kernel
theorem dX7_isAsAside_8 : decode cX7_isAsAside 8 = .ok (.if_icmp .ne 7, 3) := by decide +kernel
theorem dX7_isAsAside_11 : decode cX7_isAsAside 11 = .ok (.iconst 1, 1) := by decide +kernel
theorem dX7_isAsAside_12 : decode cX7_isAsAside 12 = .ok (.goto 4, 3) := by decide +kernel
theorem dX7_isAsAside_15 : decode cX7_isAsAside 15 = .ok (.iconst 0, 1) := by decide +kernel
theorem dX7_isAsAside_16 : decode cX7_isAsAside 16 = .ok (.istore_n 1, 1) := by decide +kernel
theorem dX7_isAsAside_17 : decode cX7_isAsAside 17 = .ok (.iconst 0, 1) := by decide +kernel
theorem dX7_isAsAside_18 : decode cX7_isAsAside 18 = .ok (.istore_n 2, 1) := by decide +kernel
theorem dX7_isAsAside_19 : decode cX7_isAsAside 19 = .ok (.iload_n 2, 1) := by decide +kernel
theorem dX7_isAsAside_20 : decode cX7_isAsAside 20 = .ok (.aload_n 0, 1) := by decide +kernel
theorem dX7_isAsAside_21 : decode cX7_isAsAside 21 = .ok (.getfield 84, 3) := by decide +kernel
theorem dX7_isAsAside_24 : decode cX7_isAsAside 24 = .ok (.if_icmp .ge 34, 3) := by decide +kernel
theorem dX7_isAsAside_27 : decode cX7_isAsAside 27 = .ok (.iload_n 1, 1) := by decide +kernel
theorem dX7_isAsAside_28 : decode cX7_isAsAside 28 = .ok (.ifCond .eq 30, 3) := by decide +kernel
theorem dX7_isAsAside_31 : decode cX7_isAsAside 31 = .ok (.aload_n 0, 1) := by decide +kernel
theorem dX7_isAsAside_32 : decode cX7_isAsAside 32 = .ok (.getfield 35, 3) := by decide +kernel
theorem dX7_isAsAside_35 : decode cX7_isAsAside 35 = .ok (.iload_n 2, 1) := by decide +kernel
theorem dX7_isAsAside_36 : decode cX7_isAsAside 36 = .ok (.iaload, 1) := by decide +kernel
theorem dX7_isAsAside_37 : decode cX7_isAsAside 37 = .ok (.aload_n 0, 1) := by decide +kernel
theorem dX7_isAsAside_38 : decode cX7_isAsAside 38 = .ok (.getfield 38, 3) := by decide +kernel
theorem dX7_isAsAside_41 : decode cX7_isAsAside 41 = .ok (.iload_n 2, 1) := by decide +kernel
theorem dX7_isAsAside_42 : decode cX7_isAsAside 42 = .ok (.iaload, 1) := by decide +kernel
theorem dX7_isAsAside_43 : decode cX7_isAsAside 43 = .ok (.if_icmp .ne 7, 3) := by decide +kernel
theorem dX7_isAsAside_46 : decode cX7_isAsAside 46 = .ok (.iconst 1, 1) := by decide +kernel
theorem dX7_isAsAside_47 : decode cX7_isAsAside 47 = .ok (.goto 4, 3) := by decide +kernel
theorem dX7_isAsAside_50 : decode cX7_isAsAside 50 = .ok (.iconst 0, 1) := by decide +kernel
theorem dX7_isAsAside_51 : decode cX7_isAsAside 51 = .ok (.istore_n 1, 1) := by decide +kernel
theorem dX7_isAsAside_52 : decode cX7_isAsAside 52 = .ok (.iinc 2 1, 3) := by decide +kernel
theorem dX7_isAsAside_55 : decode cX7_isAsAside 55 = .ok (.goto (-36), 3) := by decide +kernel
theorem dX7_isAsAside_58 : decode cX7_isAsAside 58 = .ok (.iload_n 1, 1) := by decide +kernel
theorem dX7_isAsAside_59 : decode cX7_isAsAside 59 = .ok (.ireturn, 1) := by decide +kernel
theorem dX7_free_0 : decode cX7_free 0 = .ok (.iconst 0, 1) := by decide +kernel
theorem dX7_free_1 : decode cX7_free 1 = .ok (.istore_n 1, 1) := by decide +kernel
theorem dX7_free_2 : decode cX7_free 2 = .ok (.iload_n 1, 1) := by decide +kernel
theorem dX7_free_3 : decode cX7_free 3 = .ok (.bipush 12, 2) := by decide +kernel
theorem dX7_free_5 : decode cX7_free 5 = .ok (.if_icmp .ge 18, 3) := by decide +kernel
theorem dX7_free_8 : decode cX7_free 8 = .ok (.aload_n 0, 1) := by decide +kernel
theorem dX7_free_9 : decode cX7_free 9 = .ok (.getfield 19, 3) := by decide +kernel
theorem dX7_free_12 : decode cX7_free 12 = .ok (.iload_n 1, 1) := by decide +kernel
theorem dX7_free_13 : decode cX7_free 13 = .ok (.baload, 1) := by decide +kernel
theorem dX7_free_14 : decode cX7_free 14 = .ok (.ifCond .eq 9, 3) := by decide +kernel
theorem dX7_free_17 : decode cX7_free 17 = .ok (.iinc 1 1, 3) := by decide +kernel
theorem dX7_free_20 : decode cX7_free 20 = .ok (.goto (-18), 3) := by decide +kernel
theorem dX7_free_23 : decode cX7_free 23 = .ok (.iload_n 1, 1) := by decide +kernel
theorem dX7_free_24 : decode cX7_free 24 = .ok (.ireturn, 1) := by decide +kernel
theorem dX7_isFull_0 : decode cX7_isFull 0 = .ok (.aload_n 0, 1) := by decide +kernel
theorem dX7_isFull_1 : decode cX7_isFull 1 = .ok (.invokevirtual 129, 3) := by decide +kernel
theorem dX7_isFull_4 : decode cX7_isFull 4 = .ok (.bipush 12, 2) := by decide +kernel
theorem dX7_isFull_6 : decode cX7_isFull 6 = .ok (.if_icmp .ne 7, 3) := by decide +kernel
theorem dX7_isFull_9 : decode cX7_isFull 9 = .ok (.iconst 1, 1) := by decide +kernel
theorem dX7_isFull_10 : decode cX7_isFull 10 = .ok (.goto 4, 3) := by decide +kernel
theorem dX7_isFull_13 : decode cX7_isFull 13 = .ok (.iconst 0, 1) := by decide +kernel
theorem dX7_isFull_14 : decode cX7_isFull 14 = .ok (.ireturn, 1) := by decide +kernel
theorem dX7_makes_0 : decode cX7_makes 0 = .ok (.aload_n 0, 1) := by decide +kernel
theorem dX7_makes_1 : decode cX7_makes 1 = .ok (.invokevirtual 129, 3) := by decide +kernel
theorem dX7_makes_4 : decode cX7_makes 4 = .ok (.istore_n 2, 1) := by decide +kernel
theorem dX7_makes_5 : decode cX7_makes 5 = .ok (.aload_n 0, 1) := by decide +kernel
theorem dX7_makes_6 : decode cX7_makes 6 = .ok (.getfield 19, 3) := by decide +kernel
theorem dX7_makes_9 : decode cX7_makes 9 = .ok (.iload_n 2, 1) := by decide +kernel
theorem dX7_makes_10 : decode cX7_makes 10 = .ok (.iconst 1, 1) := by decide +kernel
theorem dX7_makes_11 : decode cX7_makes 11 = .ok (.bastore, 1) := by decide +kernel
theorem dX7_makes_12 : decode cX7_makes 12 = .ok (.aload_n 0, 1) := by decide +kernel
theorem dX7_makes_13 : decode cX7_makes 13 = .ok (.getfield 23, 3) := by decide +kernel
theorem dX7_makes_16 : decode cX7_makes 16 = .ok (.iload_n 2, 1) := by decide +kernel
theorem dX7_makes_17 : decode cX7_makes 17 = .ok (.iload_n 1, 1) := by decide +kernel
theorem dX7_makes_18 : decode cX7_makes 18 = .ok (.iastore, 1) := by decide +kernel
theorem dX7_makes_19 : decode cX7_makes 19 = .ok (.aload_n 0, 1) := by decide +kernel
theorem dX7_makes_20 : decode cX7_makes 20 = .ok (.iload_n 2, 1) := by decide +kernel
theorem dX7_makes_21 : decode cX7_makes 21 = .ok (.invokevirtual 133, 3) := by decide +kernel
theorem dX7_makes_24 : decode cX7_makes 24 = .ok (.iload_n 2, 1) := by decide +kernel
theorem dX7_makes_25 : decode cX7_makes 25 = .ok (.ireturn, 1) := by decide +kernel
theorem dX7_addSchema_0 : decode cX7_addSchema 0 = .ok (.aload_n 0, 1) := by decide +kernel
theorem dX7_addSchema_1 : decode cX7_addSchema 1 = .ok (.aload_n 0, 1) := by decide +kernel
theorem dX7_addSchema_2 : decode cX7_addSchema 2 = .ok (.getfield 48, 3) := by decide +kernel
theorem dX7_addSchema_5 : decode cX7_addSchema 5 = .ok (.bipush 6, 2) := by decide +kernel
theorem dX7_addSchema_7 : decode cX7_addSchema 7 = .ok (.if_icmp .ne 7, 3) := by decide +kernel
theorem dX7_addSchema_10 : decode cX7_addSchema 10 = .ok (.iconst 1, 1) := by decide +kernel
theorem dX7_addSchema_11 : decode cX7_addSchema 11 = .ok (.goto 4, 3) := by decide +kernel
theorem dX7_addSchema_14 : decode cX7_addSchema 14 = .ok (.iconst 0, 1) := by decide +kernel
theorem dX7_addSchema_15 : decode cX7_addSchema 15 = .ok (.putfield 44, 3) := by decide +kernel
theorem dX7_addSchema_18 : decode cX7_addSchema 18 = .ok (.aload_n 0, 1) := by decide +kernel
theorem dX7_addSchema_19 : decode cX7_addSchema 19 = .ok (.getfield 44, 3) := by decide +kernel
theorem dX7_addSchema_22 : decode cX7_addSchema 22 = .ok (.ifCond .le 5, 3) := by decide +kernel
theorem dX7_addSchema_25 : decode cX7_addSchema 25 = .ok (.iconst 0, 1) := by decide +kernel
theorem dX7_addSchema_26 : decode cX7_addSchema 26 = .ok (.ireturn, 1) := by decide +kernel
theorem dX7_addSchema_27 : decode cX7_addSchema 27 = .ok (.iconst 0, 1) := by decide +kernel
theorem dX7_addSchema_28 : decode cX7_addSchema 28 = .ok (.istore_n 1, 1) := by decide +kernel
theorem dX7_addSchema_29 : decode cX7_addSchema 29 = .ok (.iload_n 1, 1) := by decide +kernel
theorem dX7_addSchema_30 : decode cX7_addSchema 30 = .ok (.bipush 32, 2) := by decide +kernel
theorem dX7_addSchema_32 : decode cX7_addSchema 32 = .ok (.if_icmp .ge 24, 3) := by decide +kernel
theorem dX7_addSchema_35 : decode cX7_addSchema 35 = .ok (.aload_n 0, 1) := by decide +kernel
theorem dX7_addSchema_36 : decode cX7_addSchema 36 = .ok (.getfield 7, 3) := by decide +kernel
theorem dX7_addSchema_39 : decode cX7_addSchema 39 = .ok (.bipush 32, 2) := by decide +kernel
theorem dX7_addSchema_41 : decode cX7_addSchema 41 = .ok (.aload_n 0, 1) := by decide +kernel
theorem dX7_addSchema_42 : decode cX7_addSchema 42 = .ok (.getfield 48, 3) := by decide +kernel
theorem dX7_addSchema_45 : decode cX7_addSchema 45 = .ok (.imul, 1) := by decide +kernel
theorem dX7_addSchema_46 : decode cX7_addSchema 46 = .ok (.iload_n 1, 1) := by decide +kernel
theorem dX7_addSchema_47 : decode cX7_addSchema 47 = .ok (.iadd, 1) := by decide +kernel
theorem dX7_addSchema_48 : decode cX7_addSchema 48 = .ok (.iconst (-1), 1) := by decide +kernel
theorem dX7_addSchema_49 : decode cX7_addSchema 49 = .ok (.iastore, 1) := by decide +kernel
theorem dX7_addSchema_50 : decode cX7_addSchema 50 = .ok (.iinc 1 1, 3) := by decide +kernel
theorem dX7_addSchema_53 : decode cX7_addSchema 53 = .ok (.goto (-24), 3) := by decide +kernel
theorem dX7_addSchema_56 : decode cX7_addSchema 56 = .ok (.aload_n 0, 1) := by decide +kernel
theorem dX7_addSchema_57 : decode cX7_addSchema 57 = .ok (.dup, 1) := by decide +kernel
theorem dX7_addSchema_58 : decode cX7_addSchema 58 = .ok (.getfield 48, 3) := by decide +kernel
theorem dX7_addSchema_61 : decode cX7_addSchema 61 = .ok (.iconst 1, 1) := by decide +kernel
theorem dX7_addSchema_62 : decode cX7_addSchema 62 = .ok (.iadd, 1) := by decide +kernel
theorem dX7_addSchema_63 : decode cX7_addSchema 63 = .ok (.putfield 48, 3) := by decide +kernel
theorem dX7_addSchema_66 : decode cX7_addSchema 66 = .ok (.aload_n 0, 1) := by decide +kernel
theorem dX7_addSchema_67 : decode cX7_addSchema 67 = .ok (.getfield 48, 3) := by decide +kernel
theorem dX7_addSchema_70 : decode cX7_addSchema 70 = .ok (.iconst 1, 1) := by decide +kernel
theorem dX7_addSchema_71 : decode cX7_addSchema 71 = .ok (.isub, 1) := by decide +kernel
theorem dX7_addSchema_72 : decode cX7_addSchema 72 = .ok (.ireturn, 1) := by decide +kernel
theorem dX7_setKind_0 : decode cX7_setKind 0 = .ok (.aload_n 0, 1) := by decide +kernel
theorem dX7_setKind_1 : decode cX7_setKind 1 = .ok (.aload_n 0, 1) := by decide +kernel
theorem dX7_setKind_2 : decode cX7_setKind 2 = .ok (.iload_n 1, 1) := by decide +kernel
theorem dX7_setKind_3 : decode cX7_setKind 3 = .ok (.invokevirtual 136, 3) := by decide +kernel
theorem dX7_setKind_6 : decode cX7_setKind 6 = .ok (.ifCond .eq 17, 3) := by decide +kernel
theorem dX7_setKind_9 : decode cX7_setKind 9 = .ok (.iload_n 3, 1) := by decide +kernel
theorem dX7_setKind_10 : decode cX7_setKind 10 = .ok (.iconst 4, 1) := by decide +kernel
theorem dX7_setKind_11 : decode cX7_setKind 11 = .ok (.if_icmp .ne 16, 3) := by decide +kernel
theorem dX7_setKind_14 : decode cX7_setKind 14 = .ok (.aload_n 0, 1) := by decide +kernel
theorem dX7_setKind_15 : decode cX7_setKind 15 = .ok (.iload 4, 2) := by decide +kernel
theorem dX7_setKind_17 : decode cX7_setKind 17 = .ok (.invokevirtual 136, 3) := by decide +kernel
theorem dX7_setKind_20 : decode cX7_setKind 20 = .ok (.ifCond .ne 7, 3) := by decide +kernel
theorem dX7_setKind_23 : decode cX7_setKind 23 = .ok (.iconst 1, 1) := by decide +kernel
theorem dX7_setKind_24 : decode cX7_setKind 24 = .ok (.goto 24, 3) := by decide +kernel
theorem dX7_setKind_27 : decode cX7_setKind 27 = .ok (.iload_n 2, 1) := by decide +kernel
theorem dX7_setKind_28 : decode cX7_setKind 28 = .ok (.invokestatic 74, 3) := by decide +kernel
theorem dX7_setKind_31 : decode cX7_setKind 31 = .ok (.ifCond .eq 16, 3) := by decide +kernel
theorem dX7_setKind_34 : decode cX7_setKind 34 = .ok (.iload_n 3, 1) := by decide +kernel
theorem dX7_setKind_35 : decode cX7_setKind 35 = .ok (.iconst 0, 1) := by decide +kernel
theorem dX7_setKind_36 : decode cX7_setKind 36 = .ok (.iconst 4, 1) := by decide +kernel
theorem dX7_setKind_37 : decode cX7_setKind 37 = .ok (.invokestatic 51, 3) := by decide +kernel
theorem dX7_setKind_40 : decode cX7_setKind 40 = .ok (.ifCond .eq 7, 3) := by decide +kernel
theorem dX7_setKind_43 : decode cX7_setKind 43 = .ok (.iconst 0, 1) := by decide +kernel
theorem dX7_setKind_44 : decode cX7_setKind 44 = .ok (.goto 4, 3) := by decide +kernel
theorem dX7_setKind_47 : decode cX7_setKind 47 = .ok (.iconst 2, 1) := by decide +kernel
theorem dX7_setKind_48 : decode cX7_setKind 48 = .ok (.putfield 44, 3) := by decide +kernel
theorem dX7_setKind_51 : decode cX7_setKind 51 = .ok (.aload_n 0, 1) := by decide +kernel
theorem dX7_setKind_52 : decode cX7_setKind 52 = .ok (.getfield 44, 3) := by decide +kernel
theorem dX7_setKind_55 : decode cX7_setKind 55 = .ok (.ifCond .le 5, 3) := by decide +kernel
theorem dX7_setKind_58 : decode cX7_setKind 58 = .ok (.iconst 0, 1) := by decide +kernel
theorem dX7_setKind_59 : decode cX7_setKind 59 = .ok (.ireturn, 1) := by decide +kernel
theorem dX7_setKind_60 : decode cX7_setKind 60 = .ok (.aload_n 0, 1) := by decide +kernel
theorem dX7_setKind_61 : decode cX7_setKind 61 = .ok (.getfield 7, 3) := by decide +kernel
theorem dX7_setKind_64 : decode cX7_setKind 64 = .ok (.bipush 32, 2) := by decide +kernel
theorem dX7_setKind_66 : decode cX7_setKind 66 = .ok (.iload_n 1, 1) := by decide +kernel
theorem dX7_setKind_67 : decode cX7_setKind 67 = .ok (.imul, 1) := by decide +kernel
theorem dX7_setKind_68 : decode cX7_setKind 68 = .ok (.iload_n 2, 1) := by decide +kernel
theorem dX7_setKind_69 : decode cX7_setKind 69 = .ok (.iadd, 1) := by decide +kernel
theorem dX7_setKind_70 : decode cX7_setKind 70 = .ok (.iaload, 1) := by decide +kernel
theorem dX7_setKind_71 : decode cX7_setKind 71 = .ok (.istore 5, 2) := by decide +kernel
theorem dX7_setKind_73 : decode cX7_setKind 73 = .ok (.aload_n 0, 1) := by decide +kernel
theorem dX7_setKind_74 : decode cX7_setKind 74 = .ok (.getfield 7, 3) := by decide +kernel
theorem dX7_setKind_77 : decode cX7_setKind 77 = .ok (.bipush 32, 2) := by decide +kernel
theorem dX7_setKind_79 : decode cX7_setKind 79 = .ok (.iload_n 1, 1) := by decide +kernel
theorem dX7_setKind_80 : decode cX7_setKind 80 = .ok (.imul, 1) := by decide +kernel
theorem dX7_setKind_81 : decode cX7_setKind 81 = .ok (.iload_n 2, 1) := by decide +kernel
theorem dX7_setKind_82 : decode cX7_setKind 82 = .ok (.iadd, 1) := by decide +kernel
theorem dX7_setKind_83 : decode cX7_setKind 83 = .ok (.iload_n 3, 1) := by decide +kernel
theorem dX7_setKind_84 : decode cX7_setKind 84 = .ok (.iastore, 1) := by decide +kernel
theorem dX7_setKind_85 : decode cX7_setKind 85 = .ok (.aload_n 0, 1) := by decide +kernel
theorem dX7_setKind_86 : decode cX7_setKind 86 = .ok (.getfield 13, 3) := by decide +kernel
theorem dX7_setKind_89 : decode cX7_setKind 89 = .ok (.bipush 32, 2) := by decide +kernel
theorem dX7_setKind_91 : decode cX7_setKind 91 = .ok (.iload_n 1, 1) := by decide +kernel
theorem dX7_setKind_92 : decode cX7_setKind 92 = .ok (.imul, 1) := by decide +kernel
theorem dX7_setKind_93 : decode cX7_setKind 93 = .ok (.iload_n 2, 1) := by decide +kernel
theorem dX7_setKind_94 : decode cX7_setKind 94 = .ok (.iadd, 1) := by decide +kernel
theorem dX7_setKind_95 : decode cX7_setKind 95 = .ok (.iload 4, 2) := by decide +kernel
theorem dX7_setKind_97 : decode cX7_setKind 97 = .ok (.iastore, 1) := by decide +kernel
theorem dX7_setKind_98 : decode cX7_setKind 98 = .ok (.aload_n 0, 1) := by decide +kernel
theorem dX7_setKind_99 : decode cX7_setKind 99 = .ok (.getfield 16, 3) := by decide +kernel
theorem dX7_setKind_102 : decode cX7_setKind 102 = .ok (.bipush 32, 2) := by decide +kernel
theorem dX7_setKind_104 : decode cX7_setKind 104 = .ok (.iload_n 1, 1) := by decide +kernel
theorem dX7_setKind_105 : decode cX7_setKind 105 = .ok (.imul, 1) := by decide +kernel
theorem dX7_setKind_106 : decode cX7_setKind 106 = .ok (.iload_n 2, 1) := by decide +kernel
theorem dX7_setKind_107 : decode cX7_setKind 107 = .ok (.iadd, 1) := by decide +kernel
theorem dX7_setKind_108 : decode cX7_setKind 108 = .ok (.iconst 0, 1) := by decide +kernel
theorem dX7_setKind_109 : decode cX7_setKind 109 = .ok (.iastore, 1) := by decide +kernel
theorem dX7_setKind_110 : decode cX7_setKind 110 = .ok (.iload 5, 2) := by decide +kernel
theorem dX7_setKind_112 : decode cX7_setKind 112 = .ok (.ireturn, 1) := by decide +kernel
theorem dX7_dropKind_0 : decode cX7_dropKind 0 = .ok (.aload_n 0, 1) := by decide +kernel
theorem dX7_dropKind_1 : decode cX7_dropKind 1 = .ok (.aload_n 0, 1) := by decide +kernel
theorem dX7_dropKind_2 : decode cX7_dropKind 2 = .ok (.iload_n 1, 1) := by decide +kernel
theorem dX7_dropKind_3 : decode cX7_dropKind 3 = .ok (.invokevirtual 136, 3) := by decide +kernel
theorem dX7_dropKind_6 : decode cX7_dropKind 6 = .ok (.ifCond .ne 7, 3) := by decide +kernel
theorem dX7_dropKind_9 : decode cX7_dropKind 9 = .ok (.iconst 1, 1) := by decide +kernel
theorem dX7_dropKind_10 : decode cX7_dropKind 10 = .ok (.goto 15, 3) := by decide +kernel
theorem dX7_dropKind_13 : decode cX7_dropKind 13 = .ok (.iload_n 2, 1) := by decide +kernel
theorem dX7_dropKind_14 : decode cX7_dropKind 14 = .ok (.invokestatic 74, 3) := by decide +kernel
theorem dX7_dropKind_17 : decode cX7_dropKind 17 = .ok (.ifCond .eq 7, 3) := by decide +kernel
theorem dX7_dropKind_20 : decode cX7_dropKind 20 = .ok (.iconst 0, 1) := by decide +kernel
theorem dX7_dropKind_21 : decode cX7_dropKind 21 = .ok (.goto 4, 3) := by decide +kernel
theorem dX7_dropKind_24 : decode cX7_dropKind 24 = .ok (.iconst 2, 1) := by decide +kernel
theorem dX7_dropKind_25 : decode cX7_dropKind 25 = .ok (.putfield 44, 3) := by decide +kernel
theorem dX7_dropKind_28 : decode cX7_dropKind 28 = .ok (.aload_n 0, 1) := by decide +kernel
theorem dX7_dropKind_29 : decode cX7_dropKind 29 = .ok (.getfield 44, 3) := by decide +kernel
theorem dX7_dropKind_32 : decode cX7_dropKind 32 = .ok (.ifCond .le 5, 3) := by decide +kernel
theorem dX7_dropKind_35 : decode cX7_dropKind 35 = .ok (.iconst 0, 1) := by decide +kernel
theorem dX7_dropKind_36 : decode cX7_dropKind 36 = .ok (.ireturn, 1) := by decide +kernel
theorem dX7_dropKind_37 : decode cX7_dropKind 37 = .ok (.aload_n 0, 1) := by decide +kernel
theorem dX7_dropKind_38 : decode cX7_dropKind 38 = .ok (.getfield 7, 3) := by decide +kernel
theorem dX7_dropKind_41 : decode cX7_dropKind 41 = .ok (.bipush 32, 2) := by decide +kernel
theorem dX7_dropKind_43 : decode cX7_dropKind 43 = .ok (.iload_n 1, 1) := by decide +kernel
theorem dX7_dropKind_44 : decode cX7_dropKind 44 = .ok (.imul, 1) := by decide +kernel
theorem dX7_dropKind_45 : decode cX7_dropKind 45 = .ok (.iload_n 2, 1) := by decide +kernel
theorem dX7_dropKind_46 : decode cX7_dropKind 46 = .ok (.iadd, 1) := by decide +kernel
theorem dX7_dropKind_47 : decode cX7_dropKind 47 = .ok (.iaload, 1) := by decide +kernel
theorem dX7_dropKind_48 : decode cX7_dropKind 48 = .ok (.istore_n 3, 1) := by decide +kernel
theorem dX7_dropKind_49 : decode cX7_dropKind 49 = .ok (.aload_n 0, 1) := by decide +kernel
theorem dX7_dropKind_50 : decode cX7_dropKind 50 = .ok (.getfield 7, 3) := by decide +kernel
theorem dX7_dropKind_53 : decode cX7_dropKind 53 = .ok (.bipush 32, 2) := by decide +kernel
theorem dX7_dropKind_55 : decode cX7_dropKind 55 = .ok (.iload_n 1, 1) := by decide +kernel
theorem dX7_dropKind_56 : decode cX7_dropKind 56 = .ok (.imul, 1) := by decide +kernel
theorem dX7_dropKind_57 : decode cX7_dropKind 57 = .ok (.iload_n 2, 1) := by decide +kernel
theorem dX7_dropKind_58 : decode cX7_dropKind 58 = .ok (.iadd, 1) := by decide +kernel
theorem dX7_dropKind_59 : decode cX7_dropKind 59 = .ok (.iconst (-1), 1) := by decide +kernel
theorem dX7_dropKind_60 : decode cX7_dropKind 60 = .ok (.iastore, 1) := by decide +kernel
theorem dX7_dropKind_61 : decode cX7_dropKind 61 = .ok (.iload_n 3, 1) := by decide +kernel
theorem dX7_dropKind_62 : decode cX7_dropKind 62 = .ok (.ireturn, 1) := by decide +kernel
theorem dX7_setDefault_0 : decode cX7_setDefault 0 = .ok (.aload_n 0, 1) := by decide +kernel
theorem dX7_setDefault_1 : decode cX7_setDefault 1 = .ok (.aload_n 0, 1) := by decide +kernel
theorem dX7_setDefault_2 : decode cX7_setDefault 2 = .ok (.iload_n 1, 1) := by decide +kernel
theorem dX7_setDefault_3 : decode cX7_setDefault 3 = .ok (.invokevirtual 136, 3) := by decide +kernel
theorem dX7_setDefault_6 : decode cX7_setDefault 6 = .ok (.ifCond .ne 7, 3) := by decide +kernel
theorem dX7_setDefault_9 : decode cX7_setDefault 9 = .ok (.iconst 1, 1) := by decide +kernel
theorem dX7_setDefault_10 : decode cX7_setDefault 10 = .ok (.goto 31, 3) := by decide +kernel
theorem dX7_setDefault_13 : decode cX7_setDefault 13 = .ok (.iload_n 2, 1) := by decide +kernel
theorem dX7_setDefault_14 : decode cX7_setDefault 14 = .ok (.invokestatic 74, 3) := by decide +kernel
theorem dX7_setDefault_17 : decode cX7_setDefault 17 = .ok (.ifCond .ne 7, 3) := by decide +kernel
theorem dX7_setDefault_20 : decode cX7_setDefault 20 = .ok (.iconst 2, 1) := by decide +kernel
theorem dX7_setDefault_21 : decode cX7_setDefault 21 = .ok (.goto 20, 3) := by decide +kernel
theorem dX7_setDefault_24 : decode cX7_setDefault 24 = .ok (.aload_n 0, 1) := by decide +kernel
theorem dX7_setDefault_25 : decode cX7_setDefault 25 = .ok (.iload_n 1, 1) := by decide +kernel
theorem dX7_setDefault_26 : decode cX7_setDefault 26 = .ok (.iload_n 2, 1) := by decide +kernel
theorem dX7_setDefault_27 : decode cX7_setDefault 27 = .ok (.invokevirtual 98, 3) := by decide +kernel
theorem dX7_setDefault_30 : decode cX7_setDefault 30 = .ok (.invokestatic 120, 3) := by decide +kernel
theorem dX7_setDefault_33 : decode cX7_setDefault 33 = .ok (.ifCond .eq 7, 3) := by decide +kernel
theorem dX7_setDefault_36 : decode cX7_setDefault 36 = .ok (.iconst 0, 1) := by decide +kernel
theorem dX7_setDefault_37 : decode cX7_setDefault 37 = .ok (.goto 4, 3) := by decide +kernel
theorem dX7_setDefault_40 : decode cX7_setDefault 40 = .ok (.iconst 3, 1) := by decide +kernel
theorem dX7_setDefault_41 : decode cX7_setDefault 41 = .ok (.putfield 44, 3) := by decide +kernel
theorem dX7_setDefault_44 : decode cX7_setDefault 44 = .ok (.aload_n 0, 1) := by decide +kernel
theorem dX7_setDefault_45 : decode cX7_setDefault 45 = .ok (.getfield 44, 3) := by decide +kernel
theorem dX7_setDefault_48 : decode cX7_setDefault 48 = .ok (.ifCond .le 5, 3) := by decide +kernel
theorem dX7_setDefault_51 : decode cX7_setDefault 51 = .ok (.iconst 0, 1) := by decide +kernel
theorem dX7_setDefault_52 : decode cX7_setDefault 52 = .ok (.ireturn, 1) := by decide +kernel
theorem dX7_setDefault_53 : decode cX7_setDefault 53 = .ok (.aload_n 0, 1) := by decide +kernel
theorem dX7_setDefault_54 : decode cX7_setDefault 54 = .ok (.getfield 16, 3) := by decide +kernel
theorem dX7_setDefault_57 : decode cX7_setDefault 57 = .ok (.bipush 32, 2) := by decide +kernel
theorem dX7_setDefault_59 : decode cX7_setDefault 59 = .ok (.iload_n 1, 1) := by decide +kernel
theorem dX7_setDefault_60 : decode cX7_setDefault 60 = .ok (.imul, 1) := by decide +kernel
theorem dX7_setDefault_61 : decode cX7_setDefault 61 = .ok (.iload_n 2, 1) := by decide +kernel
theorem dX7_setDefault_62 : decode cX7_setDefault 62 = .ok (.iadd, 1) := by decide +kernel
theorem dX7_setDefault_63 : decode cX7_setDefault 63 = .ok (.iaload, 1) := by decide +kernel
theorem dX7_setDefault_64 : decode cX7_setDefault 64 = .ok (.istore 4, 2) := by decide +kernel
theorem dX7_setDefault_66 : decode cX7_setDefault 66 = .ok (.aload_n 0, 1) := by decide +kernel
theorem dX7_setDefault_67 : decode cX7_setDefault 67 = .ok (.getfield 16, 3) := by decide +kernel
theorem dX7_setDefault_70 : decode cX7_setDefault 70 = .ok (.bipush 32, 2) := by decide +kernel
theorem dX7_setDefault_72 : decode cX7_setDefault 72 = .ok (.iload_n 1, 1) := by decide +kernel
theorem dX7_setDefault_73 : decode cX7_setDefault 73 = .ok (.imul, 1) := by decide +kernel
theorem dX7_setDefault_74 : decode cX7_setDefault 74 = .ok (.iload_n 2, 1) := by decide +kernel
theorem dX7_setDefault_75 : decode cX7_setDefault 75 = .ok (.iadd, 1) := by decide +kernel
theorem dX7_setDefault_76 : decode cX7_setDefault 76 = .ok (.iload_n 3, 1) := by decide +kernel
theorem dX7_setDefault_77 : decode cX7_setDefault 77 = .ok (.iastore, 1) := by decide +kernel
theorem dX7_setDefault_78 : decode cX7_setDefault 78 = .ok (.iload 4, 2) := by decide +kernel
theorem dX7_setDefault_80 : decode cX7_setDefault 80 = .ok (.ireturn, 1) := by decide +kernel
theorem dX7_kindOf_0 : decode cX7_kindOf 0 = .ok (.aload_n 0, 1) := by decide +kernel
theorem dX7_kindOf_1 : decode cX7_kindOf 1 = .ok (.aload_n 0, 1) := by decide +kernel
theorem dX7_kindOf_2 : decode cX7_kindOf 2 = .ok (.iload_n 1, 1) := by decide +kernel
theorem dX7_kindOf_3 : decode cX7_kindOf 3 = .ok (.invokevirtual 136, 3) := by decide +kernel
theorem dX7_kindOf_6 : decode cX7_kindOf 6 = .ok (.ifCond .ne 7, 3) := by decide +kernel
theorem dX7_kindOf_9 : decode cX7_kindOf 9 = .ok (.iconst 1, 1) := by decide +kernel
theorem dX7_kindOf_10 : decode cX7_kindOf 10 = .ok (.goto 15, 3) := by decide +kernel
theorem dX7_kindOf_13 : decode cX7_kindOf 13 = .ok (.iload_n 2, 1) := by decide +kernel
theorem dX7_kindOf_14 : decode cX7_kindOf 14 = .ok (.invokestatic 74, 3) := by decide +kernel
theorem dX7_kindOf_17 : decode cX7_kindOf 17 = .ok (.ifCond .eq 7, 3) := by decide +kernel
theorem dX7_kindOf_20 : decode cX7_kindOf 20 = .ok (.iconst 0, 1) := by decide +kernel
theorem dX7_kindOf_21 : decode cX7_kindOf 21 = .ok (.goto 4, 3) := by decide +kernel
theorem dX7_kindOf_24 : decode cX7_kindOf 24 = .ok (.iconst 2, 1) := by decide +kernel
theorem dX7_kindOf_25 : decode cX7_kindOf 25 = .ok (.putfield 44, 3) := by decide +kernel
theorem dX7_kindOf_28 : decode cX7_kindOf 28 = .ok (.aload_n 0, 1) := by decide +kernel
theorem dX7_kindOf_29 : decode cX7_kindOf 29 = .ok (.getfield 44, 3) := by decide +kernel
theorem dX7_kindOf_32 : decode cX7_kindOf 32 = .ok (.ifCond .le 7, 3) := by decide +kernel
theorem dX7_kindOf_35 : decode cX7_kindOf 35 = .ok (.iconst 0, 1) := by decide +kernel
theorem dX7_kindOf_36 : decode cX7_kindOf 36 = .ok (.goto 9, 3) := by decide +kernel
theorem dX7_kindOf_39 : decode cX7_kindOf 39 = .ok (.aload_n 0, 1) := by decide +kernel
theorem dX7_kindOf_40 : decode cX7_kindOf 40 = .ok (.iload_n 1, 1) := by decide +kernel
theorem dX7_kindOf_41 : decode cX7_kindOf 41 = .ok (.iload_n 2, 1) := by decide +kernel
theorem dX7_kindOf_42 : decode cX7_kindOf 42 = .ok (.invokevirtual 98, 3) := by decide +kernel
theorem dX7_kindOf_45 : decode cX7_kindOf 45 = .ok (.ireturn, 1) := by decide +kernel
theorem dX7_differsAt_0 : decode cX7_differsAt 0 = .ok (.aload_n 0, 1) := by decide +kernel
theorem dX7_differsAt_1 : decode cX7_differsAt 1 = .ok (.iload_n 1, 1) := by decide +kernel
theorem dX7_differsAt_2 : decode cX7_differsAt 2 = .ok (.iload_n 3, 1) := by decide +kernel
theorem dX7_differsAt_3 : decode cX7_differsAt 3 = .ok (.invokevirtual 98, 3) := by decide +kernel
theorem dX7_differsAt_6 : decode cX7_differsAt 6 = .ok (.istore 4, 2) := by decide +kernel
theorem dX7_differsAt_8 : decode cX7_differsAt 8 = .ok (.aload_n 0, 1) := by decide +kernel
theorem dX7_differsAt_9 : decode cX7_differsAt 9 = .ok (.iload_n 2, 1) := by decide +kernel
theorem dX7_differsAt_10 : decode cX7_differsAt 10 = .ok (.iload_n 3, 1) := by decide +kernel
theorem dX7_differsAt_11 : decode cX7_differsAt 11 = .ok (.invokevirtual 98, 3) := by decide +kernel
theorem dX7_differsAt_14 : decode cX7_differsAt 14 = .ok (.istore 5, 2) := by decide +kernel
theorem dX7_differsAt_16 : decode cX7_differsAt 16 = .ok (.iload 4, 2) := by decide +kernel
theorem dX7_differsAt_18 : decode cX7_differsAt 18 = .ok (.iconst (-1), 1) := by decide +kernel
theorem dX7_differsAt_19 : decode cX7_differsAt 19 = .ok (.if_icmp .eq 36, 3) := by decide +kernel
theorem dX7_differsAt_22 : decode cX7_differsAt 22 = .ok (.iload 5, 2) := by decide +kernel
theorem dX7_differsAt_24 : decode cX7_differsAt 24 = .ok (.iconst (-1), 1) := by decide +kernel
theorem dX7_differsAt_25 : decode cX7_differsAt 25 = .ok (.if_icmp .eq 30, 3) := by decide +kernel
theorem dX7_differsAt_28 : decode cX7_differsAt 28 = .ok (.iload 4, 2) := by decide +kernel
theorem dX7_differsAt_30 : decode cX7_differsAt 30 = .ok (.iload 5, 2) := by decide +kernel
theorem dX7_differsAt_32 : decode cX7_differsAt 32 = .ok (.if_icmp .eq 23, 3) := by decide +kernel
theorem dX7_differsAt_35 : decode cX7_differsAt 35 = .ok (.iload 4, 2) := by decide +kernel
theorem dX7_differsAt_37 : decode cX7_differsAt 37 = .ok (.invokestatic 120, 3) := by decide +kernel
theorem dX7_differsAt_40 : decode cX7_differsAt 40 = .ok (.ifCond .ne 11, 3) := by decide +kernel
theorem dX7_differsAt_43 : decode cX7_differsAt 43 = .ok (.iload 5, 2) := by decide +kernel
theorem dX7_differsAt_45 : decode cX7_differsAt 45 = .ok (.invokestatic 120, 3) := by decide +kernel
theorem dX7_differsAt_48 : decode cX7_differsAt 48 = .ok (.ifCond .eq 7, 3) := by decide +kernel
theorem dX7_differsAt_51 : decode cX7_differsAt 51 = .ok (.iconst 1, 1) := by decide +kernel
theorem dX7_differsAt_52 : decode cX7_differsAt 52 = .ok (.goto 4, 3) := by decide +kernel
theorem dX7_differsAt_55 : decode cX7_differsAt 55 = .ok (.iconst 0, 1) := by decide +kernel
theorem dX7_differsAt_56 : decode cX7_differsAt 56 = .ok (.ireturn, 1) := by decide +kernel
theorem dX7_leadsTo_0 : decode cX7_leadsTo 0 = .ok (.aload_n 0, 1) := by decide +kernel
theorem dX7_leadsTo_1 : decode cX7_leadsTo 1 = .ok (.iload_n 1, 1) := by decide +kernel
theorem dX7_leadsTo_2 : decode cX7_leadsTo 2 = .ok (.iload_n 3, 1) := by decide +kernel
theorem dX7_leadsTo_3 : decode cX7_leadsTo 3 = .ok (.invokevirtual 98, 3) := by decide +kernel
theorem dX7_leadsTo_6 : decode cX7_leadsTo 6 = .ok (.iconst 4, 1) := by decide +kernel
theorem dX7_leadsTo_7 : decode cX7_leadsTo 7 = .ok (.if_icmp .ne 17, 3) := by decide +kernel
theorem dX7_leadsTo_10 : decode cX7_leadsTo 10 = .ok (.aload_n 0, 1) := by decide +kernel
theorem dX7_leadsTo_11 : decode cX7_leadsTo 11 = .ok (.iload_n 2, 1) := by decide +kernel
theorem dX7_leadsTo_12 : decode cX7_leadsTo 12 = .ok (.iload_n 3, 1) := by decide +kernel
theorem dX7_leadsTo_13 : decode cX7_leadsTo 13 = .ok (.invokevirtual 98, 3) := by decide +kernel
theorem dX7_leadsTo_16 : decode cX7_leadsTo 16 = .ok (.iconst 4, 1) := by decide +kernel
theorem dX7_leadsTo_17 : decode cX7_leadsTo 17 = .ok (.if_icmp .ne 7, 3) := by decide +kernel
theorem dX7_leadsTo_20 : decode cX7_leadsTo 20 = .ok (.iconst 1, 1) := by decide +kernel
theorem dX7_leadsTo_21 : decode cX7_leadsTo 21 = .ok (.goto 4, 3) := by decide +kernel
theorem dX7_leadsTo_24 : decode cX7_leadsTo 24 = .ok (.iconst 0, 1) := by decide +kernel
theorem dX7_leadsTo_25 : decode cX7_leadsTo 25 = .ok (.istore 4, 2) := by decide +kernel
theorem dX7_leadsTo_27 : decode cX7_leadsTo 27 = .ok (.iload 4, 2) := by decide +kernel
theorem dX7_leadsTo_29 : decode cX7_leadsTo 29 = .ok (.ifCond .eq 32, 3) := by decide +kernel
theorem dX7_leadsTo_32 : decode cX7_leadsTo 32 = .ok (.bipush 6, 2) := by decide +kernel
theorem dX7_leadsTo_34 : decode cX7_leadsTo 34 = .ok (.aload_n 0, 1) := by decide +kernel
theorem dX7_leadsTo_35 : decode cX7_leadsTo 35 = .ok (.getfield 13, 3) := by decide +kernel
theorem dX7_leadsTo_38 : decode cX7_leadsTo 38 = .ok (.bipush 32, 2) := by decide +kernel
theorem dX7_leadsTo_40 : decode cX7_leadsTo 40 = .ok (.iload_n 1, 1) := by decide +kernel
theorem dX7_leadsTo_41 : decode cX7_leadsTo 41 = .ok (.imul, 1) := by decide +kernel
theorem dX7_leadsTo_42 : decode cX7_leadsTo 42 = .ok (.iload_n 3, 1) := by decide +kernel
theorem dX7_leadsTo_43 : decode cX7_leadsTo 43 = .ok (.iadd, 1) := by decide +kernel
theorem dX7_leadsTo_44 : decode cX7_leadsTo 44 = .ok (.iaload, 1) := by decide +kernel
theorem dX7_leadsTo_45 : decode cX7_leadsTo 45 = .ok (.imul, 1) := by decide +kernel
theorem dX7_leadsTo_46 : decode cX7_leadsTo 46 = .ok (.aload_n 0, 1) := by decide +kernel
theorem dX7_leadsTo_47 : decode cX7_leadsTo 47 = .ok (.getfield 13, 3) := by decide +kernel
theorem dX7_leadsTo_50 : decode cX7_leadsTo 50 = .ok (.bipush 32, 2) := by decide +kernel
theorem dX7_leadsTo_52 : decode cX7_leadsTo 52 = .ok (.iload_n 2, 1) := by decide +kernel
theorem dX7_leadsTo_53 : decode cX7_leadsTo 53 = .ok (.imul, 1) := by decide +kernel
theorem dX7_leadsTo_54 : decode cX7_leadsTo 54 = .ok (.iload_n 3, 1) := by decide +kernel
theorem dX7_leadsTo_55 : decode cX7_leadsTo 55 = .ok (.iadd, 1) := by decide +kernel
theorem dX7_leadsTo_56 : decode cX7_leadsTo 56 = .ok (.iaload, 1) := by decide +kernel
theorem dX7_leadsTo_57 : decode cX7_leadsTo 57 = .ok (.iadd, 1) := by decide +kernel
theorem dX7_leadsTo_58 : decode cX7_leadsTo 58 = .ok (.goto 4, 3) := by decide +kernel
theorem dX7_leadsTo_61 : decode cX7_leadsTo 61 = .ok (.iconst (-1), 1) := by decide +kernel
theorem dX7_leadsTo_62 : decode cX7_leadsTo 62 = .ok (.ireturn, 1) := by decide +kernel
theorem dX7_isReason_0 : decode cX7_isReason 0 = .ok (.aload_n 0, 1) := by decide +kernel
theorem dX7_isReason_1 : decode cX7_isReason 1 = .ok (.iload_n 1, 1) := by decide +kernel
theorem dX7_isReason_2 : decode cX7_isReason 2 = .ok (.iload_n 2, 1) := by decide +kernel
theorem dX7_isReason_3 : decode cX7_isReason 3 = .ok (.iload_n 3, 1) := by decide +kernel
theorem dX7_isReason_4 : decode cX7_isReason 4 = .ok (.invokevirtual 139, 3) := by decide +kernel
theorem dX7_isReason_7 : decode cX7_isReason 7 = .ok (.istore 4, 2) := by decide +kernel
theorem dX7_isReason_9 : decode cX7_isReason 9 = .ok (.aload_n 0, 1) := by decide +kernel
theorem dX7_isReason_10 : decode cX7_isReason 10 = .ok (.iload_n 1, 1) := by decide +kernel
theorem dX7_isReason_11 : decode cX7_isReason 11 = .ok (.iload_n 2, 1) := by decide +kernel
theorem dX7_isReason_12 : decode cX7_isReason 12 = .ok (.iload_n 3, 1) := by decide +kernel
theorem dX7_isReason_13 : decode cX7_isReason 13 = .ok (.invokevirtual 143, 3) := by decide +kernel
theorem dX7_isReason_16 : decode cX7_isReason 16 = .ok (.ifCond .ne 19, 3) := by decide +kernel
theorem dX7_isReason_19 : decode cX7_isReason 19 = .ok (.iload 4, 2) := by decide +kernel
theorem dX7_isReason_21 : decode cX7_isReason 21 = .ok (.iconst (-1), 1) := by decide +kernel
theorem dX7_isReason_22 : decode cX7_isReason 22 = .ok (.if_icmp .eq 17, 3) := by decide +kernel
theorem dX7_isReason_25 : decode cX7_isReason 25 = .ok (.aload_n 0, 1) := by decide +kernel
theorem dX7_isReason_26 : decode cX7_isReason 26 = .ok (.getfield 41, 3) := by decide +kernel
theorem dX7_isReason_29 : decode cX7_isReason 29 = .ok (.iload 4, 2) := by decide +kernel
theorem dX7_isReason_31 : decode cX7_isReason 31 = .ok (.baload, 1) := by decide +kernel
theorem dX7_isReason_32 : decode cX7_isReason 32 = .ok (.ifCond .eq 7, 3) := by decide +kernel
theorem dX7_isReason_35 : decode cX7_isReason 35 = .ok (.iconst 1, 1) := by decide +kernel
theorem dX7_isReason_36 : decode cX7_isReason 36 = .ok (.goto 4, 3) := by decide +kernel
theorem dX7_isReason_39 : decode cX7_isReason 39 = .ok (.iconst 0, 1) := by decide +kernel
theorem dX7_isReason_40 : decode cX7_isReason 40 = .ok (.ireturn, 1) := by decide +kernel
theorem dX7_conflict_0 : decode cX7_conflict 0 = .ok (.aload_n 0, 1) := by decide +kernel
theorem dX7_conflict_1 : decode cX7_conflict 1 = .ok (.aload_n 0, 1) := by decide +kernel
theorem dX7_conflict_2 : decode cX7_conflict 2 = .ok (.iload_n 1, 1) := by decide +kernel
theorem dX7_conflict_3 : decode cX7_conflict 3 = .ok (.invokevirtual 136, 3) := by decide +kernel
theorem dX7_conflict_6 : decode cX7_conflict 6 = .ok (.ifCond .eq 15, 3) := by decide +kernel
theorem dX7_conflict_9 : decode cX7_conflict 9 = .ok (.aload_n 0, 1) := by decide +kernel
theorem dX7_conflict_10 : decode cX7_conflict 10 = .ok (.iload_n 2, 1) := by decide +kernel
theorem dX7_conflict_11 : decode cX7_conflict 11 = .ok (.invokevirtual 136, 3) := by decide +kernel
theorem dX7_conflict_14 : decode cX7_conflict 14 = .ok (.ifCond .eq 7, 3) := by decide +kernel
theorem dX7_conflict_17 : decode cX7_conflict 17 = .ok (.iconst 0, 1) := by decide +kernel
theorem dX7_conflict_18 : decode cX7_conflict 18 = .ok (.goto 4, 3) := by decide +kernel
theorem dX7_conflict_21 : decode cX7_conflict 21 = .ok (.iconst 1, 1) := by decide +kernel
theorem dX7_conflict_22 : decode cX7_conflict 22 = .ok (.putfield 44, 3) := by decide +kernel
theorem dX7_conflict_25 : decode cX7_conflict 25 = .ok (.aload_n 0, 1) := by decide +kernel
theorem dX7_conflict_26 : decode cX7_conflict 26 = .ok (.getfield 44, 3) := by decide +kernel
theorem dX7_conflict_29 : decode cX7_conflict 29 = .ok (.ifCond .le 5, 3) := by decide +kernel
theorem dX7_conflict_32 : decode cX7_conflict 32 = .ok (.iconst 0, 1) := by decide +kernel
theorem dX7_conflict_33 : decode cX7_conflict 33 = .ok (.ireturn, 1) := by decide +kernel
theorem dX7_conflict_34 : decode cX7_conflict 34 = .ok (.iconst 0, 1) := by decide +kernel
theorem dX7_conflict_35 : decode cX7_conflict 35 = .ok (.istore_n 3, 1) := by decide +kernel
theorem dX7_conflict_36 : decode cX7_conflict 36 = .ok (.iload_n 3, 1) := by decide +kernel
theorem dX7_conflict_37 : decode cX7_conflict 37 = .ok (.bipush 36, 2) := by decide +kernel
theorem dX7_conflict_39 : decode cX7_conflict 39 = .ok (.if_icmp .ge 16, 3) := by decide +kernel
theorem dX7_conflict_42 : decode cX7_conflict 42 = .ok (.aload_n 0, 1) := by decide +kernel
theorem dX7_conflict_43 : decode cX7_conflict 43 = .ok (.getfield 41, 3) := by decide +kernel
theorem dX7_conflict_46 : decode cX7_conflict 46 = .ok (.iload_n 3, 1) := by decide +kernel
theorem dX7_conflict_47 : decode cX7_conflict 47 = .ok (.iconst 0, 1) := by decide +kernel
theorem dX7_conflict_48 : decode cX7_conflict 48 = .ok (.bastore, 1) := by decide +kernel
theorem dX7_conflict_49 : decode cX7_conflict 49 = .ok (.iinc 3 1, 3) := by decide +kernel
theorem dX7_conflict_52 : decode cX7_conflict 52 = .ok (.goto (-16), 3) := by decide +kernel
theorem dX7_conflict_55 : decode cX7_conflict 55 = .ok (.iconst 1, 1) := by decide +kernel
theorem dX7_conflict_56 : decode cX7_conflict 56 = .ok (.istore_n 3, 1) := by decide +kernel
theorem dX7_conflict_57 : decode cX7_conflict 57 = .ok (.iload_n 3, 1) := by decide +kernel
theorem dX7_conflict_58 : decode cX7_conflict 58 = .ok (.ifCond .eq 129, 3) := by decide +kernel
theorem dX7_conflict_61 : decode cX7_conflict 61 = .ok (.iconst 0, 1) := by decide +kernel
theorem dX7_conflict_62 : decode cX7_conflict 62 = .ok (.istore_n 3, 1) := by decide +kernel
theorem dX7_conflict_63 : decode cX7_conflict 63 = .ok (.iconst 0, 1) := by decide +kernel
theorem dX7_conflict_64 : decode cX7_conflict 64 = .ok (.istore 4, 2) := by decide +kernel
theorem dX7_conflict_66 : decode cX7_conflict 66 = .ok (.iload 4, 2) := by decide +kernel
theorem dX7_conflict_68 : decode cX7_conflict 68 = .ok (.aload_n 0, 1) := by decide +kernel
theorem dX7_conflict_69 : decode cX7_conflict 69 = .ok (.getfield 48, 3) := by decide +kernel
theorem dX7_conflict_72 : decode cX7_conflict 72 = .ok (.if_icmp .ge 112, 3) := by decide +kernel
theorem dX7_conflict_75 : decode cX7_conflict 75 = .ok (.iconst 0, 1) := by decide +kernel
theorem dX7_conflict_76 : decode cX7_conflict 76 = .ok (.istore 5, 2) := by decide +kernel
theorem dX7_conflict_78 : decode cX7_conflict 78 = .ok (.iload 5, 2) := by decide +kernel
theorem dX7_conflict_80 : decode cX7_conflict 80 = .ok (.aload_n 0, 1) := by decide +kernel
theorem dX7_conflict_81 : decode cX7_conflict 81 = .ok (.getfield 48, 3) := by decide +kernel
theorem dX7_conflict_84 : decode cX7_conflict 84 = .ok (.if_icmp .ge 94, 3) := by decide +kernel
theorem dX7_conflict_87 : decode cX7_conflict 87 = .ok (.iload 4, 2) := by decide +kernel
theorem dX7_conflict_89 : decode cX7_conflict 89 = .ok (.iload_n 1, 1) := by decide +kernel
theorem dX7_conflict_90 : decode cX7_conflict 90 = .ok (.if_icmp .ne 13, 3) := by decide +kernel
theorem dX7_conflict_93 : decode cX7_conflict 93 = .ok (.iload 5, 2) := by decide +kernel
theorem dX7_conflict_95 : decode cX7_conflict 95 = .ok (.iload_n 2, 1) := by decide +kernel
theorem dX7_conflict_96 : decode cX7_conflict 96 = .ok (.if_icmp .ne 7, 3) := by decide +kernel
theorem dX7_conflict_99 : decode cX7_conflict 99 = .ok (.iconst 1, 1) := by decide +kernel
theorem dX7_conflict_100 : decode cX7_conflict 100 = .ok (.goto 4, 3) := by decide +kernel
theorem dX7_conflict_103 : decode cX7_conflict 103 = .ok (.iconst 0, 1) := by decide +kernel
theorem dX7_conflict_104 : decode cX7_conflict 104 = .ok (.istore 6, 2) := by decide +kernel
theorem dX7_conflict_106 : decode cX7_conflict 106 = .ok (.iconst 1, 1) := by decide +kernel
theorem dX7_conflict_107 : decode cX7_conflict 107 = .ok (.istore 7, 2) := by decide +kernel
theorem dX7_conflict_109 : decode cX7_conflict 109 = .ok (.iload 7, 2) := by decide +kernel
theorem dX7_conflict_111 : decode cX7_conflict 111 = .ok (.bipush 32, 2) := by decide +kernel
theorem dX7_conflict_113 : decode cX7_conflict 113 = .ok (.if_icmp .ge 59, 3) := by decide +kernel
theorem dX7_conflict_116 : decode cX7_conflict 116 = .ok (.iload 6, 2) := by decide +kernel
theorem dX7_conflict_118 : decode cX7_conflict 118 = .ok (.ifCond .ne 54, 3) := by decide +kernel
theorem dX7_conflict_121 : decode cX7_conflict 121 = .ok (.aload_n 0, 1) := by decide +kernel
theorem dX7_conflict_122 : decode cX7_conflict 122 = .ok (.getfield 41, 3) := by decide +kernel
theorem dX7_conflict_125 : decode cX7_conflict 125 = .ok (.bipush 6, 2) := by decide +kernel
theorem dX7_conflict_127 : decode cX7_conflict 127 = .ok (.iload 4, 2) := by decide +kernel
theorem dX7_conflict_129 : decode cX7_conflict 129 = .ok (.imul, 1) := by decide +kernel
theorem dX7_conflict_130 : decode cX7_conflict 130 = .ok (.iload 5, 2) := by decide +kernel
theorem dX7_conflict_132 : decode cX7_conflict 132 = .ok (.iadd, 1) := by decide +kernel
theorem dX7_conflict_133 : decode cX7_conflict 133 = .ok (.baload, 1) := by decide +kernel
theorem dX7_conflict_134 : decode cX7_conflict 134 = .ok (.ifCond .ne 38, 3) := by decide +kernel
theorem dX7_conflict_137 : decode cX7_conflict 137 = .ok (.aload_n 0, 1) := by decide +kernel
theorem dX7_conflict_138 : decode cX7_conflict 138 = .ok (.iload 4, 2) := by decide +kernel
theorem dX7_conflict_140 : decode cX7_conflict 140 = .ok (.iload 5, 2) := by decide +kernel
theorem dX7_conflict_142 : decode cX7_conflict 142 = .ok (.iload 7, 2) := by decide +kernel
theorem dX7_conflict_144 : decode cX7_conflict 144 = .ok (.invokevirtual 146, 3) := by decide +kernel
theorem dX7_conflict_147 : decode cX7_conflict 147 = .ok (.ifCond .eq 19, 3) := by decide +kernel
theorem dX7_conflict_150 : decode cX7_conflict 150 = .ok (.aload_n 0, 1) := by decide +kernel
theorem dX7_conflict_151 : decode cX7_conflict 151 = .ok (.getfield 41, 3) := by decide +kernel
theorem dX7_conflict_154 : decode cX7_conflict 154 = .ok (.bipush 6, 2) := by decide +kernel
theorem dX7_conflict_156 : decode cX7_conflict 156 = .ok (.iload 4, 2) := by decide +kernel
theorem dX7_conflict_158 : decode cX7_conflict 158 = .ok (.imul, 1) := by decide +kernel
theorem dX7_conflict_159 : decode cX7_conflict 159 = .ok (.iload 5, 2) := by decide +kernel
theorem dX7_conflict_161 : decode cX7_conflict 161 = .ok (.iadd, 1) := by decide +kernel
theorem dX7_conflict_162 : decode cX7_conflict 162 = .ok (.iconst 1, 1) := by decide +kernel
theorem dX7_conflict_163 : decode cX7_conflict 163 = .ok (.bastore, 1) := by decide +kernel
theorem dX7_conflict_164 : decode cX7_conflict 164 = .ok (.iconst 1, 1) := by decide +kernel
theorem dX7_conflict_165 : decode cX7_conflict 165 = .ok (.istore_n 3, 1) := by decide +kernel
theorem dX7_conflict_166 : decode cX7_conflict 166 = .ok (.iinc 7 1, 3) := by decide +kernel
theorem dX7_conflict_169 : decode cX7_conflict 169 = .ok (.goto (-60), 3) := by decide +kernel
theorem dX7_conflict_172 : decode cX7_conflict 172 = .ok (.iinc 5 1, 3) := by decide +kernel
theorem dX7_conflict_175 : decode cX7_conflict 175 = .ok (.goto (-97), 3) := by decide +kernel
theorem dX7_conflict_178 : decode cX7_conflict 178 = .ok (.iinc 4 1, 3) := by decide +kernel
theorem dX7_conflict_181 : decode cX7_conflict 181 = .ok (.goto (-115), 3) := by decide +kernel
theorem dX7_conflict_184 : decode cX7_conflict 184 = .ok (.goto (-127), 3) := by decide +kernel
theorem dX7_conflict_187 : decode cX7_conflict 187 = .ok (.iconst (-1), 1) := by decide +kernel
theorem dX7_conflict_188 : decode cX7_conflict 188 = .ok (.istore 4, 2) := by decide +kernel
theorem dX7_conflict_190 : decode cX7_conflict 190 = .ok (.bipush 31, 2) := by decide +kernel
theorem dX7_conflict_192 : decode cX7_conflict 192 = .ok (.istore 5, 2) := by decide +kernel
theorem dX7_conflict_194 : decode cX7_conflict 194 = .ok (.iload 5, 2) := by decide +kernel
theorem dX7_conflict_196 : decode cX7_conflict 196 = .ok (.ifCond .le 29, 3) := by decide +kernel
theorem dX7_conflict_199 : decode cX7_conflict 199 = .ok (.aload_n 0, 1) := by decide +kernel
theorem dX7_conflict_200 : decode cX7_conflict 200 = .ok (.iload_n 1, 1) := by decide +kernel
theorem dX7_conflict_201 : decode cX7_conflict 201 = .ok (.iload_n 2, 1) := by decide +kernel
theorem dX7_conflict_202 : decode cX7_conflict 202 = .ok (.iload 5, 2) := by decide +kernel
theorem dX7_conflict_204 : decode cX7_conflict 204 = .ok (.invokevirtual 146, 3) := by decide +kernel
theorem dX7_conflict_207 : decode cX7_conflict 207 = .ok (.ifCond .eq 8, 3) := by decide +kernel
theorem dX7_conflict_210 : decode cX7_conflict 210 = .ok (.iload 5, 2) := by decide +kernel
theorem dX7_conflict_212 : decode cX7_conflict 212 = .ok (.goto 5, 3) := by decide +kernel
theorem dX7_conflict_215 : decode cX7_conflict 215 = .ok (.iload 4, 2) := by decide +kernel
theorem dX7_conflict_217 : decode cX7_conflict 217 = .ok (.istore 4, 2) := by decide +kernel
theorem dX7_conflict_219 : decode cX7_conflict 219 = .ok (.iinc 5 (-1), 3) := by decide +kernel
theorem dX7_conflict_222 : decode cX7_conflict 222 = .ok (.goto (-28), 3) := by decide +kernel
theorem dX7_conflict_225 : decode cX7_conflict 225 = .ok (.iload 4, 2) := by decide +kernel
theorem dX7_conflict_227 : decode cX7_conflict 227 = .ok (.ireturn, 1) := by decide +kernel
theorem dX7_create_0 : decode cX7_create 0 = .ok (.aload_n 0, 1) := by decide +kernel
theorem dX7_create_1 : decode cX7_create 1 = .ok (.aload_n 0, 1) := by decide +kernel
theorem dX7_create_2 : decode cX7_create 2 = .ok (.iload_n 1, 1) := by decide +kernel
theorem dX7_create_3 : decode cX7_create 3 = .ok (.invokevirtual 136, 3) := by decide +kernel
theorem dX7_create_6 : decode cX7_create 6 = .ok (.ifCond .ne 7, 3) := by decide +kernel
theorem dX7_create_9 : decode cX7_create 9 = .ok (.iconst 1, 1) := by decide +kernel
theorem dX7_create_10 : decode cX7_create 10 = .ok (.goto 15, 3) := by decide +kernel
theorem dX7_create_13 : decode cX7_create 13 = .ok (.aload_n 0, 1) := by decide +kernel
theorem dX7_create_14 : decode cX7_create 14 = .ok (.invokevirtual 149, 3) := by decide +kernel
theorem dX7_create_17 : decode cX7_create 17 = .ok (.ifCond .eq 7, 3) := by decide +kernel
theorem dX7_create_20 : decode cX7_create 20 = .ok (.iconst 2, 1) := by decide +kernel
theorem dX7_create_21 : decode cX7_create 21 = .ok (.goto 4, 3) := by decide +kernel
theorem dX7_create_24 : decode cX7_create 24 = .ok (.iconst 0, 1) := by decide +kernel
theorem dX7_create_25 : decode cX7_create 25 = .ok (.putfield 44, 3) := by decide +kernel
theorem dX7_create_28 : decode cX7_create 28 = .ok (.aload_n 0, 1) := by decide +kernel
theorem dX7_create_29 : decode cX7_create 29 = .ok (.getfield 44, 3) := by decide +kernel
theorem dX7_create_32 : decode cX7_create 32 = .ok (.ifCond .le 5, 3) := by decide +kernel
theorem dX7_create_35 : decode cX7_create 35 = .ok (.iconst 0, 1) := by decide +kernel
theorem dX7_create_36 : decode cX7_create 36 = .ok (.ireturn, 1) := by decide +kernel
theorem dX7_create_37 : decode cX7_create 37 = .ok (.aload_n 0, 1) := by decide +kernel
theorem dX7_create_38 : decode cX7_create 38 = .ok (.iconst 0, 1) := by decide +kernel
theorem dX7_create_39 : decode cX7_create 39 = .ok (.putfield 84, 3) := by decide +kernel
theorem dX7_create_42 : decode cX7_create 42 = .ok (.aload_n 0, 1) := by decide +kernel
theorem dX7_create_43 : decode cX7_create 43 = .ok (.iload_n 1, 1) := by decide +kernel
theorem dX7_create_44 : decode cX7_create 44 = .ok (.invokevirtual 153, 3) := by decide +kernel
theorem dX7_create_47 : decode cX7_create 47 = .ok (.ireturn, 1) := by decide +kernel
theorem dX7_copy_0 : decode cX7_copy 0 = .ok (.aload_n 0, 1) := by decide +kernel
theorem dX7_copy_1 : decode cX7_copy 1 = .ok (.aload_n 0, 1) := by decide +kernel
theorem dX7_copy_2 : decode cX7_copy 2 = .ok (.iload_n 1, 1) := by decide +kernel
theorem dX7_copy_3 : decode cX7_copy 3 = .ok (.invokevirtual 156, 3) := by decide +kernel
theorem dX7_copy_6 : decode cX7_copy 6 = .ok (.ifCond .eq 11, 3) := by decide +kernel
theorem dX7_copy_9 : decode cX7_copy 9 = .ok (.aload_n 0, 1) := by decide +kernel
theorem dX7_copy_10 : decode cX7_copy 10 = .ok (.iload_n 2, 1) := by decide +kernel
theorem dX7_copy_11 : decode cX7_copy 11 = .ok (.invokevirtual 136, 3) := by decide +kernel
theorem dX7_copy_14 : decode cX7_copy 14 = .ok (.ifCond .ne 7, 3) := by decide +kernel
theorem dX7_copy_17 : decode cX7_copy 17 = .ok (.iconst 1, 1) := by decide +kernel
theorem dX7_copy_18 : decode cX7_copy 18 = .ok (.goto 15, 3) := by decide +kernel
theorem dX7_copy_21 : decode cX7_copy 21 = .ok (.aload_n 0, 1) := by decide +kernel
theorem dX7_copy_22 : decode cX7_copy 22 = .ok (.invokevirtual 149, 3) := by decide +kernel
theorem dX7_copy_25 : decode cX7_copy 25 = .ok (.ifCond .eq 7, 3) := by decide +kernel
theorem dX7_copy_28 : decode cX7_copy 28 = .ok (.iconst 2, 1) := by decide +kernel
theorem dX7_copy_29 : decode cX7_copy 29 = .ok (.goto 4, 3) := by decide +kernel
theorem dX7_copy_32 : decode cX7_copy 32 = .ok (.iconst 0, 1) := by decide +kernel
theorem dX7_copy_33 : decode cX7_copy 33 = .ok (.putfield 44, 3) := by decide +kernel
theorem dX7_copy_36 : decode cX7_copy 36 = .ok (.aload_n 0, 1) := by decide +kernel
theorem dX7_copy_37 : decode cX7_copy 37 = .ok (.getfield 44, 3) := by decide +kernel
theorem dX7_copy_40 : decode cX7_copy 40 = .ok (.ifCond .le 5, 3) := by decide +kernel
theorem dX7_copy_43 : decode cX7_copy 43 = .ok (.iconst 0, 1) := by decide +kernel
theorem dX7_copy_44 : decode cX7_copy 44 = .ok (.ireturn, 1) := by decide +kernel
theorem dX7_copy_45 : decode cX7_copy 45 = .ok (.aload_n 0, 1) := by decide +kernel
theorem dX7_copy_46 : decode cX7_copy 46 = .ok (.iload_n 1, 1) := by decide +kernel
theorem dX7_copy_47 : decode cX7_copy 47 = .ok (.iconst (-1), 1) := by decide +kernel
theorem dX7_copy_48 : decode cX7_copy 48 = .ok (.invokevirtual 159, 3) := by decide +kernel
theorem dX7_copy_51 : decode cX7_copy 51 = .ok (.aload_n 0, 1) := by decide +kernel
theorem dX7_copy_52 : decode cX7_copy 52 = .ok (.iload_n 2, 1) := by decide +kernel
theorem dX7_copy_53 : decode cX7_copy 53 = .ok (.invokevirtual 153, 3) := by decide +kernel
theorem dX7_copy_56 : decode cX7_copy 56 = .ok (.ireturn, 1) := by decide +kernel
theorem dX7_fields_0 : decode cX7_fields 0 = .ok (.iconst 0, 1) := by decide +kernel
theorem dX7_fields_1 : decode cX7_fields 1 = .ok (.istore_n 2, 1) := by decide +kernel
theorem dX7_fields_2 : decode cX7_fields 2 = .ok (.aload_n 0, 1) := by decide +kernel
theorem dX7_fields_3 : decode cX7_fields 3 = .ok (.bipush 120, 2) := by decide +kernel
theorem dX7_fields_5 : decode cX7_fields 5 = .ok (.iload_n 1, 1) := by decide +kernel
theorem dX7_fields_6 : decode cX7_fields 6 = .ok (.imul, 1) := by decide +kernel
theorem dX7_fields_7 : decode cX7_fields 7 = .ok (.putfield 55, 3) := by decide +kernel
theorem dX7_fields_10 : decode cX7_fields 10 = .ok (.aload_n 0, 1) := by decide +kernel
theorem dX7_fields_11 : decode cX7_fields 11 = .ok (.getfield 55, 3) := by decide +kernel
theorem dX7_fields_14 : decode cX7_fields 14 = .ok (.bipush 120, 2) := by decide +kernel
theorem dX7_fields_16 : decode cX7_fields 16 = .ok (.iload_n 1, 1) := by decide +kernel
theorem dX7_fields_17 : decode cX7_fields 17 = .ok (.imul, 1) := by decide +kernel
theorem dX7_fields_18 : decode cX7_fields 18 = .ok (.aload_n 0, 1) := by decide +kernel
theorem dX7_fields_19 : decode cX7_fields 19 = .ok (.getfield 26, 3) := by decide +kernel
theorem dX7_fields_22 : decode cX7_fields 22 = .ok (.iload_n 1, 1) := by decide +kernel
theorem dX7_fields_23 : decode cX7_fields 23 = .ok (.iaload, 1) := by decide +kernel
theorem dX7_fields_24 : decode cX7_fields 24 = .ok (.iadd, 1) := by decide +kernel
theorem dX7_fields_25 : decode cX7_fields 25 = .ok (.if_icmp .ge 28, 3) := by decide +kernel
theorem dX7_fields_28 : decode cX7_fields 28 = .ok (.aload_n 0, 1) := by decide +kernel
theorem dX7_fields_29 : decode cX7_fields 29 = .ok (.aload_n 0, 1) := by decide +kernel
theorem dX7_fields_30 : decode cX7_fields 30 = .ok (.getfield 29, 3) := by decide +kernel
theorem dX7_fields_33 : decode cX7_fields 33 = .ok (.bipush 120, 2) := by decide +kernel
theorem dX7_fields_35 : decode cX7_fields 35 = .ok (.iload_n 1, 1) := by decide +kernel
theorem dX7_fields_36 : decode cX7_fields 36 = .ok (.imul, 1) := by decide +kernel
theorem dX7_fields_37 : decode cX7_fields 37 = .ok (.aload_n 0, 1) := by decide +kernel
theorem dX7_fields_38 : decode cX7_fields 38 = .ok (.getfield 26, 3) := by decide +kernel
theorem dX7_fields_41 : decode cX7_fields 41 = .ok (.iload_n 1, 1) := by decide +kernel
theorem dX7_fields_42 : decode cX7_fields 42 = .ok (.iaload, 1) := by decide +kernel
theorem dX7_fields_43 : decode cX7_fields 43 = .ok (.iadd, 1) := by decide +kernel
theorem dX7_fields_44 : decode cX7_fields 44 = .ok (.invokevirtual 106, 3) := by decide +kernel
theorem dX7_fields_47 : decode cX7_fields 47 = .ok (.iinc 2 1, 3) := by decide +kernel
theorem dX7_fields_50 : decode cX7_fields 50 = .ok (.goto (-40), 3) := by decide +kernel
theorem dX7_fields_53 : decode cX7_fields 53 = .ok (.iload_n 2, 1) := by decide +kernel
theorem dX7_fields_54 : decode cX7_fields 54 = .ok (.ireturn, 1) := by decide +kernel
theorem dX7_discard_0 : decode cX7_discard 0 = .ok (.aload_n 0, 1) := by decide +kernel
theorem dX7_discard_1 : decode cX7_discard 1 = .ok (.aload_n 0, 1) := by decide +kernel
theorem dX7_discard_2 : decode cX7_discard 2 = .ok (.iload_n 1, 1) := by decide +kernel
theorem dX7_discard_3 : decode cX7_discard 3 = .ok (.invokevirtual 156, 3) := by decide +kernel
theorem dX7_discard_6 : decode cX7_discard 6 = .ok (.ifCond .eq 7, 3) := by decide +kernel
theorem dX7_discard_9 : decode cX7_discard 9 = .ok (.iconst 0, 1) := by decide +kernel
theorem dX7_discard_10 : decode cX7_discard 10 = .ok (.goto 4, 3) := by decide +kernel
theorem dX7_discard_13 : decode cX7_discard 13 = .ok (.iconst 1, 1) := by decide +kernel
theorem dX7_discard_14 : decode cX7_discard 14 = .ok (.putfield 44, 3) := by decide +kernel
theorem dX7_discard_17 : decode cX7_discard 17 = .ok (.aload_n 0, 1) := by decide +kernel
theorem dX7_discard_18 : decode cX7_discard 18 = .ok (.getfield 44, 3) := by decide +kernel
theorem dX7_discard_21 : decode cX7_discard 21 = .ok (.ifCond .le 5, 3) := by decide +kernel
theorem dX7_discard_24 : decode cX7_discard 24 = .ok (.iconst 0, 1) := by decide +kernel
theorem dX7_discard_25 : decode cX7_discard 25 = .ok (.ireturn, 1) := by decide +kernel
theorem dX7_discard_26 : decode cX7_discard 26 = .ok (.aload_n 0, 1) := by decide +kernel
theorem dX7_discard_27 : decode cX7_discard 27 = .ok (.getfield 19, 3) := by decide +kernel
theorem dX7_discard_30 : decode cX7_discard 30 = .ok (.iload_n 1, 1) := by decide +kernel
theorem dX7_discard_31 : decode cX7_discard 31 = .ok (.iconst 0, 1) := by decide +kernel
theorem dX7_discard_32 : decode cX7_discard 32 = .ok (.bastore, 1) := by decide +kernel
theorem dX7_discard_33 : decode cX7_discard 33 = .ok (.aload_n 0, 1) := by decide +kernel
theorem dX7_discard_34 : decode cX7_discard 34 = .ok (.iload_n 1, 1) := by decide +kernel
theorem dX7_discard_35 : decode cX7_discard 35 = .ok (.invokevirtual 163, 3) := by decide +kernel
theorem dX7_discard_38 : decode cX7_discard 38 = .ok (.ireturn, 1) := by decide +kernel
theorem dX7_isWritten_0 : decode cX7_isWritten 0 = .ok (.aload_n 0, 1) := by decide +kernel
theorem dX7_isWritten_1 : decode cX7_isWritten 1 = .ok (.aload_n 0, 1) := by decide +kernel
theorem dX7_isWritten_2 : decode cX7_isWritten 2 = .ok (.getfield 84, 3) := by decide +kernel
theorem dX7_isWritten_5 : decode cX7_isWritten 5 = .ok (.bipush 120, 2) := by decide +kernel
theorem dX7_isWritten_7 : decode cX7_isWritten 7 = .ok (.if_icmp .le 7, 3) := by decide +kernel
theorem dX7_isWritten_10 : decode cX7_isWritten 10 = .ok (.iconst 3, 1) := by decide +kernel
theorem dX7_isWritten_11 : decode cX7_isWritten 11 = .ok (.goto 4, 3) := by decide +kernel
theorem dX7_isWritten_14 : decode cX7_isWritten 14 = .ok (.iconst 0, 1) := by decide +kernel
theorem dX7_isWritten_15 : decode cX7_isWritten 15 = .ok (.putfield 44, 3) := by decide +kernel
theorem dX7_isWritten_18 : decode cX7_isWritten 18 = .ok (.aload_n 0, 1) := by decide +kernel
theorem dX7_isWritten_19 : decode cX7_isWritten 19 = .ok (.getfield 44, 3) := by decide +kernel
theorem dX7_isWritten_22 : decode cX7_isWritten 22 = .ok (.ifCond .ne 8, 3) := by decide +kernel
theorem dX7_isWritten_25 : decode cX7_isWritten 25 = .ok (.aload_n 0, 1) := by decide +kernel
theorem dX7_isWritten_26 : decode cX7_isWritten 26 = .ok (.iload_n 1, 1) := by decide +kernel
theorem dX7_isWritten_27 : decode cX7_isWritten 27 = .ok (.invokevirtual 133, 3) := by decide +kernel
theorem dX7_isWritten_30 : decode cX7_isWritten 30 = .ok (.return_, 1) := by decide +kernel
theorem dX7_kindIn_0 : decode cX7_kindIn 0 = .ok (.aload_n 0, 1) := by decide +kernel
theorem dX7_kindIn_1 : decode cX7_kindIn 1 = .ok (.aload_n 0, 1) := by decide +kernel
theorem dX7_kindIn_2 : decode cX7_kindIn 2 = .ok (.getfield 23, 3) := by decide +kernel
theorem dX7_kindIn_5 : decode cX7_kindIn 5 = .ok (.iload_n 1, 1) := by decide +kernel
theorem dX7_kindIn_6 : decode cX7_kindIn 6 = .ok (.iaload, 1) := by decide +kernel
theorem dX7_kindIn_7 : decode cX7_kindIn 7 = .ok (.iload_n 2, 1) := by decide +kernel
theorem dX7_kindIn_8 : decode cX7_kindIn 8 = .ok (.invokevirtual 98, 3) := by decide +kernel
theorem dX7_kindIn_11 : decode cX7_kindIn 11 = .ok (.ireturn, 1) := by decide +kernel
theorem dX7_set_0 : decode cX7_set 0 = .ok (.aload_n 0, 1) := by decide +kernel
theorem dX7_set_1 : decode cX7_set 1 = .ok (.aload_n 0, 1) := by decide +kernel
theorem dX7_set_2 : decode cX7_set 2 = .ok (.iload_n 1, 1) := by decide +kernel
theorem dX7_set_3 : decode cX7_set 3 = .ok (.invokevirtual 156, 3) := by decide +kernel
theorem dX7_set_6 : decode cX7_set 6 = .ok (.ifCond .ne 7, 3) := by decide +kernel
theorem dX7_set_9 : decode cX7_set 9 = .ok (.iconst 1, 1) := by decide +kernel
theorem dX7_set_10 : decode cX7_set 10 = .ok (.goto 20, 3) := by decide +kernel
theorem dX7_set_13 : decode cX7_set 13 = .ok (.aload_n 0, 1) := by decide +kernel
theorem dX7_set_14 : decode cX7_set 14 = .ok (.iload_n 1, 1) := by decide +kernel
theorem dX7_set_15 : decode cX7_set 15 = .ok (.iload_n 2, 1) := by decide +kernel
theorem dX7_set_16 : decode cX7_set 16 = .ok (.invokevirtual 166, 3) := by decide +kernel
theorem dX7_set_19 : decode cX7_set 19 = .ok (.invokestatic 120, 3) := by decide +kernel
theorem dX7_set_22 : decode cX7_set 22 = .ok (.ifCond .eq 7, 3) := by decide +kernel
theorem dX7_set_25 : decode cX7_set 25 = .ok (.iconst 0, 1) := by decide +kernel
theorem dX7_set_26 : decode cX7_set 26 = .ok (.goto 4, 3) := by decide +kernel
theorem dX7_set_29 : decode cX7_set 29 = .ok (.iconst 2, 1) := by decide +kernel
theorem dX7_set_30 : decode cX7_set 30 = .ok (.putfield 44, 3) := by decide +kernel
theorem dX7_set_33 : decode cX7_set 33 = .ok (.aload_n 0, 1) := by decide +kernel
theorem dX7_set_34 : decode cX7_set 34 = .ok (.getfield 44, 3) := by decide +kernel
theorem dX7_set_37 : decode cX7_set 37 = .ok (.ifCond .le 4, 3) := by decide +kernel
theorem dX7_set_40 : decode cX7_set 40 = .ok (.return_, 1) := by decide +kernel
theorem dX7_set_41 : decode cX7_set 41 = .ok (.aload_n 0, 1) := by decide +kernel
theorem dX7_set_42 : decode cX7_set 42 = .ok (.iload_n 1, 1) := by decide +kernel
theorem dX7_set_43 : decode cX7_set 43 = .ok (.iload_n 2, 1) := by decide +kernel
theorem dX7_set_44 : decode cX7_set 44 = .ok (.invokevirtual 166, 3) := by decide +kernel
theorem dX7_set_47 : decode cX7_set 47 = .ok (.istore 4, 2) := by decide +kernel
theorem dX7_set_49 : decode cX7_set 49 = .ok (.aload_n 0, 1) := by decide +kernel
theorem dX7_set_50 : decode cX7_set 50 = .ok (.iload_n 1, 1) := by decide +kernel
theorem dX7_set_51 : decode cX7_set 51 = .ok (.iload_n 2, 1) := by decide +kernel
theorem dX7_set_52 : decode cX7_set 52 = .ok (.invokevirtual 159, 3) := by decide +kernel
theorem dX7_set_55 : decode cX7_set 55 = .ok (.aload_n 0, 1) := by decide +kernel
theorem dX7_set_56 : decode cX7_set 56 = .ok (.iload_n 2, 1) := by decide +kernel
theorem dX7_set_57 : decode cX7_set 57 = .ok (.iload 4, 2) := by decide +kernel
theorem dX7_set_59 : decode cX7_set 59 = .ok (.invokestatic 102, 3) := by decide +kernel
theorem dX7_set_62 : decode cX7_set 62 = .ok (.iload 4, 2) := by decide +kernel
theorem dX7_set_64 : decode cX7_set 64 = .ok (.iload_n 3, 1) := by decide +kernel
theorem dX7_set_65 : decode cX7_set 65 = .ok (.invokestatic 169, 3) := by decide +kernel
theorem dX7_set_68 : decode cX7_set 68 = .ok (.invokevirtual 94, 3) := by decide +kernel
theorem dX7_set_71 : decode cX7_set 71 = .ok (.aload_n 0, 1) := by decide +kernel
theorem dX7_set_72 : decode cX7_set 72 = .ok (.iload_n 1, 1) := by decide +kernel
theorem dX7_set_73 : decode cX7_set 73 = .ok (.invokevirtual 172, 3) := by decide +kernel
theorem dX7_set_76 : decode cX7_set 76 = .ok (.return_, 1) := by decide +kernel
theorem dX7_append_0 : decode cX7_append 0 = .ok (.aload_n 0, 1) := by decide +kernel
theorem dX7_append_1 : decode cX7_append 1 = .ok (.aload_n 0, 1) := by decide +kernel
theorem dX7_append_2 : decode cX7_append 2 = .ok (.iload_n 1, 1) := by decide +kernel
theorem dX7_append_3 : decode cX7_append 3 = .ok (.invokevirtual 156, 3) := by decide +kernel
theorem dX7_append_6 : decode cX7_append 6 = .ok (.ifCond .ne 7, 3) := by decide +kernel
theorem dX7_append_9 : decode cX7_append 9 = .ok (.iconst 1, 1) := by decide +kernel
theorem dX7_append_10 : decode cX7_append 10 = .ok (.goto 20, 3) := by decide +kernel
theorem dX7_append_13 : decode cX7_append 13 = .ok (.aload_n 0, 1) := by decide +kernel
theorem dX7_append_14 : decode cX7_append 14 = .ok (.iload_n 1, 1) := by decide +kernel
theorem dX7_append_15 : decode cX7_append 15 = .ok (.iload_n 2, 1) := by decide +kernel
theorem dX7_append_16 : decode cX7_append 16 = .ok (.invokevirtual 166, 3) := by decide +kernel
theorem dX7_append_19 : decode cX7_append 19 = .ok (.invokestatic 175, 3) := by decide +kernel
theorem dX7_append_22 : decode cX7_append 22 = .ok (.ifCond .eq 7, 3) := by decide +kernel
theorem dX7_append_25 : decode cX7_append 25 = .ok (.iconst 0, 1) := by decide +kernel
theorem dX7_append_26 : decode cX7_append 26 = .ok (.goto 4, 3) := by decide +kernel
theorem dX7_append_29 : decode cX7_append 29 = .ok (.iconst 2, 1) := by decide +kernel
theorem dX7_append_30 : decode cX7_append 30 = .ok (.putfield 44, 3) := by decide +kernel
theorem dX7_append_33 : decode cX7_append 33 = .ok (.aload_n 0, 1) := by decide +kernel
theorem dX7_append_34 : decode cX7_append 34 = .ok (.getfield 44, 3) := by decide +kernel
theorem dX7_append_37 : decode cX7_append 37 = .ok (.ifCond .le 5, 3) := by decide +kernel
theorem dX7_append_40 : decode cX7_append 40 = .ok (.iconst 0, 1) := by decide +kernel
theorem dX7_append_41 : decode cX7_append 41 = .ok (.ireturn, 1) := by decide +kernel
theorem dX7_append_42 : decode cX7_append 42 = .ok (.aload_n 0, 1) := by decide +kernel
theorem dX7_append_43 : decode cX7_append 43 = .ok (.iconst 0, 1) := by decide +kernel
theorem dX7_append_44 : decode cX7_append 44 = .ok (.putfield 126, 3) := by decide +kernel
theorem dX7_append_47 : decode cX7_append 47 = .ok (.aload_n 0, 1) := by decide +kernel
theorem dX7_append_48 : decode cX7_append 48 = .ok (.iload_n 1, 1) := by decide +kernel
theorem dX7_append_49 : decode cX7_append 49 = .ok (.iload_n 2, 1) := by decide +kernel
theorem dX7_append_50 : decode cX7_append 50 = .ok (.invokevirtual 178, 3) := by decide +kernel
theorem dX7_append_53 : decode cX7_append 53 = .ok (.ifCond .eq 48, 3) := by decide +kernel
theorem dX7_append_56 : decode cX7_append 56 = .ok (.iconst 0, 1) := by decide +kernel
theorem dX7_append_57 : decode cX7_append 57 = .ok (.istore 4, 2) := by decide +kernel
theorem dX7_append_59 : decode cX7_append 59 = .ok (.iload 4, 2) := by decide +kernel
theorem dX7_append_61 : decode cX7_append 61 = .ok (.aload_n 0, 1) := by decide +kernel
theorem dX7_append_62 : decode cX7_append 62 = .ok (.getfield 78, 3) := by decide +kernel
theorem dX7_append_65 : decode cX7_append 65 = .ok (.if_icmp .ge 28, 3) := by decide +kernel
theorem dX7_append_68 : decode cX7_append 68 = .ok (.aload_n 0, 1) := by decide +kernel
theorem dX7_append_69 : decode cX7_append 69 = .ok (.getfield 38, 3) := by decide +kernel
theorem dX7_append_72 : decode cX7_append 72 = .ok (.iload 4, 2) := by decide +kernel
theorem dX7_append_74 : decode cX7_append 74 = .ok (.aload_n 0, 1) := by decide +kernel
theorem dX7_append_75 : decode cX7_append 75 = .ok (.getfield 29, 3) := by decide +kernel
theorem dX7_append_78 : decode cX7_append 78 = .ok (.aload_n 0, 1) := by decide +kernel
theorem dX7_append_79 : decode cX7_append 79 = .ok (.getfield 81, 3) := by decide +kernel
theorem dX7_append_82 : decode cX7_append 82 = .ok (.iload 4, 2) := by decide +kernel
theorem dX7_append_84 : decode cX7_append 84 = .ok (.iadd, 1) := by decide +kernel
theorem dX7_append_85 : decode cX7_append 85 = .ok (.iaload, 1) := by decide +kernel
theorem dX7_append_86 : decode cX7_append 86 = .ok (.iastore, 1) := by decide +kernel
theorem dX7_append_87 : decode cX7_append 87 = .ok (.iinc 4 1, 3) := by decide +kernel
theorem dX7_append_90 : decode cX7_append 90 = .ok (.goto (-31), 3) := by decide +kernel
theorem dX7_append_93 : decode cX7_append 93 = .ok (.aload_n 0, 1) := by decide +kernel
theorem dX7_append_94 : decode cX7_append 94 = .ok (.aload_n 0, 1) := by decide +kernel
theorem dX7_append_95 : decode cX7_append 95 = .ok (.getfield 78, 3) := by decide +kernel
theorem dX7_append_98 : decode cX7_append 98 = .ok (.putfield 126, 3) := by decide +kernel
theorem dX7_append_101 : decode cX7_append 101 = .ok (.aload_n 0, 1) := by decide +kernel
theorem dX7_append_102 : decode cX7_append 102 = .ok (.getfield 38, 3) := by decide +kernel
theorem dX7_append_105 : decode cX7_append 105 = .ok (.aload_n 0, 1) := by decide +kernel
theorem dX7_append_106 : decode cX7_append 106 = .ok (.getfield 126, 3) := by decide +kernel
theorem dX7_append_109 : decode cX7_append 109 = .ok (.iload_n 3, 1) := by decide +kernel
theorem dX7_append_110 : decode cX7_append 110 = .ok (.sipush 255, 3) := by decide +kernel
theorem dX7_append_113 : decode cX7_append 113 = .ok (.iand, 1) := by decide +kernel
theorem dX7_append_114 : decode cX7_append 114 = .ok (.iastore, 1) := by decide +kernel
theorem dX7_append_115 : decode cX7_append 115 = .ok (.aload_n 0, 1) := by decide +kernel
theorem dX7_append_116 : decode cX7_append 116 = .ok (.dup, 1) := by decide +kernel
theorem dX7_append_117 : decode cX7_append 117 = .ok (.getfield 126, 3) := by decide +kernel
theorem dX7_append_120 : decode cX7_append 120 = .ok (.iconst 1, 1) := by decide +kernel
theorem dX7_append_121 : decode cX7_append 121 = .ok (.iadd, 1) := by decide +kernel
theorem dX7_append_122 : decode cX7_append 122 = .ok (.putfield 126, 3) := by decide +kernel
theorem dX7_append_125 : decode cX7_append 125 = .ok (.aload_n 0, 1) := by decide +kernel
theorem dX7_append_126 : decode cX7_append 126 = .ok (.iload_n 1, 1) := by decide +kernel
theorem dX7_append_127 : decode cX7_append 127 = .ok (.iload_n 2, 1) := by decide +kernel
theorem dX7_append_128 : decode cX7_append 128 = .ok (.invokevirtual 182, 3) := by decide +kernel
theorem dX7_append_131 : decode cX7_append 131 = .ok (.ireturn, 1) := by decide +kernel
theorem dX7_setsBytes_0 : decode cX7_setsBytes 0 = .ok (.aload_n 0, 1) := by decide +kernel
theorem dX7_setsBytes_1 : decode cX7_setsBytes 1 = .ok (.iload_n 1, 1) := by decide +kernel
theorem dX7_setsBytes_2 : decode cX7_setsBytes 2 = .ok (.iload_n 2, 1) := by decide +kernel
theorem dX7_setsBytes_3 : decode cX7_setsBytes 3 = .ok (.invokevirtual 159, 3) := by decide +kernel
theorem dX7_setsBytes_6 : decode cX7_setsBytes 6 = .ok (.aload_n 0, 1) := by decide +kernel
theorem dX7_setsBytes_7 : decode cX7_setsBytes 7 = .ok (.iload_n 2, 1) := by decide +kernel
theorem dX7_setsBytes_8 : decode cX7_setsBytes 8 = .ok (.iconst 2, 1) := by decide +kernel
theorem dX7_setsBytes_9 : decode cX7_setsBytes 9 = .ok (.aload_n 0, 1) := by decide +kernel
theorem dX7_setsBytes_10 : decode cX7_setsBytes 10 = .ok (.getfield 126, 3) := by decide +kernel
theorem dX7_setsBytes_13 : decode cX7_setsBytes 13 = .ok (.invokevirtual 94, 3) := by decide +kernel
theorem dX7_setsBytes_16 : decode cX7_setsBytes 16 = .ok (.iconst 0, 1) := by decide +kernel
theorem dX7_setsBytes_17 : decode cX7_setsBytes 17 = .ok (.istore_n 3, 1) := by decide +kernel
theorem dX7_setsBytes_18 : decode cX7_setsBytes 18 = .ok (.iload_n 3, 1) := by decide +kernel
theorem dX7_setsBytes_19 : decode cX7_setsBytes 19 = .ok (.aload_n 0, 1) := by decide +kernel
theorem dX7_setsBytes_20 : decode cX7_setsBytes 20 = .ok (.getfield 126, 3) := by decide +kernel
theorem dX7_setsBytes_23 : decode cX7_setsBytes 23 = .ok (.if_icmp .ge 19, 3) := by decide +kernel
theorem dX7_setsBytes_26 : decode cX7_setsBytes 26 = .ok (.aload_n 0, 1) := by decide +kernel
theorem dX7_setsBytes_27 : decode cX7_setsBytes 27 = .ok (.aload_n 0, 1) := by decide +kernel
theorem dX7_setsBytes_28 : decode cX7_setsBytes 28 = .ok (.getfield 38, 3) := by decide +kernel
theorem dX7_setsBytes_31 : decode cX7_setsBytes 31 = .ok (.iload_n 3, 1) := by decide +kernel
theorem dX7_setsBytes_32 : decode cX7_setsBytes 32 = .ok (.iaload, 1) := by decide +kernel
theorem dX7_setsBytes_33 : decode cX7_setsBytes 33 = .ok (.invokevirtual 87, 3) := by decide +kernel
theorem dX7_setsBytes_36 : decode cX7_setsBytes 36 = .ok (.iinc 3 1, 3) := by decide +kernel
theorem dX7_setsBytes_39 : decode cX7_setsBytes 39 = .ok (.goto (-21), 3) := by decide +kernel
theorem dX7_setsBytes_42 : decode cX7_setsBytes 42 = .ok (.aload_n 0, 1) := by decide +kernel
theorem dX7_setsBytes_43 : decode cX7_setsBytes 43 = .ok (.iload_n 1, 1) := by decide +kernel
theorem dX7_setsBytes_44 : decode cX7_setsBytes 44 = .ok (.invokevirtual 172, 3) := by decide +kernel
theorem dX7_setsBytes_47 : decode cX7_setsBytes 47 = .ok (.aload_n 0, 1) := by decide +kernel
theorem dX7_setsBytes_48 : decode cX7_setsBytes 48 = .ok (.getfield 44, 3) := by decide +kernel
theorem dX7_setsBytes_51 : decode cX7_setsBytes 51 = .ok (.ifCond .le 7, 3) := by decide +kernel
theorem dX7_setsBytes_54 : decode cX7_setsBytes 54 = .ok (.iconst 0, 1) := by decide +kernel
theorem dX7_setsBytes_55 : decode cX7_setsBytes 55 = .ok (.goto 7, 3) := by decide +kernel
theorem dX7_setsBytes_58 : decode cX7_setsBytes 58 = .ok (.aload_n 0, 1) := by decide +kernel
theorem dX7_setsBytes_59 : decode cX7_setsBytes 59 = .ok (.getfield 126, 3) := by decide +kernel
theorem dX7_setsBytes_62 : decode cX7_setsBytes 62 = .ok (.ireturn, 1) := by decide +kernel
theorem dX7_setPart_0 : decode cX7_setPart 0 = .ok (.aload_n 0, 1) := by decide +kernel
theorem dX7_setPart_1 : decode cX7_setPart 1 = .ok (.iload_n 1, 1) := by decide +kernel
theorem dX7_setPart_2 : decode cX7_setPart 2 = .ok (.invokevirtual 156, 3) := by decide +kernel
theorem dX7_setPart_5 : decode cX7_setPart 5 = .ok (.ifCond .eq 15, 3) := by decide +kernel
theorem dX7_setPart_8 : decode cX7_setPart 8 = .ok (.aload_n 0, 1) := by decide +kernel
theorem dX7_setPart_9 : decode cX7_setPart 9 = .ok (.iload_n 3, 1) := by decide +kernel
theorem dX7_setPart_10 : decode cX7_setPart 10 = .ok (.invokevirtual 156, 3) := by decide +kernel
theorem dX7_setPart_13 : decode cX7_setPart 13 = .ok (.ifCond .eq 7, 3) := by decide +kernel
theorem dX7_setPart_16 : decode cX7_setPart 16 = .ok (.iconst 1, 1) := by decide +kernel
theorem dX7_setPart_17 : decode cX7_setPart 17 = .ok (.goto 4, 3) := by decide +kernel
theorem dX7_setPart_20 : decode cX7_setPart 20 = .ok (.iconst 0, 1) := by decide +kernel
theorem dX7_setPart_21 : decode cX7_setPart 21 = .ok (.istore 4, 2) := by decide +kernel
theorem dX7_setPart_23 : decode cX7_setPart 23 = .ok (.aload_n 0, 1) := by decide +kernel
theorem dX7_setPart_24 : decode cX7_setPart 24 = .ok (.iload 4, 2) := by decide +kernel
theorem dX7_setPart_26 : decode cX7_setPart 26 = .ok (.ifCond .ne 7, 3) := by decide +kernel
theorem dX7_setPart_29 : decode cX7_setPart 29 = .ok (.iconst 1, 1) := by decide +kernel
theorem dX7_setPart_30 : decode cX7_setPart 30 = .ok (.goto 43, 3) := by decide +kernel
theorem dX7_setPart_33 : decode cX7_setPart 33 = .ok (.aload_n 0, 1) := by decide +kernel
theorem dX7_setPart_34 : decode cX7_setPart 34 = .ok (.iload_n 1, 1) := by decide +kernel
theorem dX7_setPart_35 : decode cX7_setPart 35 = .ok (.iload_n 2, 1) := by decide +kernel
theorem dX7_setPart_36 : decode cX7_setPart 36 = .ok (.invokevirtual 166, 3) := by decide +kernel
theorem dX7_setPart_39 : decode cX7_setPart 39 = .ok (.iconst 4, 1) := by decide +kernel
theorem dX7_setPart_40 : decode cX7_setPart 40 = .ok (.if_icmp .ne 28, 3) := by decide +kernel
theorem dX7_setPart_43 : decode cX7_setPart 43 = .ok (.aload_n 0, 1) := by decide +kernel
theorem dX7_setPart_44 : decode cX7_setPart 44 = .ok (.getfield 13, 3) := by decide +kernel
theorem dX7_setPart_47 : decode cX7_setPart 47 = .ok (.bipush 32, 2) := by decide +kernel
theorem dX7_setPart_49 : decode cX7_setPart 49 = .ok (.aload_n 0, 1) := by decide +kernel
theorem dX7_setPart_50 : decode cX7_setPart 50 = .ok (.getfield 23, 3) := by decide +kernel
theorem dX7_setPart_53 : decode cX7_setPart 53 = .ok (.iload_n 1, 1) := by decide +kernel
theorem dX7_setPart_54 : decode cX7_setPart 54 = .ok (.iaload, 1) := by decide +kernel
theorem dX7_setPart_55 : decode cX7_setPart 55 = .ok (.imul, 1) := by decide +kernel
theorem dX7_setPart_56 : decode cX7_setPart 56 = .ok (.iload_n 2, 1) := by decide +kernel
theorem dX7_setPart_57 : decode cX7_setPart 57 = .ok (.iadd, 1) := by decide +kernel
theorem dX7_setPart_58 : decode cX7_setPart 58 = .ok (.iaload, 1) := by decide +kernel
theorem dX7_setPart_59 : decode cX7_setPart 59 = .ok (.aload_n 0, 1) := by decide +kernel
theorem dX7_setPart_60 : decode cX7_setPart 60 = .ok (.getfield 23, 3) := by decide +kernel
theorem dX7_setPart_63 : decode cX7_setPart 63 = .ok (.iload_n 3, 1) := by decide +kernel
theorem dX7_setPart_64 : decode cX7_setPart 64 = .ok (.iaload, 1) := by decide +kernel
theorem dX7_setPart_65 : decode cX7_setPart 65 = .ok (.if_icmp .eq 7, 3) := by decide +kernel
theorem dX7_setPart_68 : decode cX7_setPart 68 = .ok (.iconst 2, 1) := by decide +kernel
theorem dX7_setPart_69 : decode cX7_setPart 69 = .ok (.goto 4, 3) := by decide +kernel
theorem dX7_setPart_72 : decode cX7_setPart 72 = .ok (.iconst 0, 1) := by decide +kernel
theorem dX7_setPart_73 : decode cX7_setPart 73 = .ok (.putfield 44, 3) := by decide +kernel
theorem dX7_setPart_76 : decode cX7_setPart 76 = .ok (.aload_n 0, 1) := by decide +kernel
theorem dX7_setPart_77 : decode cX7_setPart 77 = .ok (.getfield 44, 3) := by decide +kernel
theorem dX7_setPart_80 : decode cX7_setPart 80 = .ok (.ifCond .le 5, 3) := by decide +kernel
theorem dX7_setPart_83 : decode cX7_setPart 83 = .ok (.iconst 0, 1) := by decide +kernel
theorem dX7_setPart_84 : decode cX7_setPart 84 = .ok (.ireturn, 1) := by decide +kernel
theorem dX7_setPart_85 : decode cX7_setPart 85 = .ok (.aload_n 0, 1) := by decide +kernel
theorem dX7_setPart_86 : decode cX7_setPart 86 = .ok (.iload_n 3, 1) := by decide +kernel
theorem dX7_setPart_87 : decode cX7_setPart 87 = .ok (.invokevirtual 185, 3) := by decide +kernel
theorem dX7_setPart_90 : decode cX7_setPart 90 = .ok (.aload_n 0, 1) := by decide +kernel
theorem dX7_setPart_91 : decode cX7_setPart 91 = .ok (.invokevirtual 188, 3) := by decide +kernel
theorem dX7_setPart_94 : decode cX7_setPart 94 = .ok (.aload_n 0, 1) := by decide +kernel
theorem dX7_setPart_95 : decode cX7_setPart 95 = .ok (.iload_n 1, 1) := by decide +kernel
theorem dX7_setPart_96 : decode cX7_setPart 96 = .ok (.iload_n 2, 1) := by decide +kernel
theorem dX7_setPart_97 : decode cX7_setPart 97 = .ok (.invokevirtual 182, 3) := by decide +kernel
theorem dX7_setPart_100 : decode cX7_setPart 100 = .ok (.ireturn, 1) := by decide +kernel
theorem dX7_clear_0 : decode cX7_clear 0 = .ok (.aload_n 0, 1) := by decide +kernel
theorem dX7_clear_1 : decode cX7_clear 1 = .ok (.aload_n 0, 1) := by decide +kernel
theorem dX7_clear_2 : decode cX7_clear 2 = .ok (.iload_n 1, 1) := by decide +kernel
theorem dX7_clear_3 : decode cX7_clear 3 = .ok (.invokevirtual 156, 3) := by decide +kernel
theorem dX7_clear_6 : decode cX7_clear 6 = .ok (.ifCond .ne 7, 3) := by decide +kernel
theorem dX7_clear_9 : decode cX7_clear 9 = .ok (.iconst 1, 1) := by decide +kernel
theorem dX7_clear_10 : decode cX7_clear 10 = .ok (.goto 15, 3) := by decide +kernel
theorem dX7_clear_13 : decode cX7_clear 13 = .ok (.iload_n 2, 1) := by decide +kernel
theorem dX7_clear_14 : decode cX7_clear 14 = .ok (.invokestatic 74, 3) := by decide +kernel
theorem dX7_clear_17 : decode cX7_clear 17 = .ok (.ifCond .eq 7, 3) := by decide +kernel
theorem dX7_clear_20 : decode cX7_clear 20 = .ok (.iconst 0, 1) := by decide +kernel
theorem dX7_clear_21 : decode cX7_clear 21 = .ok (.goto 4, 3) := by decide +kernel
theorem dX7_clear_24 : decode cX7_clear 24 = .ok (.iconst 2, 1) := by decide +kernel
theorem dX7_clear_25 : decode cX7_clear 25 = .ok (.putfield 44, 3) := by decide +kernel
theorem dX7_clear_28 : decode cX7_clear 28 = .ok (.aload_n 0, 1) := by decide +kernel
theorem dX7_clear_29 : decode cX7_clear 29 = .ok (.getfield 44, 3) := by decide +kernel
theorem dX7_clear_32 : decode cX7_clear 32 = .ok (.ifCond .le 5, 3) := by decide +kernel
theorem dX7_clear_35 : decode cX7_clear 35 = .ok (.iconst 0, 1) := by decide +kernel
theorem dX7_clear_36 : decode cX7_clear 36 = .ok (.ireturn, 1) := by decide +kernel
theorem dX7_clear_37 : decode cX7_clear 37 = .ok (.iconst 0, 1) := by decide +kernel
theorem dX7_clear_38 : decode cX7_clear 38 = .ok (.istore_n 3, 1) := by decide +kernel
theorem dX7_clear_39 : decode cX7_clear 39 = .ok (.aload_n 0, 1) := by decide +kernel
theorem dX7_clear_40 : decode cX7_clear 40 = .ok (.iconst 0, 1) := by decide +kernel
theorem dX7_clear_41 : decode cX7_clear 41 = .ok (.putfield 84, 3) := by decide +kernel
theorem dX7_clear_44 : decode cX7_clear 44 = .ok (.aload_n 0, 1) := by decide +kernel
theorem dX7_clear_45 : decode cX7_clear 45 = .ok (.bipush 120, 2) := by decide +kernel
theorem dX7_clear_47 : decode cX7_clear 47 = .ok (.iload_n 1, 1) := by decide +kernel
theorem dX7_clear_48 : decode cX7_clear 48 = .ok (.imul, 1) := by decide +kernel
theorem dX7_clear_49 : decode cX7_clear 49 = .ok (.putfield 55, 3) := by decide +kernel
theorem dX7_clear_52 : decode cX7_clear 52 = .ok (.aload_n 0, 1) := by decide +kernel
theorem dX7_clear_53 : decode cX7_clear 53 = .ok (.getfield 55, 3) := by decide +kernel
theorem dX7_clear_56 : decode cX7_clear 56 = .ok (.bipush 120, 2) := by decide +kernel
theorem dX7_clear_58 : decode cX7_clear 58 = .ok (.iload_n 1, 1) := by decide +kernel
theorem dX7_clear_59 : decode cX7_clear 59 = .ok (.imul, 1) := by decide +kernel
theorem dX7_clear_60 : decode cX7_clear 60 = .ok (.aload_n 0, 1) := by decide +kernel
theorem dX7_clear_61 : decode cX7_clear 61 = .ok (.getfield 26, 3) := by decide +kernel
theorem dX7_clear_64 : decode cX7_clear 64 = .ok (.iload_n 1, 1) := by decide +kernel
theorem dX7_clear_65 : decode cX7_clear 65 = .ok (.iaload, 1) := by decide +kernel
theorem dX7_clear_66 : decode cX7_clear 66 = .ok (.iadd, 1) := by decide +kernel
theorem dX7_clear_67 : decode cX7_clear 67 = .ok (.if_icmp .ge 47, 3) := by decide +kernel
theorem dX7_clear_70 : decode cX7_clear 70 = .ok (.aload_n 0, 1) := by decide +kernel
theorem dX7_clear_71 : decode cX7_clear 71 = .ok (.aload_n 0, 1) := by decide +kernel
theorem dX7_clear_72 : decode cX7_clear 72 = .ok (.getfield 29, 3) := by decide +kernel
theorem dX7_clear_75 : decode cX7_clear 75 = .ok (.bipush 120, 2) := by decide +kernel
theorem dX7_clear_77 : decode cX7_clear 77 = .ok (.iload_n 1, 1) := by decide +kernel
theorem dX7_clear_78 : decode cX7_clear 78 = .ok (.imul, 1) := by decide +kernel
theorem dX7_clear_79 : decode cX7_clear 79 = .ok (.aload_n 0, 1) := by decide +kernel
theorem dX7_clear_80 : decode cX7_clear 80 = .ok (.getfield 26, 3) := by decide +kernel
theorem dX7_clear_83 : decode cX7_clear 83 = .ok (.iload_n 1, 1) := by decide +kernel
theorem dX7_clear_84 : decode cX7_clear 84 = .ok (.iaload, 1) := by decide +kernel
theorem dX7_clear_85 : decode cX7_clear 85 = .ok (.iadd, 1) := by decide +kernel
theorem dX7_clear_86 : decode cX7_clear 86 = .ok (.invokevirtual 106, 3) := by decide +kernel
theorem dX7_clear_89 : decode cX7_clear 89 = .ok (.aload_n 0, 1) := by decide +kernel
theorem dX7_clear_90 : decode cX7_clear 90 = .ok (.getfield 68, 3) := by decide +kernel
theorem dX7_clear_93 : decode cX7_clear 93 = .ok (.iload_n 2, 1) := by decide +kernel
theorem dX7_clear_94 : decode cX7_clear 94 = .ok (.if_icmp .ne 9, 3) := by decide +kernel
theorem dX7_clear_97 : decode cX7_clear 97 = .ok (.iinc 3 1, 3) := by decide +kernel
theorem dX7_clear_100 : decode cX7_clear 100 = .ok (.goto (-48), 3) := by decide +kernel
theorem dX7_clear_103 : decode cX7_clear 103 = .ok (.aload_n 0, 1) := by decide +kernel
theorem dX7_clear_104 : decode cX7_clear 104 = .ok (.aload_n 0, 1) := by decide +kernel
theorem dX7_clear_105 : decode cX7_clear 105 = .ok (.getfield 29, 3) := by decide +kernel
theorem dX7_clear_108 : decode cX7_clear 108 = .ok (.invokevirtual 116, 3) := by decide +kernel
theorem dX7_clear_111 : decode cX7_clear 111 = .ok (.goto (-59), 3) := by decide +kernel
theorem dX7_clear_114 : decode cX7_clear 114 = .ok (.aload_n 0, 1) := by decide +kernel
theorem dX7_clear_115 : decode cX7_clear 115 = .ok (.iload_n 1, 1) := by decide +kernel
theorem dX7_clear_116 : decode cX7_clear 116 = .ok (.invokevirtual 133, 3) := by decide +kernel
theorem dX7_clear_119 : decode cX7_clear 119 = .ok (.iload_n 3, 1) := by decide +kernel
theorem dX7_clear_120 : decode cX7_clear 120 = .ok (.ireturn, 1) := by decide +kernel
theorem dX7_schemaOf_0 : decode cX7_schemaOf 0 = .ok (.aload_n 0, 1) := by decide +kernel
theorem dX7_schemaOf_1 : decode cX7_schemaOf 1 = .ok (.aload_n 0, 1) := by decide +kernel
theorem dX7_schemaOf_2 : decode cX7_schemaOf 2 = .ok (.iload_n 1, 1) := by decide +kernel
theorem dX7_schemaOf_3 : decode cX7_schemaOf 3 = .ok (.invokevirtual 156, 3) := by decide +kernel
theorem dX7_schemaOf_6 : decode cX7_schemaOf 6 = .ok (.ifCond .eq 7, 3) := by decide +kernel
theorem dX7_schemaOf_9 : decode cX7_schemaOf 9 = .ok (.iconst 0, 1) := by decide +kernel
theorem dX7_schemaOf_10 : decode cX7_schemaOf 10 = .ok (.goto 4, 3) := by decide +kernel
theorem dX7_schemaOf_13 : decode cX7_schemaOf 13 = .ok (.iconst 1, 1) := by decide +kernel
theorem dX7_schemaOf_14 : decode cX7_schemaOf 14 = .ok (.putfield 44, 3) := by decide +kernel
theorem dX7_schemaOf_17 : decode cX7_schemaOf 17 = .ok (.aload_n 0, 1) := by decide +kernel
theorem dX7_schemaOf_18 : decode cX7_schemaOf 18 = .ok (.getfield 44, 3) := by decide +kernel
theorem dX7_schemaOf_21 : decode cX7_schemaOf 21 = .ok (.ifCond .le 7, 3) := by decide +kernel
theorem dX7_schemaOf_24 : decode cX7_schemaOf 24 = .ok (.iconst 0, 1) := by decide +kernel
theorem dX7_schemaOf_25 : decode cX7_schemaOf 25 = .ok (.goto 9, 3) := by decide +kernel
theorem dX7_schemaOf_28 : decode cX7_schemaOf 28 = .ok (.aload_n 0, 1) := by decide +kernel
theorem dX7_schemaOf_29 : decode cX7_schemaOf 29 = .ok (.getfield 23, 3) := by decide +kernel
theorem dX7_schemaOf_32 : decode cX7_schemaOf 32 = .ok (.iload_n 1, 1) := by decide +kernel
theorem dX7_schemaOf_33 : decode cX7_schemaOf 33 = .ok (.iaload, 1) := by decide +kernel
theorem dX7_schemaOf_34 : decode cX7_schemaOf 34 = .ok (.ireturn, 1) := by decide +kernel
theorem dX7_has_0 : decode cX7_has 0 = .ok (.aload_n 0, 1) := by decide +kernel
theorem dX7_has_1 : decode cX7_has 1 = .ok (.aload_n 0, 1) := by decide +kernel
theorem dX7_has_2 : decode cX7_has 2 = .ok (.iload_n 1, 1) := by decide +kernel
theorem dX7_has_3 : decode cX7_has 3 = .ok (.invokevirtual 156, 3) := by decide +kernel
theorem dX7_has_6 : decode cX7_has 6 = .ok (.ifCond .ne 7, 3) := by decide +kernel
theorem dX7_has_9 : decode cX7_has 9 = .ok (.iconst 1, 1) := by decide +kernel
theorem dX7_has_10 : decode cX7_has 10 = .ok (.goto 15, 3) := by decide +kernel
theorem dX7_has_13 : decode cX7_has 13 = .ok (.iload_n 2, 1) := by decide +kernel
theorem dX7_has_14 : decode cX7_has 14 = .ok (.invokestatic 74, 3) := by decide +kernel
theorem dX7_has_17 : decode cX7_has 17 = .ok (.ifCond .eq 7, 3) := by decide +kernel
theorem dX7_has_20 : decode cX7_has 20 = .ok (.iconst 0, 1) := by decide +kernel
theorem dX7_has_21 : decode cX7_has 21 = .ok (.goto 4, 3) := by decide +kernel
theorem dX7_has_24 : decode cX7_has 24 = .ok (.iconst 2, 1) := by decide +kernel
theorem dX7_has_25 : decode cX7_has 25 = .ok (.putfield 44, 3) := by decide +kernel
theorem dX7_has_28 : decode cX7_has 28 = .ok (.aload_n 0, 1) := by decide +kernel
theorem dX7_has_29 : decode cX7_has 29 = .ok (.getfield 44, 3) := by decide +kernel
theorem dX7_has_32 : decode cX7_has 32 = .ok (.ifCond .ne 17, 3) := by decide +kernel
theorem dX7_has_35 : decode cX7_has 35 = .ok (.aload_n 0, 1) := by decide +kernel
theorem dX7_has_36 : decode cX7_has 36 = .ok (.iload_n 1, 1) := by decide +kernel
theorem dX7_has_37 : decode cX7_has 37 = .ok (.iload_n 2, 1) := by decide +kernel
theorem dX7_has_38 : decode cX7_has 38 = .ok (.invokevirtual 113, 3) := by decide +kernel
theorem dX7_has_41 : decode cX7_has 41 = .ok (.iconst (-1), 1) := by decide +kernel
theorem dX7_has_42 : decode cX7_has 42 = .ok (.if_icmp .eq 7, 3) := by decide +kernel
theorem dX7_has_45 : decode cX7_has 45 = .ok (.iconst 1, 1) := by decide +kernel
theorem dX7_has_46 : decode cX7_has 46 = .ok (.goto 4, 3) := by decide +kernel
theorem dX7_has_49 : decode cX7_has 49 = .ok (.iconst 0, 1) := by decide +kernel
theorem dX7_has_50 : decode cX7_has 50 = .ok (.ireturn, 1) := by decide +kernel
theorem dX7_get_0 : decode cX7_get 0 = .ok (.aload_n 0, 1) := by decide +kernel
theorem dX7_get_1 : decode cX7_get 1 = .ok (.aload_n 0, 1) := by decide +kernel
theorem dX7_get_2 : decode cX7_get 2 = .ok (.iload_n 1, 1) := by decide +kernel
theorem dX7_get_3 : decode cX7_get 3 = .ok (.invokevirtual 156, 3) := by decide +kernel
theorem dX7_get_6 : decode cX7_get 6 = .ok (.ifCond .ne 7, 3) := by decide +kernel
theorem dX7_get_9 : decode cX7_get 9 = .ok (.iconst 1, 1) := by decide +kernel
theorem dX7_get_10 : decode cX7_get 10 = .ok (.goto 20, 3) := by decide +kernel
theorem dX7_get_13 : decode cX7_get 13 = .ok (.aload_n 0, 1) := by decide +kernel
theorem dX7_get_14 : decode cX7_get 14 = .ok (.iload_n 1, 1) := by decide +kernel
theorem dX7_get_15 : decode cX7_get 15 = .ok (.iload_n 2, 1) := by decide +kernel
theorem dX7_get_16 : decode cX7_get 16 = .ok (.invokevirtual 166, 3) := by decide +kernel
theorem dX7_get_19 : decode cX7_get 19 = .ok (.invokestatic 120, 3) := by decide +kernel
theorem dX7_get_22 : decode cX7_get 22 = .ok (.ifCond .eq 7, 3) := by decide +kernel
theorem dX7_get_25 : decode cX7_get 25 = .ok (.iconst 0, 1) := by decide +kernel
theorem dX7_get_26 : decode cX7_get 26 = .ok (.goto 4, 3) := by decide +kernel
theorem dX7_get_29 : decode cX7_get 29 = .ok (.iconst 2, 1) := by decide +kernel
theorem dX7_get_30 : decode cX7_get 30 = .ok (.putfield 44, 3) := by decide +kernel
theorem dX7_get_33 : decode cX7_get 33 = .ok (.aload_n 0, 1) := by decide +kernel
theorem dX7_get_34 : decode cX7_get 34 = .ok (.getfield 44, 3) := by decide +kernel
theorem dX7_get_37 : decode cX7_get 37 = .ok (.ifCond .le 5, 3) := by decide +kernel
theorem dX7_get_40 : decode cX7_get 40 = .ok (.iconst 0, 1) := by decide +kernel
theorem dX7_get_41 : decode cX7_get 41 = .ok (.ireturn, 1) := by decide +kernel
theorem dX7_get_42 : decode cX7_get 42 = .ok (.aload_n 0, 1) := by decide +kernel
theorem dX7_get_43 : decode cX7_get 43 = .ok (.iload_n 1, 1) := by decide +kernel
theorem dX7_get_44 : decode cX7_get 44 = .ok (.iload_n 2, 1) := by decide +kernel
theorem dX7_get_45 : decode cX7_get 45 = .ok (.invokevirtual 178, 3) := by decide +kernel
theorem dX7_get_48 : decode cX7_get 48 = .ok (.ifCond .eq 19, 3) := by decide +kernel
theorem dX7_get_51 : decode cX7_get 51 = .ok (.aload_n 0, 1) := by decide +kernel
theorem dX7_get_52 : decode cX7_get 52 = .ok (.iload_n 1, 1) := by decide +kernel
theorem dX7_get_53 : decode cX7_get 53 = .ok (.iload_n 2, 1) := by decide +kernel
theorem dX7_get_54 : decode cX7_get 54 = .ok (.invokevirtual 166, 3) := by decide +kernel
theorem dX7_get_57 : decode cX7_get 57 = .ok (.aload_n 0, 1) := by decide +kernel
theorem dX7_get_58 : decode cX7_get 58 = .ok (.getfield 78, 3) := by decide +kernel
theorem dX7_get_61 : decode cX7_get 61 = .ok (.invokestatic 123, 3) := by decide +kernel
theorem dX7_get_64 : decode cX7_get 64 = .ok (.goto 19, 3) := by decide +kernel
theorem dX7_get_67 : decode cX7_get 67 = .ok (.aload_n 0, 1) := by decide +kernel
theorem dX7_get_68 : decode cX7_get 68 = .ok (.getfield 16, 3) := by decide +kernel
theorem dX7_get_71 : decode cX7_get 71 = .ok (.bipush 32, 2) := by decide +kernel
theorem dX7_get_73 : decode cX7_get 73 = .ok (.aload_n 0, 1) := by decide +kernel
theorem dX7_get_74 : decode cX7_get 74 = .ok (.getfield 23, 3) := by decide +kernel
theorem dX7_get_77 : decode cX7_get 77 = .ok (.iload_n 1, 1) := by decide +kernel
theorem dX7_get_78 : decode cX7_get 78 = .ok (.iaload, 1) := by decide +kernel
theorem dX7_get_79 : decode cX7_get 79 = .ok (.imul, 1) := by decide +kernel
theorem dX7_get_80 : decode cX7_get 80 = .ok (.iload_n 2, 1) := by decide +kernel
theorem dX7_get_81 : decode cX7_get 81 = .ok (.iadd, 1) := by decide +kernel
theorem dX7_get_82 : decode cX7_get 82 = .ok (.iaload, 1) := by decide +kernel
theorem dX7_get_83 : decode cX7_get 83 = .ok (.ireturn, 1) := by decide +kernel
theorem dX7_byteOf_0 : decode cX7_byteOf 0 = .ok (.aload_n 0, 1) := by decide +kernel
theorem dX7_byteOf_1 : decode cX7_byteOf 1 = .ok (.aload_n 0, 1) := by decide +kernel
theorem dX7_byteOf_2 : decode cX7_byteOf 2 = .ok (.iload_n 1, 1) := by decide +kernel
theorem dX7_byteOf_3 : decode cX7_byteOf 3 = .ok (.invokevirtual 156, 3) := by decide +kernel
theorem dX7_byteOf_6 : decode cX7_byteOf 6 = .ok (.ifCond .ne 7, 3) := by decide +kernel
theorem dX7_byteOf_9 : decode cX7_byteOf 9 = .ok (.iconst 1, 1) := by decide +kernel
theorem dX7_byteOf_10 : decode cX7_byteOf 10 = .ok (.goto 20, 3) := by decide +kernel
theorem dX7_byteOf_13 : decode cX7_byteOf 13 = .ok (.aload_n 0, 1) := by decide +kernel
theorem dX7_byteOf_14 : decode cX7_byteOf 14 = .ok (.iload_n 1, 1) := by decide +kernel
theorem dX7_byteOf_15 : decode cX7_byteOf 15 = .ok (.iload_n 2, 1) := by decide +kernel
theorem dX7_byteOf_16 : decode cX7_byteOf 16 = .ok (.invokevirtual 166, 3) := by decide +kernel
theorem dX7_byteOf_19 : decode cX7_byteOf 19 = .ok (.invokestatic 175, 3) := by decide +kernel
theorem dX7_byteOf_22 : decode cX7_byteOf 22 = .ok (.ifCond .eq 7, 3) := by decide +kernel
theorem dX7_byteOf_25 : decode cX7_byteOf 25 = .ok (.iconst 0, 1) := by decide +kernel
theorem dX7_byteOf_26 : decode cX7_byteOf 26 = .ok (.goto 4, 3) := by decide +kernel
theorem dX7_byteOf_29 : decode cX7_byteOf 29 = .ok (.iconst 2, 1) := by decide +kernel
theorem dX7_byteOf_30 : decode cX7_byteOf 30 = .ok (.putfield 44, 3) := by decide +kernel
theorem dX7_byteOf_33 : decode cX7_byteOf 33 = .ok (.aload_n 0, 1) := by decide +kernel
theorem dX7_byteOf_34 : decode cX7_byteOf 34 = .ok (.getfield 44, 3) := by decide +kernel
theorem dX7_byteOf_37 : decode cX7_byteOf 37 = .ok (.ifCond .ne 35, 3) := by decide +kernel
theorem dX7_byteOf_40 : decode cX7_byteOf 40 = .ok (.aload_n 0, 1) := by decide +kernel
theorem dX7_byteOf_41 : decode cX7_byteOf 41 = .ok (.aload_n 0, 1) := by decide +kernel
theorem dX7_byteOf_42 : decode cX7_byteOf 42 = .ok (.iload_n 1, 1) := by decide +kernel
theorem dX7_byteOf_43 : decode cX7_byteOf 43 = .ok (.iload_n 2, 1) := by decide +kernel
theorem dX7_byteOf_44 : decode cX7_byteOf 44 = .ok (.invokevirtual 178, 3) := by decide +kernel
theorem dX7_byteOf_47 : decode cX7_byteOf 47 = .ok (.ifCond .eq 21, 3) := by decide +kernel
theorem dX7_byteOf_50 : decode cX7_byteOf 50 = .ok (.iload_n 3, 1) := by decide +kernel
theorem dX7_byteOf_51 : decode cX7_byteOf 51 = .ok (.iconst 0, 1) := by decide +kernel
theorem dX7_byteOf_52 : decode cX7_byteOf 52 = .ok (.aload_n 0, 1) := by decide +kernel
theorem dX7_byteOf_53 : decode cX7_byteOf 53 = .ok (.getfield 78, 3) := by decide +kernel
theorem dX7_byteOf_56 : decode cX7_byteOf 56 = .ok (.iconst 1, 1) := by decide +kernel
theorem dX7_byteOf_57 : decode cX7_byteOf 57 = .ok (.isub, 1) := by decide +kernel
theorem dX7_byteOf_58 : decode cX7_byteOf 58 = .ok (.invokestatic 51, 3) := by decide +kernel
theorem dX7_byteOf_61 : decode cX7_byteOf 61 = .ok (.ifCond .eq 7, 3) := by decide +kernel
theorem dX7_byteOf_64 : decode cX7_byteOf 64 = .ok (.iconst 0, 1) := by decide +kernel
theorem dX7_byteOf_65 : decode cX7_byteOf 65 = .ok (.goto 4, 3) := by decide +kernel
theorem dX7_byteOf_68 : decode cX7_byteOf 68 = .ok (.iconst 3, 1) := by decide +kernel
theorem dX7_byteOf_69 : decode cX7_byteOf 69 = .ok (.putfield 44, 3) := by decide +kernel
theorem dX7_byteOf_72 : decode cX7_byteOf 72 = .ok (.aload_n 0, 1) := by decide +kernel
theorem dX7_byteOf_73 : decode cX7_byteOf 73 = .ok (.getfield 44, 3) := by decide +kernel
theorem dX7_byteOf_76 : decode cX7_byteOf 76 = .ok (.ifCond .le 7, 3) := by decide +kernel
theorem dX7_byteOf_79 : decode cX7_byteOf 79 = .ok (.iconst 0, 1) := by decide +kernel
theorem dX7_byteOf_80 : decode cX7_byteOf 80 = .ok (.goto 15, 3) := by decide +kernel
theorem dX7_byteOf_83 : decode cX7_byteOf 83 = .ok (.aload_n 0, 1) := by decide +kernel
theorem dX7_byteOf_84 : decode cX7_byteOf 84 = .ok (.getfield 29, 3) := by decide +kernel
theorem dX7_byteOf_87 : decode cX7_byteOf 87 = .ok (.aload_n 0, 1) := by decide +kernel
theorem dX7_byteOf_88 : decode cX7_byteOf 88 = .ok (.getfield 81, 3) := by decide +kernel
theorem dX7_byteOf_91 : decode cX7_byteOf 91 = .ok (.iload_n 3, 1) := by decide +kernel
theorem dX7_byteOf_92 : decode cX7_byteOf 92 = .ok (.iadd, 1) := by decide +kernel
theorem dX7_byteOf_93 : decode cX7_byteOf 93 = .ok (.iaload, 1) := by decide +kernel
theorem dX7_byteOf_94 : decode cX7_byteOf 94 = .ok (.i2b, 1) := by decide +kernel
theorem dX7_byteOf_95 : decode cX7_byteOf 95 = .ok (.ireturn, 1) := by decide +kernel
theorem dX7_reads_0 : decode cX7_reads 0 = .ok (.aload_n 0, 1) := by decide +kernel
theorem dX7_reads_1 : decode cX7_reads 1 = .ok (.iconst 0, 1) := by decide +kernel
theorem dX7_reads_2 : decode cX7_reads 2 = .ok (.putfield 84, 3) := by decide +kernel
theorem dX7_reads_5 : decode cX7_reads 5 = .ok (.aload_n 0, 1) := by decide +kernel
theorem dX7_reads_6 : decode cX7_reads 6 = .ok (.iload_n 2, 1) := by decide +kernel
theorem dX7_reads_7 : decode cX7_reads 7 = .ok (.putfield 55, 3) := by decide +kernel
theorem dX7_reads_10 : decode cX7_reads 10 = .ok (.aload_n 0, 1) := by decide +kernel
theorem dX7_reads_11 : decode cX7_reads 11 = .ok (.getfield 55, 3) := by decide +kernel
theorem dX7_reads_14 : decode cX7_reads 14 = .ok (.iload_n 3, 1) := by decide +kernel
theorem dX7_reads_15 : decode cX7_reads 15 = .ok (.if_icmp .ge 29, 3) := by decide +kernel
theorem dX7_reads_18 : decode cX7_reads 18 = .ok (.aload_n 0, 1) := by decide +kernel
theorem dX7_reads_19 : decode cX7_reads 19 = .ok (.aload_n 1, 1) := by decide +kernel
theorem dX7_reads_20 : decode cX7_reads 20 = .ok (.iload_n 3, 1) := by decide +kernel
theorem dX7_reads_21 : decode cX7_reads 21 = .ok (.invokevirtual 106, 3) := by decide +kernel
theorem dX7_reads_24 : decode cX7_reads 24 = .ok (.aload_n 0, 1) := by decide +kernel
theorem dX7_reads_25 : decode cX7_reads 25 = .ok (.getfield 58, 3) := by decide +kernel
theorem dX7_reads_28 : decode cX7_reads 28 = .ok (.ifCond .le 8, 3) := by decide +kernel
theorem dX7_reads_31 : decode cX7_reads 31 = .ok (.aload_n 0, 1) := by decide +kernel
theorem dX7_reads_32 : decode cX7_reads 32 = .ok (.getfield 58, 3) := by decide +kernel
theorem dX7_reads_35 : decode cX7_reads 35 = .ok (.ireturn, 1) := by decide +kernel
theorem dX7_reads_36 : decode cX7_reads 36 = .ok (.aload_n 0, 1) := by decide +kernel
theorem dX7_reads_37 : decode cX7_reads 37 = .ok (.aload_n 1, 1) := by decide +kernel
theorem dX7_reads_38 : decode cX7_reads 38 = .ok (.invokevirtual 116, 3) := by decide +kernel
theorem dX7_reads_41 : decode cX7_reads 41 = .ok (.goto (-31), 3) := by decide +kernel
theorem dX7_reads_44 : decode cX7_reads 44 = .ok (.iconst 0, 1) := by decide +kernel
theorem dX7_reads_45 : decode cX7_reads 45 = .ok (.ireturn, 1) := by decide +kernel
theorem dX7_open_0 : decode cX7_open 0 = .ok (.aload_n 0, 1) := by decide +kernel
theorem dX7_open_1 : decode cX7_open 1 = .ok (.aload_n 0, 1) := by decide +kernel
theorem dX7_open_2 : decode cX7_open 2 = .ok (.iload_n 1, 1) := by decide +kernel
theorem dX7_open_3 : decode cX7_open 3 = .ok (.invokevirtual 156, 3) := by decide +kernel
theorem dX7_open_6 : decode cX7_open 6 = .ok (.ifCond .ne 7, 3) := by decide +kernel
theorem dX7_open_9 : decode cX7_open 9 = .ok (.iconst 1, 1) := by decide +kernel
theorem dX7_open_10 : decode cX7_open 10 = .ok (.goto 18, 3) := by decide +kernel
theorem dX7_open_13 : decode cX7_open 13 = .ok (.aload_n 0, 1) := by decide +kernel
theorem dX7_open_14 : decode cX7_open 14 = .ok (.iload_n 1, 1) := by decide +kernel
theorem dX7_open_15 : decode cX7_open 15 = .ok (.iload_n 2, 1) := by decide +kernel
theorem dX7_open_16 : decode cX7_open 16 = .ok (.invokevirtual 166, 3) := by decide +kernel
theorem dX7_open_19 : decode cX7_open 19 = .ok (.iconst 4, 1) := by decide +kernel
theorem dX7_open_20 : decode cX7_open 20 = .ok (.if_icmp .ne 7, 3) := by decide +kernel
theorem dX7_open_23 : decode cX7_open 23 = .ok (.iconst 0, 1) := by decide +kernel
theorem dX7_open_24 : decode cX7_open 24 = .ok (.goto 4, 3) := by decide +kernel
theorem dX7_open_27 : decode cX7_open 27 = .ok (.iconst 2, 1) := by decide +kernel
theorem dX7_open_28 : decode cX7_open 28 = .ok (.putfield 44, 3) := by decide +kernel
theorem dX7_open_31 : decode cX7_open 31 = .ok (.aload_n 0, 1) := by decide +kernel
theorem dX7_open_32 : decode cX7_open 32 = .ok (.getfield 44, 3) := by decide +kernel
theorem dX7_open_35 : decode cX7_open 35 = .ok (.ifCond .ne 21, 3) := by decide +kernel
theorem dX7_open_38 : decode cX7_open 38 = .ok (.aload_n 0, 1) := by decide +kernel
theorem dX7_open_39 : decode cX7_open 39 = .ok (.aload_n 0, 1) := by decide +kernel
theorem dX7_open_40 : decode cX7_open 40 = .ok (.iload_n 1, 1) := by decide +kernel
theorem dX7_open_41 : decode cX7_open 41 = .ok (.iload_n 2, 1) := by decide +kernel
theorem dX7_open_42 : decode cX7_open 42 = .ok (.invokevirtual 178, 3) := by decide +kernel
theorem dX7_open_45 : decode cX7_open 45 = .ok (.ifCond .eq 7, 3) := by decide +kernel
theorem dX7_open_48 : decode cX7_open 48 = .ok (.iconst 0, 1) := by decide +kernel
theorem dX7_open_49 : decode cX7_open 49 = .ok (.goto 4, 3) := by decide +kernel
theorem dX7_open_52 : decode cX7_open 52 = .ok (.iconst 3, 1) := by decide +kernel
theorem dX7_open_53 : decode cX7_open 53 = .ok (.putfield 44, 3) := by decide +kernel
theorem dX7_open_56 : decode cX7_open 56 = .ok (.aload_n 0, 1) := by decide +kernel
theorem dX7_open_57 : decode cX7_open 57 = .ok (.getfield 44, 3) := by decide +kernel
theorem dX7_open_60 : decode cX7_open 60 = .ok (.ifCond .ne 43, 3) := by decide +kernel
theorem dX7_open_63 : decode cX7_open 63 = .ok (.aload_n 0, 1) := by decide +kernel
theorem dX7_open_64 : decode cX7_open 64 = .ok (.aload_n 0, 1) := by decide +kernel
theorem dX7_open_65 : decode cX7_open 65 = .ok (.aload_n 0, 1) := by decide +kernel
theorem dX7_open_66 : decode cX7_open 66 = .ok (.getfield 29, 3) := by decide +kernel
theorem dX7_open_69 : decode cX7_open 69 = .ok (.aload_n 0, 1) := by decide +kernel
theorem dX7_open_70 : decode cX7_open 70 = .ok (.getfield 81, 3) := by decide +kernel
theorem dX7_open_73 : decode cX7_open 73 = .ok (.aload_n 0, 1) := by decide +kernel
theorem dX7_open_74 : decode cX7_open 74 = .ok (.getfield 81, 3) := by decide +kernel
theorem dX7_open_77 : decode cX7_open 77 = .ok (.aload_n 0, 1) := by decide +kernel
theorem dX7_open_78 : decode cX7_open 78 = .ok (.getfield 78, 3) := by decide +kernel
theorem dX7_open_81 : decode cX7_open 81 = .ok (.iadd, 1) := by decide +kernel
theorem dX7_open_82 : decode cX7_open 82 = .ok (.invokevirtual 191, 3) := by decide +kernel
theorem dX7_open_85 : decode cX7_open 85 = .ok (.ifCond .gt 10, 3) := by decide +kernel
theorem dX7_open_88 : decode cX7_open 88 = .ok (.aload_n 0, 1) := by decide +kernel
theorem dX7_open_89 : decode cX7_open 89 = .ok (.invokevirtual 149, 3) := by decide +kernel
theorem dX7_open_92 : decode cX7_open 92 = .ok (.ifCond .eq 7, 3) := by decide +kernel
theorem dX7_open_95 : decode cX7_open 95 = .ok (.iconst 4, 1) := by decide +kernel
theorem dX7_open_96 : decode cX7_open 96 = .ok (.goto 4, 3) := by decide +kernel
theorem dX7_open_99 : decode cX7_open 99 = .ok (.iconst 0, 1) := by decide +kernel
theorem dX7_open_100 : decode cX7_open 100 = .ok (.putfield 44, 3) := by decide +kernel
theorem dX7_open_103 : decode cX7_open 103 = .ok (.aload_n 0, 1) := by decide +kernel
theorem dX7_open_104 : decode cX7_open 104 = .ok (.getfield 44, 3) := by decide +kernel
theorem dX7_open_107 : decode cX7_open 107 = .ok (.ifCond .le 7, 3) := by decide +kernel
theorem dX7_open_110 : decode cX7_open 110 = .ok (.iconst 0, 1) := by decide +kernel
theorem dX7_open_111 : decode cX7_open 111 = .ok (.goto 23, 3) := by decide +kernel
theorem dX7_open_114 : decode cX7_open 114 = .ok (.aload_n 0, 1) := by decide +kernel
theorem dX7_open_115 : decode cX7_open 115 = .ok (.aload_n 0, 1) := by decide +kernel
theorem dX7_open_116 : decode cX7_open 116 = .ok (.getfield 13, 3) := by decide +kernel
theorem dX7_open_119 : decode cX7_open 119 = .ok (.bipush 32, 2) := by decide +kernel
theorem dX7_open_121 : decode cX7_open 121 = .ok (.aload_n 0, 1) := by decide +kernel
theorem dX7_open_122 : decode cX7_open 122 = .ok (.getfield 23, 3) := by decide +kernel
theorem dX7_open_125 : decode cX7_open 125 = .ok (.iload_n 1, 1) := by decide +kernel
theorem dX7_open_126 : decode cX7_open 126 = .ok (.iaload, 1) := by decide +kernel
theorem dX7_open_127 : decode cX7_open 127 = .ok (.imul, 1) := by decide +kernel
theorem dX7_open_128 : decode cX7_open 128 = .ok (.iload_n 2, 1) := by decide +kernel
theorem dX7_open_129 : decode cX7_open 129 = .ok (.iadd, 1) := by decide +kernel
theorem dX7_open_130 : decode cX7_open 130 = .ok (.iaload, 1) := by decide +kernel
theorem dX7_open_131 : decode cX7_open 131 = .ok (.invokevirtual 153, 3) := by decide +kernel
theorem dX7_open_134 : decode cX7_open 134 = .ok (.ireturn, 1) := by decide +kernel
theorem dX7_unknowns_0 : decode cX7_unknowns 0 = .ok (.aload_n 0, 1) := by decide +kernel
theorem dX7_unknowns_1 : decode cX7_unknowns 1 = .ok (.aload_n 0, 1) := by decide +kernel
theorem dX7_unknowns_2 : decode cX7_unknowns 2 = .ok (.iload_n 1, 1) := by decide +kernel
theorem dX7_unknowns_3 : decode cX7_unknowns 3 = .ok (.invokevirtual 156, 3) := by decide +kernel
theorem dX7_unknowns_6 : decode cX7_unknowns 6 = .ok (.ifCond .eq 7, 3) := by decide +kernel
theorem dX7_unknowns_9 : decode cX7_unknowns 9 = .ok (.iconst 0, 1) := by decide +kernel
theorem dX7_unknowns_10 : decode cX7_unknowns 10 = .ok (.goto 4, 3) := by decide +kernel
theorem dX7_unknowns_13 : decode cX7_unknowns 13 = .ok (.iconst 1, 1) := by decide +kernel
theorem dX7_unknowns_14 : decode cX7_unknowns 14 = .ok (.putfield 44, 3) := by decide +kernel
theorem dX7_unknowns_17 : decode cX7_unknowns 17 = .ok (.aload_n 0, 1) := by decide +kernel
theorem dX7_unknowns_18 : decode cX7_unknowns 18 = .ok (.getfield 44, 3) := by decide +kernel
theorem dX7_unknowns_21 : decode cX7_unknowns 21 = .ok (.ifCond .le 7, 3) := by decide +kernel
theorem dX7_unknowns_24 : decode cX7_unknowns 24 = .ok (.iconst 0, 1) := by decide +kernel
theorem dX7_unknowns_25 : decode cX7_unknowns 25 = .ok (.goto 8, 3) := by decide +kernel
theorem dX7_unknowns_28 : decode cX7_unknowns 28 = .ok (.aload_n 0, 1) := by decide +kernel
theorem dX7_unknowns_29 : decode cX7_unknowns 29 = .ok (.iload_n 1, 1) := by decide +kernel
theorem dX7_unknowns_30 : decode cX7_unknowns 30 = .ok (.invokevirtual 195, 3) := by decide +kernel
theorem dX7_unknowns_33 : decode cX7_unknowns 33 = .ok (.ireturn, 1) := by decide +kernel
theorem dX7_manyUnknown_0 : decode cX7_manyUnknown 0 = .ok (.iconst 0, 1) := by decide +kernel
theorem dX7_manyUnknown_1 : decode cX7_manyUnknown 1 = .ok (.istore_n 2, 1) := by decide +kernel
theorem dX7_manyUnknown_2 : decode cX7_manyUnknown 2 = .ok (.aload_n 0, 1) := by decide +kernel
theorem dX7_manyUnknown_3 : decode cX7_manyUnknown 3 = .ok (.bipush 120, 2) := by decide +kernel
theorem dX7_manyUnknown_5 : decode cX7_manyUnknown 5 = .ok (.iload_n 1, 1) := by decide +kernel
theorem dX7_manyUnknown_6 : decode cX7_manyUnknown 6 = .ok (.imul, 1) := by decide +kernel
theorem dX7_manyUnknown_7 : decode cX7_manyUnknown 7 = .ok (.putfield 55, 3) := by decide +kernel
theorem dX7_manyUnknown_10 : decode cX7_manyUnknown 10 = .ok (.aload_n 0, 1) := by decide +kernel
theorem dX7_manyUnknown_11 : decode cX7_manyUnknown 11 = .ok (.getfield 55, 3) := by decide +kernel
theorem dX7_manyUnknown_14 : decode cX7_manyUnknown 14 = .ok (.bipush 120, 2) := by decide +kernel
theorem dX7_manyUnknown_16 : decode cX7_manyUnknown 16 = .ok (.iload_n 1, 1) := by decide +kernel
theorem dX7_manyUnknown_17 : decode cX7_manyUnknown 17 = .ok (.imul, 1) := by decide +kernel
theorem dX7_manyUnknown_18 : decode cX7_manyUnknown 18 = .ok (.aload_n 0, 1) := by decide +kernel
theorem dX7_manyUnknown_19 : decode cX7_manyUnknown 19 = .ok (.getfield 26, 3) := by decide +kernel
theorem dX7_manyUnknown_22 : decode cX7_manyUnknown 22 = .ok (.iload_n 1, 1) := by decide +kernel
theorem dX7_manyUnknown_23 : decode cX7_manyUnknown 23 = .ok (.iaload, 1) := by decide +kernel
theorem dX7_manyUnknown_24 : decode cX7_manyUnknown 24 = .ok (.iadd, 1) := by decide +kernel
theorem dX7_manyUnknown_25 : decode cX7_manyUnknown 25 = .ok (.if_icmp .ge 46, 3) := by decide +kernel
theorem dX7_manyUnknown_28 : decode cX7_manyUnknown 28 = .ok (.aload_n 0, 1) := by decide +kernel
theorem dX7_manyUnknown_29 : decode cX7_manyUnknown 29 = .ok (.aload_n 0, 1) := by decide +kernel
theorem dX7_manyUnknown_30 : decode cX7_manyUnknown 30 = .ok (.getfield 29, 3) := by decide +kernel
theorem dX7_manyUnknown_33 : decode cX7_manyUnknown 33 = .ok (.bipush 120, 2) := by decide +kernel
theorem dX7_manyUnknown_35 : decode cX7_manyUnknown 35 = .ok (.iload_n 1, 1) := by decide +kernel
theorem dX7_manyUnknown_36 : decode cX7_manyUnknown 36 = .ok (.imul, 1) := by decide +kernel
theorem dX7_manyUnknown_37 : decode cX7_manyUnknown 37 = .ok (.aload_n 0, 1) := by decide +kernel
theorem dX7_manyUnknown_38 : decode cX7_manyUnknown 38 = .ok (.getfield 26, 3) := by decide +kernel
theorem dX7_manyUnknown_41 : decode cX7_manyUnknown 41 = .ok (.iload_n 1, 1) := by decide +kernel
theorem dX7_manyUnknown_42 : decode cX7_manyUnknown 42 = .ok (.iaload, 1) := by decide +kernel
theorem dX7_manyUnknown_43 : decode cX7_manyUnknown 43 = .ok (.iadd, 1) := by decide +kernel
theorem dX7_manyUnknown_44 : decode cX7_manyUnknown 44 = .ok (.invokevirtual 106, 3) := by decide +kernel
theorem dX7_manyUnknown_47 : decode cX7_manyUnknown 47 = .ok (.iload_n 2, 1) := by decide +kernel
theorem dX7_manyUnknown_48 : decode cX7_manyUnknown 48 = .ok (.aload_n 0, 1) := by decide +kernel
theorem dX7_manyUnknown_49 : decode cX7_manyUnknown 49 = .ok (.aload_n 0, 1) := by decide +kernel
theorem dX7_manyUnknown_50 : decode cX7_manyUnknown 50 = .ok (.getfield 23, 3) := by decide +kernel
theorem dX7_manyUnknown_53 : decode cX7_manyUnknown 53 = .ok (.iload_n 1, 1) := by decide +kernel
theorem dX7_manyUnknown_54 : decode cX7_manyUnknown 54 = .ok (.iaload, 1) := by decide +kernel
theorem dX7_manyUnknown_55 : decode cX7_manyUnknown 55 = .ok (.invokevirtual 110, 3) := by decide +kernel
theorem dX7_manyUnknown_58 : decode cX7_manyUnknown 58 = .ok (.ifCond .eq 7, 3) := by decide +kernel
theorem dX7_manyUnknown_61 : decode cX7_manyUnknown 61 = .ok (.iconst 0, 1) := by decide +kernel
theorem dX7_manyUnknown_62 : decode cX7_manyUnknown 62 = .ok (.goto 4, 3) := by decide +kernel
theorem dX7_manyUnknown_65 : decode cX7_manyUnknown 65 = .ok (.iconst 1, 1) := by decide +kernel
theorem dX7_manyUnknown_66 : decode cX7_manyUnknown 66 = .ok (.iadd, 1) := by decide +kernel
theorem dX7_manyUnknown_67 : decode cX7_manyUnknown 67 = .ok (.istore_n 2, 1) := by decide +kernel
theorem dX7_manyUnknown_68 : decode cX7_manyUnknown 68 = .ok (.goto (-58), 3) := by decide +kernel
theorem dX7_manyUnknown_71 : decode cX7_manyUnknown 71 = .ok (.iload_n 2, 1) := by decide +kernel
theorem dX7_manyUnknown_72 : decode cX7_manyUnknown 72 = .ok (.ireturn, 1) := by decide +kernel
theorem dX7_unknownTag_0 : decode cX7_unknownTag 0 = .ok (.aload_n 0, 1) := by decide +kernel
theorem dX7_unknownTag_1 : decode cX7_unknownTag 1 = .ok (.aload_n 0, 1) := by decide +kernel
theorem dX7_unknownTag_2 : decode cX7_unknownTag 2 = .ok (.iload_n 1, 1) := by decide +kernel
theorem dX7_unknownTag_3 : decode cX7_unknownTag 3 = .ok (.invokevirtual 156, 3) := by decide +kernel
theorem dX7_unknownTag_6 : decode cX7_unknownTag 6 = .ok (.ifCond .eq 22, 3) := by decide +kernel
theorem dX7_unknownTag_9 : decode cX7_unknownTag 9 = .ok (.iload_n 2, 1) := by decide +kernel
theorem dX7_unknownTag_10 : decode cX7_unknownTag 10 = .ok (.iconst 0, 1) := by decide +kernel
theorem dX7_unknownTag_11 : decode cX7_unknownTag 11 = .ok (.aload_n 0, 1) := by decide +kernel
theorem dX7_unknownTag_12 : decode cX7_unknownTag 12 = .ok (.iload_n 1, 1) := by decide +kernel
theorem dX7_unknownTag_13 : decode cX7_unknownTag 13 = .ok (.invokevirtual 195, 3) := by decide +kernel
theorem dX7_unknownTag_16 : decode cX7_unknownTag 16 = .ok (.iconst 1, 1) := by decide +kernel
theorem dX7_unknownTag_17 : decode cX7_unknownTag 17 = .ok (.isub, 1) := by decide +kernel
theorem dX7_unknownTag_18 : decode cX7_unknownTag 18 = .ok (.invokestatic 51, 3) := by decide +kernel
theorem dX7_unknownTag_21 : decode cX7_unknownTag 21 = .ok (.ifCond .eq 7, 3) := by decide +kernel
theorem dX7_unknownTag_24 : decode cX7_unknownTag 24 = .ok (.iconst 0, 1) := by decide +kernel
theorem dX7_unknownTag_25 : decode cX7_unknownTag 25 = .ok (.goto 4, 3) := by decide +kernel
theorem dX7_unknownTag_28 : decode cX7_unknownTag 28 = .ok (.iconst 1, 1) := by decide +kernel
theorem dX7_unknownTag_29 : decode cX7_unknownTag 29 = .ok (.putfield 44, 3) := by decide +kernel
theorem dX7_unknownTag_32 : decode cX7_unknownTag 32 = .ok (.aload_n 0, 1) := by decide +kernel
theorem dX7_unknownTag_33 : decode cX7_unknownTag 33 = .ok (.getfield 44, 3) := by decide +kernel
theorem dX7_unknownTag_36 : decode cX7_unknownTag 36 = .ok (.ifCond .le 5, 3) := by decide +kernel
theorem dX7_unknownTag_39 : decode cX7_unknownTag 39 = .ok (.iconst 0, 1) := by decide +kernel
theorem dX7_unknownTag_40 : decode cX7_unknownTag 40 = .ok (.ireturn, 1) := by decide +kernel
theorem dX7_unknownTag_41 : decode cX7_unknownTag 41 = .ok (.iload_n 2, 1) := by decide +kernel
theorem dX7_unknownTag_42 : decode cX7_unknownTag 42 = .ok (.iconst 1, 1) := by decide +kernel
theorem dX7_unknownTag_43 : decode cX7_unknownTag 43 = .ok (.iadd, 1) := by decide +kernel
theorem dX7_unknownTag_44 : decode cX7_unknownTag 44 = .ok (.istore_n 3, 1) := by decide +kernel
theorem dX7_unknownTag_45 : decode cX7_unknownTag 45 = .ok (.aload_n 0, 1) := by decide +kernel
theorem dX7_unknownTag_46 : decode cX7_unknownTag 46 = .ok (.bipush 120, 2) := by decide +kernel
theorem dX7_unknownTag_48 : decode cX7_unknownTag 48 = .ok (.iload_n 1, 1) := by decide +kernel
theorem dX7_unknownTag_49 : decode cX7_unknownTag 49 = .ok (.imul, 1) := by decide +kernel
theorem dX7_unknownTag_50 : decode cX7_unknownTag 50 = .ok (.putfield 55, 3) := by decide +kernel
theorem dX7_unknownTag_53 : decode cX7_unknownTag 53 = .ok (.iload_n 3, 1) := by decide +kernel
theorem dX7_unknownTag_54 : decode cX7_unknownTag 54 = .ok (.ifCond .le 46, 3) := by decide +kernel
theorem dX7_unknownTag_57 : decode cX7_unknownTag 57 = .ok (.aload_n 0, 1) := by decide +kernel
theorem dX7_unknownTag_58 : decode cX7_unknownTag 58 = .ok (.aload_n 0, 1) := by decide +kernel
theorem dX7_unknownTag_59 : decode cX7_unknownTag 59 = .ok (.getfield 29, 3) := by decide +kernel
theorem dX7_unknownTag_62 : decode cX7_unknownTag 62 = .ok (.bipush 120, 2) := by decide +kernel
theorem dX7_unknownTag_64 : decode cX7_unknownTag 64 = .ok (.iload_n 1, 1) := by decide +kernel
theorem dX7_unknownTag_65 : decode cX7_unknownTag 65 = .ok (.imul, 1) := by decide +kernel
theorem dX7_unknownTag_66 : decode cX7_unknownTag 66 = .ok (.aload_n 0, 1) := by decide +kernel
theorem dX7_unknownTag_67 : decode cX7_unknownTag 67 = .ok (.getfield 26, 3) := by decide +kernel
theorem dX7_unknownTag_70 : decode cX7_unknownTag 70 = .ok (.iload_n 1, 1) := by decide +kernel
theorem dX7_unknownTag_71 : decode cX7_unknownTag 71 = .ok (.iaload, 1) := by decide +kernel
theorem dX7_unknownTag_72 : decode cX7_unknownTag 72 = .ok (.iadd, 1) := by decide +kernel
theorem dX7_unknownTag_73 : decode cX7_unknownTag 73 = .ok (.invokevirtual 106, 3) := by decide +kernel
theorem dX7_unknownTag_76 : decode cX7_unknownTag 76 = .ok (.iload_n 3, 1) := by decide +kernel
theorem dX7_unknownTag_77 : decode cX7_unknownTag 77 = .ok (.aload_n 0, 1) := by decide +kernel
theorem dX7_unknownTag_78 : decode cX7_unknownTag 78 = .ok (.aload_n 0, 1) := by decide +kernel
theorem dX7_unknownTag_79 : decode cX7_unknownTag 79 = .ok (.getfield 23, 3) := by decide +kernel
theorem dX7_unknownTag_82 : decode cX7_unknownTag 82 = .ok (.iload_n 1, 1) := by decide +kernel
theorem dX7_unknownTag_83 : decode cX7_unknownTag 83 = .ok (.iaload, 1) := by decide +kernel
theorem dX7_unknownTag_84 : decode cX7_unknownTag 84 = .ok (.invokevirtual 110, 3) := by decide +kernel
theorem dX7_unknownTag_87 : decode cX7_unknownTag 87 = .ok (.ifCond .eq 7, 3) := by decide +kernel
theorem dX7_unknownTag_90 : decode cX7_unknownTag 90 = .ok (.iconst 0, 1) := by decide +kernel
theorem dX7_unknownTag_91 : decode cX7_unknownTag 91 = .ok (.goto 4, 3) := by decide +kernel
theorem dX7_unknownTag_94 : decode cX7_unknownTag 94 = .ok (.iconst 1, 1) := by decide +kernel
theorem dX7_unknownTag_95 : decode cX7_unknownTag 95 = .ok (.isub, 1) := by decide +kernel
theorem dX7_unknownTag_96 : decode cX7_unknownTag 96 = .ok (.istore_n 3, 1) := by decide +kernel
theorem dX7_unknownTag_97 : decode cX7_unknownTag 97 = .ok (.goto (-44), 3) := by decide +kernel
theorem dX7_unknownTag_100 : decode cX7_unknownTag 100 = .ok (.aload_n 0, 1) := by decide +kernel
theorem dX7_unknownTag_101 : decode cX7_unknownTag 101 = .ok (.getfield 68, 3) := by decide +kernel
theorem dX7_unknownTag_104 : decode cX7_unknownTag 104 = .ok (.ireturn, 1) := by decide +kernel
theorem dX7_weight_0 : decode cX7_weight 0 = .ok (.aload_n 0, 1) := by decide +kernel
theorem dX7_weight_1 : decode cX7_weight 1 = .ok (.aload_n 0, 1) := by decide +kernel
theorem dX7_weight_2 : decode cX7_weight 2 = .ok (.iload_n 1, 1) := by decide +kernel
theorem dX7_weight_3 : decode cX7_weight 3 = .ok (.invokevirtual 156, 3) := by decide +kernel
theorem dX7_weight_6 : decode cX7_weight 6 = .ok (.ifCond .eq 7, 3) := by decide +kernel
theorem dX7_weight_9 : decode cX7_weight 9 = .ok (.iconst 0, 1) := by decide +kernel
theorem dX7_weight_10 : decode cX7_weight 10 = .ok (.goto 4, 3) := by decide +kernel
theorem dX7_weight_13 : decode cX7_weight 13 = .ok (.iconst 1, 1) := by decide +kernel
theorem dX7_weight_14 : decode cX7_weight 14 = .ok (.putfield 44, 3) := by decide +kernel
theorem dX7_weight_17 : decode cX7_weight 17 = .ok (.aload_n 0, 1) := by decide +kernel
theorem dX7_weight_18 : decode cX7_weight 18 = .ok (.getfield 44, 3) := by decide +kernel
theorem dX7_weight_21 : decode cX7_weight 21 = .ok (.ifCond .le 7, 3) := by decide +kernel
theorem dX7_weight_24 : decode cX7_weight 24 = .ok (.iconst 0, 1) := by decide +kernel
theorem dX7_weight_25 : decode cX7_weight 25 = .ok (.goto 9, 3) := by decide +kernel
theorem dX7_weight_28 : decode cX7_weight 28 = .ok (.aload_n 0, 1) := by decide +kernel
theorem dX7_weight_29 : decode cX7_weight 29 = .ok (.getfield 26, 3) := by decide +kernel
theorem dX7_weight_32 : decode cX7_weight 32 = .ok (.iload_n 1, 1) := by decide +kernel
theorem dX7_weight_33 : decode cX7_weight 33 = .ok (.iaload, 1) := by decide +kernel
theorem dX7_weight_34 : decode cX7_weight 34 = .ok (.ireturn, 1) := by decide +kernel
theorem dX7_areAlike_0 : decode cX7_areAlike 0 = .ok (.aload_n 0, 1) := by decide +kernel
theorem dX7_areAlike_1 : decode cX7_areAlike 1 = .ok (.iload_n 1, 1) := by decide +kernel
theorem dX7_areAlike_2 : decode cX7_areAlike 2 = .ok (.invokevirtual 185, 3) := by decide +kernel
theorem dX7_areAlike_5 : decode cX7_areAlike 5 = .ok (.aload_n 0, 1) := by decide +kernel
theorem dX7_areAlike_6 : decode cX7_areAlike 6 = .ok (.invokevirtual 188, 3) := by decide +kernel
theorem dX7_areAlike_9 : decode cX7_areAlike 9 = .ok (.aload_n 0, 1) := by decide +kernel
theorem dX7_areAlike_10 : decode cX7_areAlike 10 = .ok (.iload_n 2, 1) := by decide +kernel
theorem dX7_areAlike_11 : decode cX7_areAlike 11 = .ok (.invokevirtual 185, 3) := by decide +kernel
theorem dX7_areAlike_14 : decode cX7_areAlike 14 = .ok (.aload_n 0, 1) := by decide +kernel
theorem dX7_areAlike_15 : decode cX7_areAlike 15 = .ok (.invokevirtual 198, 3) := by decide +kernel
theorem dX7_areAlike_18 : decode cX7_areAlike 18 = .ok (.ireturn, 1) := by decide +kernel
theorem dX7_areSame_0 : decode cX7_areSame 0 = .ok (.aload_n 0, 1) := by decide +kernel
theorem dX7_areSame_1 : decode cX7_areSame 1 = .ok (.aload_n 0, 1) := by decide +kernel
theorem dX7_areSame_2 : decode cX7_areSame 2 = .ok (.iload_n 1, 1) := by decide +kernel
theorem dX7_areSame_3 : decode cX7_areSame 3 = .ok (.invokevirtual 156, 3) := by decide +kernel
theorem dX7_areSame_6 : decode cX7_areSame 6 = .ok (.ifCond .eq 15, 3) := by decide +kernel
theorem dX7_areSame_9 : decode cX7_areSame 9 = .ok (.aload_n 0, 1) := by decide +kernel
theorem dX7_areSame_10 : decode cX7_areSame 10 = .ok (.iload_n 2, 1) := by decide +kernel
theorem dX7_areSame_11 : decode cX7_areSame 11 = .ok (.invokevirtual 156, 3) := by decide +kernel
theorem dX7_areSame_14 : decode cX7_areSame 14 = .ok (.ifCond .eq 7, 3) := by decide +kernel
theorem dX7_areSame_17 : decode cX7_areSame 17 = .ok (.iconst 0, 1) := by decide +kernel
theorem dX7_areSame_18 : decode cX7_areSame 18 = .ok (.goto 4, 3) := by decide +kernel
theorem dX7_areSame_21 : decode cX7_areSame 21 = .ok (.iconst 1, 1) := by decide +kernel
theorem dX7_areSame_22 : decode cX7_areSame 22 = .ok (.putfield 44, 3) := by decide +kernel
theorem dX7_areSame_25 : decode cX7_areSame 25 = .ok (.aload_n 0, 1) := by decide +kernel
theorem dX7_areSame_26 : decode cX7_areSame 26 = .ok (.getfield 44, 3) := by decide +kernel
theorem dX7_areSame_29 : decode cX7_areSame 29 = .ok (.ifCond .ne 16, 3) := by decide +kernel
theorem dX7_areSame_32 : decode cX7_areSame 32 = .ok (.aload_n 0, 1) := by decide +kernel
theorem dX7_areSame_33 : decode cX7_areSame 33 = .ok (.iload_n 1, 1) := by decide +kernel
theorem dX7_areSame_34 : decode cX7_areSame 34 = .ok (.iload_n 2, 1) := by decide +kernel
theorem dX7_areSame_35 : decode cX7_areSame 35 = .ok (.invokevirtual 201, 3) := by decide +kernel
theorem dX7_areSame_38 : decode cX7_areSame 38 = .ok (.ifCond .eq 7, 3) := by decide +kernel
theorem dX7_areSame_41 : decode cX7_areSame 41 = .ok (.iconst 1, 1) := by decide +kernel
theorem dX7_areSame_42 : decode cX7_areSame 42 = .ok (.goto 4, 3) := by decide +kernel
theorem dX7_areSame_45 : decode cX7_areSame 45 = .ok (.iconst 0, 1) := by decide +kernel
theorem dX7_areSame_46 : decode cX7_areSame 46 = .ok (.ireturn, 1) := by decide +kernel
theorem dX7_areSameByBytes_0 : decode cX7_areSameByBytes 0 = .ok (.aload_n 0, 1) := by decide +kernel
theorem dX7_areSameByBytes_1 : decode cX7_areSameByBytes 1 = .ok (.aload_n 0, 1) := by decide +kernel
theorem dX7_areSameByBytes_2 : decode cX7_areSameByBytes 2 = .ok (.iload_n 1, 1) := by decide +kernel
theorem dX7_areSameByBytes_3 : decode cX7_areSameByBytes 3 = .ok (.invokevirtual 156, 3) := by decide +kernel
theorem dX7_areSameByBytes_6 : decode cX7_areSameByBytes 6 = .ok (.ifCond .eq 15, 3) := by decide +kernel
theorem dX7_areSameByBytes_9 : decode cX7_areSameByBytes 9 = .ok (.aload_n 0, 1) := by decide +kernel
theorem dX7_areSameByBytes_10 : decode cX7_areSameByBytes 10 = .ok (.iload_n 2, 1) := by decide +kernel
theorem dX7_areSameByBytes_11 : decode cX7_areSameByBytes 11 = .ok (.invokevirtual 156, 3) := by decide +kernel
theorem dX7_areSameByBytes_14 : decode cX7_areSameByBytes 14 = .ok (.ifCond .eq 7, 3) := by decide +kernel
theorem dX7_areSameByBytes_17 : decode cX7_areSameByBytes 17 = .ok (.iconst 0, 1) := by decide +kernel
theorem dX7_areSameByBytes_18 : decode cX7_areSameByBytes 18 = .ok (.goto 4, 3) := by decide +kernel
theorem dX7_areSameByBytes_21 : decode cX7_areSameByBytes 21 = .ok (.iconst 1, 1) := by decide +kernel
theorem dX7_areSameByBytes_22 : decode cX7_areSameByBytes 22 = .ok (.putfield 44, 3) := by decide +kernel
theorem dX7_areSameByBytes_25 : decode cX7_areSameByBytes 25 = .ok (.aload_n 0, 1) := by decide +kernel
theorem dX7_areSameByBytes_26 : decode cX7_areSameByBytes 26 = .ok (.getfield 44, 3) := by decide +kernel
theorem dX7_areSameByBytes_29 : decode cX7_areSameByBytes 29 = .ok (.ifCond .ne 16, 3) := by decide +kernel
theorem dX7_areSameByBytes_32 : decode cX7_areSameByBytes 32 = .ok (.aload_n 0, 1) := by decide +kernel
theorem dX7_areSameByBytes_33 : decode cX7_areSameByBytes 33 = .ok (.iload_n 1, 1) := by decide +kernel
theorem dX7_areSameByBytes_34 : decode cX7_areSameByBytes 34 = .ok (.iload_n 2, 1) := by decide +kernel
theorem dX7_areSameByBytes_35 : decode cX7_areSameByBytes 35 = .ok (.invokevirtual 201, 3) := by decide +kernel
theorem dX7_areSameByBytes_38 : decode cX7_areSameByBytes 38 = .ok (.ifCond .eq 7, 3) := by decide +kernel
theorem dX7_areSameByBytes_41 : decode cX7_areSameByBytes 41 = .ok (.iconst 1, 1) := by decide +kernel
theorem dX7_areSameByBytes_42 : decode cX7_areSameByBytes 42 = .ok (.goto 4, 3) := by decide +kernel
theorem dX7_areSameByBytes_45 : decode cX7_areSameByBytes 45 = .ok (.iconst 0, 1) := by decide +kernel
theorem dX7_areSameByBytes_46 : decode cX7_areSameByBytes 46 = .ok (.ireturn, 1) := by decide +kernel
theorem dX7_write_0 : decode cX7_write 0 = .ok (.aload_n 0, 1) := by decide +kernel
theorem dX7_write_1 : decode cX7_write 1 = .ok (.aload_n 0, 1) := by decide +kernel
theorem dX7_write_2 : decode cX7_write 2 = .ok (.iload_n 1, 1) := by decide +kernel
theorem dX7_write_3 : decode cX7_write 3 = .ok (.invokevirtual 156, 3) := by decide +kernel
theorem dX7_write_6 : decode cX7_write 6 = .ok (.ifCond .eq 7, 3) := by decide +kernel
theorem dX7_write_9 : decode cX7_write 9 = .ok (.iconst 0, 1) := by decide +kernel
theorem dX7_write_10 : decode cX7_write 10 = .ok (.goto 4, 3) := by decide +kernel
theorem dX7_write_13 : decode cX7_write 13 = .ok (.iconst 1, 1) := by decide +kernel
theorem dX7_write_14 : decode cX7_write 14 = .ok (.putfield 44, 3) := by decide +kernel
theorem dX7_write_17 : decode cX7_write 17 = .ok (.aload_n 0, 1) := by decide +kernel
theorem dX7_write_18 : decode cX7_write 18 = .ok (.getfield 44, 3) := by decide +kernel
theorem dX7_write_21 : decode cX7_write 21 = .ok (.ifCond .le 5, 3) := by decide +kernel
theorem dX7_write_24 : decode cX7_write 24 = .ok (.iconst 0, 1) := by decide +kernel
theorem dX7_write_25 : decode cX7_write 25 = .ok (.ireturn, 1) := by decide +kernel
theorem dX7_write_26 : decode cX7_write 26 = .ok (.aload_n 0, 1) := by decide +kernel
theorem dX7_write_27 : decode cX7_write 27 = .ok (.iload_n 1, 1) := by decide +kernel
theorem dX7_write_28 : decode cX7_write 28 = .ok (.invokevirtual 185, 3) := by decide +kernel
theorem dX7_write_31 : decode cX7_write 31 = .ok (.iconst 0, 1) := by decide +kernel
theorem dX7_write_32 : decode cX7_write 32 = .ok (.istore_n 2, 1) := by decide +kernel
theorem dX7_write_33 : decode cX7_write 33 = .ok (.iload_n 2, 1) := by decide +kernel
theorem dX7_write_34 : decode cX7_write 34 = .ok (.aload_n 0, 1) := by decide +kernel
theorem dX7_write_35 : decode cX7_write 35 = .ok (.getfield 84, 3) := by decide +kernel
theorem dX7_write_38 : decode cX7_write 38 = .ok (.if_icmp .ge 21, 3) := by decide +kernel
theorem dX7_write_41 : decode cX7_write 41 = .ok (.aload_n 0, 1) := by decide +kernel
theorem dX7_write_42 : decode cX7_write 42 = .ok (.getfield 32, 3) := by decide +kernel
theorem dX7_write_45 : decode cX7_write 45 = .ok (.iload_n 2, 1) := by decide +kernel
theorem dX7_write_46 : decode cX7_write 46 = .ok (.aload_n 0, 1) := by decide +kernel
theorem dX7_write_47 : decode cX7_write 47 = .ok (.getfield 35, 3) := by decide +kernel
theorem dX7_write_50 : decode cX7_write 50 = .ok (.iload_n 2, 1) := by decide +kernel
theorem dX7_write_51 : decode cX7_write 51 = .ok (.iaload, 1) := by decide +kernel
theorem dX7_write_52 : decode cX7_write 52 = .ok (.iastore, 1) := by decide +kernel
theorem dX7_write_53 : decode cX7_write 53 = .ok (.iinc 2 1, 3) := by decide +kernel
theorem dX7_write_56 : decode cX7_write 56 = .ok (.goto (-23), 3) := by decide +kernel
theorem dX7_write_59 : decode cX7_write 59 = .ok (.aload_n 0, 1) := by decide +kernel
theorem dX7_write_60 : decode cX7_write 60 = .ok (.aload_n 0, 1) := by decide +kernel
theorem dX7_write_61 : decode cX7_write 61 = .ok (.getfield 84, 3) := by decide +kernel
theorem dX7_write_64 : decode cX7_write 64 = .ok (.putfield 204, 3) := by decide +kernel
theorem dX7_write_67 : decode cX7_write 67 = .ok (.aload_n 0, 1) := by decide +kernel
theorem dX7_write_68 : decode cX7_write 68 = .ok (.getfield 204, 3) := by decide +kernel
theorem dX7_write_71 : decode cX7_write 71 = .ok (.ireturn, 1) := by decide +kernel
theorem dX7_put_0 : decode cX7_put 0 = .ok (.aload_n 0, 1) := by decide +kernel
theorem dX7_put_1 : decode cX7_put 1 = .ok (.aload_n 0, 1) := by decide +kernel
theorem dX7_put_2 : decode cX7_put 2 = .ok (.getfield 204, 3) := by decide +kernel
theorem dX7_put_5 : decode cX7_put 5 = .ok (.bipush 120, 2) := by decide +kernel
theorem dX7_put_7 : decode cX7_put 7 = .ok (.if_icmp .ne 7, 3) := by decide +kernel
theorem dX7_put_10 : decode cX7_put 10 = .ok (.iconst 1, 1) := by decide +kernel
theorem dX7_put_11 : decode cX7_put 11 = .ok (.goto 4, 3) := by decide +kernel
theorem dX7_put_14 : decode cX7_put 14 = .ok (.iconst 0, 1) := by decide +kernel
theorem dX7_put_15 : decode cX7_put 15 = .ok (.putfield 44, 3) := by decide +kernel
theorem dX7_put_18 : decode cX7_put 18 = .ok (.aload_n 0, 1) := by decide +kernel
theorem dX7_put_19 : decode cX7_put 19 = .ok (.getfield 44, 3) := by decide +kernel
theorem dX7_put_22 : decode cX7_put 22 = .ok (.ifCond .le 5, 3) := by decide +kernel
theorem dX7_put_25 : decode cX7_put 25 = .ok (.iconst 0, 1) := by decide +kernel
theorem dX7_put_26 : decode cX7_put 26 = .ok (.ireturn, 1) := by decide +kernel
theorem dX7_put_27 : decode cX7_put 27 = .ok (.aload_n 0, 1) := by decide +kernel
theorem dX7_put_28 : decode cX7_put 28 = .ok (.getfield 32, 3) := by decide +kernel
theorem dX7_put_31 : decode cX7_put 31 = .ok (.aload_n 0, 1) := by decide +kernel
theorem dX7_put_32 : decode cX7_put 32 = .ok (.getfield 204, 3) := by decide +kernel
theorem dX7_put_35 : decode cX7_put 35 = .ok (.iload_n 1, 1) := by decide +kernel
theorem dX7_put_36 : decode cX7_put 36 = .ok (.sipush 255, 3) := by decide +kernel
theorem dX7_put_39 : decode cX7_put 39 = .ok (.iand, 1) := by decide +kernel
theorem dX7_put_40 : decode cX7_put 40 = .ok (.iastore, 1) := by decide +kernel
theorem dX7_put_41 : decode cX7_put 41 = .ok (.aload_n 0, 1) := by decide +kernel
theorem dX7_put_42 : decode cX7_put 42 = .ok (.dup, 1) := by decide +kernel
theorem dX7_put_43 : decode cX7_put 43 = .ok (.getfield 204, 3) := by decide +kernel
theorem dX7_put_46 : decode cX7_put 46 = .ok (.iconst 1, 1) := by decide +kernel
theorem dX7_put_47 : decode cX7_put 47 = .ok (.iadd, 1) := by decide +kernel
theorem dX7_put_48 : decode cX7_put 48 = .ok (.putfield 204, 3) := by decide +kernel
theorem dX7_put_51 : decode cX7_put 51 = .ok (.aload_n 0, 1) := by decide +kernel
theorem dX7_put_52 : decode cX7_put 52 = .ok (.getfield 204, 3) := by decide +kernel
theorem dX7_put_55 : decode cX7_put 55 = .ok (.ireturn, 1) := by decide +kernel
theorem dX7_cut_0 : decode cX7_cut 0 = .ok (.aload_n 0, 1) := by decide +kernel
theorem dX7_cut_1 : decode cX7_cut 1 = .ok (.iload_n 1, 1) := by decide +kernel
theorem dX7_cut_2 : decode cX7_cut 2 = .ok (.iconst 0, 1) := by decide +kernel
theorem dX7_cut_3 : decode cX7_cut 3 = .ok (.aload_n 0, 1) := by decide +kernel
theorem dX7_cut_4 : decode cX7_cut 4 = .ok (.getfield 204, 3) := by decide +kernel
theorem dX7_cut_7 : decode cX7_cut 7 = .ok (.invokestatic 51, 3) := by decide +kernel
theorem dX7_cut_10 : decode cX7_cut 10 = .ok (.ifCond .eq 7, 3) := by decide +kernel
theorem dX7_cut_13 : decode cX7_cut 13 = .ok (.iconst 0, 1) := by decide +kernel
theorem dX7_cut_14 : decode cX7_cut 14 = .ok (.goto 4, 3) := by decide +kernel
theorem dX7_cut_17 : decode cX7_cut 17 = .ok (.iconst 1, 1) := by decide +kernel
theorem dX7_cut_18 : decode cX7_cut 18 = .ok (.putfield 44, 3) := by decide +kernel
theorem dX7_cut_21 : decode cX7_cut 21 = .ok (.aload_n 0, 1) := by decide +kernel
theorem dX7_cut_22 : decode cX7_cut 22 = .ok (.getfield 44, 3) := by decide +kernel
theorem dX7_cut_25 : decode cX7_cut 25 = .ok (.ifCond .le 5, 3) := by decide +kernel
theorem dX7_cut_28 : decode cX7_cut 28 = .ok (.iconst 0, 1) := by decide +kernel
theorem dX7_cut_29 : decode cX7_cut 29 = .ok (.ireturn, 1) := by decide +kernel
theorem dX7_cut_30 : decode cX7_cut 30 = .ok (.aload_n 0, 1) := by decide +kernel
theorem dX7_cut_31 : decode cX7_cut 31 = .ok (.getfield 204, 3) := by decide +kernel
theorem dX7_cut_34 : decode cX7_cut 34 = .ok (.iload_n 1, 1) := by decide +kernel
theorem dX7_cut_35 : decode cX7_cut 35 = .ok (.isub, 1) := by decide +kernel
theorem dX7_cut_36 : decode cX7_cut 36 = .ok (.istore_n 2, 1) := by decide +kernel
theorem dX7_cut_37 : decode cX7_cut 37 = .ok (.aload_n 0, 1) := by decide +kernel
theorem dX7_cut_38 : decode cX7_cut 38 = .ok (.iload_n 1, 1) := by decide +kernel
theorem dX7_cut_39 : decode cX7_cut 39 = .ok (.putfield 204, 3) := by decide +kernel
theorem dX7_cut_42 : decode cX7_cut 42 = .ok (.iload_n 2, 1) := by decide +kernel
theorem dX7_cut_43 : decode cX7_cut 43 = .ok (.ireturn, 1) := by decide +kernel
theorem dX7_length_0 : decode cX7_length 0 = .ok (.aload_n 0, 1) := by decide +kernel
theorem dX7_length_1 : decode cX7_length 1 = .ok (.iconst 0, 1) := by decide +kernel
theorem dX7_length_2 : decode cX7_length 2 = .ok (.putfield 44, 3) := by decide +kernel
theorem dX7_length_5 : decode cX7_length 5 = .ok (.aload_n 0, 1) := by decide +kernel
theorem dX7_length_6 : decode cX7_length 6 = .ok (.getfield 204, 3) := by decide +kernel
theorem dX7_length_9 : decode cX7_length 9 = .ok (.ireturn, 1) := by decide +kernel
theorem dX7_byteAt_0 : decode cX7_byteAt 0 = .ok (.aload_n 0, 1) := by decide +kernel
theorem dX7_byteAt_1 : decode cX7_byteAt 1 = .ok (.iload_n 1, 1) := by decide +kernel
theorem dX7_byteAt_2 : decode cX7_byteAt 2 = .ok (.iconst 0, 1) := by decide +kernel
theorem dX7_byteAt_3 : decode cX7_byteAt 3 = .ok (.aload_n 0, 1) := by decide +kernel
theorem dX7_byteAt_4 : decode cX7_byteAt 4 = .ok (.getfield 204, 3) := by decide +kernel
theorem dX7_byteAt_7 : decode cX7_byteAt 7 = .ok (.iconst 1, 1) := by decide +kernel
theorem dX7_byteAt_8 : decode cX7_byteAt 8 = .ok (.isub, 1) := by decide +kernel
theorem dX7_byteAt_9 : decode cX7_byteAt 9 = .ok (.invokestatic 51, 3) := by decide +kernel
theorem dX7_byteAt_12 : decode cX7_byteAt 12 = .ok (.ifCond .eq 7, 3) := by decide +kernel
theorem dX7_byteAt_15 : decode cX7_byteAt 15 = .ok (.iconst 0, 1) := by decide +kernel
theorem dX7_byteAt_16 : decode cX7_byteAt 16 = .ok (.goto 4, 3) := by decide +kernel
theorem dX7_byteAt_19 : decode cX7_byteAt 19 = .ok (.iconst 1, 1) := by decide +kernel
theorem dX7_byteAt_20 : decode cX7_byteAt 20 = .ok (.putfield 44, 3) := by decide +kernel
theorem dX7_byteAt_23 : decode cX7_byteAt 23 = .ok (.aload_n 0, 1) := by decide +kernel
theorem dX7_byteAt_24 : decode cX7_byteAt 24 = .ok (.getfield 44, 3) := by decide +kernel
theorem dX7_byteAt_27 : decode cX7_byteAt 27 = .ok (.ifCond .le 7, 3) := by decide +kernel
theorem dX7_byteAt_30 : decode cX7_byteAt 30 = .ok (.iconst 0, 1) := by decide +kernel
theorem dX7_byteAt_31 : decode cX7_byteAt 31 = .ok (.goto 10, 3) := by decide +kernel
theorem dX7_byteAt_34 : decode cX7_byteAt 34 = .ok (.aload_n 0, 1) := by decide +kernel
theorem dX7_byteAt_35 : decode cX7_byteAt 35 = .ok (.getfield 32, 3) := by decide +kernel
theorem dX7_byteAt_38 : decode cX7_byteAt 38 = .ok (.iload_n 1, 1) := by decide +kernel
theorem dX7_byteAt_39 : decode cX7_byteAt 39 = .ok (.iaload, 1) := by decide +kernel
theorem dX7_byteAt_40 : decode cX7_byteAt 40 = .ok (.i2b, 1) := by decide +kernel
theorem dX7_byteAt_41 : decode cX7_byteAt 41 = .ok (.ireturn, 1) := by decide +kernel
theorem dX7_fault_0 : decode cX7_fault 0 = .ok (.aload_n 0, 1) := by decide +kernel
theorem dX7_fault_1 : decode cX7_fault 1 = .ok (.iconst 0, 1) := by decide +kernel
theorem dX7_fault_2 : decode cX7_fault 2 = .ok (.putfield 44, 3) := by decide +kernel
theorem dX7_fault_5 : decode cX7_fault 5 = .ok (.aload_n 0, 1) := by decide +kernel
theorem dX7_fault_6 : decode cX7_fault 6 = .ok (.aload_n 0, 1) := by decide +kernel
theorem dX7_fault_7 : decode cX7_fault 7 = .ok (.getfield 32, 3) := by decide +kernel
theorem dX7_fault_10 : decode cX7_fault 10 = .ok (.iconst 0, 1) := by decide +kernel
theorem dX7_fault_11 : decode cX7_fault 11 = .ok (.aload_n 0, 1) := by decide +kernel
theorem dX7_fault_12 : decode cX7_fault 12 = .ok (.getfield 204, 3) := by decide +kernel
theorem dX7_fault_15 : decode cX7_fault 15 = .ok (.invokevirtual 191, 3) := by decide +kernel
theorem dX7_fault_18 : decode cX7_fault 18 = .ok (.ireturn, 1) := by decide +kernel
theorem dX7_faultAt_0 : decode cX7_faultAt 0 = .ok (.aload_n 0, 1) := by decide +kernel
theorem dX7_faultAt_1 : decode cX7_faultAt 1 = .ok (.iconst 0, 1) := by decide +kernel
theorem dX7_faultAt_2 : decode cX7_faultAt 2 = .ok (.putfield 44, 3) := by decide +kernel
theorem dX7_faultAt_5 : decode cX7_faultAt 5 = .ok (.aload_n 0, 1) := by decide +kernel
theorem dX7_faultAt_6 : decode cX7_faultAt 6 = .ok (.aload_n 0, 1) := by decide +kernel
theorem dX7_faultAt_7 : decode cX7_faultAt 7 = .ok (.getfield 32, 3) := by decide +kernel
theorem dX7_faultAt_10 : decode cX7_faultAt 10 = .ok (.iconst 0, 1) := by decide +kernel
theorem dX7_faultAt_11 : decode cX7_faultAt 11 = .ok (.aload_n 0, 1) := by decide +kernel
theorem dX7_faultAt_12 : decode cX7_faultAt 12 = .ok (.getfield 204, 3) := by decide +kernel
theorem dX7_faultAt_15 : decode cX7_faultAt 15 = .ok (.invokevirtual 191, 3) := by decide +kernel
theorem dX7_faultAt_18 : decode cX7_faultAt 18 = .ok (.ifCond .le 10, 3) := by decide +kernel
theorem dX7_faultAt_21 : decode cX7_faultAt 21 = .ok (.aload_n 0, 1) := by decide +kernel
theorem dX7_faultAt_22 : decode cX7_faultAt 22 = .ok (.getfield 61, 3) := by decide +kernel
theorem dX7_faultAt_25 : decode cX7_faultAt 25 = .ok (.goto 4, 3) := by decide +kernel
theorem dX7_faultAt_28 : decode cX7_faultAt 28 = .ok (.iconst (-1), 1) := by decide +kernel
theorem dX7_faultAt_29 : decode cX7_faultAt 29 = .ok (.ireturn, 1) := by decide +kernel
theorem dX7_read_0 : decode cX7_read 0 = .ok (.aload_n 0, 1) := by decide +kernel
theorem dX7_read_1 : decode cX7_read 1 = .ok (.aload_n 0, 1) := by decide +kernel
theorem dX7_read_2 : decode cX7_read 2 = .ok (.iload_n 1, 1) := by decide +kernel
theorem dX7_read_3 : decode cX7_read 3 = .ok (.invokevirtual 136, 3) := by decide +kernel
theorem dX7_read_6 : decode cX7_read 6 = .ok (.ifCond .ne 7, 3) := by decide +kernel
theorem dX7_read_9 : decode cX7_read 9 = .ok (.iconst 1, 1) := by decide +kernel
theorem dX7_read_10 : decode cX7_read 10 = .ok (.goto 35, 3) := by decide +kernel
theorem dX7_read_13 : decode cX7_read 13 = .ok (.aload_n 0, 1) := by decide +kernel
theorem dX7_read_14 : decode cX7_read 14 = .ok (.aload_n 0, 1) := by decide +kernel
theorem dX7_read_15 : decode cX7_read 15 = .ok (.getfield 32, 3) := by decide +kernel
theorem dX7_read_18 : decode cX7_read 18 = .ok (.iconst 0, 1) := by decide +kernel
theorem dX7_read_19 : decode cX7_read 19 = .ok (.aload_n 0, 1) := by decide +kernel
theorem dX7_read_20 : decode cX7_read 20 = .ok (.getfield 204, 3) := by decide +kernel
theorem dX7_read_23 : decode cX7_read 23 = .ok (.invokevirtual 191, 3) := by decide +kernel
theorem dX7_read_26 : decode cX7_read 26 = .ok (.ifCond .le 7, 3) := by decide +kernel
theorem dX7_read_29 : decode cX7_read 29 = .ok (.iconst 2, 1) := by decide +kernel
theorem dX7_read_30 : decode cX7_read 30 = .ok (.goto 15, 3) := by decide +kernel
theorem dX7_read_33 : decode cX7_read 33 = .ok (.aload_n 0, 1) := by decide +kernel
theorem dX7_read_34 : decode cX7_read 34 = .ok (.invokevirtual 149, 3) := by decide +kernel
theorem dX7_read_37 : decode cX7_read 37 = .ok (.ifCond .eq 7, 3) := by decide +kernel
theorem dX7_read_40 : decode cX7_read 40 = .ok (.iconst 3, 1) := by decide +kernel
theorem dX7_read_41 : decode cX7_read 41 = .ok (.goto 4, 3) := by decide +kernel
theorem dX7_read_44 : decode cX7_read 44 = .ok (.iconst 0, 1) := by decide +kernel
theorem dX7_read_45 : decode cX7_read 45 = .ok (.putfield 44, 3) := by decide +kernel
theorem dX7_read_48 : decode cX7_read 48 = .ok (.aload_n 0, 1) := by decide +kernel
theorem dX7_read_49 : decode cX7_read 49 = .ok (.getfield 44, 3) := by decide +kernel
theorem dX7_read_52 : decode cX7_read 52 = .ok (.ifCond .le 7, 3) := by decide +kernel
theorem dX7_read_55 : decode cX7_read 55 = .ok (.iconst 0, 1) := by decide +kernel
theorem dX7_read_56 : decode cX7_read 56 = .ok (.goto 8, 3) := by decide +kernel
theorem dX7_read_59 : decode cX7_read 59 = .ok (.aload_n 0, 1) := by decide +kernel
theorem dX7_read_60 : decode cX7_read 60 = .ok (.iload_n 1, 1) := by decide +kernel
theorem dX7_read_61 : decode cX7_read 61 = .ok (.invokevirtual 153, 3) := by decide +kernel
theorem dX7_read_64 : decode cX7_read 64 = .ok (.ireturn, 1) := by decide +kernel
theorem dX7_isOwn_0 : decode cX7_isOwn 0 = .ok (.iconst 1, 1) := by decide +kernel
theorem dX7_isOwn_1 : decode cX7_isOwn 1 = .ok (.istore_n 2, 1) := by decide +kernel
theorem dX7_isOwn_2 : decode cX7_isOwn 2 = .ok (.iconst 0, 1) := by decide +kernel
theorem dX7_isOwn_3 : decode cX7_isOwn 3 = .ok (.istore_n 3, 1) := by decide +kernel
theorem dX7_isOwn_4 : decode cX7_isOwn 4 = .ok (.iconst 0, 1) := by decide +kernel
theorem dX7_isOwn_5 : decode cX7_isOwn 5 = .ok (.istore 4, 2) := by decide +kernel
theorem dX7_isOwn_7 : decode cX7_isOwn 7 = .ok (.aload_n 0, 1) := by decide +kernel
theorem dX7_isOwn_8 : decode cX7_isOwn 8 = .ok (.iconst 0, 1) := by decide +kernel
theorem dX7_isOwn_9 : decode cX7_isOwn 9 = .ok (.putfield 55, 3) := by decide +kernel
theorem dX7_isOwn_12 : decode cX7_isOwn 12 = .ok (.aload_n 0, 1) := by decide +kernel
theorem dX7_isOwn_13 : decode cX7_isOwn 13 = .ok (.iconst 0, 1) := by decide +kernel
theorem dX7_isOwn_14 : decode cX7_isOwn 14 = .ok (.putfield 84, 3) := by decide +kernel
theorem dX7_isOwn_17 : decode cX7_isOwn 17 = .ok (.aload_n 0, 1) := by decide +kernel
theorem dX7_isOwn_18 : decode cX7_isOwn 18 = .ok (.getfield 55, 3) := by decide +kernel
theorem dX7_isOwn_21 : decode cX7_isOwn 21 = .ok (.aload_n 0, 1) := by decide +kernel
theorem dX7_isOwn_22 : decode cX7_isOwn 22 = .ok (.getfield 204, 3) := by decide +kernel
theorem dX7_isOwn_25 : decode cX7_isOwn 25 = .ok (.if_icmp .ge 220, 3) := by decide +kernel
theorem dX7_isOwn_28 : decode cX7_isOwn 28 = .ok (.iload_n 2, 1) := by decide +kernel
theorem dX7_isOwn_29 : decode cX7_isOwn 29 = .ok (.ifCond .eq 216, 3) := by decide +kernel
theorem dX7_isOwn_32 : decode cX7_isOwn 32 = .ok (.aload_n 0, 1) := by decide +kernel
theorem dX7_isOwn_33 : decode cX7_isOwn 33 = .ok (.aload_n 0, 1) := by decide +kernel
theorem dX7_isOwn_34 : decode cX7_isOwn 34 = .ok (.getfield 32, 3) := by decide +kernel
theorem dX7_isOwn_37 : decode cX7_isOwn 37 = .ok (.aload_n 0, 1) := by decide +kernel
theorem dX7_isOwn_38 : decode cX7_isOwn 38 = .ok (.getfield 204, 3) := by decide +kernel
theorem dX7_isOwn_41 : decode cX7_isOwn 41 = .ok (.invokevirtual 106, 3) := by decide +kernel
theorem dX7_isOwn_44 : decode cX7_isOwn 44 = .ok (.aload_n 0, 1) := by decide +kernel
theorem dX7_isOwn_45 : decode cX7_isOwn 45 = .ok (.getfield 58, 3) := by decide +kernel
theorem dX7_isOwn_48 : decode cX7_isOwn 48 = .ok (.ifCond .ne 7, 3) := by decide +kernel
theorem dX7_isOwn_51 : decode cX7_isOwn 51 = .ok (.iconst 1, 1) := by decide +kernel
theorem dX7_isOwn_52 : decode cX7_isOwn 52 = .ok (.goto 4, 3) := by decide +kernel
theorem dX7_isOwn_55 : decode cX7_isOwn 55 = .ok (.iconst 0, 1) := by decide +kernel
theorem dX7_isOwn_56 : decode cX7_isOwn 56 = .ok (.istore_n 2, 1) := by decide +kernel
theorem dX7_isOwn_57 : decode cX7_isOwn 57 = .ok (.iload_n 2, 1) := by decide +kernel
theorem dX7_isOwn_58 : decode cX7_isOwn 58 = .ok (.ifCond .eq (-41), 3) := by decide +kernel
theorem dX7_isOwn_61 : decode cX7_isOwn 61 = .ok (.aload_n 0, 1) := by decide +kernel
theorem dX7_isOwn_62 : decode cX7_isOwn 62 = .ok (.getfield 84, 3) := by decide +kernel
theorem dX7_isOwn_65 : decode cX7_isOwn 65 = .ok (.istore 5, 2) := by decide +kernel
theorem dX7_isOwn_67 : decode cX7_isOwn 67 = .ok (.aload_n 0, 1) := by decide +kernel
theorem dX7_isOwn_68 : decode cX7_isOwn 68 = .ok (.aload_n 0, 1) := by decide +kernel
theorem dX7_isOwn_69 : decode cX7_isOwn 69 = .ok (.getfield 32, 3) := by decide +kernel
theorem dX7_isOwn_72 : decode cX7_isOwn 72 = .ok (.invokevirtual 116, 3) := by decide +kernel
theorem dX7_isOwn_75 : decode cX7_isOwn 75 = .ok (.aload_n 0, 1) := by decide +kernel
theorem dX7_isOwn_76 : decode cX7_isOwn 76 = .ok (.getfield 84, 3) := by decide +kernel
theorem dX7_isOwn_79 : decode cX7_isOwn 79 = .ok (.aload_n 0, 1) := by decide +kernel
theorem dX7_isOwn_80 : decode cX7_isOwn 80 = .ok (.getfield 55, 3) := by decide +kernel
theorem dX7_isOwn_83 : decode cX7_isOwn 83 = .ok (.if_icmp .ne 34, 3) := by decide +kernel
theorem dX7_isOwn_86 : decode cX7_isOwn 86 = .ok (.aload_n 0, 1) := by decide +kernel
theorem dX7_isOwn_87 : decode cX7_isOwn 87 = .ok (.getfield 84, 3) := by decide +kernel
theorem dX7_isOwn_90 : decode cX7_isOwn 90 = .ok (.iload 5, 2) := by decide +kernel
theorem dX7_isOwn_92 : decode cX7_isOwn 92 = .ok (.isub, 1) := by decide +kernel
theorem dX7_isOwn_93 : decode cX7_isOwn 93 = .ok (.aload_n 0, 1) := by decide +kernel
theorem dX7_isOwn_94 : decode cX7_isOwn 94 = .ok (.getfield 55, 3) := by decide +kernel
theorem dX7_isOwn_97 : decode cX7_isOwn 97 = .ok (.aload_n 0, 1) := by decide +kernel
theorem dX7_isOwn_98 : decode cX7_isOwn 98 = .ok (.getfield 61, 3) := by decide +kernel
theorem dX7_isOwn_101 : decode cX7_isOwn 101 = .ok (.isub, 1) := by decide +kernel
theorem dX7_isOwn_102 : decode cX7_isOwn 102 = .ok (.if_icmp .ne 15, 3) := by decide +kernel
theorem dX7_isOwn_105 : decode cX7_isOwn 105 = .ok (.aload_n 0, 1) := by decide +kernel
theorem dX7_isOwn_106 : decode cX7_isOwn 106 = .ok (.getfield 68, 3) := by decide +kernel
theorem dX7_isOwn_109 : decode cX7_isOwn 109 = .ok (.iload_n 3, 1) := by decide +kernel
theorem dX7_isOwn_110 : decode cX7_isOwn 110 = .ok (.if_icmp .lt 7, 3) := by decide +kernel
theorem dX7_isOwn_113 : decode cX7_isOwn 113 = .ok (.iconst 1, 1) := by decide +kernel
theorem dX7_isOwn_114 : decode cX7_isOwn 114 = .ok (.goto 4, 3) := by decide +kernel
theorem dX7_isOwn_117 : decode cX7_isOwn 117 = .ok (.iconst 0, 1) := by decide +kernel
theorem dX7_isOwn_118 : decode cX7_isOwn 118 = .ok (.istore_n 2, 1) := by decide +kernel
theorem dX7_isOwn_119 : decode cX7_isOwn 119 = .ok (.aload_n 0, 1) := by decide +kernel
theorem dX7_isOwn_120 : decode cX7_isOwn 120 = .ok (.iload_n 1, 1) := by decide +kernel
theorem dX7_isOwn_121 : decode cX7_isOwn 121 = .ok (.aload_n 0, 1) := by decide +kernel
theorem dX7_isOwn_122 : decode cX7_isOwn 122 = .ok (.getfield 68, 3) := by decide +kernel
theorem dX7_isOwn_125 : decode cX7_isOwn 125 = .ok (.invokevirtual 98, 3) := by decide +kernel
theorem dX7_isOwn_128 : decode cX7_isOwn 128 = .ok (.invokestatic 120, 3) := by decide +kernel
theorem dX7_isOwn_131 : decode cX7_isOwn 131 = .ok (.ifCond .eq 15, 3) := by decide +kernel
theorem dX7_isOwn_134 : decode cX7_isOwn 134 = .ok (.aload_n 0, 1) := by decide +kernel
theorem dX7_isOwn_135 : decode cX7_isOwn 135 = .ok (.iload_n 1, 1) := by decide +kernel
theorem dX7_isOwn_136 : decode cX7_isOwn 136 = .ok (.invokevirtual 110, 3) := by decide +kernel
theorem dX7_isOwn_139 : decode cX7_isOwn 139 = .ok (.ifCond .eq 7, 3) := by decide +kernel
theorem dX7_isOwn_142 : decode cX7_isOwn 142 = .ok (.iconst 1, 1) := by decide +kernel
theorem dX7_isOwn_143 : decode cX7_isOwn 143 = .ok (.goto 4, 3) := by decide +kernel
theorem dX7_isOwn_146 : decode cX7_isOwn 146 = .ok (.iconst 0, 1) := by decide +kernel
theorem dX7_isOwn_147 : decode cX7_isOwn 147 = .ok (.istore 6, 2) := by decide +kernel
theorem dX7_isOwn_149 : decode cX7_isOwn 149 = .ok (.aload_n 0, 1) := by decide +kernel
theorem dX7_isOwn_150 : decode cX7_isOwn 150 = .ok (.getfield 68, 3) := by decide +kernel
theorem dX7_isOwn_153 : decode cX7_isOwn 153 = .ok (.iload_n 3, 1) := by decide +kernel
theorem dX7_isOwn_154 : decode cX7_isOwn 154 = .ok (.if_icmp .le 7, 3) := by decide +kernel
theorem dX7_isOwn_157 : decode cX7_isOwn 157 = .ok (.iconst 0, 1) := by decide +kernel
theorem dX7_isOwn_158 : decode cX7_isOwn 158 = .ok (.goto 5, 3) := by decide +kernel
theorem dX7_isOwn_161 : decode cX7_isOwn 161 = .ok (.iload 4, 2) := by decide +kernel
theorem dX7_isOwn_163 : decode cX7_isOwn 163 = .ok (.istore 4, 2) := by decide +kernel
theorem dX7_isOwn_165 : decode cX7_isOwn 165 = .ok (.aload_n 0, 1) := by decide +kernel
theorem dX7_isOwn_166 : decode cX7_isOwn 166 = .ok (.getfield 68, 3) := by decide +kernel
theorem dX7_isOwn_169 : decode cX7_isOwn 169 = .ok (.istore_n 3, 1) := by decide +kernel
theorem dX7_isOwn_170 : decode cX7_isOwn 170 = .ok (.iload 4, 2) := by decide +kernel
theorem dX7_isOwn_172 : decode cX7_isOwn 172 = .ok (.aload_n 0, 1) := by decide +kernel
theorem dX7_isOwn_173 : decode cX7_isOwn 173 = .ok (.iload_n 1, 1) := by decide +kernel
theorem dX7_isOwn_174 : decode cX7_isOwn 174 = .ok (.invokevirtual 110, 3) := by decide +kernel
theorem dX7_isOwn_177 : decode cX7_isOwn 177 = .ok (.ifCond .eq 7, 3) := by decide +kernel
theorem dX7_isOwn_180 : decode cX7_isOwn 180 = .ok (.iconst 1, 1) := by decide +kernel
theorem dX7_isOwn_181 : decode cX7_isOwn 181 = .ok (.goto 4, 3) := by decide +kernel
theorem dX7_isOwn_184 : decode cX7_isOwn 184 = .ok (.iconst 0, 1) := by decide +kernel
theorem dX7_isOwn_185 : decode cX7_isOwn 185 = .ok (.iadd, 1) := by decide +kernel
theorem dX7_isOwn_186 : decode cX7_isOwn 186 = .ok (.istore 4, 2) := by decide +kernel
theorem dX7_isOwn_188 : decode cX7_isOwn 188 = .ok (.iload_n 2, 1) := by decide +kernel
theorem dX7_isOwn_189 : decode cX7_isOwn 189 = .ok (.ifCond .eq 51, 3) := by decide +kernel
theorem dX7_isOwn_192 : decode cX7_isOwn 192 = .ok (.iload 4, 2) := by decide +kernel
theorem dX7_isOwn_194 : decode cX7_isOwn 194 = .ok (.iconst 2, 1) := by decide +kernel
theorem dX7_isOwn_195 : decode cX7_isOwn 195 = .ok (.if_icmp .ge 45, 3) := by decide +kernel
theorem dX7_isOwn_198 : decode cX7_isOwn 198 = .ok (.iload 6, 2) := by decide +kernel
theorem dX7_isOwn_200 : decode cX7_isOwn 200 = .ok (.ifCond .eq 36, 3) := by decide +kernel
theorem dX7_isOwn_203 : decode cX7_isOwn 203 = .ok (.aload_n 0, 1) := by decide +kernel
theorem dX7_isOwn_204 : decode cX7_isOwn 204 = .ok (.iload_n 1, 1) := by decide +kernel
theorem dX7_isOwn_205 : decode cX7_isOwn 205 = .ok (.aload_n 0, 1) := by decide +kernel
theorem dX7_isOwn_206 : decode cX7_isOwn 206 = .ok (.getfield 68, 3) := by decide +kernel
theorem dX7_isOwn_209 : decode cX7_isOwn 209 = .ok (.invokevirtual 98, 3) := by decide +kernel
theorem dX7_isOwn_212 : decode cX7_isOwn 212 = .ok (.aload_n 0, 1) := by decide +kernel
theorem dX7_isOwn_213 : decode cX7_isOwn 213 = .ok (.getfield 78, 3) := by decide +kernel
theorem dX7_isOwn_216 : decode cX7_isOwn 216 = .ok (.invokestatic 123, 3) := by decide +kernel
theorem dX7_isOwn_219 : decode cX7_isOwn 219 = .ok (.aload_n 0, 1) := by decide +kernel
theorem dX7_isOwn_220 : decode cX7_isOwn 220 = .ok (.getfield 16, 3) := by decide +kernel
theorem dX7_isOwn_223 : decode cX7_isOwn 223 = .ok (.bipush 32, 2) := by decide +kernel
theorem dX7_isOwn_225 : decode cX7_isOwn 225 = .ok (.iload_n 1, 1) := by decide +kernel
theorem dX7_isOwn_226 : decode cX7_isOwn 226 = .ok (.imul, 1) := by decide +kernel
theorem dX7_isOwn_227 : decode cX7_isOwn 227 = .ok (.aload_n 0, 1) := by decide +kernel
theorem dX7_isOwn_228 : decode cX7_isOwn 228 = .ok (.getfield 68, 3) := by decide +kernel
theorem dX7_isOwn_231 : decode cX7_isOwn 231 = .ok (.iadd, 1) := by decide +kernel
theorem dX7_isOwn_232 : decode cX7_isOwn 232 = .ok (.iaload, 1) := by decide +kernel
theorem dX7_isOwn_233 : decode cX7_isOwn 233 = .ok (.if_icmp .eq 7, 3) := by decide +kernel
theorem dX7_isOwn_236 : decode cX7_isOwn 236 = .ok (.iconst 1, 1) := by decide +kernel
theorem dX7_isOwn_237 : decode cX7_isOwn 237 = .ok (.goto 4, 3) := by decide +kernel
theorem dX7_isOwn_240 : decode cX7_isOwn 240 = .ok (.iconst 0, 1) := by decide +kernel
theorem dX7_isOwn_241 : decode cX7_isOwn 241 = .ok (.istore_n 2, 1) := by decide +kernel
theorem dX7_isOwn_242 : decode cX7_isOwn 242 = .ok (.goto (-225), 3) := by decide +kernel
theorem dX7_isOwn_245 : decode cX7_isOwn 245 = .ok (.iload_n 2, 1) := by decide +kernel
theorem dX7_isOwn_246 : decode cX7_isOwn 246 = .ok (.ireturn, 1) := by decide +kernel
theorem dX7_isCanonical_0 : decode cX7_isCanonical 0 = .ok (.aload_n 0, 1) := by decide +kernel
theorem dX7_isCanonical_1 : decode cX7_isCanonical 1 = .ok (.aload_n 0, 1) := by decide +kernel
theorem dX7_isCanonical_2 : decode cX7_isCanonical 2 = .ok (.iload_n 1, 1) := by decide +kernel
theorem dX7_isCanonical_3 : decode cX7_isCanonical 3 = .ok (.invokevirtual 136, 3) := by decide +kernel
theorem dX7_isCanonical_6 : decode cX7_isCanonical 6 = .ok (.ifCond .eq 7, 3) := by decide +kernel
theorem dX7_isCanonical_9 : decode cX7_isCanonical 9 = .ok (.iconst 0, 1) := by decide +kernel
theorem dX7_isCanonical_10 : decode cX7_isCanonical 10 = .ok (.goto 4, 3) := by decide +kernel
theorem dX7_isCanonical_13 : decode cX7_isCanonical 13 = .ok (.iconst 1, 1) := by decide +kernel
theorem dX7_isCanonical_14 : decode cX7_isCanonical 14 = .ok (.putfield 44, 3) := by decide +kernel
theorem dX7_isCanonical_17 : decode cX7_isCanonical 17 = .ok (.aload_n 0, 1) := by decide +kernel
theorem dX7_isCanonical_18 : decode cX7_isCanonical 18 = .ok (.getfield 44, 3) := by decide +kernel
theorem dX7_isCanonical_21 : decode cX7_isCanonical 21 = .ok (.ifCond .ne 15, 3) := by decide +kernel
theorem dX7_isCanonical_24 : decode cX7_isCanonical 24 = .ok (.aload_n 0, 1) := by decide +kernel
theorem dX7_isCanonical_25 : decode cX7_isCanonical 25 = .ok (.iload_n 1, 1) := by decide +kernel
theorem dX7_isCanonical_26 : decode cX7_isCanonical 26 = .ok (.invokevirtual 207, 3) := by decide +kernel
theorem dX7_isCanonical_29 : decode cX7_isCanonical 29 = .ok (.ifCond .eq 7, 3) := by decide +kernel
theorem dX7_isCanonical_32 : decode cX7_isCanonical 32 = .ok (.iconst 1, 1) := by decide +kernel
theorem dX7_isCanonical_33 : decode cX7_isCanonical 33 = .ok (.goto 4, 3) := by decide +kernel
theorem dX7_isCanonical_36 : decode cX7_isCanonical 36 = .ok (.iconst 0, 1) := by decide +kernel
theorem dX7_isCanonical_37 : decode cX7_isCanonical 37 = .ok (.ireturn, 1) := by decide +kernel
theorem dJ7_fill_53178_0 : decode cJ7_fill_53178 0 = .ok (.iconst 0, 1) := by decide +kernel
theorem dJ7_fill_53178_1 : decode cJ7_fill_53178 1 = .ok (.istore_n 2, 1) := by decide +kernel
theorem dJ7_fill_53178_2 : decode cJ7_fill_53178 2 = .ok (.aload_n 0, 1) := by decide +kernel
theorem dJ7_fill_53178_3 : decode cJ7_fill_53178 3 = .ok (.arraylength, 1) := by decide +kernel
theorem dJ7_fill_53178_4 : decode cJ7_fill_53178 4 = .ok (.istore_n 3, 1) := by decide +kernel
theorem dJ7_fill_53178_5 : decode cJ7_fill_53178 5 = .ok (.iload_n 2, 1) := by decide +kernel
theorem dJ7_fill_53178_6 : decode cJ7_fill_53178 6 = .ok (.iload_n 3, 1) := by decide +kernel
theorem dJ7_fill_53178_7 : decode cJ7_fill_53178 7 = .ok (.if_icmp .ge 13, 3) := by decide +kernel
theorem dJ7_fill_53178_10 : decode cJ7_fill_53178 10 = .ok (.aload_n 0, 1) := by decide +kernel
theorem dJ7_fill_53178_11 : decode cJ7_fill_53178 11 = .ok (.iload_n 2, 1) := by decide +kernel
theorem dJ7_fill_53178_12 : decode cJ7_fill_53178 12 = .ok (.iload_n 1, 1) := by decide +kernel
theorem dJ7_fill_53178_13 : decode cJ7_fill_53178 13 = .ok (.iastore, 1) := by decide +kernel
theorem dJ7_fill_53178_14 : decode cJ7_fill_53178 14 = .ok (.iinc 2 1, 3) := by decide +kernel
theorem dJ7_fill_53178_17 : decode cJ7_fill_53178 17 = .ok (.goto (-12), 3) := by decide +kernel
theorem dJ7_fill_53178_20 : decode cJ7_fill_53178 20 = .ok (.return_, 1) := by decide +kernel
end
section
theorem dL_addSchema_0 : decode cL_addSchema 0 = .ok (.aload_n 1, 1) := by decide +kernel
theorem dL_addSchema_1 : decode cL_addSchema 1 = .ok (.iconst 0, 1) := by decide +kernel
theorem dL_addSchema_2 : decode cL_addSchema 2 = .ok (.aload_n 0, 1) := by decide +kernel
theorem dL_addSchema_3 : decode cL_addSchema 3 = .ok (.invokevirtual 7, 3) := by decide +kernel
theorem dL_addSchema_6 : decode cL_addSchema 6 = .ok (.i2l, 1) := by decide +kernel
theorem dL_addSchema_7 : decode cL_addSchema 7 = .ok (.lastore, 1) := by decide +kernel
theorem dL_addSchema_8 : decode cL_addSchema 8 = .ok (.goto 6, 3) := by decide +kernel
theorem dL_addSchema_11 : decode cL_addSchema 11 = .ok (.astore_n 2, 1) := by decide +kernel
theorem dL_addSchema_12 : decode cL_addSchema 12 = .ok (.iconst 1, 1) := by decide +kernel
theorem dL_addSchema_13 : decode cL_addSchema 13 = .ok (.ireturn, 1) := by decide +kernel
theorem dL_addSchema_14 : decode cL_addSchema 14 = .ok (.iconst 0, 1) := by decide +kernel
theorem dL_addSchema_15 : decode cL_addSchema 15 = .ok (.ireturn, 1) := by decide +kernel
theorem dL_setKind_0 : decode cL_setKind 0 = .ok (.aload 5, 2) := by decide +kernel
theorem dL_setKind_2 : decode cL_setKind 2 = .ok (.iconst 0, 1) := by decide +kernel
theorem dL_setKind_3 : decode cL_setKind 3 = .ok (.aload_n 0, 1) := by decide +kernel
theorem dL_setKind_4 : decode cL_setKind 4 = .ok (.iload_n 1, 1) := by decide +kernel
theorem dL_setKind_5 : decode cL_setKind 5 = .ok (.iload_n 2, 1) := by decide +kernel
theorem dL_setKind_6 : decode cL_setKind 6 = .ok (.iload_n 3, 1) := by decide +kernel
theorem dL_setKind_7 : decode cL_setKind 7 = .ok (.iload 4, 2) := by decide +kernel
theorem dL_setKind_9 : decode cL_setKind 9 = .ok (.invokevirtual 15, 3) := by decide +kernel
theorem dL_setKind_12 : decode cL_setKind 12 = .ok (.i2l, 1) := by decide +kernel
theorem dL_setKind_13 : decode cL_setKind 13 = .ok (.lastore, 1) := by decide +kernel
theorem dL_setKind_14 : decode cL_setKind 14 = .ok (.goto 11, 3) := by decide +kernel
theorem dL_setKind_17 : decode cL_setKind 17 = .ok (.astore 6, 2) := by decide +kernel
theorem dL_setKind_19 : decode cL_setKind 19 = .ok (.iconst 1, 1) := by decide +kernel
theorem dL_setKind_20 : decode cL_setKind 20 = .ok (.ireturn, 1) := by decide +kernel
theorem dL_setKind_21 : decode cL_setKind 21 = .ok (.astore 6, 2) := by decide +kernel
theorem dL_setKind_23 : decode cL_setKind 23 = .ok (.iconst 2, 1) := by decide +kernel
theorem dL_setKind_24 : decode cL_setKind 24 = .ok (.ireturn, 1) := by decide +kernel
theorem dL_setKind_25 : decode cL_setKind 25 = .ok (.iconst 0, 1) := by decide +kernel
theorem dL_setKind_26 : decode cL_setKind 26 = .ok (.ireturn, 1) := by decide +kernel
theorem dL_dropKind_0 : decode cL_dropKind 0 = .ok (.aload_n 3, 1) := by decide +kernel
theorem dL_dropKind_1 : decode cL_dropKind 1 = .ok (.iconst 0, 1) := by decide +kernel
theorem dL_dropKind_2 : decode cL_dropKind 2 = .ok (.aload_n 0, 1) := by decide +kernel
theorem dL_dropKind_3 : decode cL_dropKind 3 = .ok (.iload_n 1, 1) := by decide +kernel
theorem dL_dropKind_4 : decode cL_dropKind 4 = .ok (.iload_n 2, 1) := by decide +kernel
theorem dL_dropKind_5 : decode cL_dropKind 5 = .ok (.invokevirtual 23, 3) := by decide +kernel
theorem dL_dropKind_8 : decode cL_dropKind 8 = .ok (.i2l, 1) := by decide +kernel
theorem dL_dropKind_9 : decode cL_dropKind 9 = .ok (.lastore, 1) := by decide +kernel
theorem dL_dropKind_10 : decode cL_dropKind 10 = .ok (.goto 11, 3) := by decide +kernel
theorem dL_dropKind_13 : decode cL_dropKind 13 = .ok (.astore 4, 2) := by decide +kernel
theorem dL_dropKind_15 : decode cL_dropKind 15 = .ok (.iconst 1, 1) := by decide +kernel
theorem dL_dropKind_16 : decode cL_dropKind 16 = .ok (.ireturn, 1) := by decide +kernel
theorem dL_dropKind_17 : decode cL_dropKind 17 = .ok (.astore 4, 2) := by decide +kernel
theorem dL_dropKind_19 : decode cL_dropKind 19 = .ok (.iconst 2, 1) := by decide +kernel
theorem dL_dropKind_20 : decode cL_dropKind 20 = .ok (.ireturn, 1) := by decide +kernel
theorem dL_dropKind_21 : decode cL_dropKind 21 = .ok (.iconst 0, 1) := by decide +kernel
theorem dL_dropKind_22 : decode cL_dropKind 22 = .ok (.ireturn, 1) := by decide +kernel
theorem dL_setDefault_0 : decode cL_setDefault 0 = .ok (.aload 4, 2) := by decide +kernel
theorem dL_setDefault_2 : decode cL_setDefault 2 = .ok (.iconst 0, 1) := by decide +kernel
theorem dL_setDefault_3 : decode cL_setDefault 3 = .ok (.aload_n 0, 1) := by decide +kernel
theorem dL_setDefault_4 : decode cL_setDefault 4 = .ok (.iload_n 1, 1) := by decide +kernel
theorem dL_setDefault_5 : decode cL_setDefault 5 = .ok (.iload_n 2, 1) := by decide +kernel
theorem dL_setDefault_6 : decode cL_setDefault 6 = .ok (.iload_n 3, 1) := by decide +kernel
theorem dL_setDefault_7 : decode cL_setDefault 7 = .ok (.invokevirtual 27, 3) := by decide +kernel
theorem dL_setDefault_10 : decode cL_setDefault 10 = .ok (.i2l, 1) := by decide +kernel
theorem dL_setDefault_11 : decode cL_setDefault 11 = .ok (.lastore, 1) := by decide +kernel
theorem dL_setDefault_12 : decode cL_setDefault 12 = .ok (.goto 15, 3) := by decide +kernel
theorem dL_setDefault_15 : decode cL_setDefault 15 = .ok (.astore 5, 2) := by decide +kernel
theorem dL_setDefault_17 : decode cL_setDefault 17 = .ok (.iconst 1, 1) := by decide +kernel
theorem dL_setDefault_18 : decode cL_setDefault 18 = .ok (.ireturn, 1) := by decide +kernel
theorem dL_setDefault_19 : decode cL_setDefault 19 = .ok (.astore 5, 2) := by decide +kernel
theorem dL_setDefault_21 : decode cL_setDefault 21 = .ok (.iconst 2, 1) := by decide +kernel
theorem dL_setDefault_22 : decode cL_setDefault 22 = .ok (.ireturn, 1) := by decide +kernel
theorem dL_setDefault_23 : decode cL_setDefault 23 = .ok (.astore 5, 2) := by decide +kernel
theorem dL_setDefault_25 : decode cL_setDefault 25 = .ok (.iconst 3, 1) := by decide +kernel
theorem dL_setDefault_26 : decode cL_setDefault 26 = .ok (.ireturn, 1) := by decide +kernel
theorem dL_setDefault_27 : decode cL_setDefault 27 = .ok (.iconst 0, 1) := by decide +kernel
theorem dL_setDefault_28 : decode cL_setDefault 28 = .ok (.ireturn, 1) := by decide +kernel
theorem dL_kindOf_0 : decode cL_kindOf 0 = .ok (.aload_n 3, 1) := by decide +kernel
theorem dL_kindOf_1 : decode cL_kindOf 1 = .ok (.iconst 0, 1) := by decide +kernel
theorem dL_kindOf_2 : decode cL_kindOf 2 = .ok (.aload_n 0, 1) := by decide +kernel
theorem dL_kindOf_3 : decode cL_kindOf 3 = .ok (.iload_n 1, 1) := by decide +kernel
theorem dL_kindOf_4 : decode cL_kindOf 4 = .ok (.iload_n 2, 1) := by decide +kernel
theorem dL_kindOf_5 : decode cL_kindOf 5 = .ok (.invokevirtual 31, 3) := by decide +kernel
theorem dL_kindOf_8 : decode cL_kindOf 8 = .ok (.i2l, 1) := by decide +kernel
theorem dL_kindOf_9 : decode cL_kindOf 9 = .ok (.lastore, 1) := by decide +kernel
theorem dL_kindOf_10 : decode cL_kindOf 10 = .ok (.goto 11, 3) := by decide +kernel
theorem dL_kindOf_13 : decode cL_kindOf 13 = .ok (.astore 4, 2) := by decide +kernel
theorem dL_kindOf_15 : decode cL_kindOf 15 = .ok (.iconst 1, 1) := by decide +kernel
theorem dL_kindOf_16 : decode cL_kindOf 16 = .ok (.ireturn, 1) := by decide +kernel
theorem dL_kindOf_17 : decode cL_kindOf 17 = .ok (.astore 4, 2) := by decide +kernel
theorem dL_kindOf_19 : decode cL_kindOf 19 = .ok (.iconst 2, 1) := by decide +kernel
theorem dL_kindOf_20 : decode cL_kindOf 20 = .ok (.ireturn, 1) := by decide +kernel
theorem dL_kindOf_21 : decode cL_kindOf 21 = .ok (.iconst 0, 1) := by decide +kernel
theorem dL_kindOf_22 : decode cL_kindOf 22 = .ok (.ireturn, 1) := by decide +kernel
theorem dL_conflict_0 : decode cL_conflict 0 = .ok (.aload_n 3, 1) := by decide +kernel
theorem dL_conflict_1 : decode cL_conflict 1 = .ok (.iconst 0, 1) := by decide +kernel
theorem dL_conflict_2 : decode cL_conflict 2 = .ok (.aload_n 0, 1) := by decide +kernel
theorem dL_conflict_3 : decode cL_conflict 3 = .ok (.iload_n 1, 1) := by decide +kernel
theorem dL_conflict_4 : decode cL_conflict 4 = .ok (.iload_n 2, 1) := by decide +kernel
theorem dL_conflict_5 : decode cL_conflict 5 = .ok (.invokevirtual 34, 3) := by decide +kernel
theorem dL_conflict_8 : decode cL_conflict 8 = .ok (.i2l, 1) := by decide +kernel
theorem dL_conflict_9 : decode cL_conflict 9 = .ok (.lastore, 1) := by decide +kernel
theorem dL_conflict_10 : decode cL_conflict 10 = .ok (.goto 7, 3) := by decide +kernel
theorem dL_conflict_13 : decode cL_conflict 13 = .ok (.astore 4, 2) := by decide +kernel
theorem dL_conflict_15 : decode cL_conflict 15 = .ok (.iconst 1, 1) := by decide +kernel
theorem dL_conflict_16 : decode cL_conflict 16 = .ok (.ireturn, 1) := by decide +kernel
theorem dL_conflict_17 : decode cL_conflict 17 = .ok (.iconst 0, 1) := by decide +kernel
theorem dL_conflict_18 : decode cL_conflict 18 = .ok (.ireturn, 1) := by decide +kernel
theorem dL_create_0 : decode cL_create 0 = .ok (.aload_n 2, 1) := by decide +kernel
theorem dL_create_1 : decode cL_create 1 = .ok (.iconst 0, 1) := by decide +kernel
theorem dL_create_2 : decode cL_create 2 = .ok (.aload_n 0, 1) := by decide +kernel
theorem dL_create_3 : decode cL_create 3 = .ok (.iload_n 1, 1) := by decide +kernel
theorem dL_create_4 : decode cL_create 4 = .ok (.invokevirtual 37, 3) := by decide +kernel
theorem dL_create_7 : decode cL_create 7 = .ok (.i2l, 1) := by decide +kernel
theorem dL_create_8 : decode cL_create 8 = .ok (.lastore, 1) := by decide +kernel
theorem dL_create_9 : decode cL_create 9 = .ok (.goto 9, 3) := by decide +kernel
theorem dL_create_12 : decode cL_create 12 = .ok (.astore_n 3, 1) := by decide +kernel
theorem dL_create_13 : decode cL_create 13 = .ok (.iconst 1, 1) := by decide +kernel
theorem dL_create_14 : decode cL_create 14 = .ok (.ireturn, 1) := by decide +kernel
theorem dL_create_15 : decode cL_create 15 = .ok (.astore_n 3, 1) := by decide +kernel
theorem dL_create_16 : decode cL_create 16 = .ok (.iconst 2, 1) := by decide +kernel
theorem dL_create_17 : decode cL_create 17 = .ok (.ireturn, 1) := by decide +kernel
theorem dL_create_18 : decode cL_create 18 = .ok (.iconst 0, 1) := by decide +kernel
theorem dL_create_19 : decode cL_create 19 = .ok (.ireturn, 1) := by decide +kernel
theorem dL_copy_0 : decode cL_copy 0 = .ok (.aload_n 3, 1) := by decide +kernel
theorem dL_copy_1 : decode cL_copy 1 = .ok (.iconst 0, 1) := by decide +kernel
theorem dL_copy_2 : decode cL_copy 2 = .ok (.aload_n 0, 1) := by decide +kernel
theorem dL_copy_3 : decode cL_copy 3 = .ok (.iload_n 1, 1) := by decide +kernel
theorem dL_copy_4 : decode cL_copy 4 = .ok (.iload_n 2, 1) := by decide +kernel
theorem dL_copy_5 : decode cL_copy 5 = .ok (.invokevirtual 41, 3) := by decide +kernel
theorem dL_copy_8 : decode cL_copy 8 = .ok (.i2l, 1) := by decide +kernel
theorem dL_copy_9 : decode cL_copy 9 = .ok (.lastore, 1) := by decide +kernel
theorem dL_copy_10 : decode cL_copy 10 = .ok (.goto 11, 3) := by decide +kernel
theorem dL_copy_13 : decode cL_copy 13 = .ok (.astore 4, 2) := by decide +kernel
theorem dL_copy_15 : decode cL_copy 15 = .ok (.iconst 1, 1) := by decide +kernel
theorem dL_copy_16 : decode cL_copy 16 = .ok (.ireturn, 1) := by decide +kernel
theorem dL_copy_17 : decode cL_copy 17 = .ok (.astore 4, 2) := by decide +kernel
theorem dL_copy_19 : decode cL_copy 19 = .ok (.iconst 2, 1) := by decide +kernel
theorem dL_copy_20 : decode cL_copy 20 = .ok (.ireturn, 1) := by decide +kernel
theorem dL_copy_21 : decode cL_copy 21 = .ok (.iconst 0, 1) := by decide +kernel
theorem dL_copy_22 : decode cL_copy 22 = .ok (.ireturn, 1) := by decide +kernel
theorem dL_discard_0 : decode cL_discard 0 = .ok (.aload_n 2, 1) := by decide +kernel
theorem dL_discard_1 : decode cL_discard 1 = .ok (.iconst 0, 1) := by decide +kernel
theorem dL_discard_2 : decode cL_discard 2 = .ok (.aload_n 0, 1) := by decide +kernel
theorem dL_discard_3 : decode cL_discard 3 = .ok (.iload_n 1, 1) := by decide +kernel
theorem dL_discard_4 : decode cL_discard 4 = .ok (.invokevirtual 44, 3) := by decide +kernel
theorem dL_discard_7 : decode cL_discard 7 = .ok (.i2l, 1) := by decide +kernel
theorem dL_discard_8 : decode cL_discard 8 = .ok (.lastore, 1) := by decide +kernel
theorem dL_discard_9 : decode cL_discard 9 = .ok (.goto 6, 3) := by decide +kernel
theorem dL_discard_12 : decode cL_discard 12 = .ok (.astore_n 3, 1) := by decide +kernel
theorem dL_discard_13 : decode cL_discard 13 = .ok (.iconst 1, 1) := by decide +kernel
theorem dL_discard_14 : decode cL_discard 14 = .ok (.ireturn, 1) := by decide +kernel
theorem dL_discard_15 : decode cL_discard 15 = .ok (.iconst 0, 1) := by decide +kernel
theorem dL_discard_16 : decode cL_discard 16 = .ok (.ireturn, 1) := by decide +kernel
theorem dL_set_0 : decode cL_set 0 = .ok (.aload_n 0, 1) := by decide +kernel
theorem dL_set_1 : decode cL_set 1 = .ok (.iload_n 1, 1) := by decide +kernel
theorem dL_set_2 : decode cL_set 2 = .ok (.iload_n 2, 1) := by decide +kernel
theorem dL_set_3 : decode cL_set 3 = .ok (.iload_n 3, 1) := by decide +kernel
theorem dL_set_4 : decode cL_set 4 = .ok (.invokevirtual 47, 3) := by decide +kernel
theorem dL_set_7 : decode cL_set 7 = .ok (.goto 15, 3) := by decide +kernel
theorem dL_set_10 : decode cL_set 10 = .ok (.astore 4, 2) := by decide +kernel
theorem dL_set_12 : decode cL_set 12 = .ok (.iconst 1, 1) := by decide +kernel
theorem dL_set_13 : decode cL_set 13 = .ok (.ireturn, 1) := by decide +kernel
theorem dL_set_14 : decode cL_set 14 = .ok (.astore 4, 2) := by decide +kernel
theorem dL_set_16 : decode cL_set 16 = .ok (.iconst 2, 1) := by decide +kernel
theorem dL_set_17 : decode cL_set 17 = .ok (.ireturn, 1) := by decide +kernel
theorem dL_set_18 : decode cL_set 18 = .ok (.astore 4, 2) := by decide +kernel
theorem dL_set_20 : decode cL_set 20 = .ok (.iconst 3, 1) := by decide +kernel
theorem dL_set_21 : decode cL_set 21 = .ok (.ireturn, 1) := by decide +kernel
theorem dL_set_22 : decode cL_set 22 = .ok (.iconst 0, 1) := by decide +kernel
theorem dL_set_23 : decode cL_set 23 = .ok (.ireturn, 1) := by decide +kernel
theorem dL_append_0 : decode cL_append 0 = .ok (.aload 4, 2) := by decide +kernel
theorem dL_append_2 : decode cL_append 2 = .ok (.iconst 0, 1) := by decide +kernel
theorem dL_append_3 : decode cL_append 3 = .ok (.aload_n 0, 1) := by decide +kernel
theorem dL_append_4 : decode cL_append 4 = .ok (.iload_n 1, 1) := by decide +kernel
theorem dL_append_5 : decode cL_append 5 = .ok (.iload_n 2, 1) := by decide +kernel
theorem dL_append_6 : decode cL_append 6 = .ok (.iload_n 3, 1) := by decide +kernel
theorem dL_append_7 : decode cL_append 7 = .ok (.invokevirtual 51, 3) := by decide +kernel
theorem dL_append_10 : decode cL_append 10 = .ok (.i2l, 1) := by decide +kernel
theorem dL_append_11 : decode cL_append 11 = .ok (.lastore, 1) := by decide +kernel
theorem dL_append_12 : decode cL_append 12 = .ok (.goto 15, 3) := by decide +kernel
theorem dL_append_15 : decode cL_append 15 = .ok (.astore 5, 2) := by decide +kernel
theorem dL_append_17 : decode cL_append 17 = .ok (.iconst 1, 1) := by decide +kernel
theorem dL_append_18 : decode cL_append 18 = .ok (.ireturn, 1) := by decide +kernel
theorem dL_append_19 : decode cL_append 19 = .ok (.astore 5, 2) := by decide +kernel
theorem dL_append_21 : decode cL_append 21 = .ok (.iconst 2, 1) := by decide +kernel
theorem dL_append_22 : decode cL_append 22 = .ok (.ireturn, 1) := by decide +kernel
theorem dL_append_23 : decode cL_append 23 = .ok (.astore 5, 2) := by decide +kernel
theorem dL_append_25 : decode cL_append 25 = .ok (.iconst 3, 1) := by decide +kernel
theorem dL_append_26 : decode cL_append 26 = .ok (.ireturn, 1) := by decide +kernel
theorem dL_append_27 : decode cL_append 27 = .ok (.iconst 0, 1) := by decide +kernel
theorem dL_append_28 : decode cL_append 28 = .ok (.ireturn, 1) := by decide +kernel
theorem dL_setPart_0 : decode cL_setPart 0 = .ok (.aload 4, 2) := by decide +kernel
theorem dL_setPart_2 : decode cL_setPart 2 = .ok (.iconst 0, 1) := by decide +kernel
theorem dL_setPart_3 : decode cL_setPart 3 = .ok (.aload_n 0, 1) := by decide +kernel
theorem dL_setPart_4 : decode cL_setPart 4 = .ok (.iload_n 1, 1) := by decide +kernel
theorem dL_setPart_5 : decode cL_setPart 5 = .ok (.iload_n 2, 1) := by decide +kernel
theorem dL_setPart_6 : decode cL_setPart 6 = .ok (.iload_n 3, 1) := by decide +kernel
theorem dL_setPart_7 : decode cL_setPart 7 = .ok (.invokevirtual 55, 3) := by decide +kernel
theorem dL_setPart_10 : decode cL_setPart 10 = .ok (.i2l, 1) := by decide +kernel
theorem dL_setPart_11 : decode cL_setPart 11 = .ok (.lastore, 1) := by decide +kernel
theorem dL_setPart_12 : decode cL_setPart 12 = .ok (.goto 15, 3) := by decide +kernel
theorem dL_setPart_15 : decode cL_setPart 15 = .ok (.astore 5, 2) := by decide +kernel
theorem dL_setPart_17 : decode cL_setPart 17 = .ok (.iconst 1, 1) := by decide +kernel
theorem dL_setPart_18 : decode cL_setPart 18 = .ok (.ireturn, 1) := by decide +kernel
theorem dL_setPart_19 : decode cL_setPart 19 = .ok (.astore 5, 2) := by decide +kernel
theorem dL_setPart_21 : decode cL_setPart 21 = .ok (.iconst 2, 1) := by decide +kernel
theorem dL_setPart_22 : decode cL_setPart 22 = .ok (.ireturn, 1) := by decide +kernel
theorem dL_setPart_23 : decode cL_setPart 23 = .ok (.astore 5, 2) := by decide +kernel
theorem dL_setPart_25 : decode cL_setPart 25 = .ok (.iconst 3, 1) := by decide +kernel
theorem dL_setPart_26 : decode cL_setPart 26 = .ok (.ireturn, 1) := by decide +kernel
theorem dL_setPart_27 : decode cL_setPart 27 = .ok (.iconst 0, 1) := by decide +kernel
theorem dL_setPart_28 : decode cL_setPart 28 = .ok (.ireturn, 1) := by decide +kernel
theorem dL_clear_0 : decode cL_clear 0 = .ok (.aload_n 3, 1) := by decide +kernel
theorem dL_clear_1 : decode cL_clear 1 = .ok (.iconst 0, 1) := by decide +kernel
theorem dL_clear_2 : decode cL_clear 2 = .ok (.aload_n 0, 1) := by decide +kernel
theorem dL_clear_3 : decode cL_clear 3 = .ok (.iload_n 1, 1) := by decide +kernel
theorem dL_clear_4 : decode cL_clear 4 = .ok (.iload_n 2, 1) := by decide +kernel
theorem dL_clear_5 : decode cL_clear 5 = .ok (.invokevirtual 58, 3) := by decide +kernel
theorem dL_clear_8 : decode cL_clear 8 = .ok (.i2l, 1) := by decide +kernel
theorem dL_clear_9 : decode cL_clear 9 = .ok (.lastore, 1) := by decide +kernel
theorem dL_clear_10 : decode cL_clear 10 = .ok (.goto 11, 3) := by decide +kernel
theorem dL_clear_13 : decode cL_clear 13 = .ok (.astore 4, 2) := by decide +kernel
theorem dL_clear_15 : decode cL_clear 15 = .ok (.iconst 1, 1) := by decide +kernel
theorem dL_clear_16 : decode cL_clear 16 = .ok (.ireturn, 1) := by decide +kernel
theorem dL_clear_17 : decode cL_clear 17 = .ok (.astore 4, 2) := by decide +kernel
theorem dL_clear_19 : decode cL_clear 19 = .ok (.iconst 2, 1) := by decide +kernel
theorem dL_clear_20 : decode cL_clear 20 = .ok (.ireturn, 1) := by decide +kernel
theorem dL_clear_21 : decode cL_clear 21 = .ok (.iconst 0, 1) := by decide +kernel
theorem dL_clear_22 : decode cL_clear 22 = .ok (.ireturn, 1) := by decide +kernel
theorem dL_schemaOf_0 : decode cL_schemaOf 0 = .ok (.aload_n 2, 1) := by decide +kernel
theorem dL_schemaOf_1 : decode cL_schemaOf 1 = .ok (.iconst 0, 1) := by decide +kernel
theorem dL_schemaOf_2 : decode cL_schemaOf 2 = .ok (.aload_n 0, 1) := by decide +kernel
theorem dL_schemaOf_3 : decode cL_schemaOf 3 = .ok (.iload_n 1, 1) := by decide +kernel
theorem dL_schemaOf_4 : decode cL_schemaOf 4 = .ok (.invokevirtual 61, 3) := by decide +kernel
theorem dL_schemaOf_7 : decode cL_schemaOf 7 = .ok (.i2l, 1) := by decide +kernel
theorem dL_schemaOf_8 : decode cL_schemaOf 8 = .ok (.lastore, 1) := by decide +kernel
theorem dL_schemaOf_9 : decode cL_schemaOf 9 = .ok (.goto 6, 3) := by decide +kernel
theorem dL_schemaOf_12 : decode cL_schemaOf 12 = .ok (.astore_n 3, 1) := by decide +kernel
theorem dL_schemaOf_13 : decode cL_schemaOf 13 = .ok (.iconst 1, 1) := by decide +kernel
theorem dL_schemaOf_14 : decode cL_schemaOf 14 = .ok (.ireturn, 1) := by decide +kernel
theorem dL_schemaOf_15 : decode cL_schemaOf 15 = .ok (.iconst 0, 1) := by decide +kernel
theorem dL_schemaOf_16 : decode cL_schemaOf 16 = .ok (.ireturn, 1) := by decide +kernel
theorem dL_has_0 : decode cL_has 0 = .ok (.aload_n 3, 1) := by decide +kernel
theorem dL_has_1 : decode cL_has 1 = .ok (.iconst 0, 1) := by decide +kernel
theorem dL_has_2 : decode cL_has 2 = .ok (.aload_n 0, 1) := by decide +kernel
theorem dL_has_3 : decode cL_has 3 = .ok (.iload_n 1, 1) := by decide +kernel
theorem dL_has_4 : decode cL_has 4 = .ok (.iload_n 2, 1) := by decide +kernel
theorem dL_has_5 : decode cL_has 5 = .ok (.invokevirtual 64, 3) := by decide +kernel
theorem dL_has_8 : decode cL_has 8 = .ok (.ifCond .eq 7, 3) := by decide +kernel
theorem dL_has_11 : decode cL_has 11 = .ok (.lconst 1, 1) := by decide +kernel
theorem dL_has_12 : decode cL_has 12 = .ok (.goto 4, 3) := by decide +kernel
theorem dL_has_15 : decode cL_has 15 = .ok (.lconst 0, 1) := by decide +kernel
theorem dL_has_16 : decode cL_has 16 = .ok (.lastore, 1) := by decide +kernel
theorem dL_has_17 : decode cL_has 17 = .ok (.goto 11, 3) := by decide +kernel
theorem dL_has_20 : decode cL_has 20 = .ok (.astore 4, 2) := by decide +kernel
theorem dL_has_22 : decode cL_has 22 = .ok (.iconst 1, 1) := by decide +kernel
theorem dL_has_23 : decode cL_has 23 = .ok (.ireturn, 1) := by decide +kernel
theorem dL_has_24 : decode cL_has 24 = .ok (.astore 4, 2) := by decide +kernel
theorem dL_has_26 : decode cL_has 26 = .ok (.iconst 2, 1) := by decide +kernel
theorem dL_has_27 : decode cL_has 27 = .ok (.ireturn, 1) := by decide +kernel
theorem dL_has_28 : decode cL_has 28 = .ok (.iconst 0, 1) := by decide +kernel
theorem dL_has_29 : decode cL_has 29 = .ok (.ireturn, 1) := by decide +kernel
theorem dL_get_0 : decode cL_get 0 = .ok (.aload_n 3, 1) := by decide +kernel
theorem dL_get_1 : decode cL_get 1 = .ok (.iconst 0, 1) := by decide +kernel
theorem dL_get_2 : decode cL_get 2 = .ok (.aload_n 0, 1) := by decide +kernel
theorem dL_get_3 : decode cL_get 3 = .ok (.iload_n 1, 1) := by decide +kernel
theorem dL_get_4 : decode cL_get 4 = .ok (.iload_n 2, 1) := by decide +kernel
theorem dL_get_5 : decode cL_get 5 = .ok (.invokevirtual 68, 3) := by decide +kernel
theorem dL_get_8 : decode cL_get 8 = .ok (.i2l, 1) := by decide +kernel
theorem dL_get_9 : decode cL_get 9 = .ok (.lastore, 1) := by decide +kernel
theorem dL_get_10 : decode cL_get 10 = .ok (.goto 11, 3) := by decide +kernel
theorem dL_get_13 : decode cL_get 13 = .ok (.astore 4, 2) := by decide +kernel
theorem dL_get_15 : decode cL_get 15 = .ok (.iconst 1, 1) := by decide +kernel
theorem dL_get_16 : decode cL_get 16 = .ok (.ireturn, 1) := by decide +kernel
theorem dL_get_17 : decode cL_get 17 = .ok (.astore 4, 2) := by decide +kernel
theorem dL_get_19 : decode cL_get 19 = .ok (.iconst 2, 1) := by decide +kernel
theorem dL_get_20 : decode cL_get 20 = .ok (.ireturn, 1) := by decide +kernel
theorem dL_get_21 : decode cL_get 21 = .ok (.iconst 0, 1) := by decide +kernel
theorem dL_get_22 : decode cL_get 22 = .ok (.ireturn, 1) := by decide +kernel
theorem dL_byteOf_0 : decode cL_byteOf 0 = .ok (.aload 4, 2) := by decide +kernel
theorem dL_byteOf_2 : decode cL_byteOf 2 = .ok (.iconst 0, 1) := by decide +kernel
theorem dL_byteOf_3 : decode cL_byteOf 3 = .ok (.aload_n 0, 1) := by decide +kernel
theorem dL_byteOf_4 : decode cL_byteOf 4 = .ok (.iload_n 1, 1) := by decide +kernel
theorem dL_byteOf_5 : decode cL_byteOf 5 = .ok (.iload_n 2, 1) := by decide +kernel
theorem dL_byteOf_6 : decode cL_byteOf 6 = .ok (.iload_n 3, 1) := by decide +kernel
theorem dL_byteOf_7 : decode cL_byteOf 7 = .ok (.invokevirtual 71, 3) := by decide +kernel
theorem dL_byteOf_10 : decode cL_byteOf 10 = .ok (.i2l, 1) := by decide +kernel
theorem dL_byteOf_11 : decode cL_byteOf 11 = .ok (.lastore, 1) := by decide +kernel
theorem dL_byteOf_12 : decode cL_byteOf 12 = .ok (.goto 15, 3) := by decide +kernel
theorem dL_byteOf_15 : decode cL_byteOf 15 = .ok (.astore 5, 2) := by decide +kernel
theorem dL_byteOf_17 : decode cL_byteOf 17 = .ok (.iconst 1, 1) := by decide +kernel
theorem dL_byteOf_18 : decode cL_byteOf 18 = .ok (.ireturn, 1) := by decide +kernel
theorem dL_byteOf_19 : decode cL_byteOf 19 = .ok (.astore 5, 2) := by decide +kernel
theorem dL_byteOf_21 : decode cL_byteOf 21 = .ok (.iconst 2, 1) := by decide +kernel
theorem dL_byteOf_22 : decode cL_byteOf 22 = .ok (.ireturn, 1) := by decide +kernel
theorem dL_byteOf_23 : decode cL_byteOf 23 = .ok (.astore 5, 2) := by decide +kernel
theorem dL_byteOf_25 : decode cL_byteOf 25 = .ok (.iconst 3, 1) := by decide +kernel
theorem dL_byteOf_26 : decode cL_byteOf 26 = .ok (.ireturn, 1) := by decide +kernel
theorem dL_byteOf_27 : decode cL_byteOf 27 = .ok (.iconst 0, 1) := by decide +kernel
theorem dL_byteOf_28 : decode cL_byteOf 28 = .ok (.ireturn, 1) := by decide +kernel
theorem dL_open_0 : decode cL_open 0 = .ok (.aload_n 3, 1) := by decide +kernel
theorem dL_open_1 : decode cL_open 1 = .ok (.iconst 0, 1) := by decide +kernel
theorem dL_open_2 : decode cL_open 2 = .ok (.aload_n 0, 1) := by decide +kernel
theorem dL_open_3 : decode cL_open 3 = .ok (.iload_n 1, 1) := by decide +kernel
theorem dL_open_4 : decode cL_open 4 = .ok (.iload_n 2, 1) := by decide +kernel
theorem dL_open_5 : decode cL_open 5 = .ok (.invokevirtual 77, 3) := by decide +kernel
theorem dL_open_8 : decode cL_open 8 = .ok (.i2l, 1) := by decide +kernel
theorem dL_open_9 : decode cL_open 9 = .ok (.lastore, 1) := by decide +kernel
theorem dL_open_10 : decode cL_open 10 = .ok (.goto 19, 3) := by decide +kernel
theorem dL_open_13 : decode cL_open 13 = .ok (.astore 4, 2) := by decide +kernel
theorem dL_open_15 : decode cL_open 15 = .ok (.iconst 1, 1) := by decide +kernel
theorem dL_open_16 : decode cL_open 16 = .ok (.ireturn, 1) := by decide +kernel
theorem dL_open_17 : decode cL_open 17 = .ok (.astore 4, 2) := by decide +kernel
theorem dL_open_19 : decode cL_open 19 = .ok (.iconst 2, 1) := by decide +kernel
theorem dL_open_20 : decode cL_open 20 = .ok (.ireturn, 1) := by decide +kernel
theorem dL_open_21 : decode cL_open 21 = .ok (.astore 4, 2) := by decide +kernel
theorem dL_open_23 : decode cL_open 23 = .ok (.iconst 3, 1) := by decide +kernel
theorem dL_open_24 : decode cL_open 24 = .ok (.ireturn, 1) := by decide +kernel
theorem dL_open_25 : decode cL_open 25 = .ok (.astore 4, 2) := by decide +kernel
theorem dL_open_27 : decode cL_open 27 = .ok (.iconst 4, 1) := by decide +kernel
theorem dL_open_28 : decode cL_open 28 = .ok (.ireturn, 1) := by decide +kernel
theorem dL_open_29 : decode cL_open 29 = .ok (.iconst 0, 1) := by decide +kernel
theorem dL_open_30 : decode cL_open 30 = .ok (.ireturn, 1) := by decide +kernel
theorem dL_unknowns_0 : decode cL_unknowns 0 = .ok (.aload_n 2, 1) := by decide +kernel
theorem dL_unknowns_1 : decode cL_unknowns 1 = .ok (.iconst 0, 1) := by decide +kernel
theorem dL_unknowns_2 : decode cL_unknowns 2 = .ok (.aload_n 0, 1) := by decide +kernel
theorem dL_unknowns_3 : decode cL_unknowns 3 = .ok (.iload_n 1, 1) := by decide +kernel
theorem dL_unknowns_4 : decode cL_unknowns 4 = .ok (.invokevirtual 80, 3) := by decide +kernel
theorem dL_unknowns_7 : decode cL_unknowns 7 = .ok (.i2l, 1) := by decide +kernel
theorem dL_unknowns_8 : decode cL_unknowns 8 = .ok (.lastore, 1) := by decide +kernel
theorem dL_unknowns_9 : decode cL_unknowns 9 = .ok (.goto 6, 3) := by decide +kernel
theorem dL_unknowns_12 : decode cL_unknowns 12 = .ok (.astore_n 3, 1) := by decide +kernel
theorem dL_unknowns_13 : decode cL_unknowns 13 = .ok (.iconst 1, 1) := by decide +kernel
theorem dL_unknowns_14 : decode cL_unknowns 14 = .ok (.ireturn, 1) := by decide +kernel
theorem dL_unknowns_15 : decode cL_unknowns 15 = .ok (.iconst 0, 1) := by decide +kernel
theorem dL_unknowns_16 : decode cL_unknowns 16 = .ok (.ireturn, 1) := by decide +kernel
theorem dL_unknownTag_0 : decode cL_unknownTag 0 = .ok (.aload_n 3, 1) := by decide +kernel
theorem dL_unknownTag_1 : decode cL_unknownTag 1 = .ok (.iconst 0, 1) := by decide +kernel
theorem dL_unknownTag_2 : decode cL_unknownTag 2 = .ok (.aload_n 0, 1) := by decide +kernel
theorem dL_unknownTag_3 : decode cL_unknownTag 3 = .ok (.iload_n 1, 1) := by decide +kernel
theorem dL_unknownTag_4 : decode cL_unknownTag 4 = .ok (.iload_n 2, 1) := by decide +kernel
theorem dL_unknownTag_5 : decode cL_unknownTag 5 = .ok (.invokevirtual 83, 3) := by decide +kernel
theorem dL_unknownTag_8 : decode cL_unknownTag 8 = .ok (.i2l, 1) := by decide +kernel
theorem dL_unknownTag_9 : decode cL_unknownTag 9 = .ok (.lastore, 1) := by decide +kernel
theorem dL_unknownTag_10 : decode cL_unknownTag 10 = .ok (.goto 7, 3) := by decide +kernel
theorem dL_unknownTag_13 : decode cL_unknownTag 13 = .ok (.astore 4, 2) := by decide +kernel
theorem dL_unknownTag_15 : decode cL_unknownTag 15 = .ok (.iconst 1, 1) := by decide +kernel
theorem dL_unknownTag_16 : decode cL_unknownTag 16 = .ok (.ireturn, 1) := by decide +kernel
theorem dL_unknownTag_17 : decode cL_unknownTag 17 = .ok (.iconst 0, 1) := by decide +kernel
theorem dL_unknownTag_18 : decode cL_unknownTag 18 = .ok (.ireturn, 1) := by decide +kernel
theorem dL_weight_0 : decode cL_weight 0 = .ok (.aload_n 2, 1) := by decide +kernel
theorem dL_weight_1 : decode cL_weight 1 = .ok (.iconst 0, 1) := by decide +kernel
theorem dL_weight_2 : decode cL_weight 2 = .ok (.aload_n 0, 1) := by decide +kernel
theorem dL_weight_3 : decode cL_weight 3 = .ok (.iload_n 1, 1) := by decide +kernel
theorem dL_weight_4 : decode cL_weight 4 = .ok (.invokevirtual 86, 3) := by decide +kernel
theorem dL_weight_7 : decode cL_weight 7 = .ok (.i2l, 1) := by decide +kernel
theorem dL_weight_8 : decode cL_weight 8 = .ok (.lastore, 1) := by decide +kernel
theorem dL_weight_9 : decode cL_weight 9 = .ok (.goto 6, 3) := by decide +kernel
theorem dL_weight_12 : decode cL_weight 12 = .ok (.astore_n 3, 1) := by decide +kernel
theorem dL_weight_13 : decode cL_weight 13 = .ok (.iconst 1, 1) := by decide +kernel
theorem dL_weight_14 : decode cL_weight 14 = .ok (.ireturn, 1) := by decide +kernel
theorem dL_weight_15 : decode cL_weight 15 = .ok (.iconst 0, 1) := by decide +kernel
theorem dL_weight_16 : decode cL_weight 16 = .ok (.ireturn, 1) := by decide +kernel
theorem dL_areSame_0 : decode cL_areSame 0 = .ok (.aload_n 3, 1) := by decide +kernel
theorem dL_areSame_1 : decode cL_areSame 1 = .ok (.iconst 0, 1) := by decide +kernel
theorem dL_areSame_2 : decode cL_areSame 2 = .ok (.aload_n 0, 1) := by decide +kernel
theorem dL_areSame_3 : decode cL_areSame 3 = .ok (.iload_n 1, 1) := by decide +kernel
theorem dL_areSame_4 : decode cL_areSame 4 = .ok (.iload_n 2, 1) := by decide +kernel
theorem dL_areSame_5 : decode cL_areSame 5 = .ok (.invokevirtual 89, 3) := by decide +kernel
theorem dL_areSame_8 : decode cL_areSame 8 = .ok (.ifCond .eq 7, 3) := by decide +kernel
theorem dL_areSame_11 : decode cL_areSame 11 = .ok (.lconst 1, 1) := by decide +kernel
theorem dL_areSame_12 : decode cL_areSame 12 = .ok (.goto 4, 3) := by decide +kernel
theorem dL_areSame_15 : decode cL_areSame 15 = .ok (.lconst 0, 1) := by decide +kernel
theorem dL_areSame_16 : decode cL_areSame 16 = .ok (.lastore, 1) := by decide +kernel
theorem dL_areSame_17 : decode cL_areSame 17 = .ok (.goto 7, 3) := by decide +kernel
theorem dL_areSame_20 : decode cL_areSame 20 = .ok (.astore 4, 2) := by decide +kernel
theorem dL_areSame_22 : decode cL_areSame 22 = .ok (.iconst 1, 1) := by decide +kernel
theorem dL_areSame_23 : decode cL_areSame 23 = .ok (.ireturn, 1) := by decide +kernel
theorem dL_areSame_24 : decode cL_areSame 24 = .ok (.iconst 0, 1) := by decide +kernel
theorem dL_areSame_25 : decode cL_areSame 25 = .ok (.ireturn, 1) := by decide +kernel
theorem dL_areSameByBytes_0 : decode cL_areSameByBytes 0 = .ok (.aload_n 3, 1) := by decide +kernel
theorem dL_areSameByBytes_1 : decode cL_areSameByBytes 1 = .ok (.iconst 0, 1) := by decide +kernel
theorem dL_areSameByBytes_2 : decode cL_areSameByBytes 2 = .ok (.aload_n 0, 1) := by decide +kernel
theorem dL_areSameByBytes_3 : decode cL_areSameByBytes 3 = .ok (.iload_n 1, 1) := by decide +kernel
theorem dL_areSameByBytes_4 : decode cL_areSameByBytes 4 = .ok (.iload_n 2, 1) := by decide +kernel
theorem dL_areSameByBytes_5 : decode cL_areSameByBytes 5 = .ok (.invokevirtual 92, 3) := by decide +kernel
theorem dL_areSameByBytes_8 : decode cL_areSameByBytes 8 = .ok (.ifCond .eq 7, 3) := by decide +kernel
theorem dL_areSameByBytes_11 : decode cL_areSameByBytes 11 = .ok (.lconst 1, 1) := by decide +kernel
theorem dL_areSameByBytes_12 : decode cL_areSameByBytes 12 = .ok (.goto 4, 3) := by decide +kernel
theorem dL_areSameByBytes_15 : decode cL_areSameByBytes 15 = .ok (.lconst 0, 1) := by decide +kernel
theorem dL_areSameByBytes_16 : decode cL_areSameByBytes 16 = .ok (.lastore, 1) := by decide +kernel
theorem dL_areSameByBytes_17 : decode cL_areSameByBytes 17 = .ok (.goto 7, 3) := by decide +kernel
theorem dL_areSameByBytes_20 : decode cL_areSameByBytes 20 = .ok (.astore 4, 2) := by decide +kernel
theorem dL_areSameByBytes_22 : decode cL_areSameByBytes 22 = .ok (.iconst 1, 1) := by decide +kernel
theorem dL_areSameByBytes_23 : decode cL_areSameByBytes 23 = .ok (.ireturn, 1) := by decide +kernel
theorem dL_areSameByBytes_24 : decode cL_areSameByBytes 24 = .ok (.iconst 0, 1) := by decide +kernel
theorem dL_areSameByBytes_25 : decode cL_areSameByBytes 25 = .ok (.ireturn, 1) := by decide +kernel
theorem dL_write_0 : decode cL_write 0 = .ok (.aload_n 2, 1) := by decide +kernel
theorem dL_write_1 : decode cL_write 1 = .ok (.iconst 0, 1) := by decide +kernel
theorem dL_write_2 : decode cL_write 2 = .ok (.aload_n 0, 1) := by decide +kernel
theorem dL_write_3 : decode cL_write 3 = .ok (.iload_n 1, 1) := by decide +kernel
theorem dL_write_4 : decode cL_write 4 = .ok (.invokevirtual 95, 3) := by decide +kernel
theorem dL_write_7 : decode cL_write 7 = .ok (.i2l, 1) := by decide +kernel
theorem dL_write_8 : decode cL_write 8 = .ok (.lastore, 1) := by decide +kernel
theorem dL_write_9 : decode cL_write 9 = .ok (.goto 6, 3) := by decide +kernel
theorem dL_write_12 : decode cL_write 12 = .ok (.astore_n 3, 1) := by decide +kernel
theorem dL_write_13 : decode cL_write 13 = .ok (.iconst 1, 1) := by decide +kernel
theorem dL_write_14 : decode cL_write 14 = .ok (.ireturn, 1) := by decide +kernel
theorem dL_write_15 : decode cL_write 15 = .ok (.iconst 0, 1) := by decide +kernel
theorem dL_write_16 : decode cL_write 16 = .ok (.ireturn, 1) := by decide +kernel
theorem dL_put_0 : decode cL_put 0 = .ok (.aload_n 2, 1) := by decide +kernel
theorem dL_put_1 : decode cL_put 1 = .ok (.iconst 0, 1) := by decide +kernel
theorem dL_put_2 : decode cL_put 2 = .ok (.aload_n 0, 1) := by decide +kernel
theorem dL_put_3 : decode cL_put 3 = .ok (.iload_n 1, 1) := by decide +kernel
theorem dL_put_4 : decode cL_put 4 = .ok (.invokevirtual 98, 3) := by decide +kernel
theorem dL_put_7 : decode cL_put 7 = .ok (.i2l, 1) := by decide +kernel
theorem dL_put_8 : decode cL_put 8 = .ok (.lastore, 1) := by decide +kernel
theorem dL_put_9 : decode cL_put 9 = .ok (.goto 6, 3) := by decide +kernel
theorem dL_put_12 : decode cL_put 12 = .ok (.astore_n 3, 1) := by decide +kernel
theorem dL_put_13 : decode cL_put 13 = .ok (.iconst 1, 1) := by decide +kernel
theorem dL_put_14 : decode cL_put 14 = .ok (.ireturn, 1) := by decide +kernel
theorem dL_put_15 : decode cL_put 15 = .ok (.iconst 0, 1) := by decide +kernel
theorem dL_put_16 : decode cL_put 16 = .ok (.ireturn, 1) := by decide +kernel
theorem dL_cut_0 : decode cL_cut 0 = .ok (.aload_n 2, 1) := by decide +kernel
theorem dL_cut_1 : decode cL_cut 1 = .ok (.iconst 0, 1) := by decide +kernel
theorem dL_cut_2 : decode cL_cut 2 = .ok (.aload_n 0, 1) := by decide +kernel
theorem dL_cut_3 : decode cL_cut 3 = .ok (.iload_n 1, 1) := by decide +kernel
theorem dL_cut_4 : decode cL_cut 4 = .ok (.invokevirtual 102, 3) := by decide +kernel
theorem dL_cut_7 : decode cL_cut 7 = .ok (.i2l, 1) := by decide +kernel
theorem dL_cut_8 : decode cL_cut 8 = .ok (.lastore, 1) := by decide +kernel
theorem dL_cut_9 : decode cL_cut 9 = .ok (.goto 6, 3) := by decide +kernel
theorem dL_cut_12 : decode cL_cut 12 = .ok (.astore_n 3, 1) := by decide +kernel
theorem dL_cut_13 : decode cL_cut 13 = .ok (.iconst 1, 1) := by decide +kernel
theorem dL_cut_14 : decode cL_cut 14 = .ok (.ireturn, 1) := by decide +kernel
theorem dL_cut_15 : decode cL_cut 15 = .ok (.iconst 0, 1) := by decide +kernel
theorem dL_cut_16 : decode cL_cut 16 = .ok (.ireturn, 1) := by decide +kernel
theorem dL_byteAt_0 : decode cL_byteAt 0 = .ok (.aload_n 2, 1) := by decide +kernel
theorem dL_byteAt_1 : decode cL_byteAt 1 = .ok (.iconst 0, 1) := by decide +kernel
theorem dL_byteAt_2 : decode cL_byteAt 2 = .ok (.aload_n 0, 1) := by decide +kernel
theorem dL_byteAt_3 : decode cL_byteAt 3 = .ok (.iload_n 1, 1) := by decide +kernel
theorem dL_byteAt_4 : decode cL_byteAt 4 = .ok (.invokevirtual 105, 3) := by decide +kernel
theorem dL_byteAt_7 : decode cL_byteAt 7 = .ok (.i2l, 1) := by decide +kernel
theorem dL_byteAt_8 : decode cL_byteAt 8 = .ok (.lastore, 1) := by decide +kernel
theorem dL_byteAt_9 : decode cL_byteAt 9 = .ok (.goto 6, 3) := by decide +kernel
theorem dL_byteAt_12 : decode cL_byteAt 12 = .ok (.astore_n 3, 1) := by decide +kernel
theorem dL_byteAt_13 : decode cL_byteAt 13 = .ok (.iconst 1, 1) := by decide +kernel
theorem dL_byteAt_14 : decode cL_byteAt 14 = .ok (.ireturn, 1) := by decide +kernel
theorem dL_byteAt_15 : decode cL_byteAt 15 = .ok (.iconst 0, 1) := by decide +kernel
theorem dL_byteAt_16 : decode cL_byteAt 16 = .ok (.ireturn, 1) := by decide +kernel
theorem dL_read_0 : decode cL_read 0 = .ok (.aload_n 2, 1) := by decide +kernel
theorem dL_read_1 : decode cL_read 1 = .ok (.iconst 0, 1) := by decide +kernel
theorem dL_read_2 : decode cL_read 2 = .ok (.aload_n 0, 1) := by decide +kernel
theorem dL_read_3 : decode cL_read 3 = .ok (.iload_n 1, 1) := by decide +kernel
theorem dL_read_4 : decode cL_read 4 = .ok (.invokevirtual 109, 3) := by decide +kernel
theorem dL_read_7 : decode cL_read 7 = .ok (.i2l, 1) := by decide +kernel
theorem dL_read_8 : decode cL_read 8 = .ok (.lastore, 1) := by decide +kernel
theorem dL_read_9 : decode cL_read 9 = .ok (.goto 12, 3) := by decide +kernel
theorem dL_read_12 : decode cL_read 12 = .ok (.astore_n 3, 1) := by decide +kernel
theorem dL_read_13 : decode cL_read 13 = .ok (.iconst 1, 1) := by decide +kernel
theorem dL_read_14 : decode cL_read 14 = .ok (.ireturn, 1) := by decide +kernel
theorem dL_read_15 : decode cL_read 15 = .ok (.astore_n 3, 1) := by decide +kernel
theorem dL_read_16 : decode cL_read 16 = .ok (.iconst 2, 1) := by decide +kernel
theorem dL_read_17 : decode cL_read 17 = .ok (.ireturn, 1) := by decide +kernel
theorem dL_read_18 : decode cL_read 18 = .ok (.astore_n 3, 1) := by decide +kernel
theorem dL_read_19 : decode cL_read 19 = .ok (.iconst 3, 1) := by decide +kernel
theorem dL_read_20 : decode cL_read 20 = .ok (.ireturn, 1) := by decide +kernel
theorem dL_read_21 : decode cL_read 21 = .ok (.iconst 0, 1) := by decide +kernel
theorem dL_read_22 : decode cL_read 22 = .ok (.ireturn, 1) := by decide +kernel
theorem dL_isCanonical_0 : decode cL_isCanonical 0 = .ok (.aload_n 2, 1) := by decide +kernel
theorem dL_isCanonical_1 : decode cL_isCanonical 1 = .ok (.iconst 0, 1) := by decide +kernel
theorem dL_isCanonical_2 : decode cL_isCanonical 2 = .ok (.aload_n 0, 1) := by decide +kernel
theorem dL_isCanonical_3 : decode cL_isCanonical 3 = .ok (.iload_n 1, 1) := by decide +kernel
theorem dL_isCanonical_4 : decode cL_isCanonical 4 = .ok (.invokevirtual 112, 3) := by decide +kernel
theorem dL_isCanonical_7 : decode cL_isCanonical 7 = .ok (.ifCond .eq 7, 3) := by decide +kernel
theorem dL_isCanonical_10 : decode cL_isCanonical 10 = .ok (.lconst 1, 1) := by decide +kernel
theorem dL_isCanonical_11 : decode cL_isCanonical 11 = .ok (.goto 4, 3) := by decide +kernel
theorem dL_isCanonical_14 : decode cL_isCanonical 14 = .ok (.lconst 0, 1) := by decide +kernel
theorem dL_isCanonical_15 : decode cL_isCanonical 15 = .ok (.lastore, 1) := by decide +kernel
theorem dL_isCanonical_16 : decode cL_isCanonical 16 = .ok (.goto 6, 3) := by decide +kernel
theorem dL_isCanonical_19 : decode cL_isCanonical 19 = .ok (.astore_n 3, 1) := by decide +kernel
theorem dL_isCanonical_20 : decode cL_isCanonical 20 = .ok (.iconst 1, 1) := by decide +kernel
theorem dL_isCanonical_21 : decode cL_isCanonical 21 = .ok (.ireturn, 1) := by decide +kernel
theorem dL_isCanonical_22 : decode cL_isCanonical 22 = .ok (.iconst 0, 1) := by decide +kernel
theorem dL_isCanonical_23 : decode cL_isCanonical 23 = .ok (.ireturn, 1) := by decide +kernel
end
section
theorem dX0_init_0 : decode cX0_init 0 = .ok (.aload_n 0, 1) := by decide +kernel
theorem dX0_init_1 : decode cX0_init 1 = .ok (.invokespecial 3, 3) := by decide +kernel
theorem dX0_init_4 : decode cX0_init 4 = .ok (.aload_n 0, 1) := by decide +kernel
theorem dX0_init_5 : decode cX0_init 5 = .ok (.sipush 256, 3) := by decide +kernel
theorem dX0_init_8 : decode cX0_init 8 = .ok (.newarray .byte, 2) := by decide +kernel
theorem dX0_init_10 : decode cX0_init 10 = .ok (.putfield 9, 3) := by decide +kernel
theorem dX0_init_13 : decode cX0_init 13 = .ok (.return_, 1) := by decide +kernel
theorem dX0_count_0 : decode cX0_count 0 = .ok (.aload_n 0, 1) := by decide +kernel
theorem dX0_count_1 : decode cX0_count 1 = .ok (.getfield 15, 3) := by decide +kernel
theorem dX0_count_4 : decode cX0_count 4 = .ok (.ireturn, 1) := by decide +kernel
theorem dX0_at_0 : decode cX0_at 0 = .ok (.iload_n 1, 1) := by decide +kernel
theorem dX0_at_1 : decode cX0_at 1 = .ok (.ifCond .lt 29, 3) := by decide +kernel
theorem dX0_at_4 : decode cX0_at 4 = .ok (.iload_n 1, 1) := by decide +kernel
theorem dX0_at_5 : decode cX0_at 5 = .ok (.aload_n 0, 1) := by decide +kernel
theorem dX0_at_6 : decode cX0_at 6 = .ok (.getfield 15, 3) := by decide +kernel
theorem dX0_at_9 : decode cX0_at 9 = .ok (.if_icmp .ge 21, 3) := by decide +kernel
theorem dX0_at_12 : decode cX0_at 12 = .ok (.iload_n 1, 1) := by decide +kernel
theorem dX0_at_13 : decode cX0_at 13 = .ok (.aload_n 0, 1) := by decide +kernel
theorem dX0_at_14 : decode cX0_at 14 = .ok (.getfield 9, 3) := by decide +kernel
theorem dX0_at_17 : decode cX0_at 17 = .ok (.arraylength, 1) := by decide +kernel
theorem dX0_at_18 : decode cX0_at 18 = .ok (.if_icmp .ge 12, 3) := by decide +kernel
theorem dX0_at_21 : decode cX0_at 21 = .ok (.aload_n 0, 1) := by decide +kernel
theorem dX0_at_22 : decode cX0_at 22 = .ok (.getfield 9, 3) := by decide +kernel
theorem dX0_at_25 : decode cX0_at 25 = .ok (.iload_n 1, 1) := by decide +kernel
theorem dX0_at_26 : decode cX0_at 26 = .ok (.baload, 1) := by decide +kernel
theorem dX0_at_27 : decode cX0_at 27 = .ok (.goto 4, 3) := by decide +kernel
theorem dX0_at_30 : decode cX0_at 30 = .ok (.iconst 0, 1) := by decide +kernel
theorem dX0_at_31 : decode cX0_at 31 = .ok (.ireturn, 1) := by decide +kernel
theorem dX0_keepFirst_0 : decode cX0_keepFirst 0 = .ok (.iload_n 1, 1) := by decide +kernel
theorem dX0_keepFirst_1 : decode cX0_keepFirst 1 = .ok (.ifCond .lt 16, 3) := by decide +kernel
theorem dX0_keepFirst_4 : decode cX0_keepFirst 4 = .ok (.iload_n 1, 1) := by decide +kernel
theorem dX0_keepFirst_5 : decode cX0_keepFirst 5 = .ok (.aload_n 0, 1) := by decide +kernel
theorem dX0_keepFirst_6 : decode cX0_keepFirst 6 = .ok (.getfield 15, 3) := by decide +kernel
theorem dX0_keepFirst_9 : decode cX0_keepFirst 9 = .ok (.if_icmp .ge 8, 3) := by decide +kernel
theorem dX0_keepFirst_12 : decode cX0_keepFirst 12 = .ok (.aload_n 0, 1) := by decide +kernel
theorem dX0_keepFirst_13 : decode cX0_keepFirst 13 = .ok (.iload_n 1, 1) := by decide +kernel
theorem dX0_keepFirst_14 : decode cX0_keepFirst 14 = .ok (.putfield 15, 3) := by decide +kernel
theorem dX0_keepFirst_17 : decode cX0_keepFirst 17 = .ok (.return_, 1) := by decide +kernel
theorem dX0_add_0 : decode cX0_add 0 = .ok (.aload_n 0, 1) := by decide +kernel
theorem dX0_add_1 : decode cX0_add 1 = .ok (.getfield 15, 3) := by decide +kernel
theorem dX0_add_4 : decode cX0_add 4 = .ok (.ifCond .lt 35, 3) := by decide +kernel
theorem dX0_add_7 : decode cX0_add 7 = .ok (.aload_n 0, 1) := by decide +kernel
theorem dX0_add_8 : decode cX0_add 8 = .ok (.getfield 15, 3) := by decide +kernel
theorem dX0_add_11 : decode cX0_add 11 = .ok (.aload_n 0, 1) := by decide +kernel
theorem dX0_add_12 : decode cX0_add 12 = .ok (.getfield 9, 3) := by decide +kernel
theorem dX0_add_15 : decode cX0_add 15 = .ok (.arraylength, 1) := by decide +kernel
theorem dX0_add_16 : decode cX0_add 16 = .ok (.if_icmp .ge 23, 3) := by decide +kernel
theorem dX0_add_19 : decode cX0_add 19 = .ok (.aload_n 0, 1) := by decide +kernel
theorem dX0_add_20 : decode cX0_add 20 = .ok (.getfield 9, 3) := by decide +kernel
theorem dX0_add_23 : decode cX0_add 23 = .ok (.aload_n 0, 1) := by decide +kernel
theorem dX0_add_24 : decode cX0_add 24 = .ok (.getfield 15, 3) := by decide +kernel
theorem dX0_add_27 : decode cX0_add 27 = .ok (.iload_n 1, 1) := by decide +kernel
theorem dX0_add_28 : decode cX0_add 28 = .ok (.bastore, 1) := by decide +kernel
theorem dX0_add_29 : decode cX0_add 29 = .ok (.aload_n 0, 1) := by decide +kernel
theorem dX0_add_30 : decode cX0_add 30 = .ok (.dup, 1) := by decide +kernel
theorem dX0_add_31 : decode cX0_add 31 = .ok (.getfield 15, 3) := by decide +kernel
theorem dX0_add_34 : decode cX0_add 34 = .ok (.iconst 1, 1) := by decide +kernel
theorem dX0_add_35 : decode cX0_add 35 = .ok (.iadd, 1) := by decide +kernel
theorem dX0_add_36 : decode cX0_add 36 = .ok (.putfield 15, 3) := by decide +kernel
theorem dX0_add_39 : decode cX0_add 39 = .ok (.return_, 1) := by decide +kernel
theorem dX0_addRange_0 : decode cX0_addRange 0 = .ok (.iload_n 2, 1) := by decide +kernel
theorem dX0_addRange_1 : decode cX0_addRange 1 = .ok (.istore 4, 2) := by decide +kernel
theorem dX0_addRange_3 : decode cX0_addRange 3 = .ok (.iload 4, 2) := by decide +kernel
theorem dX0_addRange_5 : decode cX0_addRange 5 = .ok (.iload_n 3, 1) := by decide +kernel
theorem dX0_addRange_6 : decode cX0_addRange 6 = .ok (.if_icmp .ge 19, 3) := by decide +kernel
theorem dX0_addRange_9 : decode cX0_addRange 9 = .ok (.aload_n 0, 1) := by decide +kernel
theorem dX0_addRange_10 : decode cX0_addRange 10 = .ok (.aload_n 1, 1) := by decide +kernel
theorem dX0_addRange_11 : decode cX0_addRange 11 = .ok (.iload 4, 2) := by decide +kernel
theorem dX0_addRange_13 : decode cX0_addRange 13 = .ok (.invokevirtual 19, 3) := by decide +kernel
theorem dX0_addRange_16 : decode cX0_addRange 16 = .ok (.invokevirtual 23, 3) := by decide +kernel
theorem dX0_addRange_19 : decode cX0_addRange 19 = .ok (.iinc 4 1, 3) := by decide +kernel
theorem dX0_addRange_22 : decode cX0_addRange 22 = .ok (.goto (-19), 3) := by decide +kernel
theorem dX0_addRange_25 : decode cX0_addRange 25 = .ok (.return_, 1) := by decide +kernel
theorem dX0_replaceBy_0 : decode cX0_replaceBy 0 = .ok (.aload_n 0, 1) := by decide +kernel
theorem dX0_replaceBy_1 : decode cX0_replaceBy 1 = .ok (.iconst 0, 1) := by decide +kernel
theorem dX0_replaceBy_2 : decode cX0_replaceBy 2 = .ok (.invokevirtual 27, 3) := by decide +kernel
theorem dX0_replaceBy_5 : decode cX0_replaceBy 5 = .ok (.aload_n 0, 1) := by decide +kernel
theorem dX0_replaceBy_6 : decode cX0_replaceBy 6 = .ok (.aload_n 1, 1) := by decide +kernel
theorem dX0_replaceBy_7 : decode cX0_replaceBy 7 = .ok (.iconst 0, 1) := by decide +kernel
theorem dX0_replaceBy_8 : decode cX0_replaceBy 8 = .ok (.aload_n 1, 1) := by decide +kernel
theorem dX0_replaceBy_9 : decode cX0_replaceBy 9 = .ok (.invokevirtual 31, 3) := by decide +kernel
theorem dX0_replaceBy_12 : decode cX0_replaceBy 12 = .ok (.invokevirtual 34, 3) := by decide +kernel
theorem dX0_replaceBy_15 : decode cX0_replaceBy 15 = .ok (.return_, 1) := by decide +kernel
theorem dX0_addNumberField_0 : decode cX0_addNumberField 0 = .ok (.aload_n 0, 1) := by decide +kernel
theorem dX0_addNumberField_1 : decode cX0_addNumberField 1 = .ok (.iload_n 1, 1) := by decide +kernel
theorem dX0_addNumberField_2 : decode cX0_addNumberField 2 = .ok (.iload_n 2, 1) := by decide +kernel
theorem dX0_addNumberField_3 : decode cX0_addNumberField 3 = .ok (.invokevirtual 38, 3) := by decide +kernel
theorem dX0_addNumberField_6 : decode cX0_addNumberField 6 = .ok (.iload_n 2, 1) := by decide +kernel
theorem dX0_addNumberField_7 : decode cX0_addNumberField 7 = .ok (.iconst 5, 1) := by decide +kernel
theorem dX0_addNumberField_8 : decode cX0_addNumberField 8 = .ok (.if_icmp .ne 11, 3) := by decide +kernel
theorem dX0_addNumberField_11 : decode cX0_addNumberField 11 = .ok (.aload_n 0, 1) := by decide +kernel
theorem dX0_addNumberField_12 : decode cX0_addNumberField 12 = .ok (.iload_n 3, 1) := by decide +kernel
theorem dX0_addNumberField_13 : decode cX0_addNumberField 13 = .ok (.invokevirtual 42, 3) := by decide +kernel
theorem dX0_addNumberField_16 : decode cX0_addNumberField 16 = .ok (.goto 8, 3) := by decide +kernel
theorem dX0_addNumberField_19 : decode cX0_addNumberField 19 = .ok (.aload_n 0, 1) := by decide +kernel
theorem dX0_addNumberField_20 : decode cX0_addNumberField 20 = .ok (.iload_n 3, 1) := by decide +kernel
theorem dX0_addNumberField_21 : decode cX0_addNumberField 21 = .ok (.invokevirtual 45, 3) := by decide +kernel
theorem dX0_addNumberField_24 : decode cX0_addNumberField 24 = .ok (.return_, 1) := by decide +kernel
theorem dX0_addBytesHead_0 : decode cX0_addBytesHead 0 = .ok (.aload_n 0, 1) := by decide +kernel
theorem dX0_addBytesHead_1 : decode cX0_addBytesHead 1 = .ok (.iload_n 1, 1) := by decide +kernel
theorem dX0_addBytesHead_2 : decode cX0_addBytesHead 2 = .ok (.iconst 2, 1) := by decide +kernel
theorem dX0_addBytesHead_3 : decode cX0_addBytesHead 3 = .ok (.invokevirtual 38, 3) := by decide +kernel
theorem dX0_addBytesHead_6 : decode cX0_addBytesHead 6 = .ok (.aload_n 0, 1) := by decide +kernel
theorem dX0_addBytesHead_7 : decode cX0_addBytesHead 7 = .ok (.iload_n 2, 1) := by decide +kernel
theorem dX0_addBytesHead_8 : decode cX0_addBytesHead 8 = .ok (.invokevirtual 45, 3) := by decide +kernel
theorem dX0_addBytesHead_11 : decode cX0_addBytesHead 11 = .ok (.return_, 1) := by decide +kernel
theorem dX0_isSameAs_0 : decode cX0_isSameAs 0 = .ok (.aload_n 0, 1) := by decide +kernel
theorem dX0_isSameAs_1 : decode cX0_isSameAs 1 = .ok (.getfield 15, 3) := by decide +kernel
theorem dX0_isSameAs_4 : decode cX0_isSameAs 4 = .ok (.aload_n 1, 1) := by decide +kernel
theorem dX0_isSameAs_5 : decode cX0_isSameAs 5 = .ok (.invokevirtual 31, 3) := by decide +kernel
theorem dX0_isSameAs_8 : decode cX0_isSameAs 8 = .ok (.if_icmp .ne 21, 3) := by decide +kernel
theorem dX0_isSameAs_11 : decode cX0_isSameAs 11 = .ok (.aload_n 0, 1) := by decide +kernel
theorem dX0_isSameAs_12 : decode cX0_isSameAs 12 = .ok (.iconst 0, 1) := by decide +kernel
theorem dX0_isSameAs_13 : decode cX0_isSameAs 13 = .ok (.aload_n 1, 1) := by decide +kernel
theorem dX0_isSameAs_14 : decode cX0_isSameAs 14 = .ok (.iconst 0, 1) := by decide +kernel
theorem dX0_isSameAs_15 : decode cX0_isSameAs 15 = .ok (.aload_n 0, 1) := by decide +kernel
theorem dX0_isSameAs_16 : decode cX0_isSameAs 16 = .ok (.getfield 15, 3) := by decide +kernel
theorem dX0_isSameAs_19 : decode cX0_isSameAs 19 = .ok (.invokevirtual 48, 3) := by decide +kernel
theorem dX0_isSameAs_22 : decode cX0_isSameAs 22 = .ok (.ifCond .eq 7, 3) := by decide +kernel
theorem dX0_isSameAs_25 : decode cX0_isSameAs 25 = .ok (.iconst 1, 1) := by decide +kernel
theorem dX0_isSameAs_26 : decode cX0_isSameAs 26 = .ok (.goto 4, 3) := by decide +kernel
theorem dX0_isSameAs_29 : decode cX0_isSameAs 29 = .ok (.iconst 0, 1) := by decide +kernel
theorem dX0_isSameAs_30 : decode cX0_isSameAs 30 = .ok (.ireturn, 1) := by decide +kernel
theorem dX0_hasSameRange_0 : decode cX0_hasSameRange 0 = .ok (.iconst 0, 1) := by decide +kernel
theorem dX0_hasSameRange_1 : decode cX0_hasSameRange 1 = .ok (.istore 5, 2) := by decide +kernel
theorem dX0_hasSameRange_3 : decode cX0_hasSameRange 3 = .ok (.iload 5, 2) := by decide +kernel
theorem dX0_hasSameRange_5 : decode cX0_hasSameRange 5 = .ok (.iload 4, 2) := by decide +kernel
theorem dX0_hasSameRange_7 : decode cX0_hasSameRange 7 = .ok (.if_icmp .ge 30, 3) := by decide +kernel
theorem dX0_hasSameRange_10 : decode cX0_hasSameRange 10 = .ok (.aload_n 0, 1) := by decide +kernel
theorem dX0_hasSameRange_11 : decode cX0_hasSameRange 11 = .ok (.iload_n 1, 1) := by decide +kernel
theorem dX0_hasSameRange_12 : decode cX0_hasSameRange 12 = .ok (.iload 5, 2) := by decide +kernel
theorem dX0_hasSameRange_14 : decode cX0_hasSameRange 14 = .ok (.iadd, 1) := by decide +kernel
theorem dX0_hasSameRange_15 : decode cX0_hasSameRange 15 = .ok (.invokevirtual 19, 3) := by decide +kernel
theorem dX0_hasSameRange_18 : decode cX0_hasSameRange 18 = .ok (.aload_n 2, 1) := by decide +kernel
theorem dX0_hasSameRange_19 : decode cX0_hasSameRange 19 = .ok (.iload_n 3, 1) := by decide +kernel
theorem dX0_hasSameRange_20 : decode cX0_hasSameRange 20 = .ok (.iload 5, 2) := by decide +kernel
theorem dX0_hasSameRange_22 : decode cX0_hasSameRange 22 = .ok (.iadd, 1) := by decide +kernel
theorem dX0_hasSameRange_23 : decode cX0_hasSameRange 23 = .ok (.invokevirtual 19, 3) := by decide +kernel
theorem dX0_hasSameRange_26 : decode cX0_hasSameRange 26 = .ok (.if_icmp .eq 5, 3) := by decide +kernel
theorem dX0_hasSameRange_29 : decode cX0_hasSameRange 29 = .ok (.iconst 0, 1) := by decide +kernel
theorem dX0_hasSameRange_30 : decode cX0_hasSameRange 30 = .ok (.ireturn, 1) := by decide +kernel
theorem dX0_hasSameRange_31 : decode cX0_hasSameRange 31 = .ok (.iinc 5 1, 3) := by decide +kernel
theorem dX0_hasSameRange_34 : decode cX0_hasSameRange 34 = .ok (.goto (-31), 3) := by decide +kernel
theorem dX0_hasSameRange_37 : decode cX0_hasSameRange 37 = .ok (.iconst 1, 1) := by decide +kernel
theorem dX0_hasSameRange_38 : decode cX0_hasSameRange 38 = .ok (.ireturn, 1) := by decide +kernel
theorem dX0_addKey_0 : decode cX0_addKey 0 = .ok (.aload_n 0, 1) := by decide +kernel
theorem dX0_addKey_1 : decode cX0_addKey 1 = .ok (.bipush 8, 2) := by decide +kernel
theorem dX0_addKey_3 : decode cX0_addKey 3 = .ok (.iload_n 1, 1) := by decide +kernel
theorem dX0_addKey_4 : decode cX0_addKey 4 = .ok (.imul, 1) := by decide +kernel
theorem dX0_addKey_5 : decode cX0_addKey 5 = .ok (.iload_n 2, 1) := by decide +kernel
theorem dX0_addKey_6 : decode cX0_addKey 6 = .ok (.iadd, 1) := by decide +kernel
theorem dX0_addKey_7 : decode cX0_addKey 7 = .ok (.invokevirtual 45, 3) := by decide +kernel
theorem dX0_addKey_10 : decode cX0_addKey 10 = .ok (.return_, 1) := by decide +kernel
theorem dX0_addGroups_0 : decode cX0_addGroups 0 = .ok (.iload_n 1, 1) := by decide +kernel
theorem dX0_addGroups_1 : decode cX0_addGroups 1 = .ok (.istore_n 2, 1) := by decide +kernel
theorem dX0_addGroups_2 : decode cX0_addGroups 2 = .ok (.iconst 0, 1) := by decide +kernel
theorem dX0_addGroups_3 : decode cX0_addGroups 3 = .ok (.istore_n 3, 1) := by decide +kernel
theorem dX0_addGroups_4 : decode cX0_addGroups 4 = .ok (.iload_n 3, 1) := by decide +kernel
theorem dX0_addGroups_5 : decode cX0_addGroups 5 = .ok (.iconst 4, 1) := by decide +kernel
theorem dX0_addGroups_6 : decode cX0_addGroups 6 = .ok (.if_icmp .ge 34, 3) := by decide +kernel
theorem dX0_addGroups_9 : decode cX0_addGroups 9 = .ok (.iload_n 2, 1) := by decide +kernel
theorem dX0_addGroups_10 : decode cX0_addGroups 10 = .ok (.bipush 7, 2) := by decide +kernel
theorem dX0_addGroups_12 : decode cX0_addGroups 12 = .ok (.iushr, 1) := by decide +kernel
theorem dX0_addGroups_13 : decode cX0_addGroups 13 = .ok (.ifCond .eq 27, 3) := by decide +kernel
theorem dX0_addGroups_16 : decode cX0_addGroups 16 = .ok (.aload_n 0, 1) := by decide +kernel
theorem dX0_addGroups_17 : decode cX0_addGroups 17 = .ok (.iload_n 2, 1) := by decide +kernel
theorem dX0_addGroups_18 : decode cX0_addGroups 18 = .ok (.bipush 127, 2) := by decide +kernel
theorem dX0_addGroups_20 : decode cX0_addGroups 20 = .ok (.iand, 1) := by decide +kernel
theorem dX0_addGroups_21 : decode cX0_addGroups 21 = .ok (.sipush 128, 3) := by decide +kernel
theorem dX0_addGroups_24 : decode cX0_addGroups 24 = .ok (.ior, 1) := by decide +kernel
theorem dX0_addGroups_25 : decode cX0_addGroups 25 = .ok (.i2b, 1) := by decide +kernel
theorem dX0_addGroups_26 : decode cX0_addGroups 26 = .ok (.invokevirtual 23, 3) := by decide +kernel
theorem dX0_addGroups_29 : decode cX0_addGroups 29 = .ok (.iload_n 2, 1) := by decide +kernel
theorem dX0_addGroups_30 : decode cX0_addGroups 30 = .ok (.bipush 7, 2) := by decide +kernel
theorem dX0_addGroups_32 : decode cX0_addGroups 32 = .ok (.iushr, 1) := by decide +kernel
theorem dX0_addGroups_33 : decode cX0_addGroups 33 = .ok (.istore_n 2, 1) := by decide +kernel
theorem dX0_addGroups_34 : decode cX0_addGroups 34 = .ok (.iinc 3 1, 3) := by decide +kernel
theorem dX0_addGroups_37 : decode cX0_addGroups 37 = .ok (.goto (-33), 3) := by decide +kernel
theorem dX0_addGroups_40 : decode cX0_addGroups 40 = .ok (.aload_n 0, 1) := by decide +kernel
theorem dX0_addGroups_41 : decode cX0_addGroups 41 = .ok (.iload_n 2, 1) := by decide +kernel
theorem dX0_addGroups_42 : decode cX0_addGroups 42 = .ok (.i2b, 1) := by decide +kernel
theorem dX0_addGroups_43 : decode cX0_addGroups 43 = .ok (.invokevirtual 23, 3) := by decide +kernel
theorem dX0_addGroups_46 : decode cX0_addGroups 46 = .ok (.return_, 1) := by decide +kernel
theorem dX0_addFour_0 : decode cX0_addFour 0 = .ok (.iconst 0, 1) := by decide +kernel
theorem dX0_addFour_1 : decode cX0_addFour 1 = .ok (.istore_n 2, 1) := by decide +kernel
theorem dX0_addFour_2 : decode cX0_addFour 2 = .ok (.iload_n 2, 1) := by decide +kernel
theorem dX0_addFour_3 : decode cX0_addFour 3 = .ok (.bipush 32, 2) := by decide +kernel
theorem dX0_addFour_5 : decode cX0_addFour 5 = .ok (.if_icmp .ge 17, 3) := by decide +kernel
theorem dX0_addFour_8 : decode cX0_addFour 8 = .ok (.aload_n 0, 1) := by decide +kernel
theorem dX0_addFour_9 : decode cX0_addFour 9 = .ok (.iload_n 1, 1) := by decide +kernel
theorem dX0_addFour_10 : decode cX0_addFour 10 = .ok (.iload_n 2, 1) := by decide +kernel
theorem dX0_addFour_11 : decode cX0_addFour 11 = .ok (.iushr, 1) := by decide +kernel
theorem dX0_addFour_12 : decode cX0_addFour 12 = .ok (.i2b, 1) := by decide +kernel
theorem dX0_addFour_13 : decode cX0_addFour 13 = .ok (.invokevirtual 23, 3) := by decide +kernel
theorem dX0_addFour_16 : decode cX0_addFour 16 = .ok (.iinc 2 8, 3) := by decide +kernel
theorem dX0_addFour_19 : decode cX0_addFour 19 = .ok (.goto (-17), 3) := by decide +kernel
theorem dX0_addFour_22 : decode cX0_addFour 22 = .ok (.return_, 1) := by decide +kernel
theorem dX1_init_0 : decode cX1_init 0 = .ok (.aload_n 0, 1) := by decide +kernel
theorem dX1_init_1 : decode cX1_init 1 = .ok (.invokespecial 3, 3) := by decide +kernel
theorem dX1_init_4 : decode cX1_init 4 = .ok (.aload_n 0, 1) := by decide +kernel
theorem dX1_init_5 : decode cX1_init 5 = .ok (.new 9, 3) := by decide +kernel
theorem dX1_init_8 : decode cX1_init 8 = .ok (.dup, 1) := by decide +kernel
theorem dX1_init_9 : decode cX1_init 9 = .ok (.invokespecial 11, 3) := by decide +kernel
theorem dX1_init_12 : decode cX1_init 12 = .ok (.putfield 12, 3) := by decide +kernel
theorem dX1_init_15 : decode cX1_init 15 = .ok (.aload_n 0, 1) := by decide +kernel
theorem dX1_init_16 : decode cX1_init 16 = .ok (.bipush 60, 2) := by decide +kernel
theorem dX1_init_18 : decode cX1_init 18 = .ok (.newarray .int, 2) := by decide +kernel
theorem dX1_init_20 : decode cX1_init 20 = .ok (.putfield 18, 3) := by decide +kernel
theorem dX1_init_23 : decode cX1_init 23 = .ok (.aload_n 0, 1) := by decide +kernel
theorem dX1_init_24 : decode cX1_init 24 = .ok (.bipush 32, 2) := by decide +kernel
theorem dX1_init_26 : decode cX1_init 26 = .ok (.newarray .int, 2) := by decide +kernel
theorem dX1_init_28 : decode cX1_init 28 = .ok (.putfield 22, 3) := by decide +kernel
theorem dX1_init_31 : decode cX1_init 31 = .ok (.return_, 1) := by decide +kernel
theorem dX1_choose_0 : decode cX1_choose 0 = .ok (.aload_n 0, 1) := by decide +kernel
theorem dX1_choose_1 : decode cX1_choose 1 = .ok (.getfield 12, 3) := by decide +kernel
theorem dX1_choose_4 : decode cX1_choose 4 = .ok (.aload_n 1, 1) := by decide +kernel
theorem dX1_choose_5 : decode cX1_choose 5 = .ok (.iconst 0, 1) := by decide +kernel
theorem dX1_choose_6 : decode cX1_choose 6 = .ok (.aload_n 1, 1) := by decide +kernel
theorem dX1_choose_7 : decode cX1_choose 7 = .ok (.invokevirtual 25, 3) := by decide +kernel
theorem dX1_choose_10 : decode cX1_choose 10 = .ok (.invokevirtual 31, 3) := by decide +kernel
theorem dX1_choose_13 : decode cX1_choose 13 = .ok (.aload_n 0, 1) := by decide +kernel
theorem dX1_choose_14 : decode cX1_choose 14 = .ok (.aload_n 2, 1) := by decide +kernel
theorem dX1_choose_15 : decode cX1_choose 15 = .ok (.invokevirtual 35, 3) := by decide +kernel
theorem dX1_choose_18 : decode cX1_choose 18 = .ok (.aload_n 0, 1) := by decide +kernel
theorem dX1_choose_19 : decode cX1_choose 19 = .ok (.iconst 0, 1) := by decide +kernel
theorem dX1_choose_20 : decode cX1_choose 20 = .ok (.putfield 39, 3) := by decide +kernel
theorem dX1_choose_23 : decode cX1_choose 23 = .ok (.iconst 0, 1) := by decide +kernel
theorem dX1_choose_24 : decode cX1_choose 24 = .ok (.istore_n 3, 1) := by decide +kernel
theorem dX1_choose_25 : decode cX1_choose 25 = .ok (.iload_n 3, 1) := by decide +kernel
theorem dX1_choose_26 : decode cX1_choose 26 = .ok (.aload_n 0, 1) := by decide +kernel
theorem dX1_choose_27 : decode cX1_choose 27 = .ok (.getfield 12, 3) := by decide +kernel
theorem dX1_choose_30 : decode cX1_choose 30 = .ok (.invokevirtual 42, 3) := by decide +kernel
theorem dX1_choose_33 : decode cX1_choose 33 = .ok (.if_icmp .ge 35, 3) := by decide +kernel
theorem dX1_choose_36 : decode cX1_choose 36 = .ok (.aload_n 0, 1) := by decide +kernel
theorem dX1_choose_37 : decode cX1_choose 37 = .ok (.getfield 12, 3) := by decide +kernel
theorem dX1_choose_40 : decode cX1_choose 40 = .ok (.aload_n 2, 1) := by decide +kernel
theorem dX1_choose_41 : decode cX1_choose 41 = .ok (.iload_n 3, 1) := by decide +kernel
theorem dX1_choose_42 : decode cX1_choose 42 = .ok (.invokevirtual 43, 3) := by decide +kernel
theorem dX1_choose_45 : decode cX1_choose 45 = .ok (.ifCond .eq 12, 3) := by decide +kernel
theorem dX1_choose_48 : decode cX1_choose 48 = .ok (.aload_n 0, 1) := by decide +kernel
theorem dX1_choose_49 : decode cX1_choose 49 = .ok (.aload_n 2, 1) := by decide +kernel
theorem dX1_choose_50 : decode cX1_choose 50 = .ok (.iload_n 3, 1) := by decide +kernel
theorem dX1_choose_51 : decode cX1_choose 51 = .ok (.invokevirtual 47, 3) := by decide +kernel
theorem dX1_choose_54 : decode cX1_choose 54 = .ok (.ifCond .eq 8, 3) := by decide +kernel
theorem dX1_choose_57 : decode cX1_choose 57 = .ok (.aload_n 0, 1) := by decide +kernel
theorem dX1_choose_58 : decode cX1_choose 58 = .ok (.iload_n 3, 1) := by decide +kernel
theorem dX1_choose_59 : decode cX1_choose 59 = .ok (.invokevirtual 50, 3) := by decide +kernel
theorem dX1_choose_62 : decode cX1_choose 62 = .ok (.iinc 3 1, 3) := by decide +kernel
theorem dX1_choose_65 : decode cX1_choose 65 = .ok (.goto (-40), 3) := by decide +kernel
theorem dX1_choose_68 : decode cX1_choose 68 = .ok (.return_, 1) := by decide +kernel
theorem dX1_writeTo_0 : decode cX1_writeTo 0 = .ok (.aload_n 1, 1) := by decide +kernel
theorem dX1_writeTo_1 : decode cX1_writeTo 1 = .ok (.iconst 0, 1) := by decide +kernel
theorem dX1_writeTo_2 : decode cX1_writeTo 2 = .ok (.invokevirtual 54, 3) := by decide +kernel
theorem dX1_writeTo_5 : decode cX1_writeTo 5 = .ok (.iconst 0, 1) := by decide +kernel
theorem dX1_writeTo_6 : decode cX1_writeTo 6 = .ok (.istore_n 2, 1) := by decide +kernel
theorem dX1_writeTo_7 : decode cX1_writeTo 7 = .ok (.iload_n 2, 1) := by decide +kernel
theorem dX1_writeTo_8 : decode cX1_writeTo 8 = .ok (.aload_n 0, 1) := by decide +kernel
theorem dX1_writeTo_9 : decode cX1_writeTo 9 = .ok (.getfield 39, 3) := by decide +kernel
theorem dX1_writeTo_12 : decode cX1_writeTo 12 = .ok (.if_icmp .ge 22, 3) := by decide +kernel
theorem dX1_writeTo_15 : decode cX1_writeTo 15 = .ok (.aload_n 0, 1) := by decide +kernel
theorem dX1_writeTo_16 : decode cX1_writeTo 16 = .ok (.getfield 12, 3) := by decide +kernel
theorem dX1_writeTo_19 : decode cX1_writeTo 19 = .ok (.aload_n 1, 1) := by decide +kernel
theorem dX1_writeTo_20 : decode cX1_writeTo 20 = .ok (.aload_n 0, 1) := by decide +kernel
theorem dX1_writeTo_21 : decode cX1_writeTo 21 = .ok (.iload_n 2, 1) := by decide +kernel
theorem dX1_writeTo_22 : decode cX1_writeTo 22 = .ok (.invokevirtual 57, 3) := by decide +kernel
theorem dX1_writeTo_25 : decode cX1_writeTo 25 = .ok (.invokevirtual 61, 3) := by decide +kernel
theorem dX1_writeTo_28 : decode cX1_writeTo 28 = .ok (.iinc 2 1, 3) := by decide +kernel
theorem dX1_writeTo_31 : decode cX1_writeTo 31 = .ok (.goto (-24), 3) := by decide +kernel
theorem dX1_writeTo_34 : decode cX1_writeTo 34 = .ok (.return_, 1) := by decide +kernel
theorem dX1_hasSameFields_0 : decode cX1_hasSameFields 0 = .ok (.aload_n 0, 1) := by decide +kernel
theorem dX1_hasSameFields_1 : decode cX1_hasSameFields 1 = .ok (.getfield 39, 3) := by decide +kernel
theorem dX1_hasSameFields_4 : decode cX1_hasSameFields 4 = .ok (.aload_n 1, 1) := by decide +kernel
theorem dX1_hasSameFields_5 : decode cX1_hasSameFields 5 = .ok (.getfield 39, 3) := by decide +kernel
theorem dX1_hasSameFields_8 : decode cX1_hasSameFields 8 = .ok (.if_icmp .eq 5, 3) := by decide +kernel
theorem dX1_hasSameFields_11 : decode cX1_hasSameFields 11 = .ok (.iconst 0, 1) := by decide +kernel
theorem dX1_hasSameFields_12 : decode cX1_hasSameFields 12 = .ok (.ireturn, 1) := by decide +kernel
theorem dX1_hasSameFields_13 : decode cX1_hasSameFields 13 = .ok (.iconst 0, 1) := by decide +kernel
theorem dX1_hasSameFields_14 : decode cX1_hasSameFields 14 = .ok (.istore_n 2, 1) := by decide +kernel
theorem dX1_hasSameFields_15 : decode cX1_hasSameFields 15 = .ok (.iload_n 2, 1) := by decide +kernel
theorem dX1_hasSameFields_16 : decode cX1_hasSameFields 16 = .ok (.aload_n 0, 1) := by decide +kernel
theorem dX1_hasSameFields_17 : decode cX1_hasSameFields 17 = .ok (.getfield 39, 3) := by decide +kernel
theorem dX1_hasSameFields_20 : decode cX1_hasSameFields 20 = .ok (.if_icmp .ge 35, 3) := by decide +kernel
theorem dX1_hasSameFields_23 : decode cX1_hasSameFields 23 = .ok (.aload_n 0, 1) := by decide +kernel
theorem dX1_hasSameFields_24 : decode cX1_hasSameFields 24 = .ok (.getfield 12, 3) := by decide +kernel
theorem dX1_hasSameFields_27 : decode cX1_hasSameFields 27 = .ok (.aload_n 0, 1) := by decide +kernel
theorem dX1_hasSameFields_28 : decode cX1_hasSameFields 28 = .ok (.iload_n 2, 1) := by decide +kernel
theorem dX1_hasSameFields_29 : decode cX1_hasSameFields 29 = .ok (.invokevirtual 57, 3) := by decide +kernel
theorem dX1_hasSameFields_32 : decode cX1_hasSameFields 32 = .ok (.aload_n 1, 1) := by decide +kernel
theorem dX1_hasSameFields_33 : decode cX1_hasSameFields 33 = .ok (.getfield 12, 3) := by decide +kernel
theorem dX1_hasSameFields_36 : decode cX1_hasSameFields 36 = .ok (.aload_n 1, 1) := by decide +kernel
theorem dX1_hasSameFields_37 : decode cX1_hasSameFields 37 = .ok (.iload_n 2, 1) := by decide +kernel
theorem dX1_hasSameFields_38 : decode cX1_hasSameFields 38 = .ok (.invokevirtual 57, 3) := by decide +kernel
theorem dX1_hasSameFields_41 : decode cX1_hasSameFields 41 = .ok (.invokevirtual 65, 3) := by decide +kernel
theorem dX1_hasSameFields_44 : decode cX1_hasSameFields 44 = .ok (.ifCond .ne 5, 3) := by decide +kernel
theorem dX1_hasSameFields_47 : decode cX1_hasSameFields 47 = .ok (.iconst 0, 1) := by decide +kernel
theorem dX1_hasSameFields_48 : decode cX1_hasSameFields 48 = .ok (.ireturn, 1) := by decide +kernel
theorem dX1_hasSameFields_49 : decode cX1_hasSameFields 49 = .ok (.iinc 2 1, 3) := by decide +kernel
theorem dX1_hasSameFields_52 : decode cX1_hasSameFields 52 = .ok (.goto (-37), 3) := by decide +kernel
theorem dX1_hasSameFields_55 : decode cX1_hasSameFields 55 = .ok (.iconst 1, 1) := by decide +kernel
theorem dX1_hasSameFields_56 : decode cX1_hasSameFields 56 = .ok (.ireturn, 1) := by decide +kernel
theorem dX1_placeAt_0 : decode cX1_placeAt 0 = .ok (.iload_n 1, 1) := by decide +kernel
theorem dX1_placeAt_1 : decode cX1_placeAt 1 = .ok (.ifCond .lt 26, 3) := by decide +kernel
theorem dX1_placeAt_4 : decode cX1_placeAt 4 = .ok (.iload_n 1, 1) := by decide +kernel
theorem dX1_placeAt_5 : decode cX1_placeAt 5 = .ok (.aload_n 0, 1) := by decide +kernel
theorem dX1_placeAt_6 : decode cX1_placeAt 6 = .ok (.getfield 39, 3) := by decide +kernel
theorem dX1_placeAt_9 : decode cX1_placeAt 9 = .ok (.if_icmp .ge 18, 3) := by decide +kernel
theorem dX1_placeAt_12 : decode cX1_placeAt 12 = .ok (.iload_n 1, 1) := by decide +kernel
theorem dX1_placeAt_13 : decode cX1_placeAt 13 = .ok (.bipush 60, 2) := by decide +kernel
theorem dX1_placeAt_15 : decode cX1_placeAt 15 = .ok (.if_icmp .ge 12, 3) := by decide +kernel
theorem dX1_placeAt_18 : decode cX1_placeAt 18 = .ok (.aload_n 0, 1) := by decide +kernel
theorem dX1_placeAt_19 : decode cX1_placeAt 19 = .ok (.getfield 18, 3) := by decide +kernel
theorem dX1_placeAt_22 : decode cX1_placeAt 22 = .ok (.iload_n 1, 1) := by decide +kernel
theorem dX1_placeAt_23 : decode cX1_placeAt 23 = .ok (.iaload, 1) := by decide +kernel
theorem dX1_placeAt_24 : decode cX1_placeAt 24 = .ok (.goto 4, 3) := by decide +kernel
theorem dX1_placeAt_27 : decode cX1_placeAt 27 = .ok (.iconst (-1), 1) := by decide +kernel
theorem dX1_placeAt_28 : decode cX1_placeAt 28 = .ok (.ireturn, 1) := by decide +kernel
theorem dX1_noteLasts_0 : decode cX1_noteLasts 0 = .ok (.aload_n 0, 1) := by decide +kernel
theorem dX1_noteLasts_1 : decode cX1_noteLasts 1 = .ok (.getfield 22, 3) := by decide +kernel
theorem dX1_noteLasts_4 : decode cX1_noteLasts 4 = .ok (.iconst (-1), 1) := by decide +kernel
theorem dX1_noteLasts_5 : decode cX1_noteLasts 5 = .ok (.invokestatic 69, 3) := by decide +kernel
theorem dX1_noteLasts_8 : decode cX1_noteLasts 8 = .ok (.iconst 0, 1) := by decide +kernel
theorem dX1_noteLasts_9 : decode cX1_noteLasts 9 = .ok (.istore_n 2, 1) := by decide +kernel
theorem dX1_noteLasts_10 : decode cX1_noteLasts 10 = .ok (.iload_n 2, 1) := by decide +kernel
theorem dX1_noteLasts_11 : decode cX1_noteLasts 11 = .ok (.aload_n 0, 1) := by decide +kernel
theorem dX1_noteLasts_12 : decode cX1_noteLasts 12 = .ok (.getfield 12, 3) := by decide +kernel
theorem dX1_noteLasts_15 : decode cX1_noteLasts 15 = .ok (.invokevirtual 42, 3) := by decide +kernel
theorem dX1_noteLasts_18 : decode cX1_noteLasts 18 = .ok (.if_icmp .ge 44, 3) := by decide +kernel
theorem dX1_noteLasts_21 : decode cX1_noteLasts 21 = .ok (.aload_n 0, 1) := by decide +kernel
theorem dX1_noteLasts_22 : decode cX1_noteLasts 22 = .ok (.getfield 12, 3) := by decide +kernel
theorem dX1_noteLasts_25 : decode cX1_noteLasts 25 = .ok (.iload_n 2, 1) := by decide +kernel
theorem dX1_noteLasts_26 : decode cX1_noteLasts 26 = .ok (.invokevirtual 75, 3) := by decide +kernel
theorem dX1_noteLasts_29 : decode cX1_noteLasts 29 = .ok (.istore_n 3, 1) := by decide +kernel
theorem dX1_noteLasts_30 : decode cX1_noteLasts 30 = .ok (.iload_n 3, 1) := by decide +kernel
theorem dX1_noteLasts_31 : decode cX1_noteLasts 31 = .ok (.invokestatic 78, 3) := by decide +kernel
theorem dX1_noteLasts_34 : decode cX1_noteLasts 34 = .ok (.ifCond .eq 22, 3) := by decide +kernel
theorem dX1_noteLasts_37 : decode cX1_noteLasts 37 = .ok (.aload_n 0, 1) := by decide +kernel
theorem dX1_noteLasts_38 : decode cX1_noteLasts 38 = .ok (.getfield 12, 3) := by decide +kernel
theorem dX1_noteLasts_41 : decode cX1_noteLasts 41 = .ok (.aload_n 1, 1) := by decide +kernel
theorem dX1_noteLasts_42 : decode cX1_noteLasts 42 = .ok (.iload_n 2, 1) := by decide +kernel
theorem dX1_noteLasts_43 : decode cX1_noteLasts 43 = .ok (.invokevirtual 43, 3) := by decide +kernel
theorem dX1_noteLasts_46 : decode cX1_noteLasts 46 = .ok (.ifCond .eq 10, 3) := by decide +kernel
theorem dX1_noteLasts_49 : decode cX1_noteLasts 49 = .ok (.aload_n 0, 1) := by decide +kernel
theorem dX1_noteLasts_50 : decode cX1_noteLasts 50 = .ok (.getfield 22, 3) := by decide +kernel
theorem dX1_noteLasts_53 : decode cX1_noteLasts 53 = .ok (.iload_n 3, 1) := by decide +kernel
theorem dX1_noteLasts_54 : decode cX1_noteLasts 54 = .ok (.iload_n 2, 1) := by decide +kernel
theorem dX1_noteLasts_55 : decode cX1_noteLasts 55 = .ok (.iastore, 1) := by decide +kernel
theorem dX1_noteLasts_56 : decode cX1_noteLasts 56 = .ok (.iinc 2 1, 3) := by decide +kernel
theorem dX1_noteLasts_59 : decode cX1_noteLasts 59 = .ok (.goto (-49), 3) := by decide +kernel
theorem dX1_noteLasts_62 : decode cX1_noteLasts 62 = .ok (.return_, 1) := by decide +kernel
theorem dX1_isToldBy_0 : decode cX1_isToldBy 0 = .ok (.aload_n 0, 1) := by decide +kernel
theorem dX1_isToldBy_1 : decode cX1_isToldBy 1 = .ok (.getfield 12, 3) := by decide +kernel
theorem dX1_isToldBy_4 : decode cX1_isToldBy 4 = .ok (.iload_n 2, 1) := by decide +kernel
theorem dX1_isToldBy_5 : decode cX1_isToldBy 5 = .ok (.invokevirtual 75, 3) := by decide +kernel
theorem dX1_isToldBy_8 : decode cX1_isToldBy 8 = .ok (.istore_n 3, 1) := by decide +kernel
theorem dX1_isToldBy_9 : decode cX1_isToldBy 9 = .ok (.iload_n 3, 1) := by decide +kernel
theorem dX1_isToldBy_10 : decode cX1_isToldBy 10 = .ok (.invokestatic 78, 3) := by decide +kernel
theorem dX1_isToldBy_13 : decode cX1_isToldBy 13 = .ok (.ifCond .eq 33, 3) := by decide +kernel
theorem dX1_isToldBy_16 : decode cX1_isToldBy 16 = .ok (.aload_n 0, 1) := by decide +kernel
theorem dX1_isToldBy_17 : decode cX1_isToldBy 17 = .ok (.getfield 22, 3) := by decide +kernel
theorem dX1_isToldBy_20 : decode cX1_isToldBy 20 = .ok (.iload_n 3, 1) := by decide +kernel
theorem dX1_isToldBy_21 : decode cX1_isToldBy 21 = .ok (.iaload, 1) := by decide +kernel
theorem dX1_isToldBy_22 : decode cX1_isToldBy 22 = .ok (.iload_n 2, 1) := by decide +kernel
theorem dX1_isToldBy_23 : decode cX1_isToldBy 23 = .ok (.if_icmp .ne 23, 3) := by decide +kernel
theorem dX1_isToldBy_26 : decode cX1_isToldBy 26 = .ok (.aload_n 1, 1) := by decide +kernel
theorem dX1_isToldBy_27 : decode cX1_isToldBy 27 = .ok (.iload_n 3, 1) := by decide +kernel
theorem dX1_isToldBy_28 : decode cX1_isToldBy 28 = .ok (.aload_n 0, 1) := by decide +kernel
theorem dX1_isToldBy_29 : decode cX1_isToldBy 29 = .ok (.getfield 12, 3) := by decide +kernel
theorem dX1_isToldBy_32 : decode cX1_isToldBy 32 = .ok (.iload_n 2, 1) := by decide +kernel
theorem dX1_isToldBy_33 : decode cX1_isToldBy 33 = .ok (.invokevirtual 82, 3) := by decide +kernel
theorem dX1_isToldBy_36 : decode cX1_isToldBy 36 = .ok (.invokevirtual 85, 3) := by decide +kernel
theorem dX1_isToldBy_39 : decode cX1_isToldBy 39 = .ok (.ifCond .ne 7, 3) := by decide +kernel
theorem dX1_isToldBy_42 : decode cX1_isToldBy 42 = .ok (.iconst 1, 1) := by decide +kernel
theorem dX1_isToldBy_43 : decode cX1_isToldBy 43 = .ok (.goto 4, 3) := by decide +kernel
theorem dX1_isToldBy_46 : decode cX1_isToldBy 46 = .ok (.iconst 0, 1) := by decide +kernel
theorem dX1_isToldBy_47 : decode cX1_isToldBy 47 = .ok (.ireturn, 1) := by decide +kernel
theorem dX1_insert_0 : decode cX1_insert 0 = .ok (.aload_n 0, 1) := by decide +kernel
theorem dX1_insert_1 : decode cX1_insert 1 = .ok (.getfield 39, 3) := by decide +kernel
theorem dX1_insert_4 : decode cX1_insert 4 = .ok (.ifCond .lt 12, 3) := by decide +kernel
theorem dX1_insert_7 : decode cX1_insert 7 = .ok (.aload_n 0, 1) := by decide +kernel
theorem dX1_insert_8 : decode cX1_insert 8 = .ok (.getfield 39, 3) := by decide +kernel
theorem dX1_insert_11 : decode cX1_insert 11 = .ok (.bipush 60, 2) := by decide +kernel
theorem dX1_insert_13 : decode cX1_insert 13 = .ok (.if_icmp .lt 4, 3) := by decide +kernel
theorem dX1_insert_16 : decode cX1_insert 16 = .ok (.return_, 1) := by decide +kernel
theorem dX1_insert_17 : decode cX1_insert 17 = .ok (.aload_n 0, 1) := by decide +kernel
theorem dX1_insert_18 : decode cX1_insert 18 = .ok (.getfield 39, 3) := by decide +kernel
theorem dX1_insert_21 : decode cX1_insert 21 = .ok (.istore_n 2, 1) := by decide +kernel
theorem dX1_insert_22 : decode cX1_insert 22 = .ok (.iload_n 2, 1) := by decide +kernel
theorem dX1_insert_23 : decode cX1_insert 23 = .ok (.ifCond .le 49, 3) := by decide +kernel
theorem dX1_insert_26 : decode cX1_insert 26 = .ok (.aload_n 0, 1) := by decide +kernel
theorem dX1_insert_27 : decode cX1_insert 27 = .ok (.getfield 12, 3) := by decide +kernel
theorem dX1_insert_30 : decode cX1_insert 30 = .ok (.aload_n 0, 1) := by decide +kernel
theorem dX1_insert_31 : decode cX1_insert 31 = .ok (.getfield 18, 3) := by decide +kernel
theorem dX1_insert_34 : decode cX1_insert 34 = .ok (.iload_n 2, 1) := by decide +kernel
theorem dX1_insert_35 : decode cX1_insert 35 = .ok (.iconst 1, 1) := by decide +kernel
theorem dX1_insert_36 : decode cX1_insert 36 = .ok (.isub, 1) := by decide +kernel
theorem dX1_insert_37 : decode cX1_insert 37 = .ok (.iaload, 1) := by decide +kernel
theorem dX1_insert_38 : decode cX1_insert 38 = .ok (.invokevirtual 75, 3) := by decide +kernel
theorem dX1_insert_41 : decode cX1_insert 41 = .ok (.aload_n 0, 1) := by decide +kernel
theorem dX1_insert_42 : decode cX1_insert 42 = .ok (.getfield 12, 3) := by decide +kernel
theorem dX1_insert_45 : decode cX1_insert 45 = .ok (.iload_n 1, 1) := by decide +kernel
theorem dX1_insert_46 : decode cX1_insert 46 = .ok (.invokevirtual 75, 3) := by decide +kernel
theorem dX1_insert_49 : decode cX1_insert 49 = .ok (.if_icmp .le 23, 3) := by decide +kernel
theorem dX1_insert_52 : decode cX1_insert 52 = .ok (.aload_n 0, 1) := by decide +kernel
theorem dX1_insert_53 : decode cX1_insert 53 = .ok (.getfield 18, 3) := by decide +kernel
theorem dX1_insert_56 : decode cX1_insert 56 = .ok (.iload_n 2, 1) := by decide +kernel
theorem dX1_insert_57 : decode cX1_insert 57 = .ok (.aload_n 0, 1) := by decide +kernel
theorem dX1_insert_58 : decode cX1_insert 58 = .ok (.getfield 18, 3) := by decide +kernel
theorem dX1_insert_61 : decode cX1_insert 61 = .ok (.iload_n 2, 1) := by decide +kernel
theorem dX1_insert_62 : decode cX1_insert 62 = .ok (.iconst 1, 1) := by decide +kernel
theorem dX1_insert_63 : decode cX1_insert 63 = .ok (.isub, 1) := by decide +kernel
theorem dX1_insert_64 : decode cX1_insert 64 = .ok (.iaload, 1) := by decide +kernel
theorem dX1_insert_65 : decode cX1_insert 65 = .ok (.iastore, 1) := by decide +kernel
theorem dX1_insert_66 : decode cX1_insert 66 = .ok (.iinc 2 (-1), 3) := by decide +kernel
theorem dX1_insert_69 : decode cX1_insert 69 = .ok (.goto (-47), 3) := by decide +kernel
theorem dX1_insert_72 : decode cX1_insert 72 = .ok (.aload_n 0, 1) := by decide +kernel
theorem dX1_insert_73 : decode cX1_insert 73 = .ok (.getfield 18, 3) := by decide +kernel
theorem dX1_insert_76 : decode cX1_insert 76 = .ok (.iload_n 2, 1) := by decide +kernel
theorem dX1_insert_77 : decode cX1_insert 77 = .ok (.iload_n 1, 1) := by decide +kernel
theorem dX1_insert_78 : decode cX1_insert 78 = .ok (.iastore, 1) := by decide +kernel
theorem dX1_insert_79 : decode cX1_insert 79 = .ok (.aload_n 0, 1) := by decide +kernel
theorem dX1_insert_80 : decode cX1_insert 80 = .ok (.dup, 1) := by decide +kernel
theorem dX1_insert_81 : decode cX1_insert 81 = .ok (.getfield 39, 3) := by decide +kernel
theorem dX1_insert_84 : decode cX1_insert 84 = .ok (.iconst 1, 1) := by decide +kernel
theorem dX1_insert_85 : decode cX1_insert 85 = .ok (.iadd, 1) := by decide +kernel
theorem dX1_insert_86 : decode cX1_insert 86 = .ok (.putfield 39, 3) := by decide +kernel
theorem dX1_insert_89 : decode cX1_insert 89 = .ok (.return_, 1) := by decide +kernel
theorem dX2_init_0 : decode cX2_init 0 = .ok (.aload_n 0, 1) := by decide +kernel
theorem dX2_init_1 : decode cX2_init 1 = .ok (.invokespecial 3, 3) := by decide +kernel
theorem dX2_init_4 : decode cX2_init 4 = .ok (.aload_n 0, 1) := by decide +kernel
theorem dX2_init_5 : decode cX2_init 5 = .ok (.bipush 60, 2) := by decide +kernel
theorem dX2_init_7 : decode cX2_init 7 = .ok (.newarray .int, 2) := by decide +kernel
theorem dX2_init_9 : decode cX2_init 9 = .ok (.putfield 9, 3) := by decide +kernel
theorem dX2_init_12 : decode cX2_init 12 = .ok (.aload_n 0, 1) := by decide +kernel
theorem dX2_init_13 : decode cX2_init 13 = .ok (.bipush 60, 2) := by decide +kernel
theorem dX2_init_15 : decode cX2_init 15 = .ok (.newarray .int, 2) := by decide +kernel
theorem dX2_init_17 : decode cX2_init 17 = .ok (.putfield 15, 3) := by decide +kernel
theorem dX2_init_20 : decode cX2_init 20 = .ok (.aload_n 0, 1) := by decide +kernel
theorem dX2_init_21 : decode cX2_init 21 = .ok (.bipush 60, 2) := by decide +kernel
theorem dX2_init_23 : decode cX2_init 23 = .ok (.newarray .int, 2) := by decide +kernel
theorem dX2_init_25 : decode cX2_init 25 = .ok (.putfield 18, 3) := by decide +kernel
theorem dX2_init_28 : decode cX2_init 28 = .ok (.aload_n 0, 1) := by decide +kernel
theorem dX2_init_29 : decode cX2_init 29 = .ok (.bipush 60, 2) := by decide +kernel
theorem dX2_init_31 : decode cX2_init 31 = .ok (.newarray .int, 2) := by decide +kernel
theorem dX2_init_33 : decode cX2_init 33 = .ok (.putfield 21, 3) := by decide +kernel
theorem dX2_init_36 : decode cX2_init 36 = .ok (.aload_n 0, 1) := by decide +kernel
theorem dX2_init_37 : decode cX2_init 37 = .ok (.new 24, 3) := by decide +kernel
theorem dX2_init_40 : decode cX2_init 40 = .ok (.dup, 1) := by decide +kernel
theorem dX2_init_41 : decode cX2_init 41 = .ok (.invokespecial 26, 3) := by decide +kernel
theorem dX2_init_44 : decode cX2_init 44 = .ok (.putfield 27, 3) := by decide +kernel
theorem dX2_init_47 : decode cX2_init 47 = .ok (.aload_n 0, 1) := by decide +kernel
theorem dX2_init_48 : decode cX2_init 48 = .ok (.iconst (-1), 1) := by decide +kernel
theorem dX2_init_49 : decode cX2_init 49 = .ok (.putfield 31, 3) := by decide +kernel
theorem dX2_init_52 : decode cX2_init 52 = .ok (.return_, 1) := by decide +kernel
theorem dX2_scan_0 : decode cX2_scan 0 = .ok (.aload_n 0, 1) := by decide +kernel
theorem dX2_scan_1 : decode cX2_scan 1 = .ok (.aload_n 1, 1) := by decide +kernel
theorem dX2_scan_2 : decode cX2_scan 2 = .ok (.putfield 27, 3) := by decide +kernel
theorem dX2_scan_5 : decode cX2_scan 5 = .ok (.aload_n 0, 1) := by decide +kernel
theorem dX2_scan_6 : decode cX2_scan 6 = .ok (.iload_n 2, 1) := by decide +kernel
theorem dX2_scan_7 : decode cX2_scan 7 = .ok (.putfield 35, 3) := by decide +kernel
theorem dX2_scan_10 : decode cX2_scan 10 = .ok (.aload_n 0, 1) := by decide +kernel
theorem dX2_scan_11 : decode cX2_scan 11 = .ok (.iload_n 3, 1) := by decide +kernel
theorem dX2_scan_12 : decode cX2_scan 12 = .ok (.putfield 38, 3) := by decide +kernel
theorem dX2_scan_15 : decode cX2_scan 15 = .ok (.aload_n 0, 1) := by decide +kernel
theorem dX2_scan_16 : decode cX2_scan 16 = .ok (.iconst 0, 1) := by decide +kernel
theorem dX2_scan_17 : decode cX2_scan 17 = .ok (.putfield 41, 3) := by decide +kernel
theorem dX2_scan_20 : decode cX2_scan 20 = .ok (.aload_n 0, 1) := by decide +kernel
theorem dX2_scan_21 : decode cX2_scan 21 = .ok (.iconst 0, 1) := by decide +kernel
theorem dX2_scan_22 : decode cX2_scan 22 = .ok (.putfield 44, 3) := by decide +kernel
theorem dX2_scan_25 : decode cX2_scan 25 = .ok (.aload_n 0, 1) := by decide +kernel
theorem dX2_scan_26 : decode cX2_scan 26 = .ok (.iconst (-1), 1) := by decide +kernel
theorem dX2_scan_27 : decode cX2_scan 27 = .ok (.putfield 31, 3) := by decide +kernel
theorem dX2_scan_30 : decode cX2_scan 30 = .ok (.iconst 0, 1) := by decide +kernel
theorem dX2_scan_31 : decode cX2_scan 31 = .ok (.istore 4, 2) := by decide +kernel
theorem dX2_scan_33 : decode cX2_scan 33 = .ok (.iload 4, 2) := by decide +kernel
theorem dX2_scan_35 : decode cX2_scan 35 = .ok (.bipush 60, 2) := by decide +kernel
theorem dX2_scan_37 : decode cX2_scan 37 = .ok (.if_icmp .ge 54, 3) := by decide +kernel
theorem dX2_scan_40 : decode cX2_scan 40 = .ok (.aload_n 0, 1) := by decide +kernel
theorem dX2_scan_41 : decode cX2_scan 41 = .ok (.getfield 35, 3) := by decide +kernel
theorem dX2_scan_44 : decode cX2_scan 44 = .ok (.aload_n 0, 1) := by decide +kernel
theorem dX2_scan_45 : decode cX2_scan 45 = .ok (.getfield 38, 3) := by decide +kernel
theorem dX2_scan_48 : decode cX2_scan 48 = .ok (.if_icmp .ge 43, 3) := by decide +kernel
theorem dX2_scan_51 : decode cX2_scan 51 = .ok (.aload_n 0, 1) := by decide +kernel
theorem dX2_scan_52 : decode cX2_scan 52 = .ok (.getfield 44, 3) := by decide +kernel
theorem dX2_scan_55 : decode cX2_scan 55 = .ok (.ifCond .ne 36, 3) := by decide +kernel
theorem dX2_scan_58 : decode cX2_scan 58 = .ok (.aload_n 0, 1) := by decide +kernel
theorem dX2_scan_59 : decode cX2_scan 59 = .ok (.getfield 35, 3) := by decide +kernel
theorem dX2_scan_62 : decode cX2_scan 62 = .ok (.istore 5, 2) := by decide +kernel
theorem dX2_scan_64 : decode cX2_scan 64 = .ok (.aload_n 0, 1) := by decide +kernel
theorem dX2_scan_65 : decode cX2_scan 65 = .ok (.invokevirtual 47, 3) := by decide +kernel
theorem dX2_scan_68 : decode cX2_scan 68 = .ok (.aload_n 0, 1) := by decide +kernel
theorem dX2_scan_69 : decode cX2_scan 69 = .ok (.aload_n 0, 1) := by decide +kernel
theorem dX2_scan_70 : decode cX2_scan 70 = .ok (.getfield 44, 3) := by decide +kernel
theorem dX2_scan_73 : decode cX2_scan 73 = .ok (.ifCond .ne 7, 3) := by decide +kernel
theorem dX2_scan_76 : decode cX2_scan 76 = .ok (.iconst (-1), 1) := by decide +kernel
theorem dX2_scan_77 : decode cX2_scan 77 = .ok (.goto 5, 3) := by decide +kernel
theorem dX2_scan_80 : decode cX2_scan 80 = .ok (.iload 5, 2) := by decide +kernel
theorem dX2_scan_82 : decode cX2_scan 82 = .ok (.putfield 31, 3) := by decide +kernel
theorem dX2_scan_85 : decode cX2_scan 85 = .ok (.iinc 4 1, 3) := by decide +kernel
theorem dX2_scan_88 : decode cX2_scan 88 = .ok (.goto (-55), 3) := by decide +kernel
theorem dX2_scan_91 : decode cX2_scan 91 = .ok (.return_, 1) := by decide +kernel
theorem dX2_count_0 : decode cX2_count 0 = .ok (.aload_n 0, 1) := by decide +kernel
theorem dX2_count_1 : decode cX2_count 1 = .ok (.getfield 41, 3) := by decide +kernel
theorem dX2_count_4 : decode cX2_count 4 = .ok (.ireturn, 1) := by decide +kernel
theorem dX2_problem_0 : decode cX2_problem 0 = .ok (.aload_n 0, 1) := by decide +kernel
theorem dX2_problem_1 : decode cX2_problem 1 = .ok (.getfield 44, 3) := by decide +kernel
theorem dX2_problem_4 : decode cX2_problem 4 = .ok (.ireturn, 1) := by decide +kernel
theorem dX2_problemAt_0 : decode cX2_problemAt 0 = .ok (.aload_n 0, 1) := by decide +kernel
theorem dX2_problemAt_1 : decode cX2_problemAt 1 = .ok (.getfield 31, 3) := by decide +kernel
theorem dX2_problemAt_4 : decode cX2_problemAt 4 = .ok (.ireturn, 1) := by decide +kernel
theorem dX2_tagAt_0 : decode cX2_tagAt 0 = .ok (.aload_n 0, 1) := by decide +kernel
theorem dX2_tagAt_1 : decode cX2_tagAt 1 = .ok (.iload_n 1, 1) := by decide +kernel
theorem dX2_tagAt_2 : decode cX2_tagAt 2 = .ok (.invokevirtual 50, 3) := by decide +kernel
theorem dX2_tagAt_5 : decode cX2_tagAt 5 = .ok (.ifCond .eq 12, 3) := by decide +kernel
theorem dX2_tagAt_8 : decode cX2_tagAt 8 = .ok (.aload_n 0, 1) := by decide +kernel
theorem dX2_tagAt_9 : decode cX2_tagAt 9 = .ok (.getfield 9, 3) := by decide +kernel
theorem dX2_tagAt_12 : decode cX2_tagAt 12 = .ok (.iload_n 1, 1) := by decide +kernel
theorem dX2_tagAt_13 : decode cX2_tagAt 13 = .ok (.iaload, 1) := by decide +kernel
theorem dX2_tagAt_14 : decode cX2_tagAt 14 = .ok (.goto 4, 3) := by decide +kernel
theorem dX2_tagAt_17 : decode cX2_tagAt 17 = .ok (.iconst 0, 1) := by decide +kernel
theorem dX2_tagAt_18 : decode cX2_tagAt 18 = .ok (.ireturn, 1) := by decide +kernel
theorem dX2_typeAt_0 : decode cX2_typeAt 0 = .ok (.aload_n 0, 1) := by decide +kernel
theorem dX2_typeAt_1 : decode cX2_typeAt 1 = .ok (.iload_n 1, 1) := by decide +kernel
theorem dX2_typeAt_2 : decode cX2_typeAt 2 = .ok (.invokevirtual 50, 3) := by decide +kernel
theorem dX2_typeAt_5 : decode cX2_typeAt 5 = .ok (.ifCond .eq 12, 3) := by decide +kernel
theorem dX2_typeAt_8 : decode cX2_typeAt 8 = .ok (.aload_n 0, 1) := by decide +kernel
theorem dX2_typeAt_9 : decode cX2_typeAt 9 = .ok (.getfield 15, 3) := by decide +kernel
theorem dX2_typeAt_12 : decode cX2_typeAt 12 = .ok (.iload_n 1, 1) := by decide +kernel
theorem dX2_typeAt_13 : decode cX2_typeAt 13 = .ok (.iaload, 1) := by decide +kernel
theorem dX2_typeAt_14 : decode cX2_typeAt 14 = .ok (.goto 4, 3) := by decide +kernel
theorem dX2_typeAt_17 : decode cX2_typeAt 17 = .ok (.iconst (-1), 1) := by decide +kernel
theorem dX2_typeAt_18 : decode cX2_typeAt 18 = .ok (.ireturn, 1) := by decide +kernel
theorem dX2_numberAt_0 : decode cX2_numberAt 0 = .ok (.aload_n 0, 1) := by decide +kernel
theorem dX2_numberAt_1 : decode cX2_numberAt 1 = .ok (.iload_n 1, 1) := by decide +kernel
theorem dX2_numberAt_2 : decode cX2_numberAt 2 = .ok (.invokevirtual 50, 3) := by decide +kernel
theorem dX2_numberAt_5 : decode cX2_numberAt 5 = .ok (.ifCond .eq 12, 3) := by decide +kernel
theorem dX2_numberAt_8 : decode cX2_numberAt 8 = .ok (.aload_n 0, 1) := by decide +kernel
theorem dX2_numberAt_9 : decode cX2_numberAt 9 = .ok (.getfield 18, 3) := by decide +kernel
theorem dX2_numberAt_12 : decode cX2_numberAt 12 = .ok (.iload_n 1, 1) := by decide +kernel
theorem dX2_numberAt_13 : decode cX2_numberAt 13 = .ok (.iaload, 1) := by decide +kernel
theorem dX2_numberAt_14 : decode cX2_numberAt 14 = .ok (.goto 4, 3) := by decide +kernel
theorem dX2_numberAt_17 : decode cX2_numberAt 17 = .ok (.iconst 0, 1) := by decide +kernel
theorem dX2_numberAt_18 : decode cX2_numberAt 18 = .ok (.ireturn, 1) := by decide +kernel
theorem dX2_endAt_0 : decode cX2_endAt 0 = .ok (.aload_n 0, 1) := by decide +kernel
theorem dX2_endAt_1 : decode cX2_endAt 1 = .ok (.iload_n 1, 1) := by decide +kernel
theorem dX2_endAt_2 : decode cX2_endAt 2 = .ok (.invokevirtual 50, 3) := by decide +kernel
theorem dX2_endAt_5 : decode cX2_endAt 5 = .ok (.ifCond .eq 12, 3) := by decide +kernel
theorem dX2_endAt_8 : decode cX2_endAt 8 = .ok (.aload_n 0, 1) := by decide +kernel
theorem dX2_endAt_9 : decode cX2_endAt 9 = .ok (.getfield 21, 3) := by decide +kernel
theorem dX2_endAt_12 : decode cX2_endAt 12 = .ok (.iload_n 1, 1) := by decide +kernel
theorem dX2_endAt_13 : decode cX2_endAt 13 = .ok (.iaload, 1) := by decide +kernel
theorem dX2_endAt_14 : decode cX2_endAt 14 = .ok (.goto 4, 3) := by decide +kernel
theorem dX2_endAt_17 : decode cX2_endAt 17 = .ok (.iconst 0, 1) := by decide +kernel
theorem dX2_endAt_18 : decode cX2_endAt 18 = .ok (.ireturn, 1) := by decide +kernel
theorem dX2_bytesAt_0 : decode cX2_bytesAt 0 = .ok (.aload_n 0, 1) := by decide +kernel
theorem dX2_bytesAt_1 : decode cX2_bytesAt 1 = .ok (.iload_n 1, 1) := by decide +kernel
theorem dX2_bytesAt_2 : decode cX2_bytesAt 2 = .ok (.invokevirtual 54, 3) := by decide +kernel
theorem dX2_bytesAt_5 : decode cX2_bytesAt 5 = .ok (.iconst 2, 1) := by decide +kernel
theorem dX2_bytesAt_6 : decode cX2_bytesAt 6 = .ok (.if_icmp .ne 11, 3) := by decide +kernel
theorem dX2_bytesAt_9 : decode cX2_bytesAt 9 = .ok (.aload_n 0, 1) := by decide +kernel
theorem dX2_bytesAt_10 : decode cX2_bytesAt 10 = .ok (.iload_n 1, 1) := by decide +kernel
theorem dX2_bytesAt_11 : decode cX2_bytesAt 11 = .ok (.invokevirtual 58, 3) := by decide +kernel
theorem dX2_bytesAt_14 : decode cX2_bytesAt 14 = .ok (.goto 4, 3) := by decide +kernel
theorem dX2_bytesAt_17 : decode cX2_bytesAt 17 = .ok (.iconst 0, 1) := by decide +kernel
theorem dX2_bytesAt_18 : decode cX2_bytesAt 18 = .ok (.ireturn, 1) := by decide +kernel
theorem dX2_bytesBeginAt_0 : decode cX2_bytesBeginAt 0 = .ok (.aload_n 0, 1) := by decide +kernel
theorem dX2_bytesBeginAt_1 : decode cX2_bytesBeginAt 1 = .ok (.iload_n 1, 1) := by decide +kernel
theorem dX2_bytesBeginAt_2 : decode cX2_bytesBeginAt 2 = .ok (.invokevirtual 61, 3) := by decide +kernel
theorem dX2_bytesBeginAt_5 : decode cX2_bytesBeginAt 5 = .ok (.aload_n 0, 1) := by decide +kernel
theorem dX2_bytesBeginAt_6 : decode cX2_bytesBeginAt 6 = .ok (.iload_n 1, 1) := by decide +kernel
theorem dX2_bytesBeginAt_7 : decode cX2_bytesBeginAt 7 = .ok (.invokevirtual 64, 3) := by decide +kernel
theorem dX2_bytesBeginAt_10 : decode cX2_bytesBeginAt 10 = .ok (.isub, 1) := by decide +kernel
theorem dX2_bytesBeginAt_11 : decode cX2_bytesBeginAt 11 = .ok (.ireturn, 1) := by decide +kernel
theorem dX2_isKnown_0 : decode cX2_isKnown 0 = .ok (.aload_n 1, 1) := by decide +kernel
theorem dX2_isKnown_1 : decode cX2_isKnown 1 = .ok (.aload_n 0, 1) := by decide +kernel
theorem dX2_isKnown_2 : decode cX2_isKnown 2 = .ok (.iload_n 2, 1) := by decide +kernel
theorem dX2_isKnown_3 : decode cX2_isKnown 3 = .ok (.invokevirtual 67, 3) := by decide +kernel
theorem dX2_isKnown_6 : decode cX2_isKnown 6 = .ok (.aload_n 0, 1) := by decide +kernel
theorem dX2_isKnown_7 : decode cX2_isKnown 7 = .ok (.iload_n 2, 1) := by decide +kernel
theorem dX2_isKnown_8 : decode cX2_isKnown 8 = .ok (.invokevirtual 54, 3) := by decide +kernel
theorem dX2_isKnown_11 : decode cX2_isKnown 11 = .ok (.invokevirtual 70, 3) := by decide +kernel
theorem dX2_isKnown_14 : decode cX2_isKnown 14 = .ok (.ireturn, 1) := by decide +kernel
theorem dX2_lastKnown_0 : decode cX2_lastKnown 0 = .ok (.aload_n 0, 1) := by decide +kernel
theorem dX2_lastKnown_1 : decode cX2_lastKnown 1 = .ok (.getfield 41, 3) := by decide +kernel
theorem dX2_lastKnown_4 : decode cX2_lastKnown 4 = .ok (.iconst 1, 1) := by decide +kernel
theorem dX2_lastKnown_5 : decode cX2_lastKnown 5 = .ok (.isub, 1) := by decide +kernel
theorem dX2_lastKnown_6 : decode cX2_lastKnown 6 = .ok (.istore_n 3, 1) := by decide +kernel
theorem dX2_lastKnown_7 : decode cX2_lastKnown 7 = .ok (.iload_n 3, 1) := by decide +kernel
theorem dX2_lastKnown_8 : decode cX2_lastKnown 8 = .ok (.ifCond .lt 29, 3) := by decide +kernel
theorem dX2_lastKnown_11 : decode cX2_lastKnown 11 = .ok (.aload_n 0, 1) := by decide +kernel
theorem dX2_lastKnown_12 : decode cX2_lastKnown 12 = .ok (.iload_n 3, 1) := by decide +kernel
theorem dX2_lastKnown_13 : decode cX2_lastKnown 13 = .ok (.invokevirtual 67, 3) := by decide +kernel
theorem dX2_lastKnown_16 : decode cX2_lastKnown 16 = .ok (.iload_n 2, 1) := by decide +kernel
theorem dX2_lastKnown_17 : decode cX2_lastKnown 17 = .ok (.if_icmp .ne 14, 3) := by decide +kernel
theorem dX2_lastKnown_20 : decode cX2_lastKnown 20 = .ok (.aload_n 0, 1) := by decide +kernel
theorem dX2_lastKnown_21 : decode cX2_lastKnown 21 = .ok (.aload_n 1, 1) := by decide +kernel
theorem dX2_lastKnown_22 : decode cX2_lastKnown 22 = .ok (.iload_n 3, 1) := by decide +kernel
theorem dX2_lastKnown_23 : decode cX2_lastKnown 23 = .ok (.invokevirtual 76, 3) := by decide +kernel
theorem dX2_lastKnown_26 : decode cX2_lastKnown 26 = .ok (.ifCond .eq 5, 3) := by decide +kernel
theorem dX2_lastKnown_29 : decode cX2_lastKnown 29 = .ok (.iload_n 3, 1) := by decide +kernel
theorem dX2_lastKnown_30 : decode cX2_lastKnown 30 = .ok (.ireturn, 1) := by decide +kernel
theorem dX2_lastKnown_31 : decode cX2_lastKnown 31 = .ok (.iinc 3 (-1), 3) := by decide +kernel
theorem dX2_lastKnown_34 : decode cX2_lastKnown 34 = .ok (.goto (-27), 3) := by decide +kernel
theorem dX2_lastKnown_37 : decode cX2_lastKnown 37 = .ok (.iconst (-1), 1) := by decide +kernel
theorem dX2_lastKnown_38 : decode cX2_lastKnown 38 = .ok (.ireturn, 1) := by decide +kernel
theorem dX2_writeTo_0 : decode cX2_writeTo 0 = .ok (.aload_n 0, 1) := by decide +kernel
theorem dX2_writeTo_1 : decode cX2_writeTo 1 = .ok (.iload_n 2, 1) := by decide +kernel
theorem dX2_writeTo_2 : decode cX2_writeTo 2 = .ok (.invokevirtual 54, 3) := by decide +kernel
theorem dX2_writeTo_5 : decode cX2_writeTo 5 = .ok (.iconst 2, 1) := by decide +kernel
theorem dX2_writeTo_6 : decode cX2_writeTo 6 = .ok (.if_icmp .ne 38, 3) := by decide +kernel
theorem dX2_writeTo_9 : decode cX2_writeTo 9 = .ok (.aload_n 1, 1) := by decide +kernel
theorem dX2_writeTo_10 : decode cX2_writeTo 10 = .ok (.aload_n 0, 1) := by decide +kernel
theorem dX2_writeTo_11 : decode cX2_writeTo 11 = .ok (.iload_n 2, 1) := by decide +kernel
theorem dX2_writeTo_12 : decode cX2_writeTo 12 = .ok (.invokevirtual 67, 3) := by decide +kernel
theorem dX2_writeTo_15 : decode cX2_writeTo 15 = .ok (.aload_n 0, 1) := by decide +kernel
theorem dX2_writeTo_16 : decode cX2_writeTo 16 = .ok (.iload_n 2, 1) := by decide +kernel
theorem dX2_writeTo_17 : decode cX2_writeTo 17 = .ok (.invokevirtual 64, 3) := by decide +kernel
theorem dX2_writeTo_20 : decode cX2_writeTo 20 = .ok (.invokevirtual 80, 3) := by decide +kernel
theorem dX2_writeTo_23 : decode cX2_writeTo 23 = .ok (.aload_n 1, 1) := by decide +kernel
theorem dX2_writeTo_24 : decode cX2_writeTo 24 = .ok (.aload_n 0, 1) := by decide +kernel
theorem dX2_writeTo_25 : decode cX2_writeTo 25 = .ok (.getfield 27, 3) := by decide +kernel
theorem dX2_writeTo_28 : decode cX2_writeTo 28 = .ok (.aload_n 0, 1) := by decide +kernel
theorem dX2_writeTo_29 : decode cX2_writeTo 29 = .ok (.iload_n 2, 1) := by decide +kernel
theorem dX2_writeTo_30 : decode cX2_writeTo 30 = .ok (.invokevirtual 84, 3) := by decide +kernel
theorem dX2_writeTo_33 : decode cX2_writeTo 33 = .ok (.aload_n 0, 1) := by decide +kernel
theorem dX2_writeTo_34 : decode cX2_writeTo 34 = .ok (.iload_n 2, 1) := by decide +kernel
theorem dX2_writeTo_35 : decode cX2_writeTo 35 = .ok (.invokevirtual 61, 3) := by decide +kernel
theorem dX2_writeTo_38 : decode cX2_writeTo 38 = .ok (.invokevirtual 87, 3) := by decide +kernel
theorem dX2_writeTo_41 : decode cX2_writeTo 41 = .ok (.goto 22, 3) := by decide +kernel
theorem dX2_writeTo_44 : decode cX2_writeTo 44 = .ok (.aload_n 1, 1) := by decide +kernel
theorem dX2_writeTo_45 : decode cX2_writeTo 45 = .ok (.aload_n 0, 1) := by decide +kernel
theorem dX2_writeTo_46 : decode cX2_writeTo 46 = .ok (.iload_n 2, 1) := by decide +kernel
theorem dX2_writeTo_47 : decode cX2_writeTo 47 = .ok (.invokevirtual 67, 3) := by decide +kernel
theorem dX2_writeTo_50 : decode cX2_writeTo 50 = .ok (.aload_n 0, 1) := by decide +kernel
theorem dX2_writeTo_51 : decode cX2_writeTo 51 = .ok (.iload_n 2, 1) := by decide +kernel
theorem dX2_writeTo_52 : decode cX2_writeTo 52 = .ok (.invokevirtual 54, 3) := by decide +kernel
theorem dX2_writeTo_55 : decode cX2_writeTo 55 = .ok (.aload_n 0, 1) := by decide +kernel
theorem dX2_writeTo_56 : decode cX2_writeTo 56 = .ok (.iload_n 2, 1) := by decide +kernel
theorem dX2_writeTo_57 : decode cX2_writeTo 57 = .ok (.invokevirtual 58, 3) := by decide +kernel
theorem dX2_writeTo_60 : decode cX2_writeTo 60 = .ok (.invokevirtual 91, 3) := by decide +kernel
theorem dX2_writeTo_63 : decode cX2_writeTo 63 = .ok (.return_, 1) := by decide +kernel
theorem dX2_isSameAt_0 : decode cX2_isSameAt 0 = .ok (.aload_n 0, 1) := by decide +kernel
theorem dX2_isSameAt_1 : decode cX2_isSameAt 1 = .ok (.iload_n 1, 1) := by decide +kernel
theorem dX2_isSameAt_2 : decode cX2_isSameAt 2 = .ok (.invokevirtual 67, 3) := by decide +kernel
theorem dX2_isSameAt_5 : decode cX2_isSameAt 5 = .ok (.aload_n 2, 1) := by decide +kernel
theorem dX2_isSameAt_6 : decode cX2_isSameAt 6 = .ok (.iload_n 3, 1) := by decide +kernel
theorem dX2_isSameAt_7 : decode cX2_isSameAt 7 = .ok (.invokevirtual 67, 3) := by decide +kernel
theorem dX2_isSameAt_10 : decode cX2_isSameAt 10 = .ok (.if_icmp .ne 62, 3) := by decide +kernel
theorem dX2_isSameAt_13 : decode cX2_isSameAt 13 = .ok (.aload_n 0, 1) := by decide +kernel
theorem dX2_isSameAt_14 : decode cX2_isSameAt 14 = .ok (.iload_n 1, 1) := by decide +kernel
theorem dX2_isSameAt_15 : decode cX2_isSameAt 15 = .ok (.invokevirtual 54, 3) := by decide +kernel
theorem dX2_isSameAt_18 : decode cX2_isSameAt 18 = .ok (.aload_n 2, 1) := by decide +kernel
theorem dX2_isSameAt_19 : decode cX2_isSameAt 19 = .ok (.iload_n 3, 1) := by decide +kernel
theorem dX2_isSameAt_20 : decode cX2_isSameAt 20 = .ok (.invokevirtual 54, 3) := by decide +kernel
theorem dX2_isSameAt_23 : decode cX2_isSameAt 23 = .ok (.if_icmp .ne 49, 3) := by decide +kernel
theorem dX2_isSameAt_26 : decode cX2_isSameAt 26 = .ok (.aload_n 0, 1) := by decide +kernel
theorem dX2_isSameAt_27 : decode cX2_isSameAt 27 = .ok (.iload_n 1, 1) := by decide +kernel
theorem dX2_isSameAt_28 : decode cX2_isSameAt 28 = .ok (.invokevirtual 58, 3) := by decide +kernel
theorem dX2_isSameAt_31 : decode cX2_isSameAt 31 = .ok (.aload_n 2, 1) := by decide +kernel
theorem dX2_isSameAt_32 : decode cX2_isSameAt 32 = .ok (.iload_n 3, 1) := by decide +kernel
theorem dX2_isSameAt_33 : decode cX2_isSameAt 33 = .ok (.invokevirtual 58, 3) := by decide +kernel
theorem dX2_isSameAt_36 : decode cX2_isSameAt 36 = .ok (.if_icmp .ne 36, 3) := by decide +kernel
theorem dX2_isSameAt_39 : decode cX2_isSameAt 39 = .ok (.aload_n 0, 1) := by decide +kernel
theorem dX2_isSameAt_40 : decode cX2_isSameAt 40 = .ok (.getfield 27, 3) := by decide +kernel
theorem dX2_isSameAt_43 : decode cX2_isSameAt 43 = .ok (.aload_n 0, 1) := by decide +kernel
theorem dX2_isSameAt_44 : decode cX2_isSameAt 44 = .ok (.iload_n 1, 1) := by decide +kernel
theorem dX2_isSameAt_45 : decode cX2_isSameAt 45 = .ok (.invokevirtual 84, 3) := by decide +kernel
theorem dX2_isSameAt_48 : decode cX2_isSameAt 48 = .ok (.aload_n 2, 1) := by decide +kernel
theorem dX2_isSameAt_49 : decode cX2_isSameAt 49 = .ok (.getfield 27, 3) := by decide +kernel
theorem dX2_isSameAt_52 : decode cX2_isSameAt 52 = .ok (.aload_n 2, 1) := by decide +kernel
theorem dX2_isSameAt_53 : decode cX2_isSameAt 53 = .ok (.iload_n 3, 1) := by decide +kernel
theorem dX2_isSameAt_54 : decode cX2_isSameAt 54 = .ok (.invokevirtual 84, 3) := by decide +kernel
theorem dX2_isSameAt_57 : decode cX2_isSameAt 57 = .ok (.aload_n 0, 1) := by decide +kernel
theorem dX2_isSameAt_58 : decode cX2_isSameAt 58 = .ok (.iload_n 1, 1) := by decide +kernel
theorem dX2_isSameAt_59 : decode cX2_isSameAt 59 = .ok (.invokevirtual 64, 3) := by decide +kernel
theorem dX2_isSameAt_62 : decode cX2_isSameAt 62 = .ok (.invokevirtual 95, 3) := by decide +kernel
theorem dX2_isSameAt_65 : decode cX2_isSameAt 65 = .ok (.ifCond .eq 7, 3) := by decide +kernel
theorem dX2_isSameAt_68 : decode cX2_isSameAt 68 = .ok (.iconst 1, 1) := by decide +kernel
theorem dX2_isSameAt_69 : decode cX2_isSameAt 69 = .ok (.goto 4, 3) := by decide +kernel
theorem dX2_isSameAt_72 : decode cX2_isSameAt 72 = .ok (.iconst 0, 1) := by decide +kernel
theorem dX2_isSameAt_73 : decode cX2_isSameAt 73 = .ok (.ireturn, 1) := by decide +kernel
theorem dX2_isPlace_0 : decode cX2_isPlace 0 = .ok (.iload_n 1, 1) := by decide +kernel
theorem dX2_isPlace_1 : decode cX2_isPlace 1 = .ok (.ifCond .lt 21, 3) := by decide +kernel
theorem dX2_isPlace_4 : decode cX2_isPlace 4 = .ok (.iload_n 1, 1) := by decide +kernel
theorem dX2_isPlace_5 : decode cX2_isPlace 5 = .ok (.aload_n 0, 1) := by decide +kernel
theorem dX2_isPlace_6 : decode cX2_isPlace 6 = .ok (.getfield 41, 3) := by decide +kernel
theorem dX2_isPlace_9 : decode cX2_isPlace 9 = .ok (.if_icmp .ge 13, 3) := by decide +kernel
theorem dX2_isPlace_12 : decode cX2_isPlace 12 = .ok (.iload_n 1, 1) := by decide +kernel
theorem dX2_isPlace_13 : decode cX2_isPlace 13 = .ok (.bipush 60, 2) := by decide +kernel
theorem dX2_isPlace_15 : decode cX2_isPlace 15 = .ok (.if_icmp .ge 7, 3) := by decide +kernel
theorem dX2_isPlace_18 : decode cX2_isPlace 18 = .ok (.iconst 1, 1) := by decide +kernel
theorem dX2_isPlace_19 : decode cX2_isPlace 19 = .ok (.goto 4, 3) := by decide +kernel
theorem dX2_isPlace_22 : decode cX2_isPlace 22 = .ok (.iconst 0, 1) := by decide +kernel
theorem dX2_isPlace_23 : decode cX2_isPlace 23 = .ok (.ireturn, 1) := by decide +kernel
theorem dX2_scanField_0 : decode cX2_scanField 0 = .ok (.aload_n 0, 1) := by decide +kernel
theorem dX2_scanField_1 : decode cX2_scanField 1 = .ok (.invokevirtual 99, 3) := by decide +kernel
theorem dX2_scanField_4 : decode cX2_scanField 4 = .ok (.istore_n 1, 1) := by decide +kernel
theorem dX2_scanField_5 : decode cX2_scanField 5 = .ok (.iload_n 1, 1) := by decide +kernel
theorem dX2_scanField_6 : decode cX2_scanField 6 = .ok (.iconst 3, 1) := by decide +kernel
theorem dX2_scanField_7 : decode cX2_scanField 7 = .ok (.iushr, 1) := by decide +kernel
theorem dX2_scanField_8 : decode cX2_scanField 8 = .ok (.istore_n 2, 1) := by decide +kernel
theorem dX2_scanField_9 : decode cX2_scanField 9 = .ok (.iload_n 1, 1) := by decide +kernel
theorem dX2_scanField_10 : decode cX2_scanField 10 = .ok (.bipush 7, 2) := by decide +kernel
theorem dX2_scanField_12 : decode cX2_scanField 12 = .ok (.iand, 1) := by decide +kernel
theorem dX2_scanField_13 : decode cX2_scanField 13 = .ok (.istore_n 3, 1) := by decide +kernel
theorem dX2_scanField_14 : decode cX2_scanField 14 = .ok (.aload_n 0, 1) := by decide +kernel
theorem dX2_scanField_15 : decode cX2_scanField 15 = .ok (.getfield 44, 3) := by decide +kernel
theorem dX2_scanField_18 : decode cX2_scanField 18 = .ok (.ifCond .ne 12, 3) := by decide +kernel
theorem dX2_scanField_21 : decode cX2_scanField 21 = .ok (.aload_n 0, 1) := by decide +kernel
theorem dX2_scanField_22 : decode cX2_scanField 22 = .ok (.iload_n 2, 1) := by decide +kernel
theorem dX2_scanField_23 : decode cX2_scanField 23 = .ok (.iload_n 3, 1) := by decide +kernel
theorem dX2_scanField_24 : decode cX2_scanField 24 = .ok (.invokestatic 103, 3) := by decide +kernel
theorem dX2_scanField_27 : decode cX2_scanField 27 = .ok (.putfield 44, 3) := by decide +kernel
theorem dX2_scanField_30 : decode cX2_scanField 30 = .ok (.aload_n 0, 1) := by decide +kernel
theorem dX2_scanField_31 : decode cX2_scanField 31 = .ok (.getfield 44, 3) := by decide +kernel
theorem dX2_scanField_34 : decode cX2_scanField 34 = .ok (.ifCond .eq 4, 3) := by decide +kernel
theorem dX2_scanField_37 : decode cX2_scanField 37 = .ok (.return_, 1) := by decide +kernel
theorem dX2_scanField_38 : decode cX2_scanField 38 = .ok (.iload_n 3, 1) := by decide +kernel
theorem dX2_scanField_39 : decode cX2_scanField 39 = .ok (.iconst 5, 1) := by decide +kernel
theorem dX2_scanField_40 : decode cX2_scanField 40 = .ok (.if_icmp .ne 10, 3) := by decide +kernel
theorem dX2_scanField_43 : decode cX2_scanField 43 = .ok (.aload_n 0, 1) := by decide +kernel
theorem dX2_scanField_44 : decode cX2_scanField 44 = .ok (.invokevirtual 107, 3) := by decide +kernel
theorem dX2_scanField_47 : decode cX2_scanField 47 = .ok (.goto 7, 3) := by decide +kernel
theorem dX2_scanField_50 : decode cX2_scanField 50 = .ok (.aload_n 0, 1) := by decide +kernel
theorem dX2_scanField_51 : decode cX2_scanField 51 = .ok (.invokevirtual 99, 3) := by decide +kernel
theorem dX2_scanField_54 : decode cX2_scanField 54 = .ok (.istore 4, 2) := by decide +kernel
theorem dX2_scanField_56 : decode cX2_scanField 56 = .ok (.aload_n 0, 1) := by decide +kernel
theorem dX2_scanField_57 : decode cX2_scanField 57 = .ok (.getfield 44, 3) := by decide +kernel
theorem dX2_scanField_60 : decode cX2_scanField 60 = .ok (.ifCond .ne 14, 3) := by decide +kernel
theorem dX2_scanField_63 : decode cX2_scanField 63 = .ok (.iload_n 3, 1) := by decide +kernel
theorem dX2_scanField_64 : decode cX2_scanField 64 = .ok (.iconst 2, 1) := by decide +kernel
theorem dX2_scanField_65 : decode cX2_scanField 65 = .ok (.if_icmp .ne 9, 3) := by decide +kernel
theorem dX2_scanField_68 : decode cX2_scanField 68 = .ok (.aload_n 0, 1) := by decide +kernel
theorem dX2_scanField_69 : decode cX2_scanField 69 = .ok (.iload 4, 2) := by decide +kernel
theorem dX2_scanField_71 : decode cX2_scanField 71 = .ok (.invokevirtual 110, 3) := by decide +kernel
theorem dX2_scanField_74 : decode cX2_scanField 74 = .ok (.aload_n 0, 1) := by decide +kernel
theorem dX2_scanField_75 : decode cX2_scanField 75 = .ok (.getfield 44, 3) := by decide +kernel
theorem dX2_scanField_78 : decode cX2_scanField 78 = .ok (.ifCond .ne 11, 3) := by decide +kernel
theorem dX2_scanField_81 : decode cX2_scanField 81 = .ok (.aload_n 0, 1) := by decide +kernel
theorem dX2_scanField_82 : decode cX2_scanField 82 = .ok (.iload_n 2, 1) := by decide +kernel
theorem dX2_scanField_83 : decode cX2_scanField 83 = .ok (.iload_n 3, 1) := by decide +kernel
theorem dX2_scanField_84 : decode cX2_scanField 84 = .ok (.iload 4, 2) := by decide +kernel
theorem dX2_scanField_86 : decode cX2_scanField 86 = .ok (.invokevirtual 114, 3) := by decide +kernel
theorem dX2_scanField_89 : decode cX2_scanField 89 = .ok (.return_, 1) := by decide +kernel
theorem dX2_keyProblem_0 : decode cX2_keyProblem 0 = .ok (.iload_n 0, 1) := by decide +kernel
theorem dX2_keyProblem_1 : decode cX2_keyProblem 1 = .ok (.invokestatic 117, 3) := by decide +kernel
theorem dX2_keyProblem_4 : decode cX2_keyProblem 4 = .ok (.ifCond .ne 5, 3) := by decide +kernel
theorem dX2_keyProblem_7 : decode cX2_keyProblem 7 = .ok (.iconst 3, 1) := by decide +kernel
theorem dX2_keyProblem_8 : decode cX2_keyProblem 8 = .ok (.ireturn, 1) := by decide +kernel
theorem dX2_keyProblem_9 : decode cX2_keyProblem 9 = .ok (.iload_n 1, 1) := by decide +kernel
theorem dX2_keyProblem_10 : decode cX2_keyProblem 10 = .ok (.ifCond .eq 13, 3) := by decide +kernel
theorem dX2_keyProblem_13 : decode cX2_keyProblem 13 = .ok (.iload_n 1, 1) := by decide +kernel
theorem dX2_keyProblem_14 : decode cX2_keyProblem 14 = .ok (.iconst 2, 1) := by decide +kernel
theorem dX2_keyProblem_15 : decode cX2_keyProblem 15 = .ok (.if_icmp .eq 8, 3) := by decide +kernel
theorem dX2_keyProblem_18 : decode cX2_keyProblem 18 = .ok (.iload_n 1, 1) := by decide +kernel
theorem dX2_keyProblem_19 : decode cX2_keyProblem 19 = .ok (.iconst 5, 1) := by decide +kernel
theorem dX2_keyProblem_20 : decode cX2_keyProblem 20 = .ok (.if_icmp .ne 7, 3) := by decide +kernel
theorem dX2_keyProblem_23 : decode cX2_keyProblem 23 = .ok (.iconst 0, 1) := by decide +kernel
theorem dX2_keyProblem_24 : decode cX2_keyProblem 24 = .ok (.goto 4, 3) := by decide +kernel
theorem dX2_keyProblem_27 : decode cX2_keyProblem 27 = .ok (.iconst 4, 1) := by decide +kernel
theorem dX2_keyProblem_28 : decode cX2_keyProblem 28 = .ok (.ireturn, 1) := by decide +kernel
theorem dX2_scanGroups_0 : decode cX2_scanGroups 0 = .ok (.iconst 0, 1) := by decide +kernel
theorem dX2_scanGroups_1 : decode cX2_scanGroups 1 = .ok (.istore_n 1, 1) := by decide +kernel
theorem dX2_scanGroups_2 : decode cX2_scanGroups 2 = .ok (.iconst 0, 1) := by decide +kernel
theorem dX2_scanGroups_3 : decode cX2_scanGroups 3 = .ok (.istore_n 2, 1) := by decide +kernel
theorem dX2_scanGroups_4 : decode cX2_scanGroups 4 = .ok (.iload_n 2, 1) := by decide +kernel
theorem dX2_scanGroups_5 : decode cX2_scanGroups 5 = .ok (.bipush 28, 2) := by decide +kernel
theorem dX2_scanGroups_7 : decode cX2_scanGroups 7 = .ok (.if_icmp .gt 91, 3) := by decide +kernel
theorem dX2_scanGroups_10 : decode cX2_scanGroups 10 = .ok (.aload_n 0, 1) := by decide +kernel
theorem dX2_scanGroups_11 : decode cX2_scanGroups 11 = .ok (.getfield 35, 3) := by decide +kernel
theorem dX2_scanGroups_14 : decode cX2_scanGroups 14 = .ok (.aload_n 0, 1) := by decide +kernel
theorem dX2_scanGroups_15 : decode cX2_scanGroups 15 = .ok (.getfield 38, 3) := by decide +kernel
theorem dX2_scanGroups_18 : decode cX2_scanGroups 18 = .ok (.if_icmp .lt 10, 3) := by decide +kernel
theorem dX2_scanGroups_21 : decode cX2_scanGroups 21 = .ok (.aload_n 0, 1) := by decide +kernel
theorem dX2_scanGroups_22 : decode cX2_scanGroups 22 = .ok (.iconst 1, 1) := by decide +kernel
theorem dX2_scanGroups_23 : decode cX2_scanGroups 23 = .ok (.putfield 44, 3) := by decide +kernel
theorem dX2_scanGroups_26 : decode cX2_scanGroups 26 = .ok (.iconst 0, 1) := by decide +kernel
theorem dX2_scanGroups_27 : decode cX2_scanGroups 27 = .ok (.ireturn, 1) := by decide +kernel
theorem dX2_scanGroups_28 : decode cX2_scanGroups 28 = .ok (.aload_n 0, 1) := by decide +kernel
theorem dX2_scanGroups_29 : decode cX2_scanGroups 29 = .ok (.getfield 27, 3) := by decide +kernel
theorem dX2_scanGroups_32 : decode cX2_scanGroups 32 = .ok (.aload_n 0, 1) := by decide +kernel
theorem dX2_scanGroups_33 : decode cX2_scanGroups 33 = .ok (.getfield 35, 3) := by decide +kernel
theorem dX2_scanGroups_36 : decode cX2_scanGroups 36 = .ok (.invokevirtual 120, 3) := by decide +kernel
theorem dX2_scanGroups_39 : decode cX2_scanGroups 39 = .ok (.sipush 255, 3) := by decide +kernel
theorem dX2_scanGroups_42 : decode cX2_scanGroups 42 = .ok (.iand, 1) := by decide +kernel
theorem dX2_scanGroups_43 : decode cX2_scanGroups 43 = .ok (.istore_n 3, 1) := by decide +kernel
theorem dX2_scanGroups_44 : decode cX2_scanGroups 44 = .ok (.aload_n 0, 1) := by decide +kernel
theorem dX2_scanGroups_45 : decode cX2_scanGroups 45 = .ok (.dup, 1) := by decide +kernel
theorem dX2_scanGroups_46 : decode cX2_scanGroups 46 = .ok (.getfield 35, 3) := by decide +kernel
theorem dX2_scanGroups_49 : decode cX2_scanGroups 49 = .ok (.iconst 1, 1) := by decide +kernel
theorem dX2_scanGroups_50 : decode cX2_scanGroups 50 = .ok (.iadd, 1) := by decide +kernel
theorem dX2_scanGroups_51 : decode cX2_scanGroups 51 = .ok (.putfield 35, 3) := by decide +kernel
theorem dX2_scanGroups_54 : decode cX2_scanGroups 54 = .ok (.iload_n 2, 1) := by decide +kernel
theorem dX2_scanGroups_55 : decode cX2_scanGroups 55 = .ok (.bipush 28, 2) := by decide +kernel
theorem dX2_scanGroups_57 : decode cX2_scanGroups 57 = .ok (.if_icmp .ne 16, 3) := by decide +kernel
theorem dX2_scanGroups_60 : decode cX2_scanGroups 60 = .ok (.iload_n 3, 1) := by decide +kernel
theorem dX2_scanGroups_61 : decode cX2_scanGroups 61 = .ok (.bipush 15, 2) := by decide +kernel
theorem dX2_scanGroups_63 : decode cX2_scanGroups 63 = .ok (.if_icmp .le 10, 3) := by decide +kernel
theorem dX2_scanGroups_66 : decode cX2_scanGroups 66 = .ok (.aload_n 0, 1) := by decide +kernel
theorem dX2_scanGroups_67 : decode cX2_scanGroups 67 = .ok (.iconst 2, 1) := by decide +kernel
theorem dX2_scanGroups_68 : decode cX2_scanGroups 68 = .ok (.putfield 44, 3) := by decide +kernel
theorem dX2_scanGroups_71 : decode cX2_scanGroups 71 = .ok (.iconst 0, 1) := by decide +kernel
theorem dX2_scanGroups_72 : decode cX2_scanGroups 72 = .ok (.ireturn, 1) := by decide +kernel
theorem dX2_scanGroups_73 : decode cX2_scanGroups 73 = .ok (.iload_n 1, 1) := by decide +kernel
theorem dX2_scanGroups_74 : decode cX2_scanGroups 74 = .ok (.iload_n 3, 1) := by decide +kernel
theorem dX2_scanGroups_75 : decode cX2_scanGroups 75 = .ok (.bipush 127, 2) := by decide +kernel
theorem dX2_scanGroups_77 : decode cX2_scanGroups 77 = .ok (.iand, 1) := by decide +kernel
theorem dX2_scanGroups_78 : decode cX2_scanGroups 78 = .ok (.iload_n 2, 1) := by decide +kernel
theorem dX2_scanGroups_79 : decode cX2_scanGroups 79 = .ok (.ishl, 1) := by decide +kernel
theorem dX2_scanGroups_80 : decode cX2_scanGroups 80 = .ok (.ior, 1) := by decide +kernel
theorem dX2_scanGroups_81 : decode cX2_scanGroups 81 = .ok (.istore_n 1, 1) := by decide +kernel
theorem dX2_scanGroups_82 : decode cX2_scanGroups 82 = .ok (.iload_n 3, 1) := by decide +kernel
theorem dX2_scanGroups_83 : decode cX2_scanGroups 83 = .ok (.sipush 128, 3) := by decide +kernel
theorem dX2_scanGroups_86 : decode cX2_scanGroups 86 = .ok (.if_icmp .ge 6, 3) := by decide +kernel
theorem dX2_scanGroups_89 : decode cX2_scanGroups 89 = .ok (.goto 9, 3) := by decide +kernel
theorem dX2_scanGroups_92 : decode cX2_scanGroups 92 = .ok (.iinc 2 7, 3) := by decide +kernel
theorem dX2_scanGroups_95 : decode cX2_scanGroups 95 = .ok (.goto (-91), 3) := by decide +kernel
theorem dX2_scanGroups_98 : decode cX2_scanGroups 98 = .ok (.iload_n 1, 1) := by decide +kernel
theorem dX2_scanGroups_99 : decode cX2_scanGroups 99 = .ok (.ireturn, 1) := by decide +kernel
theorem dX2_scanFour_0 : decode cX2_scanFour 0 = .ok (.aload_n 0, 1) := by decide +kernel
theorem dX2_scanFour_1 : decode cX2_scanFour 1 = .ok (.getfield 38, 3) := by decide +kernel
theorem dX2_scanFour_4 : decode cX2_scanFour 4 = .ok (.aload_n 0, 1) := by decide +kernel
theorem dX2_scanFour_5 : decode cX2_scanFour 5 = .ok (.getfield 35, 3) := by decide +kernel
theorem dX2_scanFour_8 : decode cX2_scanFour 8 = .ok (.isub, 1) := by decide +kernel
theorem dX2_scanFour_9 : decode cX2_scanFour 9 = .ok (.iconst 4, 1) := by decide +kernel
theorem dX2_scanFour_10 : decode cX2_scanFour 10 = .ok (.if_icmp .ge 10, 3) := by decide +kernel
theorem dX2_scanFour_13 : decode cX2_scanFour 13 = .ok (.aload_n 0, 1) := by decide +kernel
theorem dX2_scanFour_14 : decode cX2_scanFour 14 = .ok (.iconst 1, 1) := by decide +kernel
theorem dX2_scanFour_15 : decode cX2_scanFour 15 = .ok (.putfield 44, 3) := by decide +kernel
theorem dX2_scanFour_18 : decode cX2_scanFour 18 = .ok (.iconst 0, 1) := by decide +kernel
theorem dX2_scanFour_19 : decode cX2_scanFour 19 = .ok (.ireturn, 1) := by decide +kernel
theorem dX2_scanFour_20 : decode cX2_scanFour 20 = .ok (.iconst 0, 1) := by decide +kernel
theorem dX2_scanFour_21 : decode cX2_scanFour 21 = .ok (.istore_n 1, 1) := by decide +kernel
theorem dX2_scanFour_22 : decode cX2_scanFour 22 = .ok (.iconst 0, 1) := by decide +kernel
theorem dX2_scanFour_23 : decode cX2_scanFour 23 = .ok (.istore_n 2, 1) := by decide +kernel
theorem dX2_scanFour_24 : decode cX2_scanFour 24 = .ok (.iload_n 2, 1) := by decide +kernel
theorem dX2_scanFour_25 : decode cX2_scanFour 25 = .ok (.bipush 32, 2) := by decide +kernel
theorem dX2_scanFour_27 : decode cX2_scanFour 27 = .ok (.if_icmp .ge 39, 3) := by decide +kernel
theorem dX2_scanFour_30 : decode cX2_scanFour 30 = .ok (.iload_n 1, 1) := by decide +kernel
theorem dX2_scanFour_31 : decode cX2_scanFour 31 = .ok (.aload_n 0, 1) := by decide +kernel
theorem dX2_scanFour_32 : decode cX2_scanFour 32 = .ok (.getfield 27, 3) := by decide +kernel
theorem dX2_scanFour_35 : decode cX2_scanFour 35 = .ok (.aload_n 0, 1) := by decide +kernel
theorem dX2_scanFour_36 : decode cX2_scanFour 36 = .ok (.getfield 35, 3) := by decide +kernel
theorem dX2_scanFour_39 : decode cX2_scanFour 39 = .ok (.invokevirtual 120, 3) := by decide +kernel
theorem dX2_scanFour_42 : decode cX2_scanFour 42 = .ok (.sipush 255, 3) := by decide +kernel
theorem dX2_scanFour_45 : decode cX2_scanFour 45 = .ok (.iand, 1) := by decide +kernel
theorem dX2_scanFour_46 : decode cX2_scanFour 46 = .ok (.iload_n 2, 1) := by decide +kernel
theorem dX2_scanFour_47 : decode cX2_scanFour 47 = .ok (.ishl, 1) := by decide +kernel
theorem dX2_scanFour_48 : decode cX2_scanFour 48 = .ok (.ior, 1) := by decide +kernel
theorem dX2_scanFour_49 : decode cX2_scanFour 49 = .ok (.istore_n 1, 1) := by decide +kernel
theorem dX2_scanFour_50 : decode cX2_scanFour 50 = .ok (.aload_n 0, 1) := by decide +kernel
theorem dX2_scanFour_51 : decode cX2_scanFour 51 = .ok (.dup, 1) := by decide +kernel
theorem dX2_scanFour_52 : decode cX2_scanFour 52 = .ok (.getfield 35, 3) := by decide +kernel
theorem dX2_scanFour_55 : decode cX2_scanFour 55 = .ok (.iconst 1, 1) := by decide +kernel
theorem dX2_scanFour_56 : decode cX2_scanFour 56 = .ok (.iadd, 1) := by decide +kernel
theorem dX2_scanFour_57 : decode cX2_scanFour 57 = .ok (.putfield 35, 3) := by decide +kernel
theorem dX2_scanFour_60 : decode cX2_scanFour 60 = .ok (.iinc 2 8, 3) := by decide +kernel
theorem dX2_scanFour_63 : decode cX2_scanFour 63 = .ok (.goto (-39), 3) := by decide +kernel
theorem dX2_scanFour_66 : decode cX2_scanFour 66 = .ok (.iload_n 1, 1) := by decide +kernel
theorem dX2_scanFour_67 : decode cX2_scanFour 67 = .ok (.ireturn, 1) := by decide +kernel
theorem dX2_skipBytes_0 : decode cX2_skipBytes 0 = .ok (.iload_n 1, 1) := by decide +kernel
theorem dX2_skipBytes_1 : decode cX2_skipBytes 1 = .ok (.ifCond .lt 16, 3) := by decide +kernel
theorem dX2_skipBytes_4 : decode cX2_skipBytes 4 = .ok (.iload_n 1, 1) := by decide +kernel
theorem dX2_skipBytes_5 : decode cX2_skipBytes 5 = .ok (.aload_n 0, 1) := by decide +kernel
theorem dX2_skipBytes_6 : decode cX2_skipBytes 6 = .ok (.getfield 38, 3) := by decide +kernel
theorem dX2_skipBytes_9 : decode cX2_skipBytes 9 = .ok (.aload_n 0, 1) := by decide +kernel
theorem dX2_skipBytes_10 : decode cX2_skipBytes 10 = .ok (.getfield 35, 3) := by decide +kernel
theorem dX2_skipBytes_13 : decode cX2_skipBytes 13 = .ok (.isub, 1) := by decide +kernel
theorem dX2_skipBytes_14 : decode cX2_skipBytes 14 = .ok (.if_icmp .le 11, 3) := by decide +kernel
theorem dX2_skipBytes_17 : decode cX2_skipBytes 17 = .ok (.aload_n 0, 1) := by decide +kernel
theorem dX2_skipBytes_18 : decode cX2_skipBytes 18 = .ok (.iconst 1, 1) := by decide +kernel
theorem dX2_skipBytes_19 : decode cX2_skipBytes 19 = .ok (.putfield 44, 3) := by decide +kernel
theorem dX2_skipBytes_22 : decode cX2_skipBytes 22 = .ok (.goto 13, 3) := by decide +kernel
theorem dX2_skipBytes_25 : decode cX2_skipBytes 25 = .ok (.aload_n 0, 1) := by decide +kernel
theorem dX2_skipBytes_26 : decode cX2_skipBytes 26 = .ok (.dup, 1) := by decide +kernel
theorem dX2_skipBytes_27 : decode cX2_skipBytes 27 = .ok (.getfield 35, 3) := by decide +kernel
theorem dX2_skipBytes_30 : decode cX2_skipBytes 30 = .ok (.iload_n 1, 1) := by decide +kernel
theorem dX2_skipBytes_31 : decode cX2_skipBytes 31 = .ok (.iadd, 1) := by decide +kernel
theorem dX2_skipBytes_32 : decode cX2_skipBytes 32 = .ok (.putfield 35, 3) := by decide +kernel
theorem dX2_skipBytes_35 : decode cX2_skipBytes 35 = .ok (.return_, 1) := by decide +kernel
theorem dX2_keepField_0 : decode cX2_keepField 0 = .ok (.aload_n 0, 1) := by decide +kernel
theorem dX2_keepField_1 : decode cX2_keepField 1 = .ok (.getfield 41, 3) := by decide +kernel
theorem dX2_keepField_4 : decode cX2_keepField 4 = .ok (.ifCond .lt 65, 3) := by decide +kernel
theorem dX2_keepField_7 : decode cX2_keepField 7 = .ok (.aload_n 0, 1) := by decide +kernel
theorem dX2_keepField_8 : decode cX2_keepField 8 = .ok (.getfield 41, 3) := by decide +kernel
theorem dX2_keepField_11 : decode cX2_keepField 11 = .ok (.bipush 60, 2) := by decide +kernel
theorem dX2_keepField_13 : decode cX2_keepField 13 = .ok (.if_icmp .ge 56, 3) := by decide +kernel
theorem dX2_keepField_16 : decode cX2_keepField 16 = .ok (.aload_n 0, 1) := by decide +kernel
theorem dX2_keepField_17 : decode cX2_keepField 17 = .ok (.getfield 9, 3) := by decide +kernel
theorem dX2_keepField_20 : decode cX2_keepField 20 = .ok (.aload_n 0, 1) := by decide +kernel
theorem dX2_keepField_21 : decode cX2_keepField 21 = .ok (.getfield 41, 3) := by decide +kernel
theorem dX2_keepField_24 : decode cX2_keepField 24 = .ok (.iload_n 1, 1) := by decide +kernel
theorem dX2_keepField_25 : decode cX2_keepField 25 = .ok (.iastore, 1) := by decide +kernel
theorem dX2_keepField_26 : decode cX2_keepField 26 = .ok (.aload_n 0, 1) := by decide +kernel
theorem dX2_keepField_27 : decode cX2_keepField 27 = .ok (.getfield 15, 3) := by decide +kernel
theorem dX2_keepField_30 : decode cX2_keepField 30 = .ok (.aload_n 0, 1) := by decide +kernel
theorem dX2_keepField_31 : decode cX2_keepField 31 = .ok (.getfield 41, 3) := by decide +kernel
theorem dX2_keepField_34 : decode cX2_keepField 34 = .ok (.iload_n 2, 1) := by decide +kernel
theorem dX2_keepField_35 : decode cX2_keepField 35 = .ok (.iastore, 1) := by decide +kernel
theorem dX2_keepField_36 : decode cX2_keepField 36 = .ok (.aload_n 0, 1) := by decide +kernel
theorem dX2_keepField_37 : decode cX2_keepField 37 = .ok (.getfield 18, 3) := by decide +kernel
theorem dX2_keepField_40 : decode cX2_keepField 40 = .ok (.aload_n 0, 1) := by decide +kernel
theorem dX2_keepField_41 : decode cX2_keepField 41 = .ok (.getfield 41, 3) := by decide +kernel
theorem dX2_keepField_44 : decode cX2_keepField 44 = .ok (.iload_n 3, 1) := by decide +kernel
theorem dX2_keepField_45 : decode cX2_keepField 45 = .ok (.iastore, 1) := by decide +kernel
theorem dX2_keepField_46 : decode cX2_keepField 46 = .ok (.aload_n 0, 1) := by decide +kernel
theorem dX2_keepField_47 : decode cX2_keepField 47 = .ok (.getfield 21, 3) := by decide +kernel
theorem dX2_keepField_50 : decode cX2_keepField 50 = .ok (.aload_n 0, 1) := by decide +kernel
theorem dX2_keepField_51 : decode cX2_keepField 51 = .ok (.getfield 41, 3) := by decide +kernel
theorem dX2_keepField_54 : decode cX2_keepField 54 = .ok (.aload_n 0, 1) := by decide +kernel
theorem dX2_keepField_55 : decode cX2_keepField 55 = .ok (.getfield 35, 3) := by decide +kernel
theorem dX2_keepField_58 : decode cX2_keepField 58 = .ok (.iastore, 1) := by decide +kernel
theorem dX2_keepField_59 : decode cX2_keepField 59 = .ok (.aload_n 0, 1) := by decide +kernel
theorem dX2_keepField_60 : decode cX2_keepField 60 = .ok (.dup, 1) := by decide +kernel
theorem dX2_keepField_61 : decode cX2_keepField 61 = .ok (.getfield 41, 3) := by decide +kernel
theorem dX2_keepField_64 : decode cX2_keepField 64 = .ok (.iconst 1, 1) := by decide +kernel
theorem dX2_keepField_65 : decode cX2_keepField 65 = .ok (.iadd, 1) := by decide +kernel
theorem dX2_keepField_66 : decode cX2_keepField 66 = .ok (.putfield 41, 3) := by decide +kernel
theorem dX2_keepField_69 : decode cX2_keepField 69 = .ok (.return_, 1) := by decide +kernel
theorem dX3_init_0 : decode cX3_init 0 = .ok (.aload_n 0, 1) := by decide +kernel
theorem dX3_init_1 : decode cX3_init 1 = .ok (.invokespecial 1, 3) := by decide +kernel
theorem dX3_init_4 : decode cX3_init 4 = .ok (.aload_n 0, 1) := by decide +kernel
theorem dX3_init_5 : decode cX3_init 5 = .ok (.new 7, 3) := by decide +kernel
theorem dX3_init_8 : decode cX3_init 8 = .ok (.dup, 1) := by decide +kernel
theorem dX3_init_9 : decode cX3_init 9 = .ok (.invokespecial 9, 3) := by decide +kernel
theorem dX3_init_12 : decode cX3_init 12 = .ok (.putfield 10, 3) := by decide +kernel
theorem dX3_init_15 : decode cX3_init 15 = .ok (.aload_n 0, 1) := by decide +kernel
theorem dX3_init_16 : decode cX3_init 16 = .ok (.aload_n 1, 1) := by decide +kernel
theorem dX3_init_17 : decode cX3_init 17 = .ok (.putfield 16, 3) := by decide +kernel
theorem dX3_init_20 : decode cX3_init 20 = .ok (.return_, 1) := by decide +kernel
theorem dX4_init_0 : decode cX4_init 0 = .ok (.aload_n 0, 1) := by decide +kernel
theorem dX4_init_1 : decode cX4_init 1 = .ok (.invokespecial 3, 3) := by decide +kernel
theorem dX4_init_4 : decode cX4_init 4 = .ok (.aload_n 0, 1) := by decide +kernel
theorem dX4_init_5 : decode cX4_init 5 = .ok (.bipush 36, 2) := by decide +kernel
theorem dX4_init_7 : decode cX4_init 7 = .ok (.anewarray 9, 3) := by decide +kernel
theorem dX4_init_10 : decode cX4_init 10 = .ok (.putfield 11, 3) := by decide +kernel
theorem dX4_init_13 : decode cX4_init 13 = .ok (.aload_n 0, 1) := by decide +kernel
theorem dX4_init_14 : decode cX4_init 14 = .ok (.bipush 36, 2) := by decide +kernel
theorem dX4_init_16 : decode cX4_init 16 = .ok (.anewarray 9, 3) := by decide +kernel
theorem dX4_init_19 : decode cX4_init 19 = .ok (.putfield 17, 3) := by decide +kernel
theorem dX4_init_22 : decode cX4_init 22 = .ok (.aload_n 0, 1) := by decide +kernel
theorem dX4_init_23 : decode cX4_init 23 = .ok (.bipush 36, 2) := by decide +kernel
theorem dX4_init_25 : decode cX4_init 25 = .ok (.newarray .boolean, 2) := by decide +kernel
theorem dX4_init_27 : decode cX4_init 27 = .ok (.putfield 20, 3) := by decide +kernel
theorem dX4_init_30 : decode cX4_init 30 = .ok (.return_, 1) := by decide +kernel
theorem dX4_leastReason_0 : decode cX4_leastReason 0 = .ok (.aload_n 0, 1) := by decide +kernel
theorem dX4_leastReason_1 : decode cX4_leastReason 1 = .ok (.invokevirtual 24, 3) := by decide +kernel
theorem dX4_leastReason_4 : decode cX4_leastReason 4 = .ok (.aload_n 0, 1) := by decide +kernel
theorem dX4_leastReason_5 : decode cX4_leastReason 5 = .ok (.aload_n 1, 1) := by decide +kernel
theorem dX4_leastReason_6 : decode cX4_leastReason 6 = .ok (.aload_n 2, 1) := by decide +kernel
theorem dX4_leastReason_7 : decode cX4_leastReason 7 = .ok (.invokevirtual 27, 3) := by decide +kernel
theorem dX4_leastReason_10 : decode cX4_leastReason 10 = .ok (.iconst 1, 1) := by decide +kernel
theorem dX4_leastReason_11 : decode cX4_leastReason 11 = .ok (.istore_n 3, 1) := by decide +kernel
theorem dX4_leastReason_12 : decode cX4_leastReason 12 = .ok (.iload_n 3, 1) := by decide +kernel
theorem dX4_leastReason_13 : decode cX4_leastReason 13 = .ok (.bipush 31, 2) := by decide +kernel
theorem dX4_leastReason_15 : decode cX4_leastReason 15 = .ok (.if_icmp .gt 30, 3) := by decide +kernel
theorem dX4_leastReason_18 : decode cX4_leastReason 18 = .ok (.aload_n 1, 1) := by decide +kernel
theorem dX4_leastReason_19 : decode cX4_leastReason 19 = .ok (.aload_n 2, 1) := by decide +kernel
theorem dX4_leastReason_20 : decode cX4_leastReason 20 = .ok (.iload_n 3, 1) := by decide +kernel
theorem dX4_leastReason_21 : decode cX4_leastReason 21 = .ok (.invokevirtual 31, 3) := by decide +kernel
theorem dX4_leastReason_24 : decode cX4_leastReason 24 = .ok (.ifCond .ne 13, 3) := by decide +kernel
theorem dX4_leastReason_27 : decode cX4_leastReason 27 = .ok (.aload_n 0, 1) := by decide +kernel
theorem dX4_leastReason_28 : decode cX4_leastReason 28 = .ok (.aload_n 1, 1) := by decide +kernel
theorem dX4_leastReason_29 : decode cX4_leastReason 29 = .ok (.aload_n 2, 1) := by decide +kernel
theorem dX4_leastReason_30 : decode cX4_leastReason 30 = .ok (.iload_n 3, 1) := by decide +kernel
theorem dX4_leastReason_31 : decode cX4_leastReason 31 = .ok (.invokevirtual 35, 3) := by decide +kernel
theorem dX4_leastReason_34 : decode cX4_leastReason 34 = .ok (.ifCond .eq 5, 3) := by decide +kernel
theorem dX4_leastReason_37 : decode cX4_leastReason 37 = .ok (.iload_n 3, 1) := by decide +kernel
theorem dX4_leastReason_38 : decode cX4_leastReason 38 = .ok (.ireturn, 1) := by decide +kernel
theorem dX4_leastReason_39 : decode cX4_leastReason 39 = .ok (.iinc 3 1, 3) := by decide +kernel
theorem dX4_leastReason_42 : decode cX4_leastReason 42 = .ok (.goto (-30), 3) := by decide +kernel
theorem dX4_leastReason_45 : decode cX4_leastReason 45 = .ok (.iconst (-1), 1) := by decide +kernel
theorem dX4_leastReason_46 : decode cX4_leastReason 46 = .ok (.ireturn, 1) := by decide +kernel
theorem dX4_leadsToDifference_0 : decode cX4_leadsToDifference 0 = .ok (.aload_n 0, 1) := by decide +kernel
theorem dX4_leadsToDifference_1 : decode cX4_leadsToDifference 1 = .ok (.getfield 39, 3) := by decide +kernel
theorem dX4_leadsToDifference_4 : decode cX4_leadsToDifference 4 = .ok (.istore 4, 2) := by decide +kernel
theorem dX4_leadsToDifference_6 : decode cX4_leadsToDifference 6 = .ok (.aload_n 0, 1) := by decide +kernel
theorem dX4_leadsToDifference_7 : decode cX4_leadsToDifference 7 = .ok (.aload_n 1, 1) := by decide +kernel
theorem dX4_leadsToDifference_8 : decode cX4_leadsToDifference 8 = .ok (.aload_n 2, 1) := by decide +kernel
theorem dX4_leadsToDifference_9 : decode cX4_leadsToDifference 9 = .ok (.iload_n 3, 1) := by decide +kernel
theorem dX4_leadsToDifference_10 : decode cX4_leadsToDifference 10 = .ok (.invokevirtual 43, 3) := by decide +kernel
theorem dX4_leadsToDifference_13 : decode cX4_leadsToDifference 13 = .ok (.iload 4, 2) := by decide +kernel
theorem dX4_leadsToDifference_15 : decode cX4_leadsToDifference 15 = .ok (.aload_n 0, 1) := by decide +kernel
theorem dX4_leadsToDifference_16 : decode cX4_leadsToDifference 16 = .ok (.getfield 39, 3) := by decide +kernel
theorem dX4_leadsToDifference_19 : decode cX4_leadsToDifference 19 = .ok (.if_icmp .ge 57, 3) := by decide +kernel
theorem dX4_leadsToDifference_22 : decode cX4_leadsToDifference 22 = .ok (.iload 4, 2) := by decide +kernel
theorem dX4_leadsToDifference_24 : decode cX4_leadsToDifference 24 = .ok (.bipush 36, 2) := by decide +kernel
theorem dX4_leadsToDifference_26 : decode cX4_leadsToDifference 26 = .ok (.if_icmp .ge 50, 3) := by decide +kernel
theorem dX4_leadsToDifference_29 : decode cX4_leadsToDifference 29 = .ok (.aload_n 0, 1) := by decide +kernel
theorem dX4_leadsToDifference_30 : decode cX4_leadsToDifference 30 = .ok (.getfield 11, 3) := by decide +kernel
theorem dX4_leadsToDifference_33 : decode cX4_leadsToDifference 33 = .ok (.iload 4, 2) := by decide +kernel
theorem dX4_leadsToDifference_35 : decode cX4_leadsToDifference 35 = .ok (.aaload, 1) := by decide +kernel
theorem dX4_leadsToDifference_36 : decode cX4_leadsToDifference 36 = .ok (.astore 5, 2) := by decide +kernel
theorem dX4_leadsToDifference_38 : decode cX4_leadsToDifference 38 = .ok (.aload_n 0, 1) := by decide +kernel
theorem dX4_leadsToDifference_39 : decode cX4_leadsToDifference 39 = .ok (.getfield 17, 3) := by decide +kernel
theorem dX4_leadsToDifference_42 : decode cX4_leadsToDifference 42 = .ok (.iload 4, 2) := by decide +kernel
theorem dX4_leadsToDifference_44 : decode cX4_leadsToDifference 44 = .ok (.aaload, 1) := by decide +kernel
theorem dX4_leadsToDifference_45 : decode cX4_leadsToDifference 45 = .ok (.astore 6, 2) := by decide +kernel
theorem dX4_leadsToDifference_47 : decode cX4_leadsToDifference 47 = .ok (.aload 5, 2) := by decide +kernel
theorem dX4_leadsToDifference_49 : decode cX4_leadsToDifference 49 = .ok (.ifnull 21, 3) := by decide +kernel
theorem dX4_leadsToDifference_52 : decode cX4_leadsToDifference 52 = .ok (.aload 6, 2) := by decide +kernel
theorem dX4_leadsToDifference_54 : decode cX4_leadsToDifference 54 = .ok (.ifnull 16, 3) := by decide +kernel
theorem dX4_leadsToDifference_57 : decode cX4_leadsToDifference 57 = .ok (.aload_n 0, 1) := by decide +kernel
theorem dX4_leadsToDifference_58 : decode cX4_leadsToDifference 58 = .ok (.aload 5, 2) := by decide +kernel
theorem dX4_leadsToDifference_60 : decode cX4_leadsToDifference 60 = .ok (.aload 6, 2) := by decide +kernel
theorem dX4_leadsToDifference_62 : decode cX4_leadsToDifference 62 = .ok (.invokevirtual 47, 3) := by decide +kernel
theorem dX4_leadsToDifference_65 : decode cX4_leadsToDifference 65 = .ok (.ifCond .eq 5, 3) := by decide +kernel
theorem dX4_leadsToDifference_68 : decode cX4_leadsToDifference 68 = .ok (.iconst 1, 1) := by decide +kernel
theorem dX4_leadsToDifference_69 : decode cX4_leadsToDifference 69 = .ok (.ireturn, 1) := by decide +kernel
theorem dX4_leadsToDifference_70 : decode cX4_leadsToDifference 70 = .ok (.iinc 4 1, 3) := by decide +kernel
theorem dX4_leadsToDifference_73 : decode cX4_leadsToDifference 73 = .ok (.goto (-60), 3) := by decide +kernel
theorem dX4_leadsToDifference_76 : decode cX4_leadsToDifference 76 = .ok (.iconst 0, 1) := by decide +kernel
theorem dX4_leadsToDifference_77 : decode cX4_leadsToDifference 77 = .ok (.ireturn, 1) := by decide +kernel
theorem dX4_differsSomewhere_0 : decode cX4_differsSomewhere 0 = .ok (.iconst 1, 1) := by decide +kernel
theorem dX4_differsSomewhere_1 : decode cX4_differsSomewhere 1 = .ok (.istore_n 3, 1) := by decide +kernel
theorem dX4_differsSomewhere_2 : decode cX4_differsSomewhere 2 = .ok (.iload_n 3, 1) := by decide +kernel
theorem dX4_differsSomewhere_3 : decode cX4_differsSomewhere 3 = .ok (.bipush 31, 2) := by decide +kernel
theorem dX4_differsSomewhere_5 : decode cX4_differsSomewhere 5 = .ok (.if_icmp .gt 27, 3) := by decide +kernel
theorem dX4_differsSomewhere_8 : decode cX4_differsSomewhere 8 = .ok (.aload_n 1, 1) := by decide +kernel
theorem dX4_differsSomewhere_9 : decode cX4_differsSomewhere 9 = .ok (.aload_n 2, 1) := by decide +kernel
theorem dX4_differsSomewhere_10 : decode cX4_differsSomewhere 10 = .ok (.iload_n 3, 1) := by decide +kernel
theorem dX4_differsSomewhere_11 : decode cX4_differsSomewhere 11 = .ok (.invokevirtual 31, 3) := by decide +kernel
theorem dX4_differsSomewhere_14 : decode cX4_differsSomewhere 14 = .ok (.ifCond .eq 5, 3) := by decide +kernel
theorem dX4_differsSomewhere_17 : decode cX4_differsSomewhere 17 = .ok (.iconst 1, 1) := by decide +kernel
theorem dX4_differsSomewhere_18 : decode cX4_differsSomewhere 18 = .ok (.ireturn, 1) := by decide +kernel
theorem dX4_differsSomewhere_19 : decode cX4_differsSomewhere 19 = .ok (.aload_n 0, 1) := by decide +kernel
theorem dX4_differsSomewhere_20 : decode cX4_differsSomewhere 20 = .ok (.aload_n 1, 1) := by decide +kernel
theorem dX4_differsSomewhere_21 : decode cX4_differsSomewhere 21 = .ok (.aload_n 2, 1) := by decide +kernel
theorem dX4_differsSomewhere_22 : decode cX4_differsSomewhere 22 = .ok (.iload_n 3, 1) := by decide +kernel
theorem dX4_differsSomewhere_23 : decode cX4_differsSomewhere 23 = .ok (.invokevirtual 43, 3) := by decide +kernel
theorem dX4_differsSomewhere_26 : decode cX4_differsSomewhere 26 = .ok (.iinc 3 1, 3) := by decide +kernel
theorem dX4_differsSomewhere_29 : decode cX4_differsSomewhere 29 = .ok (.goto (-27), 3) := by decide +kernel
theorem dX4_differsSomewhere_32 : decode cX4_differsSomewhere 32 = .ok (.iconst 0, 1) := by decide +kernel
theorem dX4_differsSomewhere_33 : decode cX4_differsSomewhere 33 = .ok (.ireturn, 1) := by decide +kernel
theorem dX4_notePartsAt_0 : decode cX4_notePartsAt 0 = .ok (.aload_n 1, 1) := by decide +kernel
theorem dX4_notePartsAt_1 : decode cX4_notePartsAt 1 = .ok (.iload_n 3, 1) := by decide +kernel
theorem dX4_notePartsAt_2 : decode cX4_notePartsAt 2 = .ok (.invokevirtual 51, 3) := by decide +kernel
theorem dX4_notePartsAt_5 : decode cX4_notePartsAt 5 = .ok (.astore 4, 2) := by decide +kernel
theorem dX4_notePartsAt_7 : decode cX4_notePartsAt 7 = .ok (.aload_n 2, 1) := by decide +kernel
theorem dX4_notePartsAt_8 : decode cX4_notePartsAt 8 = .ok (.iload_n 3, 1) := by decide +kernel
theorem dX4_notePartsAt_9 : decode cX4_notePartsAt 9 = .ok (.invokevirtual 51, 3) := by decide +kernel
theorem dX4_notePartsAt_12 : decode cX4_notePartsAt 12 = .ok (.astore 5, 2) := by decide +kernel
theorem dX4_notePartsAt_14 : decode cX4_notePartsAt 14 = .ok (.aload 4, 2) := by decide +kernel
theorem dX4_notePartsAt_16 : decode cX4_notePartsAt 16 = .ok (.ifnull 16, 3) := by decide +kernel
theorem dX4_notePartsAt_19 : decode cX4_notePartsAt 19 = .ok (.aload 5, 2) := by decide +kernel
theorem dX4_notePartsAt_21 : decode cX4_notePartsAt 21 = .ok (.ifnull 11, 3) := by decide +kernel
theorem dX4_notePartsAt_24 : decode cX4_notePartsAt 24 = .ok (.aload_n 0, 1) := by decide +kernel
theorem dX4_notePartsAt_25 : decode cX4_notePartsAt 25 = .ok (.aload 4, 2) := by decide +kernel
theorem dX4_notePartsAt_27 : decode cX4_notePartsAt 27 = .ok (.aload 5, 2) := by decide +kernel
theorem dX4_notePartsAt_29 : decode cX4_notePartsAt 29 = .ok (.invokevirtual 27, 3) := by decide +kernel
theorem dX4_notePartsAt_32 : decode cX4_notePartsAt 32 = .ok (.return_, 1) := by decide +kernel
theorem dX4_notePair_0 : decode cX4_notePair 0 = .ok (.aload_n 1, 1) := by decide +kernel
theorem dX4_notePair_1 : decode cX4_notePair 1 = .ok (.getfield 55, 3) := by decide +kernel
theorem dX4_notePair_4 : decode cX4_notePair 4 = .ok (.bipush 6, 2) := by decide +kernel
theorem dX4_notePair_6 : decode cX4_notePair 6 = .ok (.imul, 1) := by decide +kernel
theorem dX4_notePair_7 : decode cX4_notePair 7 = .ok (.aload_n 2, 1) := by decide +kernel
theorem dX4_notePair_8 : decode cX4_notePair 8 = .ok (.getfield 55, 3) := by decide +kernel
theorem dX4_notePair_11 : decode cX4_notePair 11 = .ok (.iadd, 1) := by decide +kernel
theorem dX4_notePair_12 : decode cX4_notePair 12 = .ok (.istore_n 3, 1) := by decide +kernel
theorem dX4_notePair_13 : decode cX4_notePair 13 = .ok (.iload_n 3, 1) := by decide +kernel
theorem dX4_notePair_14 : decode cX4_notePair 14 = .ok (.ifCond .lt 64, 3) := by decide +kernel
theorem dX4_notePair_17 : decode cX4_notePair 17 = .ok (.iload_n 3, 1) := by decide +kernel
theorem dX4_notePair_18 : decode cX4_notePair 18 = .ok (.bipush 36, 2) := by decide +kernel
theorem dX4_notePair_20 : decode cX4_notePair 20 = .ok (.if_icmp .ge 58, 3) := by decide +kernel
theorem dX4_notePair_23 : decode cX4_notePair 23 = .ok (.aload_n 0, 1) := by decide +kernel
theorem dX4_notePair_24 : decode cX4_notePair 24 = .ok (.getfield 39, 3) := by decide +kernel
theorem dX4_notePair_27 : decode cX4_notePair 27 = .ok (.bipush 36, 2) := by decide +kernel
theorem dX4_notePair_29 : decode cX4_notePair 29 = .ok (.if_icmp .ge 49, 3) := by decide +kernel
theorem dX4_notePair_32 : decode cX4_notePair 32 = .ok (.aload_n 0, 1) := by decide +kernel
theorem dX4_notePair_33 : decode cX4_notePair 33 = .ok (.getfield 20, 3) := by decide +kernel
theorem dX4_notePair_36 : decode cX4_notePair 36 = .ok (.iload_n 3, 1) := by decide +kernel
theorem dX4_notePair_37 : decode cX4_notePair 37 = .ok (.baload, 1) := by decide +kernel
theorem dX4_notePair_38 : decode cX4_notePair 38 = .ok (.ifCond .ne 40, 3) := by decide +kernel
theorem dX4_notePair_41 : decode cX4_notePair 41 = .ok (.aload_n 0, 1) := by decide +kernel
theorem dX4_notePair_42 : decode cX4_notePair 42 = .ok (.getfield 20, 3) := by decide +kernel
theorem dX4_notePair_45 : decode cX4_notePair 45 = .ok (.iload_n 3, 1) := by decide +kernel
theorem dX4_notePair_46 : decode cX4_notePair 46 = .ok (.iconst 1, 1) := by decide +kernel
theorem dX4_notePair_47 : decode cX4_notePair 47 = .ok (.bastore, 1) := by decide +kernel
theorem dX4_notePair_48 : decode cX4_notePair 48 = .ok (.aload_n 0, 1) := by decide +kernel
theorem dX4_notePair_49 : decode cX4_notePair 49 = .ok (.getfield 11, 3) := by decide +kernel
theorem dX4_notePair_52 : decode cX4_notePair 52 = .ok (.aload_n 0, 1) := by decide +kernel
theorem dX4_notePair_53 : decode cX4_notePair 53 = .ok (.getfield 39, 3) := by decide +kernel
theorem dX4_notePair_56 : decode cX4_notePair 56 = .ok (.aload_n 1, 1) := by decide +kernel
theorem dX4_notePair_57 : decode cX4_notePair 57 = .ok (.aastore, 1) := by decide +kernel
theorem dX4_notePair_58 : decode cX4_notePair 58 = .ok (.aload_n 0, 1) := by decide +kernel
theorem dX4_notePair_59 : decode cX4_notePair 59 = .ok (.getfield 17, 3) := by decide +kernel
theorem dX4_notePair_62 : decode cX4_notePair 62 = .ok (.aload_n 0, 1) := by decide +kernel
theorem dX4_notePair_63 : decode cX4_notePair 63 = .ok (.getfield 39, 3) := by decide +kernel
theorem dX4_notePair_66 : decode cX4_notePair 66 = .ok (.aload_n 2, 1) := by decide +kernel
theorem dX4_notePair_67 : decode cX4_notePair 67 = .ok (.aastore, 1) := by decide +kernel
theorem dX4_notePair_68 : decode cX4_notePair 68 = .ok (.aload_n 0, 1) := by decide +kernel
theorem dX4_notePair_69 : decode cX4_notePair 69 = .ok (.dup, 1) := by decide +kernel
theorem dX4_notePair_70 : decode cX4_notePair 70 = .ok (.getfield 39, 3) := by decide +kernel
theorem dX4_notePair_73 : decode cX4_notePair 73 = .ok (.iconst 1, 1) := by decide +kernel
theorem dX4_notePair_74 : decode cX4_notePair 74 = .ok (.iadd, 1) := by decide +kernel
theorem dX4_notePair_75 : decode cX4_notePair 75 = .ok (.putfield 39, 3) := by decide +kernel
theorem dX4_notePair_78 : decode cX4_notePair 78 = .ok (.return_, 1) := by decide +kernel
theorem dX4_forgetPairs_0 : decode cX4_forgetPairs 0 = .ok (.iconst 0, 1) := by decide +kernel
theorem dX4_forgetPairs_1 : decode cX4_forgetPairs 1 = .ok (.istore_n 1, 1) := by decide +kernel
theorem dX4_forgetPairs_2 : decode cX4_forgetPairs 2 = .ok (.iload_n 1, 1) := by decide +kernel
theorem dX4_forgetPairs_3 : decode cX4_forgetPairs 3 = .ok (.bipush 36, 2) := by decide +kernel
theorem dX4_forgetPairs_5 : decode cX4_forgetPairs 5 = .ok (.if_icmp .ge 16, 3) := by decide +kernel
theorem dX4_forgetPairs_8 : decode cX4_forgetPairs 8 = .ok (.aload_n 0, 1) := by decide +kernel
theorem dX4_forgetPairs_9 : decode cX4_forgetPairs 9 = .ok (.getfield 20, 3) := by decide +kernel
theorem dX4_forgetPairs_12 : decode cX4_forgetPairs 12 = .ok (.iload_n 1, 1) := by decide +kernel
theorem dX4_forgetPairs_13 : decode cX4_forgetPairs 13 = .ok (.iconst 0, 1) := by decide +kernel
theorem dX4_forgetPairs_14 : decode cX4_forgetPairs 14 = .ok (.bastore, 1) := by decide +kernel
theorem dX4_forgetPairs_15 : decode cX4_forgetPairs 15 = .ok (.iinc 1 1, 3) := by decide +kernel
theorem dX4_forgetPairs_18 : decode cX4_forgetPairs 18 = .ok (.goto (-16), 3) := by decide +kernel
theorem dX4_forgetPairs_21 : decode cX4_forgetPairs 21 = .ok (.aload_n 0, 1) := by decide +kernel
theorem dX4_forgetPairs_22 : decode cX4_forgetPairs 22 = .ok (.iconst 0, 1) := by decide +kernel
theorem dX4_forgetPairs_23 : decode cX4_forgetPairs 23 = .ok (.putfield 39, 3) := by decide +kernel
theorem dX4_forgetPairs_26 : decode cX4_forgetPairs 26 = .ok (.return_, 1) := by decide +kernel
theorem dX5_init_0 : decode cX5_init 0 = .ok (.aload_n 0, 1) := by decide +kernel
theorem dX5_init_1 : decode cX5_init 1 = .ok (.invokespecial 3, 3) := by decide +kernel
theorem dX5_init_4 : decode cX5_init 4 = .ok (.aload_n 0, 1) := by decide +kernel
theorem dX5_init_5 : decode cX5_init 5 = .ok (.bipush 32, 2) := by decide +kernel
theorem dX5_init_7 : decode cX5_init 7 = .ok (.newarray .int, 2) := by decide +kernel
theorem dX5_init_9 : decode cX5_init 9 = .ok (.putfield 9, 3) := by decide +kernel
theorem dX5_init_12 : decode cX5_init 12 = .ok (.aload_n 0, 1) := by decide +kernel
theorem dX5_init_13 : decode cX5_init 13 = .ok (.bipush 32, 2) := by decide +kernel
theorem dX5_init_15 : decode cX5_init 15 = .ok (.newarray .int, 2) := by decide +kernel
theorem dX5_init_17 : decode cX5_init 17 = .ok (.putfield 15, 3) := by decide +kernel
theorem dX5_init_20 : decode cX5_init 20 = .ok (.aload_n 0, 1) := by decide +kernel
theorem dX5_init_21 : decode cX5_init 21 = .ok (.bipush 32, 2) := by decide +kernel
theorem dX5_init_23 : decode cX5_init 23 = .ok (.anewarray 10, 3) := by decide +kernel
theorem dX5_init_26 : decode cX5_init 26 = .ok (.putfield 18, 3) := by decide +kernel
theorem dX5_init_29 : decode cX5_init 29 = .ok (.aload_n 0, 1) := by decide +kernel
theorem dX5_init_30 : decode cX5_init 30 = .ok (.iload_n 1, 1) := by decide +kernel
theorem dX5_init_31 : decode cX5_init 31 = .ok (.putfield 22, 3) := by decide +kernel
theorem dX5_init_34 : decode cX5_init 34 = .ok (.aload_n 0, 1) := by decide +kernel
theorem dX5_init_35 : decode cX5_init 35 = .ok (.getfield 9, 3) := by decide +kernel
theorem dX5_init_38 : decode cX5_init 38 = .ok (.iconst (-1), 1) := by decide +kernel
theorem dX5_init_39 : decode cX5_init 39 = .ok (.invokestatic 26, 3) := by decide +kernel
theorem dX5_init_42 : decode cX5_init 42 = .ok (.return_, 1) := by decide +kernel
theorem dX5_kindAt_0 : decode cX5_kindAt 0 = .ok (.iload_n 1, 1) := by decide +kernel
theorem dX5_kindAt_1 : decode cX5_kindAt 1 = .ok (.invokestatic 32, 3) := by decide +kernel
theorem dX5_kindAt_4 : decode cX5_kindAt 4 = .ok (.ifCond .eq 12, 3) := by decide +kernel
theorem dX5_kindAt_7 : decode cX5_kindAt 7 = .ok (.aload_n 0, 1) := by decide +kernel
theorem dX5_kindAt_8 : decode cX5_kindAt 8 = .ok (.getfield 9, 3) := by decide +kernel
theorem dX5_kindAt_11 : decode cX5_kindAt 11 = .ok (.iload_n 1, 1) := by decide +kernel
theorem dX5_kindAt_12 : decode cX5_kindAt 12 = .ok (.iaload, 1) := by decide +kernel
theorem dX5_kindAt_13 : decode cX5_kindAt 13 = .ok (.goto 4, 3) := by decide +kernel
theorem dX5_kindAt_16 : decode cX5_kindAt 16 = .ok (.iconst (-1), 1) := by decide +kernel
theorem dX5_kindAt_17 : decode cX5_kindAt 17 = .ok (.ireturn, 1) := by decide +kernel
theorem dX5_defaultAt_0 : decode cX5_defaultAt 0 = .ok (.iload_n 1, 1) := by decide +kernel
theorem dX5_defaultAt_1 : decode cX5_defaultAt 1 = .ok (.invokestatic 32, 3) := by decide +kernel
theorem dX5_defaultAt_4 : decode cX5_defaultAt 4 = .ok (.ifCond .eq 12, 3) := by decide +kernel
theorem dX5_defaultAt_7 : decode cX5_defaultAt 7 = .ok (.aload_n 0, 1) := by decide +kernel
theorem dX5_defaultAt_8 : decode cX5_defaultAt 8 = .ok (.getfield 15, 3) := by decide +kernel
theorem dX5_defaultAt_11 : decode cX5_defaultAt 11 = .ok (.iload_n 1, 1) := by decide +kernel
theorem dX5_defaultAt_12 : decode cX5_defaultAt 12 = .ok (.iaload, 1) := by decide +kernel
theorem dX5_defaultAt_13 : decode cX5_defaultAt 13 = .ok (.goto 4, 3) := by decide +kernel
theorem dX5_defaultAt_16 : decode cX5_defaultAt 16 = .ok (.iconst 0, 1) := by decide +kernel
theorem dX5_defaultAt_17 : decode cX5_defaultAt 17 = .ok (.ireturn, 1) := by decide +kernel
theorem dX5_partOf_0 : decode cX5_partOf 0 = .ok (.iload_n 1, 1) := by decide +kernel
theorem dX5_partOf_1 : decode cX5_partOf 1 = .ok (.invokestatic 32, 3) := by decide +kernel
theorem dX5_partOf_4 : decode cX5_partOf 4 = .ok (.ifCond .eq 12, 3) := by decide +kernel
theorem dX5_partOf_7 : decode cX5_partOf 7 = .ok (.aload_n 0, 1) := by decide +kernel
theorem dX5_partOf_8 : decode cX5_partOf 8 = .ok (.getfield 18, 3) := by decide +kernel
theorem dX5_partOf_11 : decode cX5_partOf 11 = .ok (.iload_n 1, 1) := by decide +kernel
theorem dX5_partOf_12 : decode cX5_partOf 12 = .ok (.aaload, 1) := by decide +kernel
theorem dX5_partOf_13 : decode cX5_partOf 13 = .ok (.goto 4, 3) := by decide +kernel
theorem dX5_partOf_16 : decode cX5_partOf 16 = .ok (.aconst_null, 1) := by decide +kernel
theorem dX5_partOf_17 : decode cX5_partOf 17 = .ok (.areturn, 1) := by decide +kernel
theorem dX5_giveKind_0 : decode cX5_giveKind 0 = .ok (.iload_n 1, 1) := by decide +kernel
theorem dX5_giveKind_1 : decode cX5_giveKind 1 = .ok (.invokestatic 32, 3) := by decide +kernel
theorem dX5_giveKind_4 : decode cX5_giveKind 4 = .ok (.ifCond .eq 24, 3) := by decide +kernel
theorem dX5_giveKind_7 : decode cX5_giveKind 7 = .ok (.aload_n 0, 1) := by decide +kernel
theorem dX5_giveKind_8 : decode cX5_giveKind 8 = .ok (.getfield 9, 3) := by decide +kernel
theorem dX5_giveKind_11 : decode cX5_giveKind 11 = .ok (.iload_n 1, 1) := by decide +kernel
theorem dX5_giveKind_12 : decode cX5_giveKind 12 = .ok (.iload_n 2, 1) := by decide +kernel
theorem dX5_giveKind_13 : decode cX5_giveKind 13 = .ok (.iastore, 1) := by decide +kernel
theorem dX5_giveKind_14 : decode cX5_giveKind 14 = .ok (.aload_n 0, 1) := by decide +kernel
theorem dX5_giveKind_15 : decode cX5_giveKind 15 = .ok (.getfield 15, 3) := by decide +kernel
theorem dX5_giveKind_18 : decode cX5_giveKind 18 = .ok (.iload_n 1, 1) := by decide +kernel
theorem dX5_giveKind_19 : decode cX5_giveKind 19 = .ok (.iconst 0, 1) := by decide +kernel
theorem dX5_giveKind_20 : decode cX5_giveKind 20 = .ok (.iastore, 1) := by decide +kernel
theorem dX5_giveKind_21 : decode cX5_giveKind 21 = .ok (.aload_n 0, 1) := by decide +kernel
theorem dX5_giveKind_22 : decode cX5_giveKind 22 = .ok (.getfield 18, 3) := by decide +kernel
theorem dX5_giveKind_25 : decode cX5_giveKind 25 = .ok (.iload_n 1, 1) := by decide +kernel
theorem dX5_giveKind_26 : decode cX5_giveKind 26 = .ok (.aload_n 3, 1) := by decide +kernel
theorem dX5_giveKind_27 : decode cX5_giveKind 27 = .ok (.aastore, 1) := by decide +kernel
theorem dX5_giveKind_28 : decode cX5_giveKind 28 = .ok (.return_, 1) := by decide +kernel
theorem dX5_giveDefault_0 : decode cX5_giveDefault 0 = .ok (.iload_n 1, 1) := by decide +kernel
theorem dX5_giveDefault_1 : decode cX5_giveDefault 1 = .ok (.invokestatic 32, 3) := by decide +kernel
theorem dX5_giveDefault_4 : decode cX5_giveDefault 4 = .ok (.ifCond .eq 10, 3) := by decide +kernel
theorem dX5_giveDefault_7 : decode cX5_giveDefault 7 = .ok (.aload_n 0, 1) := by decide +kernel
theorem dX5_giveDefault_8 : decode cX5_giveDefault 8 = .ok (.getfield 15, 3) := by decide +kernel
theorem dX5_giveDefault_11 : decode cX5_giveDefault 11 = .ok (.iload_n 1, 1) := by decide +kernel
theorem dX5_giveDefault_12 : decode cX5_giveDefault 12 = .ok (.iload_n 2, 1) := by decide +kernel
theorem dX5_giveDefault_13 : decode cX5_giveDefault 13 = .ok (.iastore, 1) := by decide +kernel
theorem dX5_giveDefault_14 : decode cX5_giveDefault 14 = .ok (.return_, 1) := by decide +kernel
theorem dX5_hasInt_0 : decode cX5_hasInt 0 = .ok (.aload_n 0, 1) := by decide +kernel
theorem dX5_hasInt_1 : decode cX5_hasInt 1 = .ok (.iload_n 1, 1) := by decide +kernel
theorem dX5_hasInt_2 : decode cX5_hasInt 2 = .ok (.invokevirtual 36, 3) := by decide +kernel
theorem dX5_hasInt_5 : decode cX5_hasInt 5 = .ok (.invokestatic 40, 3) := by decide +kernel
theorem dX5_hasInt_8 : decode cX5_hasInt 8 = .ok (.ireturn, 1) := by decide +kernel
theorem dX5_hasBytes_0 : decode cX5_hasBytes 0 = .ok (.aload_n 0, 1) := by decide +kernel
theorem dX5_hasBytes_1 : decode cX5_hasBytes 1 = .ok (.iload_n 1, 1) := by decide +kernel
theorem dX5_hasBytes_2 : decode cX5_hasBytes 2 = .ok (.invokevirtual 36, 3) := by decide +kernel
theorem dX5_hasBytes_5 : decode cX5_hasBytes 5 = .ok (.istore_n 2, 1) := by decide +kernel
theorem dX5_hasBytes_6 : decode cX5_hasBytes 6 = .ok (.iload_n 2, 1) := by decide +kernel
theorem dX5_hasBytes_7 : decode cX5_hasBytes 7 = .ok (.iconst 3, 1) := by decide +kernel
theorem dX5_hasBytes_8 : decode cX5_hasBytes 8 = .ok (.if_icmp .eq 8, 3) := by decide +kernel
theorem dX5_hasBytes_11 : decode cX5_hasBytes 11 = .ok (.iload_n 2, 1) := by decide +kernel
theorem dX5_hasBytes_12 : decode cX5_hasBytes 12 = .ok (.iconst 4, 1) := by decide +kernel
theorem dX5_hasBytes_13 : decode cX5_hasBytes 13 = .ok (.if_icmp .ne 7, 3) := by decide +kernel
theorem dX5_hasBytes_16 : decode cX5_hasBytes 16 = .ok (.iconst 1, 1) := by decide +kernel
theorem dX5_hasBytes_17 : decode cX5_hasBytes 17 = .ok (.goto 4, 3) := by decide +kernel
theorem dX5_hasBytes_20 : decode cX5_hasBytes 20 = .ok (.iconst 0, 1) := by decide +kernel
theorem dX5_hasBytes_21 : decode cX5_hasBytes 21 = .ok (.ireturn, 1) := by decide +kernel
theorem dX5_knows_0 : decode cX5_knows 0 = .ok (.aload_n 0, 1) := by decide +kernel
theorem dX5_knows_1 : decode cX5_knows 1 = .ok (.iload_n 1, 1) := by decide +kernel
theorem dX5_knows_2 : decode cX5_knows 2 = .ok (.invokevirtual 36, 3) := by decide +kernel
theorem dX5_knows_5 : decode cX5_knows 5 = .ok (.iconst (-1), 1) := by decide +kernel
theorem dX5_knows_6 : decode cX5_knows 6 = .ok (.if_icmp .eq 16, 3) := by decide +kernel
theorem dX5_knows_9 : decode cX5_knows 9 = .ok (.aload_n 0, 1) := by decide +kernel
theorem dX5_knows_10 : decode cX5_knows 10 = .ok (.iload_n 1, 1) := by decide +kernel
theorem dX5_knows_11 : decode cX5_knows 11 = .ok (.invokevirtual 43, 3) := by decide +kernel
theorem dX5_knows_14 : decode cX5_knows 14 = .ok (.iload_n 2, 1) := by decide +kernel
theorem dX5_knows_15 : decode cX5_knows 15 = .ok (.if_icmp .ne 7, 3) := by decide +kernel
theorem dX5_knows_18 : decode cX5_knows 18 = .ok (.iconst 1, 1) := by decide +kernel
theorem dX5_knows_19 : decode cX5_knows 19 = .ok (.goto 4, 3) := by decide +kernel
theorem dX5_knows_22 : decode cX5_knows 22 = .ok (.iconst 0, 1) := by decide +kernel
theorem dX5_knows_23 : decode cX5_knows 23 = .ok (.ireturn, 1) := by decide +kernel
theorem dX5_typeAt_0 : decode cX5_typeAt 0 = .ok (.aload_n 0, 1) := by decide +kernel
theorem dX5_typeAt_1 : decode cX5_typeAt 1 = .ok (.iload_n 1, 1) := by decide +kernel
theorem dX5_typeAt_2 : decode cX5_typeAt 2 = .ok (.invokevirtual 46, 3) := by decide +kernel
theorem dX5_typeAt_5 : decode cX5_typeAt 5 = .ok (.ifCond .eq 5, 3) := by decide +kernel
theorem dX5_typeAt_8 : decode cX5_typeAt 8 = .ok (.iconst 2, 1) := by decide +kernel
theorem dX5_typeAt_9 : decode cX5_typeAt 9 = .ok (.ireturn, 1) := by decide +kernel
theorem dX5_typeAt_10 : decode cX5_typeAt 10 = .ok (.aload_n 0, 1) := by decide +kernel
theorem dX5_typeAt_11 : decode cX5_typeAt 11 = .ok (.iload_n 1, 1) := by decide +kernel
theorem dX5_typeAt_12 : decode cX5_typeAt 12 = .ok (.invokevirtual 36, 3) := by decide +kernel
theorem dX5_typeAt_15 : decode cX5_typeAt 15 = .ok (.iconst 2, 1) := by decide +kernel
theorem dX5_typeAt_16 : decode cX5_typeAt 16 = .ok (.if_icmp .ne 7, 3) := by decide +kernel
theorem dX5_typeAt_19 : decode cX5_typeAt 19 = .ok (.iconst 5, 1) := by decide +kernel
theorem dX5_typeAt_20 : decode cX5_typeAt 20 = .ok (.goto 4, 3) := by decide +kernel
theorem dX5_typeAt_23 : decode cX5_typeAt 23 = .ok (.iconst 0, 1) := by decide +kernel
theorem dX5_typeAt_24 : decode cX5_typeAt 24 = .ok (.ireturn, 1) := by decide +kernel
theorem dX5_numberOf_0 : decode cX5_numberOf 0 = .ok (.aload_n 0, 1) := by decide +kernel
theorem dX5_numberOf_1 : decode cX5_numberOf 1 = .ok (.iload_n 1, 1) := by decide +kernel
theorem dX5_numberOf_2 : decode cX5_numberOf 2 = .ok (.invokevirtual 36, 3) := by decide +kernel
theorem dX5_numberOf_5 : decode cX5_numberOf 5 = .ok (.iconst 1, 1) := by decide +kernel
theorem dX5_numberOf_6 : decode cX5_numberOf 6 = .ok (.if_icmp .ne 14, 3) := by decide +kernel
theorem dX5_numberOf_9 : decode cX5_numberOf 9 = .ok (.iload_n 2, 1) := by decide +kernel
theorem dX5_numberOf_10 : decode cX5_numberOf 10 = .ok (.iconst 1, 1) := by decide +kernel
theorem dX5_numberOf_11 : decode cX5_numberOf 11 = .ok (.ishl, 1) := by decide +kernel
theorem dX5_numberOf_12 : decode cX5_numberOf 12 = .ok (.iload_n 2, 1) := by decide +kernel
theorem dX5_numberOf_13 : decode cX5_numberOf 13 = .ok (.bipush 31, 2) := by decide +kernel
theorem dX5_numberOf_15 : decode cX5_numberOf 15 = .ok (.ishr, 1) := by decide +kernel
theorem dX5_numberOf_16 : decode cX5_numberOf 16 = .ok (.ixor, 1) := by decide +kernel
theorem dX5_numberOf_17 : decode cX5_numberOf 17 = .ok (.goto 4, 3) := by decide +kernel
theorem dX5_numberOf_20 : decode cX5_numberOf 20 = .ok (.iload_n 2, 1) := by decide +kernel
theorem dX5_numberOf_21 : decode cX5_numberOf 21 = .ok (.ireturn, 1) := by decide +kernel
theorem dX5_valueOf_0 : decode cX5_valueOf 0 = .ok (.aload_n 0, 1) := by decide +kernel
theorem dX5_valueOf_1 : decode cX5_valueOf 1 = .ok (.iload_n 1, 1) := by decide +kernel
theorem dX5_valueOf_2 : decode cX5_valueOf 2 = .ok (.invokevirtual 36, 3) := by decide +kernel
theorem dX5_valueOf_5 : decode cX5_valueOf 5 = .ok (.iconst 1, 1) := by decide +kernel
theorem dX5_valueOf_6 : decode cX5_valueOf 6 = .ok (.if_icmp .ne 14, 3) := by decide +kernel
theorem dX5_valueOf_9 : decode cX5_valueOf 9 = .ok (.iload_n 2, 1) := by decide +kernel
theorem dX5_valueOf_10 : decode cX5_valueOf 10 = .ok (.iconst 1, 1) := by decide +kernel
theorem dX5_valueOf_11 : decode cX5_valueOf 11 = .ok (.iushr, 1) := by decide +kernel
theorem dX5_valueOf_12 : decode cX5_valueOf 12 = .ok (.iload_n 2, 1) := by decide +kernel
theorem dX5_valueOf_13 : decode cX5_valueOf 13 = .ok (.iconst 1, 1) := by decide +kernel
theorem dX5_valueOf_14 : decode cX5_valueOf 14 = .ok (.iand, 1) := by decide +kernel
theorem dX5_valueOf_15 : decode cX5_valueOf 15 = .ok (.ineg, 1) := by decide +kernel
theorem dX5_valueOf_16 : decode cX5_valueOf 16 = .ok (.ixor, 1) := by decide +kernel
theorem dX5_valueOf_17 : decode cX5_valueOf 17 = .ok (.goto 4, 3) := by decide +kernel
theorem dX5_valueOf_20 : decode cX5_valueOf 20 = .ok (.iload_n 2, 1) := by decide +kernel
theorem dX5_valueOf_21 : decode cX5_valueOf 21 = .ok (.ireturn, 1) := by decide +kernel
theorem dX5_isDefault_0 : decode cX5_isDefault 0 = .ok (.aload_n 0, 1) := by decide +kernel
theorem dX5_isDefault_1 : decode cX5_isDefault 1 = .ok (.iload_n 1, 1) := by decide +kernel
theorem dX5_isDefault_2 : decode cX5_isDefault 2 = .ok (.invokevirtual 49, 3) := by decide +kernel
theorem dX5_isDefault_5 : decode cX5_isDefault 5 = .ok (.ifCond .eq 21, 3) := by decide +kernel
theorem dX5_isDefault_8 : decode cX5_isDefault 8 = .ok (.aload_n 0, 1) := by decide +kernel
theorem dX5_isDefault_9 : decode cX5_isDefault 9 = .ok (.iload_n 1, 1) := by decide +kernel
theorem dX5_isDefault_10 : decode cX5_isDefault 10 = .ok (.iload_n 2, 1) := by decide +kernel
theorem dX5_isDefault_11 : decode cX5_isDefault 11 = .ok (.invokevirtual 52, 3) := by decide +kernel
theorem dX5_isDefault_14 : decode cX5_isDefault 14 = .ok (.aload_n 0, 1) := by decide +kernel
theorem dX5_isDefault_15 : decode cX5_isDefault 15 = .ok (.iload_n 1, 1) := by decide +kernel
theorem dX5_isDefault_16 : decode cX5_isDefault 16 = .ok (.invokevirtual 56, 3) := by decide +kernel
theorem dX5_isDefault_19 : decode cX5_isDefault 19 = .ok (.if_icmp .ne 7, 3) := by decide +kernel
theorem dX5_isDefault_22 : decode cX5_isDefault 22 = .ok (.iconst 1, 1) := by decide +kernel
theorem dX5_isDefault_23 : decode cX5_isDefault 23 = .ok (.goto 4, 3) := by decide +kernel
theorem dX5_isDefault_26 : decode cX5_isDefault 26 = .ok (.iconst 0, 1) := by decide +kernel
theorem dX5_isDefault_27 : decode cX5_isDefault 27 = .ok (.ireturn, 1) := by decide +kernel
theorem dX5_differsAt_0 : decode cX5_differsAt 0 = .ok (.aload_n 0, 1) := by decide +kernel
theorem dX5_differsAt_1 : decode cX5_differsAt 1 = .ok (.iload_n 2, 1) := by decide +kernel
theorem dX5_differsAt_2 : decode cX5_differsAt 2 = .ok (.invokevirtual 36, 3) := by decide +kernel
theorem dX5_differsAt_5 : decode cX5_differsAt 5 = .ok (.istore_n 3, 1) := by decide +kernel
theorem dX5_differsAt_6 : decode cX5_differsAt 6 = .ok (.aload_n 1, 1) := by decide +kernel
theorem dX5_differsAt_7 : decode cX5_differsAt 7 = .ok (.iload_n 2, 1) := by decide +kernel
theorem dX5_differsAt_8 : decode cX5_differsAt 8 = .ok (.invokevirtual 36, 3) := by decide +kernel
theorem dX5_differsAt_11 : decode cX5_differsAt 11 = .ok (.istore 4, 2) := by decide +kernel
theorem dX5_differsAt_13 : decode cX5_differsAt 13 = .ok (.iload_n 3, 1) := by decide +kernel
theorem dX5_differsAt_14 : decode cX5_differsAt 14 = .ok (.iconst (-1), 1) := by decide +kernel
theorem dX5_differsAt_15 : decode cX5_differsAt 15 = .ok (.if_icmp .eq 13, 3) := by decide +kernel
theorem dX5_differsAt_18 : decode cX5_differsAt 18 = .ok (.iload 4, 2) := by decide +kernel
theorem dX5_differsAt_20 : decode cX5_differsAt 20 = .ok (.iconst (-1), 1) := by decide +kernel
theorem dX5_differsAt_21 : decode cX5_differsAt 21 = .ok (.if_icmp .eq 7, 3) := by decide +kernel
theorem dX5_differsAt_24 : decode cX5_differsAt 24 = .ok (.iconst 1, 1) := by decide +kernel
theorem dX5_differsAt_25 : decode cX5_differsAt 25 = .ok (.goto 4, 3) := by decide +kernel
theorem dX5_differsAt_28 : decode cX5_differsAt 28 = .ok (.iconst 0, 1) := by decide +kernel
theorem dX5_differsAt_29 : decode cX5_differsAt 29 = .ok (.istore 5, 2) := by decide +kernel
theorem dX5_differsAt_31 : decode cX5_differsAt 31 = .ok (.iload 5, 2) := by decide +kernel
theorem dX5_differsAt_33 : decode cX5_differsAt 33 = .ok (.ifCond .eq 28, 3) := by decide +kernel
theorem dX5_differsAt_36 : decode cX5_differsAt 36 = .ok (.iload_n 3, 1) := by decide +kernel
theorem dX5_differsAt_37 : decode cX5_differsAt 37 = .ok (.iload 4, 2) := by decide +kernel
theorem dX5_differsAt_39 : decode cX5_differsAt 39 = .ok (.if_icmp .eq 22, 3) := by decide +kernel
theorem dX5_differsAt_42 : decode cX5_differsAt 42 = .ok (.iload_n 3, 1) := by decide +kernel
theorem dX5_differsAt_43 : decode cX5_differsAt 43 = .ok (.invokestatic 40, 3) := by decide +kernel
theorem dX5_differsAt_46 : decode cX5_differsAt 46 = .ok (.ifCond .ne 11, 3) := by decide +kernel
theorem dX5_differsAt_49 : decode cX5_differsAt 49 = .ok (.iload 4, 2) := by decide +kernel
theorem dX5_differsAt_51 : decode cX5_differsAt 51 = .ok (.invokestatic 40, 3) := by decide +kernel
theorem dX5_differsAt_54 : decode cX5_differsAt 54 = .ok (.ifCond .eq 7, 3) := by decide +kernel
theorem dX5_differsAt_57 : decode cX5_differsAt 57 = .ok (.iconst 1, 1) := by decide +kernel
theorem dX5_differsAt_58 : decode cX5_differsAt 58 = .ok (.goto 4, 3) := by decide +kernel
theorem dX5_differsAt_61 : decode cX5_differsAt 61 = .ok (.iconst 0, 1) := by decide +kernel
theorem dX5_differsAt_62 : decode cX5_differsAt 62 = .ok (.ireturn, 1) := by decide +kernel
theorem dX5_isIntKind_0 : decode cX5_isIntKind 0 = .ok (.iload_n 0, 1) := by decide +kernel
theorem dX5_isIntKind_1 : decode cX5_isIntKind 1 = .ok (.ifCond .eq 13, 3) := by decide +kernel
theorem dX5_isIntKind_4 : decode cX5_isIntKind 4 = .ok (.iload_n 0, 1) := by decide +kernel
theorem dX5_isIntKind_5 : decode cX5_isIntKind 5 = .ok (.iconst 1, 1) := by decide +kernel
theorem dX5_isIntKind_6 : decode cX5_isIntKind 6 = .ok (.if_icmp .eq 8, 3) := by decide +kernel
theorem dX5_isIntKind_9 : decode cX5_isIntKind 9 = .ok (.iload_n 0, 1) := by decide +kernel
theorem dX5_isIntKind_10 : decode cX5_isIntKind 10 = .ok (.iconst 2, 1) := by decide +kernel
theorem dX5_isIntKind_11 : decode cX5_isIntKind 11 = .ok (.if_icmp .ne 7, 3) := by decide +kernel
theorem dX5_isIntKind_14 : decode cX5_isIntKind 14 = .ok (.iconst 1, 1) := by decide +kernel
theorem dX5_isIntKind_15 : decode cX5_isIntKind 15 = .ok (.goto 4, 3) := by decide +kernel
theorem dX5_isIntKind_18 : decode cX5_isIntKind 18 = .ok (.iconst 0, 1) := by decide +kernel
theorem dX5_isIntKind_19 : decode cX5_isIntKind 19 = .ok (.ireturn, 1) := by decide +kernel
theorem dX6_init_0 : decode cX6_init 0 = .ok (.aload_n 0, 1) := by decide +kernel
theorem dX6_init_1 : decode cX6_init 1 = .ok (.invokespecial 1, 3) := by decide +kernel
theorem dX6_init_4 : decode cX6_init 4 = .ok (.aload_n 0, 1) := by decide +kernel
theorem dX6_init_5 : decode cX6_init 5 = .ok (.bipush 6, 2) := by decide +kernel
theorem dX6_init_7 : decode cX6_init 7 = .ok (.anewarray 9, 3) := by decide +kernel
theorem dX6_init_10 : decode cX6_init 10 = .ok (.putfield 11, 3) := by decide +kernel
theorem dX6_init_13 : decode cX6_init 13 = .ok (.aload_n 0, 1) := by decide +kernel
theorem dX6_init_14 : decode cX6_init 14 = .ok (.bipush 12, 2) := by decide +kernel
theorem dX6_init_16 : decode cX6_init 16 = .ok (.anewarray 15, 3) := by decide +kernel
theorem dX6_init_19 : decode cX6_init 19 = .ok (.putfield 17, 3) := by decide +kernel
theorem dX6_init_22 : decode cX6_init 22 = .ok (.aload_n 0, 1) := by decide +kernel
theorem dX6_init_23 : decode cX6_init 23 = .ok (.new 21, 3) := by decide +kernel
theorem dX6_init_26 : decode cX6_init 26 = .ok (.dup, 1) := by decide +kernel
theorem dX6_init_27 : decode cX6_init 27 = .ok (.invokespecial 23, 3) := by decide +kernel
theorem dX6_init_30 : decode cX6_init 30 = .ok (.putfield 24, 3) := by decide +kernel
theorem dX6_init_33 : decode cX6_init 33 = .ok (.aload_n 0, 1) := by decide +kernel
theorem dX6_init_34 : decode cX6_init 34 = .ok (.new 28, 3) := by decide +kernel
theorem dX6_init_37 : decode cX6_init 37 = .ok (.dup, 1) := by decide +kernel
theorem dX6_init_38 : decode cX6_init 38 = .ok (.invokespecial 30, 3) := by decide +kernel
theorem dX6_init_41 : decode cX6_init 41 = .ok (.putfield 31, 3) := by decide +kernel
theorem dX6_init_44 : decode cX6_init 44 = .ok (.aload_n 0, 1) := by decide +kernel
theorem dX6_init_45 : decode cX6_init 45 = .ok (.new 35, 3) := by decide +kernel
theorem dX6_init_48 : decode cX6_init 48 = .ok (.dup, 1) := by decide +kernel
theorem dX6_init_49 : decode cX6_init 49 = .ok (.invokespecial 37, 3) := by decide +kernel
theorem dX6_init_52 : decode cX6_init 52 = .ok (.putfield 38, 3) := by decide +kernel
theorem dX6_init_55 : decode cX6_init 55 = .ok (.aload_n 0, 1) := by decide +kernel
theorem dX6_init_56 : decode cX6_init 56 = .ok (.new 42, 3) := by decide +kernel
theorem dX6_init_59 : decode cX6_init 59 = .ok (.dup, 1) := by decide +kernel
theorem dX6_init_60 : decode cX6_init 60 = .ok (.invokespecial 44, 3) := by decide +kernel
theorem dX6_init_63 : decode cX6_init 63 = .ok (.putfield 45, 3) := by decide +kernel
theorem dX6_init_66 : decode cX6_init 66 = .ok (.aload_n 0, 1) := by decide +kernel
theorem dX6_init_67 : decode cX6_init 67 = .ok (.new 42, 3) := by decide +kernel
theorem dX6_init_70 : decode cX6_init 70 = .ok (.dup, 1) := by decide +kernel
theorem dX6_init_71 : decode cX6_init 71 = .ok (.invokespecial 44, 3) := by decide +kernel
theorem dX6_init_74 : decode cX6_init 74 = .ok (.putfield 49, 3) := by decide +kernel
theorem dX6_init_77 : decode cX6_init 77 = .ok (.aload_n 0, 1) := by decide +kernel
theorem dX6_init_78 : decode cX6_init 78 = .ok (.new 21, 3) := by decide +kernel
theorem dX6_init_81 : decode cX6_init 81 = .ok (.dup, 1) := by decide +kernel
theorem dX6_init_82 : decode cX6_init 82 = .ok (.invokespecial 23, 3) := by decide +kernel
theorem dX6_init_85 : decode cX6_init 85 = .ok (.putfield 52, 3) := by decide +kernel
theorem dX6_init_88 : decode cX6_init 88 = .ok (.aload_n 0, 1) := by decide +kernel
theorem dX6_init_89 : decode cX6_init 89 = .ok (.new 21, 3) := by decide +kernel
theorem dX6_init_92 : decode cX6_init 92 = .ok (.dup, 1) := by decide +kernel
theorem dX6_init_93 : decode cX6_init 93 = .ok (.invokespecial 23, 3) := by decide +kernel
theorem dX6_init_96 : decode cX6_init 96 = .ok (.putfield 55, 3) := by decide +kernel
theorem dX6_init_99 : decode cX6_init 99 = .ok (.aload_n 0, 1) := by decide +kernel
theorem dX6_init_100 : decode cX6_init 100 = .ok (.new 21, 3) := by decide +kernel
theorem dX6_init_103 : decode cX6_init 103 = .ok (.dup, 1) := by decide +kernel
theorem dX6_init_104 : decode cX6_init 104 = .ok (.invokespecial 23, 3) := by decide +kernel
theorem dX6_init_107 : decode cX6_init 107 = .ok (.putfield 58, 3) := by decide +kernel
theorem dX6_init_110 : decode cX6_init 110 = .ok (.return_, 1) := by decide +kernel
theorem dX6_addSchema_0 : decode cX6_addSchema 0 = .ok (.aload_n 0, 1) := by decide +kernel
theorem dX6_addSchema_1 : decode cX6_addSchema 1 = .ok (.getfield 61, 3) := by decide +kernel
theorem dX6_addSchema_4 : decode cX6_addSchema 4 = .ok (.istore_n 1, 1) := by decide +kernel
theorem dX6_addSchema_5 : decode cX6_addSchema 5 = .ok (.iload_n 1, 1) := by decide +kernel
theorem dX6_addSchema_6 : decode cX6_addSchema 6 = .ok (.aload_n 0, 1) := by decide +kernel
theorem dX6_addSchema_7 : decode cX6_addSchema 7 = .ok (.getfield 11, 3) := by decide +kernel
theorem dX6_addSchema_10 : decode cX6_addSchema 10 = .ok (.arraylength, 1) := by decide +kernel
theorem dX6_addSchema_11 : decode cX6_addSchema 11 = .ok (.if_icmp .lt 13, 3) := by decide +kernel
theorem dX6_addSchema_14 : decode cX6_addSchema 14 = .ok (.new 65, 3) := by decide +kernel
theorem dX6_addSchema_17 : decode cX6_addSchema 17 = .ok (.dup, 1) := by decide +kernel
theorem dX6_addSchema_18 : decode cX6_addSchema 18 = .ok (.ldc 67, 2) := by decide +kernel
theorem dX6_addSchema_20 : decode cX6_addSchema 20 = .ok (.invokespecial 69, 3) := by decide +kernel
theorem dX6_addSchema_23 : decode cX6_addSchema 23 = .ok (.athrow, 1) := by decide +kernel
theorem dX6_addSchema_24 : decode cX6_addSchema 24 = .ok (.aload_n 0, 1) := by decide +kernel
theorem dX6_addSchema_25 : decode cX6_addSchema 25 = .ok (.getfield 11, 3) := by decide +kernel
theorem dX6_addSchema_28 : decode cX6_addSchema 28 = .ok (.iload_n 1, 1) := by decide +kernel
theorem dX6_addSchema_29 : decode cX6_addSchema 29 = .ok (.new 9, 3) := by decide +kernel
theorem dX6_addSchema_32 : decode cX6_addSchema 32 = .ok (.dup, 1) := by decide +kernel
theorem dX6_addSchema_33 : decode cX6_addSchema 33 = .ok (.iload_n 1, 1) := by decide +kernel
theorem dX6_addSchema_34 : decode cX6_addSchema 34 = .ok (.invokespecial 72, 3) := by decide +kernel
theorem dX6_addSchema_37 : decode cX6_addSchema 37 = .ok (.aastore, 1) := by decide +kernel
theorem dX6_addSchema_38 : decode cX6_addSchema 38 = .ok (.aload_n 0, 1) := by decide +kernel
theorem dX6_addSchema_39 : decode cX6_addSchema 39 = .ok (.dup, 1) := by decide +kernel
theorem dX6_addSchema_40 : decode cX6_addSchema 40 = .ok (.getfield 61, 3) := by decide +kernel
theorem dX6_addSchema_43 : decode cX6_addSchema 43 = .ok (.iconst 1, 1) := by decide +kernel
theorem dX6_addSchema_44 : decode cX6_addSchema 44 = .ok (.iadd, 1) := by decide +kernel
theorem dX6_addSchema_45 : decode cX6_addSchema 45 = .ok (.putfield 61, 3) := by decide +kernel
theorem dX6_addSchema_48 : decode cX6_addSchema 48 = .ok (.iload_n 1, 1) := by decide +kernel
theorem dX6_addSchema_49 : decode cX6_addSchema 49 = .ok (.ireturn, 1) := by decide +kernel
theorem dX6_setKind_0 : decode cX6_setKind 0 = .ok (.aload_n 0, 1) := by decide +kernel
theorem dX6_setKind_1 : decode cX6_setKind 1 = .ok (.iload_n 1, 1) := by decide +kernel
theorem dX6_setKind_2 : decode cX6_setKind 2 = .ok (.invokevirtual 75, 3) := by decide +kernel
theorem dX6_setKind_5 : decode cX6_setKind 5 = .ok (.astore 5, 2) := by decide +kernel
theorem dX6_setKind_7 : decode cX6_setKind 7 = .ok (.iload_n 3, 1) := by decide +kernel
theorem dX6_setKind_8 : decode cX6_setKind 8 = .ok (.iconst 4, 1) := by decide +kernel
theorem dX6_setKind_9 : decode cX6_setKind 9 = .ok (.if_icmp .ne 12, 3) := by decide +kernel
theorem dX6_setKind_12 : decode cX6_setKind 12 = .ok (.aload_n 0, 1) := by decide +kernel
theorem dX6_setKind_13 : decode cX6_setKind 13 = .ok (.iload 4, 2) := by decide +kernel
theorem dX6_setKind_15 : decode cX6_setKind 15 = .ok (.invokevirtual 75, 3) := by decide +kernel
theorem dX6_setKind_18 : decode cX6_setKind 18 = .ok (.goto 4, 3) := by decide +kernel
theorem dX6_setKind_21 : decode cX6_setKind 21 = .ok (.aconst_null, 1) := by decide +kernel
theorem dX6_setKind_22 : decode cX6_setKind 22 = .ok (.astore 6, 2) := by decide +kernel
theorem dX6_setKind_24 : decode cX6_setKind 24 = .ok (.iload_n 2, 1) := by decide +kernel
theorem dX6_setKind_25 : decode cX6_setKind 25 = .ok (.invokestatic 79, 3) := by decide +kernel
theorem dX6_setKind_28 : decode cX6_setKind 28 = .ok (.iload_n 3, 1) := by decide +kernel
theorem dX6_setKind_29 : decode cX6_setKind 29 = .ok (.ifCond .lt 8, 3) := by decide +kernel
theorem dX6_setKind_32 : decode cX6_setKind 32 = .ok (.iload_n 3, 1) := by decide +kernel
theorem dX6_setKind_33 : decode cX6_setKind 33 = .ok (.iconst 4, 1) := by decide +kernel
theorem dX6_setKind_34 : decode cX6_setKind 34 = .ok (.if_icmp .le 13, 3) := by decide +kernel
theorem dX6_setKind_37 : decode cX6_setKind 37 = .ok (.new 82, 3) := by decide +kernel
theorem dX6_setKind_40 : decode cX6_setKind 40 = .ok (.dup, 1) := by decide +kernel
theorem dX6_setKind_41 : decode cX6_setKind 41 = .ok (.ldc 84, 2) := by decide +kernel
theorem dX6_setKind_43 : decode cX6_setKind 43 = .ok (.invokespecial 86, 3) := by decide +kernel
theorem dX6_setKind_46 : decode cX6_setKind 46 = .ok (.athrow, 1) := by decide +kernel
theorem dX6_setKind_47 : decode cX6_setKind 47 = .ok (.aload 5, 2) := by decide +kernel
theorem dX6_setKind_49 : decode cX6_setKind 49 = .ok (.iload_n 2, 1) := by decide +kernel
theorem dX6_setKind_50 : decode cX6_setKind 50 = .ok (.invokevirtual 87, 3) := by decide +kernel
theorem dX6_setKind_53 : decode cX6_setKind 53 = .ok (.istore 7, 2) := by decide +kernel
theorem dX6_setKind_55 : decode cX6_setKind 55 = .ok (.aload 5, 2) := by decide +kernel
theorem dX6_setKind_57 : decode cX6_setKind 57 = .ok (.iload_n 2, 1) := by decide +kernel
theorem dX6_setKind_58 : decode cX6_setKind 58 = .ok (.iload_n 3, 1) := by decide +kernel
theorem dX6_setKind_59 : decode cX6_setKind 59 = .ok (.aload 6, 2) := by decide +kernel
theorem dX6_setKind_61 : decode cX6_setKind 61 = .ok (.invokevirtual 91, 3) := by decide +kernel
theorem dX6_setKind_64 : decode cX6_setKind 64 = .ok (.iload 7, 2) := by decide +kernel
theorem dX6_setKind_66 : decode cX6_setKind 66 = .ok (.ireturn, 1) := by decide +kernel
theorem dX6_dropKind_0 : decode cX6_dropKind 0 = .ok (.aload_n 0, 1) := by decide +kernel
theorem dX6_dropKind_1 : decode cX6_dropKind 1 = .ok (.iload_n 1, 1) := by decide +kernel
theorem dX6_dropKind_2 : decode cX6_dropKind 2 = .ok (.invokevirtual 75, 3) := by decide +kernel
theorem dX6_dropKind_5 : decode cX6_dropKind 5 = .ok (.astore_n 3, 1) := by decide +kernel
theorem dX6_dropKind_6 : decode cX6_dropKind 6 = .ok (.iload_n 2, 1) := by decide +kernel
theorem dX6_dropKind_7 : decode cX6_dropKind 7 = .ok (.invokestatic 79, 3) := by decide +kernel
theorem dX6_dropKind_10 : decode cX6_dropKind 10 = .ok (.aload_n 3, 1) := by decide +kernel
theorem dX6_dropKind_11 : decode cX6_dropKind 11 = .ok (.iload_n 2, 1) := by decide +kernel
theorem dX6_dropKind_12 : decode cX6_dropKind 12 = .ok (.invokevirtual 87, 3) := by decide +kernel
theorem dX6_dropKind_15 : decode cX6_dropKind 15 = .ok (.istore 4, 2) := by decide +kernel
theorem dX6_dropKind_17 : decode cX6_dropKind 17 = .ok (.aload_n 3, 1) := by decide +kernel
theorem dX6_dropKind_18 : decode cX6_dropKind 18 = .ok (.iload_n 2, 1) := by decide +kernel
theorem dX6_dropKind_19 : decode cX6_dropKind 19 = .ok (.iconst (-1), 1) := by decide +kernel
theorem dX6_dropKind_20 : decode cX6_dropKind 20 = .ok (.aconst_null, 1) := by decide +kernel
theorem dX6_dropKind_21 : decode cX6_dropKind 21 = .ok (.invokevirtual 91, 3) := by decide +kernel
theorem dX6_dropKind_24 : decode cX6_dropKind 24 = .ok (.iload 4, 2) := by decide +kernel
theorem dX6_dropKind_26 : decode cX6_dropKind 26 = .ok (.ireturn, 1) := by decide +kernel
theorem dX6_setDefault_0 : decode cX6_setDefault 0 = .ok (.aload_n 0, 1) := by decide +kernel
theorem dX6_setDefault_1 : decode cX6_setDefault 1 = .ok (.iload_n 1, 1) := by decide +kernel
theorem dX6_setDefault_2 : decode cX6_setDefault 2 = .ok (.invokevirtual 75, 3) := by decide +kernel
theorem dX6_setDefault_5 : decode cX6_setDefault 5 = .ok (.astore 4, 2) := by decide +kernel
theorem dX6_setDefault_7 : decode cX6_setDefault 7 = .ok (.iload_n 2, 1) := by decide +kernel
theorem dX6_setDefault_8 : decode cX6_setDefault 8 = .ok (.invokestatic 79, 3) := by decide +kernel
theorem dX6_setDefault_11 : decode cX6_setDefault 11 = .ok (.aload 4, 2) := by decide +kernel
theorem dX6_setDefault_13 : decode cX6_setDefault 13 = .ok (.iload_n 2, 1) := by decide +kernel
theorem dX6_setDefault_14 : decode cX6_setDefault 14 = .ok (.invokevirtual 95, 3) := by decide +kernel
theorem dX6_setDefault_17 : decode cX6_setDefault 17 = .ok (.ifCond .ne 13, 3) := by decide +kernel
theorem dX6_setDefault_20 : decode cX6_setDefault 20 = .ok (.new 65, 3) := by decide +kernel
theorem dX6_setDefault_23 : decode cX6_setDefault 23 = .ok (.dup, 1) := by decide +kernel
theorem dX6_setDefault_24 : decode cX6_setDefault 24 = .ok (.ldc 99, 2) := by decide +kernel
theorem dX6_setDefault_26 : decode cX6_setDefault 26 = .ok (.invokespecial 69, 3) := by decide +kernel
theorem dX6_setDefault_29 : decode cX6_setDefault 29 = .ok (.athrow, 1) := by decide +kernel
theorem dX6_setDefault_30 : decode cX6_setDefault 30 = .ok (.aload 4, 2) := by decide +kernel
theorem dX6_setDefault_32 : decode cX6_setDefault 32 = .ok (.iload_n 2, 1) := by decide +kernel
theorem dX6_setDefault_33 : decode cX6_setDefault 33 = .ok (.invokevirtual 101, 3) := by decide +kernel
theorem dX6_setDefault_36 : decode cX6_setDefault 36 = .ok (.istore 5, 2) := by decide +kernel
theorem dX6_setDefault_38 : decode cX6_setDefault 38 = .ok (.aload 4, 2) := by decide +kernel
theorem dX6_setDefault_40 : decode cX6_setDefault 40 = .ok (.iload_n 2, 1) := by decide +kernel
theorem dX6_setDefault_41 : decode cX6_setDefault 41 = .ok (.iload_n 3, 1) := by decide +kernel
theorem dX6_setDefault_42 : decode cX6_setDefault 42 = .ok (.invokevirtual 104, 3) := by decide +kernel
theorem dX6_setDefault_45 : decode cX6_setDefault 45 = .ok (.iload 5, 2) := by decide +kernel
theorem dX6_setDefault_47 : decode cX6_setDefault 47 = .ok (.ireturn, 1) := by decide +kernel
theorem dX6_kindOf_0 : decode cX6_kindOf 0 = .ok (.aload_n 0, 1) := by decide +kernel
theorem dX6_kindOf_1 : decode cX6_kindOf 1 = .ok (.iload_n 1, 1) := by decide +kernel
theorem dX6_kindOf_2 : decode cX6_kindOf 2 = .ok (.invokevirtual 75, 3) := by decide +kernel
theorem dX6_kindOf_5 : decode cX6_kindOf 5 = .ok (.astore_n 3, 1) := by decide +kernel
theorem dX6_kindOf_6 : decode cX6_kindOf 6 = .ok (.iload_n 2, 1) := by decide +kernel
theorem dX6_kindOf_7 : decode cX6_kindOf 7 = .ok (.invokestatic 79, 3) := by decide +kernel
theorem dX6_kindOf_10 : decode cX6_kindOf 10 = .ok (.aload_n 3, 1) := by decide +kernel
theorem dX6_kindOf_11 : decode cX6_kindOf 11 = .ok (.iload_n 2, 1) := by decide +kernel
theorem dX6_kindOf_12 : decode cX6_kindOf 12 = .ok (.invokevirtual 87, 3) := by decide +kernel
theorem dX6_kindOf_15 : decode cX6_kindOf 15 = .ok (.ireturn, 1) := by decide +kernel
theorem dX6_conflict_0 : decode cX6_conflict 0 = .ok (.aload_n 0, 1) := by decide +kernel
theorem dX6_conflict_1 : decode cX6_conflict 1 = .ok (.getfield 31, 3) := by decide +kernel
theorem dX6_conflict_4 : decode cX6_conflict 4 = .ok (.aload_n 0, 1) := by decide +kernel
theorem dX6_conflict_5 : decode cX6_conflict 5 = .ok (.iload_n 1, 1) := by decide +kernel
theorem dX6_conflict_6 : decode cX6_conflict 6 = .ok (.invokevirtual 75, 3) := by decide +kernel
theorem dX6_conflict_9 : decode cX6_conflict 9 = .ok (.aload_n 0, 1) := by decide +kernel
theorem dX6_conflict_10 : decode cX6_conflict 10 = .ok (.iload_n 2, 1) := by decide +kernel
theorem dX6_conflict_11 : decode cX6_conflict 11 = .ok (.invokevirtual 75, 3) := by decide +kernel
theorem dX6_conflict_14 : decode cX6_conflict 14 = .ok (.invokevirtual 108, 3) := by decide +kernel
theorem dX6_conflict_17 : decode cX6_conflict 17 = .ok (.ireturn, 1) := by decide +kernel
theorem dX6_create_0 : decode cX6_create 0 = .ok (.aload_n 0, 1) := by decide +kernel
theorem dX6_create_1 : decode cX6_create 1 = .ok (.new 15, 3) := by decide +kernel
theorem dX6_create_4 : decode cX6_create 4 = .ok (.dup, 1) := by decide +kernel
theorem dX6_create_5 : decode cX6_create 5 = .ok (.aload_n 0, 1) := by decide +kernel
theorem dX6_create_6 : decode cX6_create 6 = .ok (.iload_n 1, 1) := by decide +kernel
theorem dX6_create_7 : decode cX6_create 7 = .ok (.invokevirtual 75, 3) := by decide +kernel
theorem dX6_create_10 : decode cX6_create 10 = .ok (.invokespecial 112, 3) := by decide +kernel
theorem dX6_create_13 : decode cX6_create 13 = .ok (.invokevirtual 115, 3) := by decide +kernel
theorem dX6_create_16 : decode cX6_create 16 = .ok (.ireturn, 1) := by decide +kernel
theorem dX6_copy_0 : decode cX6_copy 0 = .ok (.aload_n 0, 1) := by decide +kernel
theorem dX6_copy_1 : decode cX6_copy 1 = .ok (.iload_n 1, 1) := by decide +kernel
theorem dX6_copy_2 : decode cX6_copy 2 = .ok (.invokevirtual 119, 3) := by decide +kernel
theorem dX6_copy_5 : decode cX6_copy 5 = .ok (.astore_n 3, 1) := by decide +kernel
theorem dX6_copy_6 : decode cX6_copy 6 = .ok (.new 15, 3) := by decide +kernel
theorem dX6_copy_9 : decode cX6_copy 9 = .ok (.dup, 1) := by decide +kernel
theorem dX6_copy_10 : decode cX6_copy 10 = .ok (.aload_n 0, 1) := by decide +kernel
theorem dX6_copy_11 : decode cX6_copy 11 = .ok (.iload_n 2, 1) := by decide +kernel
theorem dX6_copy_12 : decode cX6_copy 12 = .ok (.invokevirtual 75, 3) := by decide +kernel
theorem dX6_copy_15 : decode cX6_copy 15 = .ok (.invokespecial 112, 3) := by decide +kernel
theorem dX6_copy_18 : decode cX6_copy 18 = .ok (.astore 4, 2) := by decide +kernel
theorem dX6_copy_20 : decode cX6_copy 20 = .ok (.aload 4, 2) := by decide +kernel
theorem dX6_copy_22 : decode cX6_copy 22 = .ok (.getfield 123, 3) := by decide +kernel
theorem dX6_copy_25 : decode cX6_copy 25 = .ok (.aload_n 3, 1) := by decide +kernel
theorem dX6_copy_26 : decode cX6_copy 26 = .ok (.getfield 123, 3) := by decide +kernel
theorem dX6_copy_29 : decode cX6_copy 29 = .ok (.invokevirtual 126, 3) := by decide +kernel
theorem dX6_copy_32 : decode cX6_copy 32 = .ok (.aload_n 0, 1) := by decide +kernel
theorem dX6_copy_33 : decode cX6_copy 33 = .ok (.aload 4, 2) := by decide +kernel
theorem dX6_copy_35 : decode cX6_copy 35 = .ok (.invokevirtual 115, 3) := by decide +kernel
theorem dX6_copy_38 : decode cX6_copy 38 = .ok (.ireturn, 1) := by decide +kernel
theorem dX6_discard_0 : decode cX6_discard 0 = .ok (.aload_n 0, 1) := by decide +kernel
theorem dX6_discard_1 : decode cX6_discard 1 = .ok (.aload_n 0, 1) := by decide +kernel
theorem dX6_discard_2 : decode cX6_discard 2 = .ok (.iload_n 1, 1) := by decide +kernel
theorem dX6_discard_3 : decode cX6_discard 3 = .ok (.invokevirtual 119, 3) := by decide +kernel
theorem dX6_discard_6 : decode cX6_discard 6 = .ok (.invokevirtual 130, 3) := by decide +kernel
theorem dX6_discard_9 : decode cX6_discard 9 = .ok (.invokevirtual 134, 3) := by decide +kernel
theorem dX6_discard_12 : decode cX6_discard 12 = .ok (.istore_n 2, 1) := by decide +kernel
theorem dX6_discard_13 : decode cX6_discard 13 = .ok (.aload_n 0, 1) := by decide +kernel
theorem dX6_discard_14 : decode cX6_discard 14 = .ok (.iload_n 1, 1) := by decide +kernel
theorem dX6_discard_15 : decode cX6_discard 15 = .ok (.invokevirtual 138, 3) := by decide +kernel
theorem dX6_discard_18 : decode cX6_discard 18 = .ok (.iload_n 2, 1) := by decide +kernel
theorem dX6_discard_19 : decode cX6_discard 19 = .ok (.ireturn, 1) := by decide +kernel
theorem dX6_set_0 : decode cX6_set 0 = .ok (.aload_n 0, 1) := by decide +kernel
theorem dX6_set_1 : decode cX6_set 1 = .ok (.iload_n 1, 1) := by decide +kernel
theorem dX6_set_2 : decode cX6_set 2 = .ok (.invokevirtual 119, 3) := by decide +kernel
theorem dX6_set_5 : decode cX6_set 5 = .ok (.astore 4, 2) := by decide +kernel
theorem dX6_set_7 : decode cX6_set 7 = .ok (.aload 4, 2) := by decide +kernel
theorem dX6_set_9 : decode cX6_set 9 = .ok (.getfield 141, 3) := by decide +kernel
theorem dX6_set_12 : decode cX6_set 12 = .ok (.iload_n 2, 1) := by decide +kernel
theorem dX6_set_13 : decode cX6_set 13 = .ok (.invokestatic 145, 3) := by decide +kernel
theorem dX6_set_16 : decode cX6_set 16 = .ok (.aload_n 0, 1) := by decide +kernel
theorem dX6_set_17 : decode cX6_set 17 = .ok (.aload_n 0, 1) := by decide +kernel
theorem dX6_set_18 : decode cX6_set 18 = .ok (.aload 4, 2) := by decide +kernel
theorem dX6_set_20 : decode cX6_set 20 = .ok (.invokevirtual 130, 3) := by decide +kernel
theorem dX6_set_23 : decode cX6_set 23 = .ok (.aload 4, 2) := by decide +kernel
theorem dX6_set_25 : decode cX6_set 25 = .ok (.getfield 141, 3) := by decide +kernel
theorem dX6_set_28 : decode cX6_set 28 = .ok (.iload_n 2, 1) := by decide +kernel
theorem dX6_set_29 : decode cX6_set 29 = .ok (.invokevirtual 149, 3) := by decide +kernel
theorem dX6_set_32 : decode cX6_set 32 = .ok (.aload_n 0, 1) := by decide +kernel
theorem dX6_set_33 : decode cX6_set 33 = .ok (.getfield 58, 3) := by decide +kernel
theorem dX6_set_36 : decode cX6_set 36 = .ok (.iload_n 2, 1) := by decide +kernel
theorem dX6_set_37 : decode cX6_set 37 = .ok (.aload 4, 2) := by decide +kernel
theorem dX6_set_39 : decode cX6_set 39 = .ok (.getfield 141, 3) := by decide +kernel
theorem dX6_set_42 : decode cX6_set 42 = .ok (.iload_n 2, 1) := by decide +kernel
theorem dX6_set_43 : decode cX6_set 43 = .ok (.invokevirtual 153, 3) := by decide +kernel
theorem dX6_set_46 : decode cX6_set 46 = .ok (.aload 4, 2) := by decide +kernel
theorem dX6_set_48 : decode cX6_set 48 = .ok (.getfield 141, 3) := by decide +kernel
theorem dX6_set_51 : decode cX6_set 51 = .ok (.iload_n 2, 1) := by decide +kernel
theorem dX6_set_52 : decode cX6_set 52 = .ok (.iload_n 3, 1) := by decide +kernel
theorem dX6_set_53 : decode cX6_set 53 = .ok (.invokevirtual 156, 3) := by decide +kernel
theorem dX6_set_56 : decode cX6_set 56 = .ok (.invokevirtual 160, 3) := by decide +kernel
theorem dX6_set_59 : decode cX6_set 59 = .ok (.aload_n 0, 1) := by decide +kernel
theorem dX6_set_60 : decode cX6_set 60 = .ok (.aload 4, 2) := by decide +kernel
theorem dX6_set_62 : decode cX6_set 62 = .ok (.invokevirtual 164, 3) := by decide +kernel
theorem dX6_set_65 : decode cX6_set 65 = .ok (.return_, 1) := by decide +kernel
theorem dX6_append_0 : decode cX6_append 0 = .ok (.aload_n 0, 1) := by decide +kernel
theorem dX6_append_1 : decode cX6_append 1 = .ok (.iload_n 1, 1) := by decide +kernel
theorem dX6_append_2 : decode cX6_append 2 = .ok (.invokevirtual 119, 3) := by decide +kernel
theorem dX6_append_5 : decode cX6_append 5 = .ok (.astore 4, 2) := by decide +kernel
theorem dX6_append_7 : decode cX6_append 7 = .ok (.aload 4, 2) := by decide +kernel
theorem dX6_append_9 : decode cX6_append 9 = .ok (.getfield 141, 3) := by decide +kernel
theorem dX6_append_12 : decode cX6_append 12 = .ok (.iload_n 2, 1) := by decide +kernel
theorem dX6_append_13 : decode cX6_append 13 = .ok (.invokestatic 168, 3) := by decide +kernel
theorem dX6_append_16 : decode cX6_append 16 = .ok (.aload_n 0, 1) := by decide +kernel
theorem dX6_append_17 : decode cX6_append 17 = .ok (.aload 4, 2) := by decide +kernel
theorem dX6_append_19 : decode cX6_append 19 = .ok (.invokevirtual 130, 3) := by decide +kernel
theorem dX6_append_22 : decode cX6_append 22 = .ok (.astore 5, 2) := by decide +kernel
theorem dX6_append_24 : decode cX6_append 24 = .ok (.aload 5, 2) := by decide +kernel
theorem dX6_append_26 : decode cX6_append 26 = .ok (.aload 4, 2) := by decide +kernel
theorem dX6_append_28 : decode cX6_append 28 = .ok (.getfield 141, 3) := by decide +kernel
theorem dX6_append_31 : decode cX6_append 31 = .ok (.iload_n 2, 1) := by decide +kernel
theorem dX6_append_32 : decode cX6_append 32 = .ok (.invokevirtual 171, 3) := by decide +kernel
theorem dX6_append_35 : decode cX6_append 35 = .ok (.istore 6, 2) := by decide +kernel
theorem dX6_append_37 : decode cX6_append 37 = .ok (.aload 5, 2) := by decide +kernel
theorem dX6_append_39 : decode cX6_append 39 = .ok (.iload 6, 2) := by decide +kernel
theorem dX6_append_41 : decode cX6_append 41 = .ok (.invokevirtual 175, 3) := by decide +kernel
theorem dX6_append_44 : decode cX6_append 44 = .ok (.iconst 1, 1) := by decide +kernel
theorem dX6_append_45 : decode cX6_append 45 = .ok (.iadd, 1) := by decide +kernel
theorem dX6_append_46 : decode cX6_append 46 = .ok (.istore 7, 2) := by decide +kernel
theorem dX6_append_48 : decode cX6_append 48 = .ok (.aload_n 0, 1) := by decide +kernel
theorem dX6_append_49 : decode cX6_append 49 = .ok (.aload 5, 2) := by decide +kernel
theorem dX6_append_51 : decode cX6_append 51 = .ok (.aload 4, 2) := by decide +kernel
theorem dX6_append_53 : decode cX6_append 53 = .ok (.getfield 141, 3) := by decide +kernel
theorem dX6_append_56 : decode cX6_append 56 = .ok (.iload_n 2, 1) := by decide +kernel
theorem dX6_append_57 : decode cX6_append 57 = .ok (.invokevirtual 149, 3) := by decide +kernel
theorem dX6_append_60 : decode cX6_append 60 = .ok (.aload_n 0, 1) := by decide +kernel
theorem dX6_append_61 : decode cX6_append 61 = .ok (.getfield 58, 3) := by decide +kernel
theorem dX6_append_64 : decode cX6_append 64 = .ok (.iload_n 2, 1) := by decide +kernel
theorem dX6_append_65 : decode cX6_append 65 = .ok (.iload 7, 2) := by decide +kernel
theorem dX6_append_67 : decode cX6_append 67 = .ok (.invokevirtual 178, 3) := by decide +kernel
theorem dX6_append_70 : decode cX6_append 70 = .ok (.aload_n 0, 1) := by decide +kernel
theorem dX6_append_71 : decode cX6_append 71 = .ok (.getfield 58, 3) := by decide +kernel
theorem dX6_append_74 : decode cX6_append 74 = .ok (.aload 4, 2) := by decide +kernel
theorem dX6_append_76 : decode cX6_append 76 = .ok (.getfield 123, 3) := by decide +kernel
theorem dX6_append_79 : decode cX6_append 79 = .ok (.aload 5, 2) := by decide +kernel
theorem dX6_append_81 : decode cX6_append 81 = .ok (.iload 6, 2) := by decide +kernel
theorem dX6_append_83 : decode cX6_append 83 = .ok (.invokevirtual 181, 3) := by decide +kernel
theorem dX6_append_86 : decode cX6_append 86 = .ok (.aload 5, 2) := by decide +kernel
theorem dX6_append_88 : decode cX6_append 88 = .ok (.iload 6, 2) := by decide +kernel
theorem dX6_append_90 : decode cX6_append 90 = .ok (.invokevirtual 184, 3) := by decide +kernel
theorem dX6_append_93 : decode cX6_append 93 = .ok (.invokevirtual 187, 3) := by decide +kernel
theorem dX6_append_96 : decode cX6_append 96 = .ok (.aload_n 0, 1) := by decide +kernel
theorem dX6_append_97 : decode cX6_append 97 = .ok (.getfield 58, 3) := by decide +kernel
theorem dX6_append_100 : decode cX6_append 100 = .ok (.iload_n 3, 1) := by decide +kernel
theorem dX6_append_101 : decode cX6_append 101 = .ok (.invokevirtual 191, 3) := by decide +kernel
theorem dX6_append_104 : decode cX6_append 104 = .ok (.aload_n 0, 1) := by decide +kernel
theorem dX6_append_105 : decode cX6_append 105 = .ok (.aload 4, 2) := by decide +kernel
theorem dX6_append_107 : decode cX6_append 107 = .ok (.invokevirtual 164, 3) := by decide +kernel
theorem dX6_append_110 : decode cX6_append 110 = .ok (.iload 7, 2) := by decide +kernel
theorem dX6_append_112 : decode cX6_append 112 = .ok (.ireturn, 1) := by decide +kernel
theorem dX6_setPart_0 : decode cX6_setPart 0 = .ok (.aload_n 0, 1) := by decide +kernel
theorem dX6_setPart_1 : decode cX6_setPart 1 = .ok (.iload_n 1, 1) := by decide +kernel
theorem dX6_setPart_2 : decode cX6_setPart 2 = .ok (.invokevirtual 119, 3) := by decide +kernel
theorem dX6_setPart_5 : decode cX6_setPart 5 = .ok (.astore 4, 2) := by decide +kernel
theorem dX6_setPart_7 : decode cX6_setPart 7 = .ok (.aload_n 0, 1) := by decide +kernel
theorem dX6_setPart_8 : decode cX6_setPart 8 = .ok (.iload_n 3, 1) := by decide +kernel
theorem dX6_setPart_9 : decode cX6_setPart 9 = .ok (.invokevirtual 119, 3) := by decide +kernel
theorem dX6_setPart_12 : decode cX6_setPart 12 = .ok (.astore 5, 2) := by decide +kernel
theorem dX6_setPart_14 : decode cX6_setPart 14 = .ok (.aload 4, 2) := by decide +kernel
theorem dX6_setPart_16 : decode cX6_setPart 16 = .ok (.getfield 141, 3) := by decide +kernel
theorem dX6_setPart_19 : decode cX6_setPart 19 = .ok (.iload_n 2, 1) := by decide +kernel
theorem dX6_setPart_20 : decode cX6_setPart 20 = .ok (.invokestatic 195, 3) := by decide +kernel
theorem dX6_setPart_23 : decode cX6_setPart 23 = .ok (.aload 5, 2) := by decide +kernel
theorem dX6_setPart_25 : decode cX6_setPart 25 = .ok (.getfield 141, 3) := by decide +kernel
theorem dX6_setPart_28 : decode cX6_setPart 28 = .ok (.if_acmp .eq 13, 3) := by decide +kernel
theorem dX6_setPart_31 : decode cX6_setPart 31 = .ok (.new 82, 3) := by decide +kernel
theorem dX6_setPart_34 : decode cX6_setPart 34 = .ok (.dup, 1) := by decide +kernel
theorem dX6_setPart_35 : decode cX6_setPart 35 = .ok (.ldc 199, 2) := by decide +kernel
theorem dX6_setPart_37 : decode cX6_setPart 37 = .ok (.invokespecial 86, 3) := by decide +kernel
theorem dX6_setPart_40 : decode cX6_setPart 40 = .ok (.athrow, 1) := by decide +kernel
theorem dX6_setPart_41 : decode cX6_setPart 41 = .ok (.aload_n 0, 1) := by decide +kernel
theorem dX6_setPart_42 : decode cX6_setPart 42 = .ok (.getfield 45, 3) := by decide +kernel
theorem dX6_setPart_45 : decode cX6_setPart 45 = .ok (.aload 5, 2) := by decide +kernel
theorem dX6_setPart_47 : decode cX6_setPart 47 = .ok (.getfield 123, 3) := by decide +kernel
theorem dX6_setPart_50 : decode cX6_setPart 50 = .ok (.aload 5, 2) := by decide +kernel
theorem dX6_setPart_52 : decode cX6_setPart 52 = .ok (.getfield 141, 3) := by decide +kernel
theorem dX6_setPart_55 : decode cX6_setPart 55 = .ok (.invokevirtual 201, 3) := by decide +kernel
theorem dX6_setPart_58 : decode cX6_setPart 58 = .ok (.aload_n 0, 1) := by decide +kernel
theorem dX6_setPart_59 : decode cX6_setPart 59 = .ok (.getfield 45, 3) := by decide +kernel
theorem dX6_setPart_62 : decode cX6_setPart 62 = .ok (.aload_n 0, 1) := by decide +kernel
theorem dX6_setPart_63 : decode cX6_setPart 63 = .ok (.getfield 52, 3) := by decide +kernel
theorem dX6_setPart_66 : decode cX6_setPart 66 = .ok (.invokevirtual 205, 3) := by decide +kernel
theorem dX6_setPart_69 : decode cX6_setPart 69 = .ok (.aload_n 0, 1) := by decide +kernel
theorem dX6_setPart_70 : decode cX6_setPart 70 = .ok (.aload_n 0, 1) := by decide +kernel
theorem dX6_setPart_71 : decode cX6_setPart 71 = .ok (.aload 4, 2) := by decide +kernel
theorem dX6_setPart_73 : decode cX6_setPart 73 = .ok (.invokevirtual 130, 3) := by decide +kernel
theorem dX6_setPart_76 : decode cX6_setPart 76 = .ok (.aload 4, 2) := by decide +kernel
theorem dX6_setPart_78 : decode cX6_setPart 78 = .ok (.getfield 141, 3) := by decide +kernel
theorem dX6_setPart_81 : decode cX6_setPart 81 = .ok (.iload_n 2, 1) := by decide +kernel
theorem dX6_setPart_82 : decode cX6_setPart 82 = .ok (.invokevirtual 149, 3) := by decide +kernel
theorem dX6_setPart_85 : decode cX6_setPart 85 = .ok (.aload_n 0, 1) := by decide +kernel
theorem dX6_setPart_86 : decode cX6_setPart 86 = .ok (.getfield 58, 3) := by decide +kernel
theorem dX6_setPart_89 : decode cX6_setPart 89 = .ok (.iload_n 2, 1) := by decide +kernel
theorem dX6_setPart_90 : decode cX6_setPart 90 = .ok (.aload_n 0, 1) := by decide +kernel
theorem dX6_setPart_91 : decode cX6_setPart 91 = .ok (.getfield 52, 3) := by decide +kernel
theorem dX6_setPart_94 : decode cX6_setPart 94 = .ok (.invokevirtual 208, 3) := by decide +kernel
theorem dX6_setPart_97 : decode cX6_setPart 97 = .ok (.invokevirtual 178, 3) := by decide +kernel
theorem dX6_setPart_100 : decode cX6_setPart 100 = .ok (.aload_n 0, 1) := by decide +kernel
theorem dX6_setPart_101 : decode cX6_setPart 101 = .ok (.getfield 58, 3) := by decide +kernel
theorem dX6_setPart_104 : decode cX6_setPart 104 = .ok (.aload_n 0, 1) := by decide +kernel
theorem dX6_setPart_105 : decode cX6_setPart 105 = .ok (.getfield 52, 3) := by decide +kernel
theorem dX6_setPart_108 : decode cX6_setPart 108 = .ok (.iconst 0, 1) := by decide +kernel
theorem dX6_setPart_109 : decode cX6_setPart 109 = .ok (.aload_n 0, 1) := by decide +kernel
theorem dX6_setPart_110 : decode cX6_setPart 110 = .ok (.getfield 52, 3) := by decide +kernel
theorem dX6_setPart_113 : decode cX6_setPart 113 = .ok (.invokevirtual 208, 3) := by decide +kernel
theorem dX6_setPart_116 : decode cX6_setPart 116 = .ok (.invokevirtual 187, 3) := by decide +kernel
theorem dX6_setPart_119 : decode cX6_setPart 119 = .ok (.aload_n 0, 1) := by decide +kernel
theorem dX6_setPart_120 : decode cX6_setPart 120 = .ok (.aload 4, 2) := by decide +kernel
theorem dX6_setPart_122 : decode cX6_setPart 122 = .ok (.invokevirtual 164, 3) := by decide +kernel
theorem dX6_setPart_125 : decode cX6_setPart 125 = .ok (.aload_n 0, 1) := by decide +kernel
theorem dX6_setPart_126 : decode cX6_setPart 126 = .ok (.getfield 52, 3) := by decide +kernel
theorem dX6_setPart_129 : decode cX6_setPart 129 = .ok (.invokevirtual 208, 3) := by decide +kernel
theorem dX6_setPart_132 : decode cX6_setPart 132 = .ok (.ireturn, 1) := by decide +kernel
theorem dX6_clear_0 : decode cX6_clear 0 = .ok (.aload_n 0, 1) := by decide +kernel
theorem dX6_clear_1 : decode cX6_clear 1 = .ok (.iload_n 1, 1) := by decide +kernel
theorem dX6_clear_2 : decode cX6_clear 2 = .ok (.invokevirtual 119, 3) := by decide +kernel
theorem dX6_clear_5 : decode cX6_clear 5 = .ok (.astore_n 3, 1) := by decide +kernel
theorem dX6_clear_6 : decode cX6_clear 6 = .ok (.iload_n 2, 1) := by decide +kernel
theorem dX6_clear_7 : decode cX6_clear 7 = .ok (.invokestatic 79, 3) := by decide +kernel
theorem dX6_clear_10 : decode cX6_clear 10 = .ok (.aload_n 0, 1) := by decide +kernel
theorem dX6_clear_11 : decode cX6_clear 11 = .ok (.aload_n 3, 1) := by decide +kernel
theorem dX6_clear_12 : decode cX6_clear 12 = .ok (.invokevirtual 130, 3) := by decide +kernel
theorem dX6_clear_15 : decode cX6_clear 15 = .ok (.astore 4, 2) := by decide +kernel
theorem dX6_clear_17 : decode cX6_clear 17 = .ok (.aload_n 0, 1) := by decide +kernel
theorem dX6_clear_18 : decode cX6_clear 18 = .ok (.getfield 58, 3) := by decide +kernel
theorem dX6_clear_21 : decode cX6_clear 21 = .ok (.iconst 0, 1) := by decide +kernel
theorem dX6_clear_22 : decode cX6_clear 22 = .ok (.invokevirtual 209, 3) := by decide +kernel
theorem dX6_clear_25 : decode cX6_clear 25 = .ok (.iconst 0, 1) := by decide +kernel
theorem dX6_clear_26 : decode cX6_clear 26 = .ok (.istore 5, 2) := by decide +kernel
theorem dX6_clear_28 : decode cX6_clear 28 = .ok (.iconst 0, 1) := by decide +kernel
theorem dX6_clear_29 : decode cX6_clear 29 = .ok (.istore 6, 2) := by decide +kernel
theorem dX6_clear_31 : decode cX6_clear 31 = .ok (.iload 6, 2) := by decide +kernel
theorem dX6_clear_33 : decode cX6_clear 33 = .ok (.aload 4, 2) := by decide +kernel
theorem dX6_clear_35 : decode cX6_clear 35 = .ok (.invokevirtual 134, 3) := by decide +kernel
theorem dX6_clear_38 : decode cX6_clear 38 = .ok (.if_icmp .ge 37, 3) := by decide +kernel
theorem dX6_clear_41 : decode cX6_clear 41 = .ok (.aload 4, 2) := by decide +kernel
theorem dX6_clear_43 : decode cX6_clear 43 = .ok (.iload 6, 2) := by decide +kernel
theorem dX6_clear_45 : decode cX6_clear 45 = .ok (.invokevirtual 212, 3) := by decide +kernel
theorem dX6_clear_48 : decode cX6_clear 48 = .ok (.iload_n 2, 1) := by decide +kernel
theorem dX6_clear_49 : decode cX6_clear 49 = .ok (.if_icmp .ne 9, 3) := by decide +kernel
theorem dX6_clear_52 : decode cX6_clear 52 = .ok (.iinc 5 1, 3) := by decide +kernel
theorem dX6_clear_55 : decode cX6_clear 55 = .ok (.goto 14, 3) := by decide +kernel
theorem dX6_clear_58 : decode cX6_clear 58 = .ok (.aload 4, 2) := by decide +kernel
theorem dX6_clear_60 : decode cX6_clear 60 = .ok (.aload_n 0, 1) := by decide +kernel
theorem dX6_clear_61 : decode cX6_clear 61 = .ok (.getfield 58, 3) := by decide +kernel
theorem dX6_clear_64 : decode cX6_clear 64 = .ok (.iload 6, 2) := by decide +kernel
theorem dX6_clear_66 : decode cX6_clear 66 = .ok (.invokevirtual 215, 3) := by decide +kernel
theorem dX6_clear_69 : decode cX6_clear 69 = .ok (.iinc 6 1, 3) := by decide +kernel
theorem dX6_clear_72 : decode cX6_clear 72 = .ok (.goto (-41), 3) := by decide +kernel
theorem dX6_clear_75 : decode cX6_clear 75 = .ok (.aload_n 3, 1) := by decide +kernel
theorem dX6_clear_76 : decode cX6_clear 76 = .ok (.getfield 123, 3) := by decide +kernel
theorem dX6_clear_79 : decode cX6_clear 79 = .ok (.aload_n 0, 1) := by decide +kernel
theorem dX6_clear_80 : decode cX6_clear 80 = .ok (.getfield 58, 3) := by decide +kernel
theorem dX6_clear_83 : decode cX6_clear 83 = .ok (.invokevirtual 126, 3) := by decide +kernel
theorem dX6_clear_86 : decode cX6_clear 86 = .ok (.iload 5, 2) := by decide +kernel
theorem dX6_clear_88 : decode cX6_clear 88 = .ok (.ireturn, 1) := by decide +kernel
theorem dX6_schemaOf_0 : decode cX6_schemaOf 0 = .ok (.aload_n 0, 1) := by decide +kernel
theorem dX6_schemaOf_1 : decode cX6_schemaOf 1 = .ok (.iload_n 1, 1) := by decide +kernel
theorem dX6_schemaOf_2 : decode cX6_schemaOf 2 = .ok (.invokevirtual 119, 3) := by decide +kernel
theorem dX6_schemaOf_5 : decode cX6_schemaOf 5 = .ok (.getfield 141, 3) := by decide +kernel
theorem dX6_schemaOf_8 : decode cX6_schemaOf 8 = .ok (.getfield 218, 3) := by decide +kernel
theorem dX6_schemaOf_11 : decode cX6_schemaOf 11 = .ok (.ireturn, 1) := by decide +kernel
theorem dX6_has_0 : decode cX6_has 0 = .ok (.aload_n 0, 1) := by decide +kernel
theorem dX6_has_1 : decode cX6_has 1 = .ok (.iload_n 1, 1) := by decide +kernel
theorem dX6_has_2 : decode cX6_has 2 = .ok (.invokevirtual 119, 3) := by decide +kernel
theorem dX6_has_5 : decode cX6_has 5 = .ok (.astore_n 3, 1) := by decide +kernel
theorem dX6_has_6 : decode cX6_has 6 = .ok (.iload_n 2, 1) := by decide +kernel
theorem dX6_has_7 : decode cX6_has 7 = .ok (.invokestatic 79, 3) := by decide +kernel
theorem dX6_has_10 : decode cX6_has 10 = .ok (.aload_n 0, 1) := by decide +kernel
theorem dX6_has_11 : decode cX6_has 11 = .ok (.aload_n 3, 1) := by decide +kernel
theorem dX6_has_12 : decode cX6_has 12 = .ok (.invokevirtual 130, 3) := by decide +kernel
theorem dX6_has_15 : decode cX6_has 15 = .ok (.aload_n 3, 1) := by decide +kernel
theorem dX6_has_16 : decode cX6_has 16 = .ok (.getfield 141, 3) := by decide +kernel
theorem dX6_has_19 : decode cX6_has 19 = .ok (.iload_n 2, 1) := by decide +kernel
theorem dX6_has_20 : decode cX6_has 20 = .ok (.invokevirtual 171, 3) := by decide +kernel
theorem dX6_has_23 : decode cX6_has 23 = .ok (.iconst (-1), 1) := by decide +kernel
theorem dX6_has_24 : decode cX6_has 24 = .ok (.if_icmp .eq 7, 3) := by decide +kernel
theorem dX6_has_27 : decode cX6_has 27 = .ok (.iconst 1, 1) := by decide +kernel
theorem dX6_has_28 : decode cX6_has 28 = .ok (.goto 4, 3) := by decide +kernel
theorem dX6_has_31 : decode cX6_has 31 = .ok (.iconst 0, 1) := by decide +kernel
theorem dX6_has_32 : decode cX6_has 32 = .ok (.ireturn, 1) := by decide +kernel
theorem dX6_get_0 : decode cX6_get 0 = .ok (.aload_n 0, 1) := by decide +kernel
theorem dX6_get_1 : decode cX6_get 1 = .ok (.iload_n 1, 1) := by decide +kernel
theorem dX6_get_2 : decode cX6_get 2 = .ok (.invokevirtual 119, 3) := by decide +kernel
theorem dX6_get_5 : decode cX6_get 5 = .ok (.astore_n 3, 1) := by decide +kernel
theorem dX6_get_6 : decode cX6_get 6 = .ok (.aload_n 3, 1) := by decide +kernel
theorem dX6_get_7 : decode cX6_get 7 = .ok (.getfield 141, 3) := by decide +kernel
theorem dX6_get_10 : decode cX6_get 10 = .ok (.iload_n 2, 1) := by decide +kernel
theorem dX6_get_11 : decode cX6_get 11 = .ok (.invokestatic 145, 3) := by decide +kernel
theorem dX6_get_14 : decode cX6_get 14 = .ok (.aload_n 0, 1) := by decide +kernel
theorem dX6_get_15 : decode cX6_get 15 = .ok (.aload_n 3, 1) := by decide +kernel
theorem dX6_get_16 : decode cX6_get 16 = .ok (.invokevirtual 130, 3) := by decide +kernel
theorem dX6_get_19 : decode cX6_get 19 = .ok (.astore 4, 2) := by decide +kernel
theorem dX6_get_21 : decode cX6_get 21 = .ok (.aload 4, 2) := by decide +kernel
theorem dX6_get_23 : decode cX6_get 23 = .ok (.aload_n 3, 1) := by decide +kernel
theorem dX6_get_24 : decode cX6_get 24 = .ok (.getfield 141, 3) := by decide +kernel
theorem dX6_get_27 : decode cX6_get 27 = .ok (.iload_n 2, 1) := by decide +kernel
theorem dX6_get_28 : decode cX6_get 28 = .ok (.invokevirtual 171, 3) := by decide +kernel
theorem dX6_get_31 : decode cX6_get 31 = .ok (.istore 5, 2) := by decide +kernel
theorem dX6_get_33 : decode cX6_get 33 = .ok (.iload 5, 2) := by decide +kernel
theorem dX6_get_35 : decode cX6_get 35 = .ok (.iconst (-1), 1) := by decide +kernel
theorem dX6_get_36 : decode cX6_get 36 = .ok (.if_icmp .ne 14, 3) := by decide +kernel
theorem dX6_get_39 : decode cX6_get 39 = .ok (.aload_n 3, 1) := by decide +kernel
theorem dX6_get_40 : decode cX6_get 40 = .ok (.getfield 141, 3) := by decide +kernel
theorem dX6_get_43 : decode cX6_get 43 = .ok (.iload_n 2, 1) := by decide +kernel
theorem dX6_get_44 : decode cX6_get 44 = .ok (.invokevirtual 101, 3) := by decide +kernel
theorem dX6_get_47 : decode cX6_get 47 = .ok (.goto 18, 3) := by decide +kernel
theorem dX6_get_50 : decode cX6_get 50 = .ok (.aload_n 3, 1) := by decide +kernel
theorem dX6_get_51 : decode cX6_get 51 = .ok (.getfield 141, 3) := by decide +kernel
theorem dX6_get_54 : decode cX6_get 54 = .ok (.iload_n 2, 1) := by decide +kernel
theorem dX6_get_55 : decode cX6_get 55 = .ok (.aload 4, 2) := by decide +kernel
theorem dX6_get_57 : decode cX6_get 57 = .ok (.iload 5, 2) := by decide +kernel
theorem dX6_get_59 : decode cX6_get 59 = .ok (.invokevirtual 221, 3) := by decide +kernel
theorem dX6_get_62 : decode cX6_get 62 = .ok (.invokevirtual 224, 3) := by decide +kernel
theorem dX6_get_65 : decode cX6_get 65 = .ok (.ireturn, 1) := by decide +kernel
theorem dX6_byteOf_0 : decode cX6_byteOf 0 = .ok (.aload_n 0, 1) := by decide +kernel
theorem dX6_byteOf_1 : decode cX6_byteOf 1 = .ok (.iload_n 1, 1) := by decide +kernel
theorem dX6_byteOf_2 : decode cX6_byteOf 2 = .ok (.invokevirtual 119, 3) := by decide +kernel
theorem dX6_byteOf_5 : decode cX6_byteOf 5 = .ok (.astore 4, 2) := by decide +kernel
theorem dX6_byteOf_7 : decode cX6_byteOf 7 = .ok (.aload 4, 2) := by decide +kernel
theorem dX6_byteOf_9 : decode cX6_byteOf 9 = .ok (.getfield 141, 3) := by decide +kernel
theorem dX6_byteOf_12 : decode cX6_byteOf 12 = .ok (.iload_n 2, 1) := by decide +kernel
theorem dX6_byteOf_13 : decode cX6_byteOf 13 = .ok (.invokestatic 168, 3) := by decide +kernel
theorem dX6_byteOf_16 : decode cX6_byteOf 16 = .ok (.aload_n 0, 1) := by decide +kernel
theorem dX6_byteOf_17 : decode cX6_byteOf 17 = .ok (.aload 4, 2) := by decide +kernel
theorem dX6_byteOf_19 : decode cX6_byteOf 19 = .ok (.invokevirtual 130, 3) := by decide +kernel
theorem dX6_byteOf_22 : decode cX6_byteOf 22 = .ok (.astore 5, 2) := by decide +kernel
theorem dX6_byteOf_24 : decode cX6_byteOf 24 = .ok (.aload 5, 2) := by decide +kernel
theorem dX6_byteOf_26 : decode cX6_byteOf 26 = .ok (.aload 4, 2) := by decide +kernel
theorem dX6_byteOf_28 : decode cX6_byteOf 28 = .ok (.getfield 141, 3) := by decide +kernel
theorem dX6_byteOf_31 : decode cX6_byteOf 31 = .ok (.iload_n 2, 1) := by decide +kernel
theorem dX6_byteOf_32 : decode cX6_byteOf 32 = .ok (.invokestatic 227, 3) := by decide +kernel
theorem dX6_byteOf_35 : decode cX6_byteOf 35 = .ok (.istore 6, 2) := by decide +kernel
theorem dX6_byteOf_37 : decode cX6_byteOf 37 = .ok (.iload_n 3, 1) := by decide +kernel
theorem dX6_byteOf_38 : decode cX6_byteOf 38 = .ok (.ifCond .lt 14, 3) := by decide +kernel
theorem dX6_byteOf_41 : decode cX6_byteOf 41 = .ok (.iload_n 3, 1) := by decide +kernel
theorem dX6_byteOf_42 : decode cX6_byteOf 42 = .ok (.aload 5, 2) := by decide +kernel
theorem dX6_byteOf_44 : decode cX6_byteOf 44 = .ok (.iload 6, 2) := by decide +kernel
theorem dX6_byteOf_46 : decode cX6_byteOf 46 = .ok (.invokevirtual 175, 3) := by decide +kernel
theorem dX6_byteOf_49 : decode cX6_byteOf 49 = .ok (.if_icmp .lt 13, 3) := by decide +kernel
theorem dX6_byteOf_52 : decode cX6_byteOf 52 = .ok (.new 231, 3) := by decide +kernel
theorem dX6_byteOf_55 : decode cX6_byteOf 55 = .ok (.dup, 1) := by decide +kernel
theorem dX6_byteOf_56 : decode cX6_byteOf 56 = .ok (.ldc 233, 2) := by decide +kernel
theorem dX6_byteOf_58 : decode cX6_byteOf 58 = .ok (.invokespecial 235, 3) := by decide +kernel
theorem dX6_byteOf_61 : decode cX6_byteOf 61 = .ok (.athrow, 1) := by decide +kernel
theorem dX6_byteOf_62 : decode cX6_byteOf 62 = .ok (.aload 4, 2) := by decide +kernel
theorem dX6_byteOf_64 : decode cX6_byteOf 64 = .ok (.getfield 123, 3) := by decide +kernel
theorem dX6_byteOf_67 : decode cX6_byteOf 67 = .ok (.aload 5, 2) := by decide +kernel
theorem dX6_byteOf_69 : decode cX6_byteOf 69 = .ok (.iload 6, 2) := by decide +kernel
theorem dX6_byteOf_71 : decode cX6_byteOf 71 = .ok (.invokevirtual 181, 3) := by decide +kernel
theorem dX6_byteOf_74 : decode cX6_byteOf 74 = .ok (.iload_n 3, 1) := by decide +kernel
theorem dX6_byteOf_75 : decode cX6_byteOf 75 = .ok (.iadd, 1) := by decide +kernel
theorem dX6_byteOf_76 : decode cX6_byteOf 76 = .ok (.invokevirtual 236, 3) := by decide +kernel
theorem dX6_byteOf_79 : decode cX6_byteOf 79 = .ok (.ireturn, 1) := by decide +kernel
theorem dX6_open_0 : decode cX6_open 0 = .ok (.aload_n 0, 1) := by decide +kernel
theorem dX6_open_1 : decode cX6_open 1 = .ok (.iload_n 1, 1) := by decide +kernel
theorem dX6_open_2 : decode cX6_open 2 = .ok (.invokevirtual 119, 3) := by decide +kernel
theorem dX6_open_5 : decode cX6_open 5 = .ok (.astore_n 3, 1) := by decide +kernel
theorem dX6_open_6 : decode cX6_open 6 = .ok (.aload_n 3, 1) := by decide +kernel
theorem dX6_open_7 : decode cX6_open 7 = .ok (.getfield 141, 3) := by decide +kernel
theorem dX6_open_10 : decode cX6_open 10 = .ok (.iload_n 2, 1) := by decide +kernel
theorem dX6_open_11 : decode cX6_open 11 = .ok (.invokestatic 195, 3) := by decide +kernel
theorem dX6_open_14 : decode cX6_open 14 = .ok (.astore 4, 2) := by decide +kernel
theorem dX6_open_16 : decode cX6_open 16 = .ok (.aload_n 0, 1) := by decide +kernel
theorem dX6_open_17 : decode cX6_open 17 = .ok (.aload_n 3, 1) := by decide +kernel
theorem dX6_open_18 : decode cX6_open 18 = .ok (.invokevirtual 130, 3) := by decide +kernel
theorem dX6_open_21 : decode cX6_open 21 = .ok (.astore 5, 2) := by decide +kernel
theorem dX6_open_23 : decode cX6_open 23 = .ok (.aload 5, 2) := by decide +kernel
theorem dX6_open_25 : decode cX6_open 25 = .ok (.aload_n 3, 1) := by decide +kernel
theorem dX6_open_26 : decode cX6_open 26 = .ok (.getfield 141, 3) := by decide +kernel
theorem dX6_open_29 : decode cX6_open 29 = .ok (.iload_n 2, 1) := by decide +kernel
theorem dX6_open_30 : decode cX6_open 30 = .ok (.invokestatic 227, 3) := by decide +kernel
theorem dX6_open_33 : decode cX6_open 33 = .ok (.istore 6, 2) := by decide +kernel
theorem dX6_open_35 : decode cX6_open 35 = .ok (.aload_n 0, 1) := by decide +kernel
theorem dX6_open_36 : decode cX6_open 36 = .ok (.aload_n 3, 1) := by decide +kernel
theorem dX6_open_37 : decode cX6_open 37 = .ok (.getfield 123, 3) := by decide +kernel
theorem dX6_open_40 : decode cX6_open 40 = .ok (.aload 5, 2) := by decide +kernel
theorem dX6_open_42 : decode cX6_open 42 = .ok (.iload 6, 2) := by decide +kernel
theorem dX6_open_44 : decode cX6_open 44 = .ok (.invokevirtual 181, 3) := by decide +kernel
theorem dX6_open_47 : decode cX6_open 47 = .ok (.aload 5, 2) := by decide +kernel
theorem dX6_open_49 : decode cX6_open 49 = .ok (.iload 6, 2) := by decide +kernel
theorem dX6_open_51 : decode cX6_open 51 = .ok (.invokevirtual 184, 3) := by decide +kernel
theorem dX6_open_54 : decode cX6_open 54 = .ok (.invokevirtual 240, 3) := by decide +kernel
theorem dX6_open_57 : decode cX6_open 57 = .ok (.astore 7, 2) := by decide +kernel
theorem dX6_open_59 : decode cX6_open 59 = .ok (.aload 7, 2) := by decide +kernel
theorem dX6_open_61 : decode cX6_open 61 = .ok (.invokevirtual 244, 3) := by decide +kernel
theorem dX6_open_64 : decode cX6_open 64 = .ok (.ifCond .eq 13, 3) := by decide +kernel
theorem dX6_open_67 : decode cX6_open 67 = .ok (.new 65, 3) := by decide +kernel
theorem dX6_open_70 : decode cX6_open 70 = .ok (.dup, 1) := by decide +kernel
theorem dX6_open_71 : decode cX6_open 71 = .ok (.ldc 247, 2) := by decide +kernel
theorem dX6_open_73 : decode cX6_open 73 = .ok (.invokespecial 69, 3) := by decide +kernel
theorem dX6_open_76 : decode cX6_open 76 = .ok (.athrow, 1) := by decide +kernel
theorem dX6_open_77 : decode cX6_open 77 = .ok (.aload_n 0, 1) := by decide +kernel
theorem dX6_open_78 : decode cX6_open 78 = .ok (.aload 7, 2) := by decide +kernel
theorem dX6_open_80 : decode cX6_open 80 = .ok (.aload 4, 2) := by decide +kernel
theorem dX6_open_82 : decode cX6_open 82 = .ok (.invokestatic 249, 3) := by decide +kernel
theorem dX6_open_85 : decode cX6_open 85 = .ok (.invokevirtual 115, 3) := by decide +kernel
theorem dX6_open_88 : decode cX6_open 88 = .ok (.ireturn, 1) := by decide +kernel
theorem dX6_unknowns_0 : decode cX6_unknowns 0 = .ok (.aload_n 0, 1) := by decide +kernel
theorem dX6_unknowns_1 : decode cX6_unknowns 1 = .ok (.iload_n 1, 1) := by decide +kernel
theorem dX6_unknowns_2 : decode cX6_unknowns 2 = .ok (.invokevirtual 119, 3) := by decide +kernel
theorem dX6_unknowns_5 : decode cX6_unknowns 5 = .ok (.astore_n 2, 1) := by decide +kernel
theorem dX6_unknowns_6 : decode cX6_unknowns 6 = .ok (.aload_n 0, 1) := by decide +kernel
theorem dX6_unknowns_7 : decode cX6_unknowns 7 = .ok (.aload_n 2, 1) := by decide +kernel
theorem dX6_unknowns_8 : decode cX6_unknowns 8 = .ok (.invokevirtual 130, 3) := by decide +kernel
theorem dX6_unknowns_11 : decode cX6_unknowns 11 = .ok (.astore_n 3, 1) := by decide +kernel
theorem dX6_unknowns_12 : decode cX6_unknowns 12 = .ok (.iconst 0, 1) := by decide +kernel
theorem dX6_unknowns_13 : decode cX6_unknowns 13 = .ok (.istore 4, 2) := by decide +kernel
theorem dX6_unknowns_15 : decode cX6_unknowns 15 = .ok (.iconst 0, 1) := by decide +kernel
theorem dX6_unknowns_16 : decode cX6_unknowns 16 = .ok (.istore 5, 2) := by decide +kernel
theorem dX6_unknowns_18 : decode cX6_unknowns 18 = .ok (.iload 5, 2) := by decide +kernel
theorem dX6_unknowns_20 : decode cX6_unknowns 20 = .ok (.aload_n 3, 1) := by decide +kernel
theorem dX6_unknowns_21 : decode cX6_unknowns 21 = .ok (.invokevirtual 134, 3) := by decide +kernel
theorem dX6_unknowns_24 : decode cX6_unknowns 24 = .ok (.if_icmp .ge 25, 3) := by decide +kernel
theorem dX6_unknowns_27 : decode cX6_unknowns 27 = .ok (.aload_n 3, 1) := by decide +kernel
theorem dX6_unknowns_28 : decode cX6_unknowns 28 = .ok (.aload_n 2, 1) := by decide +kernel
theorem dX6_unknowns_29 : decode cX6_unknowns 29 = .ok (.getfield 141, 3) := by decide +kernel
theorem dX6_unknowns_32 : decode cX6_unknowns 32 = .ok (.iload 5, 2) := by decide +kernel
theorem dX6_unknowns_34 : decode cX6_unknowns 34 = .ok (.invokevirtual 253, 3) := by decide +kernel
theorem dX6_unknowns_37 : decode cX6_unknowns 37 = .ok (.ifCond .ne 6, 3) := by decide +kernel
theorem dX6_unknowns_40 : decode cX6_unknowns 40 = .ok (.iinc 4 1, 3) := by decide +kernel
theorem dX6_unknowns_43 : decode cX6_unknowns 43 = .ok (.iinc 5 1, 3) := by decide +kernel
theorem dX6_unknowns_46 : decode cX6_unknowns 46 = .ok (.goto (-28), 3) := by decide +kernel
theorem dX6_unknowns_49 : decode cX6_unknowns 49 = .ok (.iload 4, 2) := by decide +kernel
theorem dX6_unknowns_51 : decode cX6_unknowns 51 = .ok (.ireturn, 1) := by decide +kernel
theorem dX6_unknownTag_0 : decode cX6_unknownTag 0 = .ok (.aload_n 0, 1) := by decide +kernel
theorem dX6_unknownTag_1 : decode cX6_unknownTag 1 = .ok (.iload_n 1, 1) := by decide +kernel
theorem dX6_unknownTag_2 : decode cX6_unknownTag 2 = .ok (.invokevirtual 119, 3) := by decide +kernel
theorem dX6_unknownTag_5 : decode cX6_unknownTag 5 = .ok (.astore_n 3, 1) := by decide +kernel
theorem dX6_unknownTag_6 : decode cX6_unknownTag 6 = .ok (.aload_n 0, 1) := by decide +kernel
theorem dX6_unknownTag_7 : decode cX6_unknownTag 7 = .ok (.aload_n 3, 1) := by decide +kernel
theorem dX6_unknownTag_8 : decode cX6_unknownTag 8 = .ok (.invokevirtual 130, 3) := by decide +kernel
theorem dX6_unknownTag_11 : decode cX6_unknownTag 11 = .ok (.astore 4, 2) := by decide +kernel
theorem dX6_unknownTag_13 : decode cX6_unknownTag 13 = .ok (.iconst 0, 1) := by decide +kernel
theorem dX6_unknownTag_14 : decode cX6_unknownTag 14 = .ok (.istore 5, 2) := by decide +kernel
theorem dX6_unknownTag_16 : decode cX6_unknownTag 16 = .ok (.iconst 0, 1) := by decide +kernel
theorem dX6_unknownTag_17 : decode cX6_unknownTag 17 = .ok (.istore 6, 2) := by decide +kernel
theorem dX6_unknownTag_19 : decode cX6_unknownTag 19 = .ok (.iload 6, 2) := by decide +kernel
theorem dX6_unknownTag_21 : decode cX6_unknownTag 21 = .ok (.aload 4, 2) := by decide +kernel
theorem dX6_unknownTag_23 : decode cX6_unknownTag 23 = .ok (.invokevirtual 134, 3) := by decide +kernel
theorem dX6_unknownTag_26 : decode cX6_unknownTag 26 = .ok (.if_icmp .ge 40, 3) := by decide +kernel
theorem dX6_unknownTag_29 : decode cX6_unknownTag 29 = .ok (.aload 4, 2) := by decide +kernel
theorem dX6_unknownTag_31 : decode cX6_unknownTag 31 = .ok (.aload_n 3, 1) := by decide +kernel
theorem dX6_unknownTag_32 : decode cX6_unknownTag 32 = .ok (.getfield 141, 3) := by decide +kernel
theorem dX6_unknownTag_35 : decode cX6_unknownTag 35 = .ok (.iload 6, 2) := by decide +kernel
theorem dX6_unknownTag_37 : decode cX6_unknownTag 37 = .ok (.invokevirtual 253, 3) := by decide +kernel
theorem dX6_unknownTag_40 : decode cX6_unknownTag 40 = .ok (.ifCond .ne 20, 3) := by decide +kernel
theorem dX6_unknownTag_43 : decode cX6_unknownTag 43 = .ok (.iload 5, 2) := by decide +kernel
theorem dX6_unknownTag_45 : decode cX6_unknownTag 45 = .ok (.iload_n 2, 1) := by decide +kernel
theorem dX6_unknownTag_46 : decode cX6_unknownTag 46 = .ok (.if_icmp .ne 11, 3) := by decide +kernel
theorem dX6_unknownTag_49 : decode cX6_unknownTag 49 = .ok (.aload 4, 2) := by decide +kernel
theorem dX6_unknownTag_51 : decode cX6_unknownTag 51 = .ok (.iload 6, 2) := by decide +kernel
theorem dX6_unknownTag_53 : decode cX6_unknownTag 53 = .ok (.invokevirtual 212, 3) := by decide +kernel
theorem dX6_unknownTag_56 : decode cX6_unknownTag 56 = .ok (.ireturn, 1) := by decide +kernel
theorem dX6_unknownTag_57 : decode cX6_unknownTag 57 = .ok (.iinc 5 1, 3) := by decide +kernel
theorem dX6_unknownTag_60 : decode cX6_unknownTag 60 = .ok (.iinc 6 1, 3) := by decide +kernel
theorem dX6_unknownTag_63 : decode cX6_unknownTag 63 = .ok (.goto (-44), 3) := by decide +kernel
theorem dX6_unknownTag_66 : decode cX6_unknownTag 66 = .ok (.new 257, 3) := by decide +kernel
theorem dX6_unknownTag_69 : decode cX6_unknownTag 69 = .ok (.dup, 1) := by decide +kernel
theorem dX6_unknownTag_70 : decode cX6_unknownTag 70 = .ok (.ldc_w 259, 3) := by decide +kernel
theorem dX6_unknownTag_73 : decode cX6_unknownTag 73 = .ok (.invokespecial 261, 3) := by decide +kernel
theorem dX6_unknownTag_76 : decode cX6_unknownTag 76 = .ok (.athrow, 1) := by decide +kernel
theorem dX6_weight_0 : decode cX6_weight 0 = .ok (.aload_n 0, 1) := by decide +kernel
theorem dX6_weight_1 : decode cX6_weight 1 = .ok (.iload_n 1, 1) := by decide +kernel
theorem dX6_weight_2 : decode cX6_weight 2 = .ok (.invokevirtual 119, 3) := by decide +kernel
theorem dX6_weight_5 : decode cX6_weight 5 = .ok (.getfield 123, 3) := by decide +kernel
theorem dX6_weight_8 : decode cX6_weight 8 = .ok (.invokevirtual 208, 3) := by decide +kernel
theorem dX6_weight_11 : decode cX6_weight 11 = .ok (.ireturn, 1) := by decide +kernel
theorem dX6_areSame_0 : decode cX6_areSame 0 = .ok (.aload_n 0, 1) := by decide +kernel
theorem dX6_areSame_1 : decode cX6_areSame 1 = .ok (.aload_n 0, 1) := by decide +kernel
theorem dX6_areSame_2 : decode cX6_areSame 2 = .ok (.iload_n 1, 1) := by decide +kernel
theorem dX6_areSame_3 : decode cX6_areSame 3 = .ok (.invokevirtual 119, 3) := by decide +kernel
theorem dX6_areSame_6 : decode cX6_areSame 6 = .ok (.aload_n 0, 1) := by decide +kernel
theorem dX6_areSame_7 : decode cX6_areSame 7 = .ok (.iload_n 2, 1) := by decide +kernel
theorem dX6_areSame_8 : decode cX6_areSame 8 = .ok (.invokevirtual 119, 3) := by decide +kernel
theorem dX6_areSame_11 : decode cX6_areSame 11 = .ok (.invokevirtual 262, 3) := by decide +kernel
theorem dX6_areSame_14 : decode cX6_areSame 14 = .ok (.aload_n 0, 1) := by decide +kernel
theorem dX6_areSame_15 : decode cX6_areSame 15 = .ok (.getfield 45, 3) := by decide +kernel
theorem dX6_areSame_18 : decode cX6_areSame 18 = .ok (.aload_n 0, 1) := by decide +kernel
theorem dX6_areSame_19 : decode cX6_areSame 19 = .ok (.getfield 49, 3) := by decide +kernel
theorem dX6_areSame_22 : decode cX6_areSame 22 = .ok (.invokevirtual 266, 3) := by decide +kernel
theorem dX6_areSame_25 : decode cX6_areSame 25 = .ok (.ireturn, 1) := by decide +kernel
theorem dX6_areSameByBytes_0 : decode cX6_areSameByBytes 0 = .ok (.aload_n 0, 1) := by decide +kernel
theorem dX6_areSameByBytes_1 : decode cX6_areSameByBytes 1 = .ok (.aload_n 0, 1) := by decide +kernel
theorem dX6_areSameByBytes_2 : decode cX6_areSameByBytes 2 = .ok (.iload_n 1, 1) := by decide +kernel
theorem dX6_areSameByBytes_3 : decode cX6_areSameByBytes 3 = .ok (.invokevirtual 119, 3) := by decide +kernel
theorem dX6_areSameByBytes_6 : decode cX6_areSameByBytes 6 = .ok (.aload_n 0, 1) := by decide +kernel
theorem dX6_areSameByBytes_7 : decode cX6_areSameByBytes 7 = .ok (.iload_n 2, 1) := by decide +kernel
theorem dX6_areSameByBytes_8 : decode cX6_areSameByBytes 8 = .ok (.invokevirtual 119, 3) := by decide +kernel
theorem dX6_areSameByBytes_11 : decode cX6_areSameByBytes 11 = .ok (.invokevirtual 262, 3) := by decide +kernel
theorem dX6_areSameByBytes_14 : decode cX6_areSameByBytes 14 = .ok (.aload_n 0, 1) := by decide +kernel
theorem dX6_areSameByBytes_15 : decode cX6_areSameByBytes 15 = .ok (.getfield 45, 3) := by decide +kernel
theorem dX6_areSameByBytes_18 : decode cX6_areSameByBytes 18 = .ok (.aload_n 0, 1) := by decide +kernel
theorem dX6_areSameByBytes_19 : decode cX6_areSameByBytes 19 = .ok (.getfield 52, 3) := by decide +kernel
theorem dX6_areSameByBytes_22 : decode cX6_areSameByBytes 22 = .ok (.invokevirtual 205, 3) := by decide +kernel
theorem dX6_areSameByBytes_25 : decode cX6_areSameByBytes 25 = .ok (.aload_n 0, 1) := by decide +kernel
theorem dX6_areSameByBytes_26 : decode cX6_areSameByBytes 26 = .ok (.getfield 49, 3) := by decide +kernel
theorem dX6_areSameByBytes_29 : decode cX6_areSameByBytes 29 = .ok (.aload_n 0, 1) := by decide +kernel
theorem dX6_areSameByBytes_30 : decode cX6_areSameByBytes 30 = .ok (.getfield 55, 3) := by decide +kernel
theorem dX6_areSameByBytes_33 : decode cX6_areSameByBytes 33 = .ok (.invokevirtual 205, 3) := by decide +kernel
theorem dX6_areSameByBytes_36 : decode cX6_areSameByBytes 36 = .ok (.aload_n 0, 1) := by decide +kernel
theorem dX6_areSameByBytes_37 : decode cX6_areSameByBytes 37 = .ok (.getfield 52, 3) := by decide +kernel
theorem dX6_areSameByBytes_40 : decode cX6_areSameByBytes 40 = .ok (.aload_n 0, 1) := by decide +kernel
theorem dX6_areSameByBytes_41 : decode cX6_areSameByBytes 41 = .ok (.getfield 55, 3) := by decide +kernel
theorem dX6_areSameByBytes_44 : decode cX6_areSameByBytes 44 = .ok (.invokevirtual 270, 3) := by decide +kernel
theorem dX6_areSameByBytes_47 : decode cX6_areSameByBytes 47 = .ok (.ireturn, 1) := by decide +kernel
theorem dX6_write_0 : decode cX6_write 0 = .ok (.aload_n 0, 1) := by decide +kernel
theorem dX6_write_1 : decode cX6_write 1 = .ok (.iload_n 1, 1) := by decide +kernel
theorem dX6_write_2 : decode cX6_write 2 = .ok (.invokevirtual 119, 3) := by decide +kernel
theorem dX6_write_5 : decode cX6_write 5 = .ok (.astore_n 2, 1) := by decide +kernel
theorem dX6_write_6 : decode cX6_write 6 = .ok (.aload_n 0, 1) := by decide +kernel
theorem dX6_write_7 : decode cX6_write 7 = .ok (.getfield 45, 3) := by decide +kernel
theorem dX6_write_10 : decode cX6_write 10 = .ok (.aload_n 2, 1) := by decide +kernel
theorem dX6_write_11 : decode cX6_write 11 = .ok (.getfield 123, 3) := by decide +kernel
theorem dX6_write_14 : decode cX6_write 14 = .ok (.aload_n 2, 1) := by decide +kernel
theorem dX6_write_15 : decode cX6_write 15 = .ok (.getfield 141, 3) := by decide +kernel
theorem dX6_write_18 : decode cX6_write 18 = .ok (.invokevirtual 201, 3) := by decide +kernel
theorem dX6_write_21 : decode cX6_write 21 = .ok (.aload_n 0, 1) := by decide +kernel
theorem dX6_write_22 : decode cX6_write 22 = .ok (.getfield 45, 3) := by decide +kernel
theorem dX6_write_25 : decode cX6_write 25 = .ok (.aload_n 0, 1) := by decide +kernel
theorem dX6_write_26 : decode cX6_write 26 = .ok (.getfield 24, 3) := by decide +kernel
theorem dX6_write_29 : decode cX6_write 29 = .ok (.invokevirtual 205, 3) := by decide +kernel
theorem dX6_write_32 : decode cX6_write 32 = .ok (.aload_n 0, 1) := by decide +kernel
theorem dX6_write_33 : decode cX6_write 33 = .ok (.getfield 24, 3) := by decide +kernel
theorem dX6_write_36 : decode cX6_write 36 = .ok (.invokevirtual 208, 3) := by decide +kernel
theorem dX6_write_39 : decode cX6_write 39 = .ok (.ireturn, 1) := by decide +kernel
theorem dX6_put_0 : decode cX6_put 0 = .ok (.aload_n 0, 1) := by decide +kernel
theorem dX6_put_1 : decode cX6_put 1 = .ok (.getfield 24, 3) := by decide +kernel
theorem dX6_put_4 : decode cX6_put 4 = .ok (.invokevirtual 208, 3) := by decide +kernel
theorem dX6_put_7 : decode cX6_put 7 = .ok (.bipush 120, 2) := by decide +kernel
theorem dX6_put_9 : decode cX6_put 9 = .ok (.if_icmp .lt 14, 3) := by decide +kernel
theorem dX6_put_12 : decode cX6_put 12 = .ok (.new 65, 3) := by decide +kernel
theorem dX6_put_15 : decode cX6_put 15 = .ok (.dup, 1) := by decide +kernel
theorem dX6_put_16 : decode cX6_put 16 = .ok (.ldc_w 274, 3) := by decide +kernel
theorem dX6_put_19 : decode cX6_put 19 = .ok (.invokespecial 69, 3) := by decide +kernel
theorem dX6_put_22 : decode cX6_put 22 = .ok (.athrow, 1) := by decide +kernel
theorem dX6_put_23 : decode cX6_put 23 = .ok (.aload_n 0, 1) := by decide +kernel
theorem dX6_put_24 : decode cX6_put 24 = .ok (.getfield 24, 3) := by decide +kernel
theorem dX6_put_27 : decode cX6_put 27 = .ok (.iload_n 1, 1) := by decide +kernel
theorem dX6_put_28 : decode cX6_put 28 = .ok (.invokevirtual 191, 3) := by decide +kernel
theorem dX6_put_31 : decode cX6_put 31 = .ok (.aload_n 0, 1) := by decide +kernel
theorem dX6_put_32 : decode cX6_put 32 = .ok (.getfield 24, 3) := by decide +kernel
theorem dX6_put_35 : decode cX6_put 35 = .ok (.invokevirtual 208, 3) := by decide +kernel
theorem dX6_put_38 : decode cX6_put 38 = .ok (.ireturn, 1) := by decide +kernel
theorem dX6_cut_0 : decode cX6_cut 0 = .ok (.aload_n 0, 1) := by decide +kernel
theorem dX6_cut_1 : decode cX6_cut 1 = .ok (.getfield 24, 3) := by decide +kernel
theorem dX6_cut_4 : decode cX6_cut 4 = .ok (.invokevirtual 208, 3) := by decide +kernel
theorem dX6_cut_7 : decode cX6_cut 7 = .ok (.istore_n 2, 1) := by decide +kernel
theorem dX6_cut_8 : decode cX6_cut 8 = .ok (.iload_n 1, 1) := by decide +kernel
theorem dX6_cut_9 : decode cX6_cut 9 = .ok (.ifCond .lt 8, 3) := by decide +kernel
theorem dX6_cut_12 : decode cX6_cut 12 = .ok (.iload_n 1, 1) := by decide +kernel
theorem dX6_cut_13 : decode cX6_cut 13 = .ok (.iload_n 2, 1) := by decide +kernel
theorem dX6_cut_14 : decode cX6_cut 14 = .ok (.if_icmp .le 14, 3) := by decide +kernel
theorem dX6_cut_17 : decode cX6_cut 17 = .ok (.new 257, 3) := by decide +kernel
theorem dX6_cut_20 : decode cX6_cut 20 = .ok (.dup, 1) := by decide +kernel
theorem dX6_cut_21 : decode cX6_cut 21 = .ok (.ldc_w 276, 3) := by decide +kernel
theorem dX6_cut_24 : decode cX6_cut 24 = .ok (.invokespecial 261, 3) := by decide +kernel
theorem dX6_cut_27 : decode cX6_cut 27 = .ok (.athrow, 1) := by decide +kernel
theorem dX6_cut_28 : decode cX6_cut 28 = .ok (.aload_n 0, 1) := by decide +kernel
theorem dX6_cut_29 : decode cX6_cut 29 = .ok (.getfield 24, 3) := by decide +kernel
theorem dX6_cut_32 : decode cX6_cut 32 = .ok (.iload_n 1, 1) := by decide +kernel
theorem dX6_cut_33 : decode cX6_cut 33 = .ok (.invokevirtual 209, 3) := by decide +kernel
theorem dX6_cut_36 : decode cX6_cut 36 = .ok (.iload_n 2, 1) := by decide +kernel
theorem dX6_cut_37 : decode cX6_cut 37 = .ok (.iload_n 1, 1) := by decide +kernel
theorem dX6_cut_38 : decode cX6_cut 38 = .ok (.isub, 1) := by decide +kernel
theorem dX6_cut_39 : decode cX6_cut 39 = .ok (.ireturn, 1) := by decide +kernel
theorem dX6_length_0 : decode cX6_length 0 = .ok (.aload_n 0, 1) := by decide +kernel
theorem dX6_length_1 : decode cX6_length 1 = .ok (.getfield 24, 3) := by decide +kernel
theorem dX6_length_4 : decode cX6_length 4 = .ok (.invokevirtual 208, 3) := by decide +kernel
theorem dX6_length_7 : decode cX6_length 7 = .ok (.ireturn, 1) := by decide +kernel
theorem dX6_byteAt_0 : decode cX6_byteAt 0 = .ok (.iload_n 1, 1) := by decide +kernel
theorem dX6_byteAt_1 : decode cX6_byteAt 1 = .ok (.ifCond .lt 14, 3) := by decide +kernel
theorem dX6_byteAt_4 : decode cX6_byteAt 4 = .ok (.iload_n 1, 1) := by decide +kernel
theorem dX6_byteAt_5 : decode cX6_byteAt 5 = .ok (.aload_n 0, 1) := by decide +kernel
theorem dX6_byteAt_6 : decode cX6_byteAt 6 = .ok (.getfield 24, 3) := by decide +kernel
theorem dX6_byteAt_9 : decode cX6_byteAt 9 = .ok (.invokevirtual 208, 3) := by decide +kernel
theorem dX6_byteAt_12 : decode cX6_byteAt 12 = .ok (.if_icmp .lt 13, 3) := by decide +kernel
theorem dX6_byteAt_15 : decode cX6_byteAt 15 = .ok (.new 257, 3) := by decide +kernel
theorem dX6_byteAt_18 : decode cX6_byteAt 18 = .ok (.dup, 1) := by decide +kernel
theorem dX6_byteAt_19 : decode cX6_byteAt 19 = .ok (.ldc 233, 2) := by decide +kernel
theorem dX6_byteAt_21 : decode cX6_byteAt 21 = .ok (.invokespecial 261, 3) := by decide +kernel
theorem dX6_byteAt_24 : decode cX6_byteAt 24 = .ok (.athrow, 1) := by decide +kernel
theorem dX6_byteAt_25 : decode cX6_byteAt 25 = .ok (.aload_n 0, 1) := by decide +kernel
theorem dX6_byteAt_26 : decode cX6_byteAt 26 = .ok (.getfield 24, 3) := by decide +kernel
theorem dX6_byteAt_29 : decode cX6_byteAt 29 = .ok (.iload_n 1, 1) := by decide +kernel
theorem dX6_byteAt_30 : decode cX6_byteAt 30 = .ok (.invokevirtual 236, 3) := by decide +kernel
theorem dX6_byteAt_33 : decode cX6_byteAt 33 = .ok (.ireturn, 1) := by decide +kernel
theorem dX6_fault_0 : decode cX6_fault 0 = .ok (.aload_n 0, 1) := by decide +kernel
theorem dX6_fault_1 : decode cX6_fault 1 = .ok (.invokevirtual 278, 3) := by decide +kernel
theorem dX6_fault_4 : decode cX6_fault 4 = .ok (.invokevirtual 244, 3) := by decide +kernel
theorem dX6_fault_7 : decode cX6_fault 7 = .ok (.ireturn, 1) := by decide +kernel
theorem dX6_faultAt_0 : decode cX6_faultAt 0 = .ok (.aload_n 0, 1) := by decide +kernel
theorem dX6_faultAt_1 : decode cX6_faultAt 1 = .ok (.invokevirtual 278, 3) := by decide +kernel
theorem dX6_faultAt_4 : decode cX6_faultAt 4 = .ok (.invokevirtual 282, 3) := by decide +kernel
theorem dX6_faultAt_7 : decode cX6_faultAt 7 = .ok (.ireturn, 1) := by decide +kernel
theorem dX6_read_0 : decode cX6_read 0 = .ok (.aload_n 0, 1) := by decide +kernel
theorem dX6_read_1 : decode cX6_read 1 = .ok (.iload_n 1, 1) := by decide +kernel
theorem dX6_read_2 : decode cX6_read 2 = .ok (.invokevirtual 75, 3) := by decide +kernel
theorem dX6_read_5 : decode cX6_read 5 = .ok (.astore_n 2, 1) := by decide +kernel
theorem dX6_read_6 : decode cX6_read 6 = .ok (.aload_n 0, 1) := by decide +kernel
theorem dX6_read_7 : decode cX6_read 7 = .ok (.invokevirtual 278, 3) := by decide +kernel
theorem dX6_read_10 : decode cX6_read 10 = .ok (.astore_n 3, 1) := by decide +kernel
theorem dX6_read_11 : decode cX6_read 11 = .ok (.aload_n 3, 1) := by decide +kernel
theorem dX6_read_12 : decode cX6_read 12 = .ok (.invokevirtual 244, 3) := by decide +kernel
theorem dX6_read_15 : decode cX6_read 15 = .ok (.ifCond .eq 14, 3) := by decide +kernel
theorem dX6_read_18 : decode cX6_read 18 = .ok (.new 82, 3) := by decide +kernel
theorem dX6_read_21 : decode cX6_read 21 = .ok (.dup, 1) := by decide +kernel
theorem dX6_read_22 : decode cX6_read 22 = .ok (.ldc_w 285, 3) := by decide +kernel
theorem dX6_read_25 : decode cX6_read 25 = .ok (.invokespecial 86, 3) := by decide +kernel
theorem dX6_read_28 : decode cX6_read 28 = .ok (.athrow, 1) := by decide +kernel
theorem dX6_read_29 : decode cX6_read 29 = .ok (.aload_n 0, 1) := by decide +kernel
theorem dX6_read_30 : decode cX6_read 30 = .ok (.aload_n 3, 1) := by decide +kernel
theorem dX6_read_31 : decode cX6_read 31 = .ok (.aload_n 2, 1) := by decide +kernel
theorem dX6_read_32 : decode cX6_read 32 = .ok (.invokestatic 249, 3) := by decide +kernel
theorem dX6_read_35 : decode cX6_read 35 = .ok (.invokevirtual 115, 3) := by decide +kernel
theorem dX6_read_38 : decode cX6_read 38 = .ok (.ireturn, 1) := by decide +kernel
theorem dX6_isCanonical_0 : decode cX6_isCanonical 0 = .ok (.aload_n 0, 1) := by decide +kernel
theorem dX6_isCanonical_1 : decode cX6_isCanonical 1 = .ok (.iload_n 1, 1) := by decide +kernel
theorem dX6_isCanonical_2 : decode cX6_isCanonical 2 = .ok (.invokevirtual 75, 3) := by decide +kernel
theorem dX6_isCanonical_5 : decode cX6_isCanonical 5 = .ok (.astore_n 2, 1) := by decide +kernel
theorem dX6_isCanonical_6 : decode cX6_isCanonical 6 = .ok (.aload_n 0, 1) := by decide +kernel
theorem dX6_isCanonical_7 : decode cX6_isCanonical 7 = .ok (.invokevirtual 278, 3) := by decide +kernel
theorem dX6_isCanonical_10 : decode cX6_isCanonical 10 = .ok (.invokevirtual 244, 3) := by decide +kernel
theorem dX6_isCanonical_13 : decode cX6_isCanonical 13 = .ok (.ifCond .eq 5, 3) := by decide +kernel
theorem dX6_isCanonical_16 : decode cX6_isCanonical 16 = .ok (.iconst 0, 1) := by decide +kernel
theorem dX6_isCanonical_17 : decode cX6_isCanonical 17 = .ok (.ireturn, 1) := by decide +kernel
theorem dX6_isCanonical_18 : decode cX6_isCanonical 18 = .ok (.aload_n 0, 1) := by decide +kernel
theorem dX6_isCanonical_19 : decode cX6_isCanonical 19 = .ok (.getfield 45, 3) := by decide +kernel
theorem dX6_isCanonical_22 : decode cX6_isCanonical 22 = .ok (.aload_n 0, 1) := by decide +kernel
theorem dX6_isCanonical_23 : decode cX6_isCanonical 23 = .ok (.getfield 24, 3) := by decide +kernel
theorem dX6_isCanonical_26 : decode cX6_isCanonical 26 = .ok (.aload_n 2, 1) := by decide +kernel
theorem dX6_isCanonical_27 : decode cX6_isCanonical 27 = .ok (.invokevirtual 201, 3) := by decide +kernel
theorem dX6_isCanonical_30 : decode cX6_isCanonical 30 = .ok (.aload_n 0, 1) := by decide +kernel
theorem dX6_isCanonical_31 : decode cX6_isCanonical 31 = .ok (.getfield 45, 3) := by decide +kernel
theorem dX6_isCanonical_34 : decode cX6_isCanonical 34 = .ok (.aload_n 0, 1) := by decide +kernel
theorem dX6_isCanonical_35 : decode cX6_isCanonical 35 = .ok (.getfield 52, 3) := by decide +kernel
theorem dX6_isCanonical_38 : decode cX6_isCanonical 38 = .ok (.invokevirtual 205, 3) := by decide +kernel
theorem dX6_isCanonical_41 : decode cX6_isCanonical 41 = .ok (.aload_n 0, 1) := by decide +kernel
theorem dX6_isCanonical_42 : decode cX6_isCanonical 42 = .ok (.getfield 52, 3) := by decide +kernel
theorem dX6_isCanonical_45 : decode cX6_isCanonical 45 = .ok (.aload_n 0, 1) := by decide +kernel
theorem dX6_isCanonical_46 : decode cX6_isCanonical 46 = .ok (.getfield 24, 3) := by decide +kernel
theorem dX6_isCanonical_49 : decode cX6_isCanonical 49 = .ok (.invokevirtual 270, 3) := by decide +kernel
theorem dX6_isCanonical_52 : decode cX6_isCanonical 52 = .ok (.ireturn, 1) := by decide +kernel
theorem dX6_schemaAt_0 : decode cX6_schemaAt 0 = .ok (.iload_n 1, 1) := by decide +kernel
theorem dX6_schemaAt_1 : decode cX6_schemaAt 1 = .ok (.ifCond .lt 21, 3) := by decide +kernel
theorem dX6_schemaAt_4 : decode cX6_schemaAt 4 = .ok (.iload_n 1, 1) := by decide +kernel
theorem dX6_schemaAt_5 : decode cX6_schemaAt 5 = .ok (.aload_n 0, 1) := by decide +kernel
theorem dX6_schemaAt_6 : decode cX6_schemaAt 6 = .ok (.getfield 11, 3) := by decide +kernel
theorem dX6_schemaAt_9 : decode cX6_schemaAt 9 = .ok (.arraylength, 1) := by decide +kernel
theorem dX6_schemaAt_10 : decode cX6_schemaAt 10 = .ok (.if_icmp .ge 12, 3) := by decide +kernel
theorem dX6_schemaAt_13 : decode cX6_schemaAt 13 = .ok (.aload_n 0, 1) := by decide +kernel
theorem dX6_schemaAt_14 : decode cX6_schemaAt 14 = .ok (.getfield 11, 3) := by decide +kernel
theorem dX6_schemaAt_17 : decode cX6_schemaAt 17 = .ok (.iload_n 1, 1) := by decide +kernel
theorem dX6_schemaAt_18 : decode cX6_schemaAt 18 = .ok (.aaload, 1) := by decide +kernel
theorem dX6_schemaAt_19 : decode cX6_schemaAt 19 = .ok (.ifnonnull 14, 3) := by decide +kernel
theorem dX6_schemaAt_22 : decode cX6_schemaAt 22 = .ok (.new 257, 3) := by decide +kernel
theorem dX6_schemaAt_25 : decode cX6_schemaAt 25 = .ok (.dup, 1) := by decide +kernel
theorem dX6_schemaAt_26 : decode cX6_schemaAt 26 = .ok (.ldc_w 287, 3) := by decide +kernel
theorem dX6_schemaAt_29 : decode cX6_schemaAt 29 = .ok (.invokespecial 261, 3) := by decide +kernel
theorem dX6_schemaAt_32 : decode cX6_schemaAt 32 = .ok (.athrow, 1) := by decide +kernel
theorem dX6_schemaAt_33 : decode cX6_schemaAt 33 = .ok (.aload_n 0, 1) := by decide +kernel
theorem dX6_schemaAt_34 : decode cX6_schemaAt 34 = .ok (.getfield 11, 3) := by decide +kernel
theorem dX6_schemaAt_37 : decode cX6_schemaAt 37 = .ok (.iload_n 1, 1) := by decide +kernel
theorem dX6_schemaAt_38 : decode cX6_schemaAt 38 = .ok (.aaload, 1) := by decide +kernel
theorem dX6_schemaAt_39 : decode cX6_schemaAt 39 = .ok (.areturn, 1) := by decide +kernel
theorem dX6_messageAt_0 : decode cX6_messageAt 0 = .ok (.iload_n 1, 1) := by decide +kernel
theorem dX6_messageAt_1 : decode cX6_messageAt 1 = .ok (.ifCond .lt 21, 3) := by decide +kernel
theorem dX6_messageAt_4 : decode cX6_messageAt 4 = .ok (.iload_n 1, 1) := by decide +kernel
theorem dX6_messageAt_5 : decode cX6_messageAt 5 = .ok (.aload_n 0, 1) := by decide +kernel
theorem dX6_messageAt_6 : decode cX6_messageAt 6 = .ok (.getfield 17, 3) := by decide +kernel
theorem dX6_messageAt_9 : decode cX6_messageAt 9 = .ok (.arraylength, 1) := by decide +kernel
theorem dX6_messageAt_10 : decode cX6_messageAt 10 = .ok (.if_icmp .ge 12, 3) := by decide +kernel
theorem dX6_messageAt_13 : decode cX6_messageAt 13 = .ok (.aload_n 0, 1) := by decide +kernel
theorem dX6_messageAt_14 : decode cX6_messageAt 14 = .ok (.getfield 17, 3) := by decide +kernel
theorem dX6_messageAt_17 : decode cX6_messageAt 17 = .ok (.iload_n 1, 1) := by decide +kernel
theorem dX6_messageAt_18 : decode cX6_messageAt 18 = .ok (.aaload, 1) := by decide +kernel
theorem dX6_messageAt_19 : decode cX6_messageAt 19 = .ok (.ifnonnull 14, 3) := by decide +kernel
theorem dX6_messageAt_22 : decode cX6_messageAt 22 = .ok (.new 257, 3) := by decide +kernel
theorem dX6_messageAt_25 : decode cX6_messageAt 25 = .ok (.dup, 1) := by decide +kernel
theorem dX6_messageAt_26 : decode cX6_messageAt 26 = .ok (.ldc_w 289, 3) := by decide +kernel
theorem dX6_messageAt_29 : decode cX6_messageAt 29 = .ok (.invokespecial 261, 3) := by decide +kernel
theorem dX6_messageAt_32 : decode cX6_messageAt 32 = .ok (.athrow, 1) := by decide +kernel
theorem dX6_messageAt_33 : decode cX6_messageAt 33 = .ok (.aload_n 0, 1) := by decide +kernel
theorem dX6_messageAt_34 : decode cX6_messageAt 34 = .ok (.getfield 17, 3) := by decide +kernel
theorem dX6_messageAt_37 : decode cX6_messageAt 37 = .ok (.iload_n 1, 1) := by decide +kernel
theorem dX6_messageAt_38 : decode cX6_messageAt 38 = .ok (.aaload, 1) := by decide +kernel
theorem dX6_messageAt_39 : decode cX6_messageAt 39 = .ok (.areturn, 1) := by decide +kernel
theorem dX6_isTag_0 : decode cX6_isTag 0 = .ok (.iload_n 0, 1) := by decide +kernel
theorem dX6_isTag_1 : decode cX6_isTag 1 = .ok (.iconst 1, 1) := by decide +kernel
theorem dX6_isTag_2 : decode cX6_isTag 2 = .ok (.if_icmp .lt 13, 3) := by decide +kernel
theorem dX6_isTag_5 : decode cX6_isTag 5 = .ok (.iload_n 0, 1) := by decide +kernel
theorem dX6_isTag_6 : decode cX6_isTag 6 = .ok (.bipush 31, 2) := by decide +kernel
theorem dX6_isTag_8 : decode cX6_isTag 8 = .ok (.if_icmp .gt 7, 3) := by decide +kernel
theorem dX6_isTag_11 : decode cX6_isTag 11 = .ok (.iconst 1, 1) := by decide +kernel
theorem dX6_isTag_12 : decode cX6_isTag 12 = .ok (.goto 4, 3) := by decide +kernel
theorem dX6_isTag_15 : decode cX6_isTag 15 = .ok (.iconst 0, 1) := by decide +kernel
theorem dX6_isTag_16 : decode cX6_isTag 16 = .ok (.ireturn, 1) := by decide +kernel
theorem dX6_checkTag_0 : decode cX6_checkTag 0 = .ok (.iload_n 0, 1) := by decide +kernel
theorem dX6_checkTag_1 : decode cX6_checkTag 1 = .ok (.invokestatic 291, 3) := by decide +kernel
theorem dX6_checkTag_4 : decode cX6_checkTag 4 = .ok (.ifCond .ne 14, 3) := by decide +kernel
theorem dX6_checkTag_7 : decode cX6_checkTag 7 = .ok (.new 82, 3) := by decide +kernel
theorem dX6_checkTag_10 : decode cX6_checkTag 10 = .ok (.dup, 1) := by decide +kernel
theorem dX6_checkTag_11 : decode cX6_checkTag 11 = .ok (.ldc_w 294, 3) := by decide +kernel
theorem dX6_checkTag_14 : decode cX6_checkTag 14 = .ok (.invokespecial 86, 3) := by decide +kernel
theorem dX6_checkTag_17 : decode cX6_checkTag 17 = .ok (.athrow, 1) := by decide +kernel
theorem dX6_checkTag_18 : decode cX6_checkTag 18 = .ok (.return_, 1) := by decide +kernel
theorem dX6_checkHasInt_0 : decode cX6_checkHasInt 0 = .ok (.aload_n 0, 1) := by decide +kernel
theorem dX6_checkHasInt_1 : decode cX6_checkHasInt 1 = .ok (.iload_n 1, 1) := by decide +kernel
theorem dX6_checkHasInt_2 : decode cX6_checkHasInt 2 = .ok (.invokevirtual 95, 3) := by decide +kernel
theorem dX6_checkHasInt_5 : decode cX6_checkHasInt 5 = .ok (.ifCond .ne 14, 3) := by decide +kernel
theorem dX6_checkHasInt_8 : decode cX6_checkHasInt 8 = .ok (.new 82, 3) := by decide +kernel
theorem dX6_checkHasInt_11 : decode cX6_checkHasInt 11 = .ok (.dup, 1) := by decide +kernel
theorem dX6_checkHasInt_12 : decode cX6_checkHasInt 12 = .ok (.ldc_w 296, 3) := by decide +kernel
theorem dX6_checkHasInt_15 : decode cX6_checkHasInt 15 = .ok (.invokespecial 86, 3) := by decide +kernel
theorem dX6_checkHasInt_18 : decode cX6_checkHasInt 18 = .ok (.athrow, 1) := by decide +kernel
theorem dX6_checkHasInt_19 : decode cX6_checkHasInt 19 = .ok (.return_, 1) := by decide +kernel
theorem dX6_checkHasBytes_0 : decode cX6_checkHasBytes 0 = .ok (.aload_n 0, 1) := by decide +kernel
theorem dX6_checkHasBytes_1 : decode cX6_checkHasBytes 1 = .ok (.iload_n 1, 1) := by decide +kernel
theorem dX6_checkHasBytes_2 : decode cX6_checkHasBytes 2 = .ok (.invokevirtual 298, 3) := by decide +kernel
theorem dX6_checkHasBytes_5 : decode cX6_checkHasBytes 5 = .ok (.ifCond .ne 14, 3) := by decide +kernel
theorem dX6_checkHasBytes_8 : decode cX6_checkHasBytes 8 = .ok (.new 82, 3) := by decide +kernel
theorem dX6_checkHasBytes_11 : decode cX6_checkHasBytes 11 = .ok (.dup, 1) := by decide +kernel
theorem dX6_checkHasBytes_12 : decode cX6_checkHasBytes 12 = .ok (.ldc_w 301, 3) := by decide +kernel
theorem dX6_checkHasBytes_15 : decode cX6_checkHasBytes 15 = .ok (.invokespecial 86, 3) := by decide +kernel
theorem dX6_checkHasBytes_18 : decode cX6_checkHasBytes 18 = .ok (.athrow, 1) := by decide +kernel
theorem dX6_checkHasBytes_19 : decode cX6_checkHasBytes 19 = .ok (.return_, 1) := by decide +kernel
theorem dX6_partAt_0 : decode cX6_partAt 0 = .ok (.aload_n 0, 1) := by decide +kernel
theorem dX6_partAt_1 : decode cX6_partAt 1 = .ok (.iload_n 1, 1) := by decide +kernel
theorem dX6_partAt_2 : decode cX6_partAt 2 = .ok (.invokevirtual 303, 3) := by decide +kernel
theorem dX6_partAt_5 : decode cX6_partAt 5 = .ok (.astore_n 2, 1) := by decide +kernel
theorem dX6_partAt_6 : decode cX6_partAt 6 = .ok (.aload_n 2, 1) := by decide +kernel
theorem dX6_partAt_7 : decode cX6_partAt 7 = .ok (.ifnonnull 14, 3) := by decide +kernel
theorem dX6_partAt_10 : decode cX6_partAt 10 = .ok (.new 82, 3) := by decide +kernel
theorem dX6_partAt_13 : decode cX6_partAt 13 = .ok (.dup, 1) := by decide +kernel
theorem dX6_partAt_14 : decode cX6_partAt 14 = .ok (.ldc_w 306, 3) := by decide +kernel
theorem dX6_partAt_17 : decode cX6_partAt 17 = .ok (.invokespecial 86, 3) := by decide +kernel
theorem dX6_partAt_20 : decode cX6_partAt 20 = .ok (.athrow, 1) := by decide +kernel
theorem dX6_partAt_21 : decode cX6_partAt 21 = .ok (.aload_n 2, 1) := by decide +kernel
theorem dX6_partAt_22 : decode cX6_partAt 22 = .ok (.areturn, 1) := by decide +kernel
theorem dX6_lastKnownOrThrow_0 : decode cX6_lastKnownOrThrow 0 = .ok (.aload_n 0, 1) := by decide +kernel
theorem dX6_lastKnownOrThrow_1 : decode cX6_lastKnownOrThrow 1 = .ok (.aload_n 1, 1) := by decide +kernel
theorem dX6_lastKnownOrThrow_2 : decode cX6_lastKnownOrThrow 2 = .ok (.iload_n 2, 1) := by decide +kernel
theorem dX6_lastKnownOrThrow_3 : decode cX6_lastKnownOrThrow 3 = .ok (.invokevirtual 171, 3) := by decide +kernel
theorem dX6_lastKnownOrThrow_6 : decode cX6_lastKnownOrThrow 6 = .ok (.istore_n 3, 1) := by decide +kernel
theorem dX6_lastKnownOrThrow_7 : decode cX6_lastKnownOrThrow 7 = .ok (.iload_n 3, 1) := by decide +kernel
theorem dX6_lastKnownOrThrow_8 : decode cX6_lastKnownOrThrow 8 = .ok (.iconst (-1), 1) := by decide +kernel
theorem dX6_lastKnownOrThrow_9 : decode cX6_lastKnownOrThrow 9 = .ok (.if_icmp .ne 14, 3) := by decide +kernel
theorem dX6_lastKnownOrThrow_12 : decode cX6_lastKnownOrThrow 12 = .ok (.new 231, 3) := by decide +kernel
theorem dX6_lastKnownOrThrow_15 : decode cX6_lastKnownOrThrow 15 = .ok (.dup, 1) := by decide +kernel
theorem dX6_lastKnownOrThrow_16 : decode cX6_lastKnownOrThrow 16 = .ok (.ldc_w 308, 3) := by decide +kernel
theorem dX6_lastKnownOrThrow_19 : decode cX6_lastKnownOrThrow 19 = .ok (.invokespecial 235, 3) := by decide +kernel
theorem dX6_lastKnownOrThrow_22 : decode cX6_lastKnownOrThrow 22 = .ok (.athrow, 1) := by decide +kernel
theorem dX6_lastKnownOrThrow_23 : decode cX6_lastKnownOrThrow 23 = .ok (.iload_n 3, 1) := by decide +kernel
theorem dX6_lastKnownOrThrow_24 : decode cX6_lastKnownOrThrow 24 = .ok (.ireturn, 1) := by decide +kernel
theorem dX6_fieldsOf_0 : decode cX6_fieldsOf 0 = .ok (.aload_n 0, 1) := by decide +kernel
theorem dX6_fieldsOf_1 : decode cX6_fieldsOf 1 = .ok (.aload_n 1, 1) := by decide +kernel
theorem dX6_fieldsOf_2 : decode cX6_fieldsOf 2 = .ok (.getfield 123, 3) := by decide +kernel
theorem dX6_fieldsOf_5 : decode cX6_fieldsOf 5 = .ok (.iconst 0, 1) := by decide +kernel
theorem dX6_fieldsOf_6 : decode cX6_fieldsOf 6 = .ok (.aload_n 1, 1) := by decide +kernel
theorem dX6_fieldsOf_7 : decode cX6_fieldsOf 7 = .ok (.getfield 123, 3) := by decide +kernel
theorem dX6_fieldsOf_10 : decode cX6_fieldsOf 10 = .ok (.invokevirtual 208, 3) := by decide +kernel
theorem dX6_fieldsOf_13 : decode cX6_fieldsOf 13 = .ok (.invokevirtual 240, 3) := by decide +kernel
theorem dX6_fieldsOf_16 : decode cX6_fieldsOf 16 = .ok (.areturn, 1) := by decide +kernel
theorem dX6_fieldsOfTape_0 : decode cX6_fieldsOfTape 0 = .ok (.aload_n 0, 1) := by decide +kernel
theorem dX6_fieldsOfTape_1 : decode cX6_fieldsOfTape 1 = .ok (.aload_n 0, 1) := by decide +kernel
theorem dX6_fieldsOfTape_2 : decode cX6_fieldsOfTape 2 = .ok (.getfield 24, 3) := by decide +kernel
theorem dX6_fieldsOfTape_5 : decode cX6_fieldsOfTape 5 = .ok (.iconst 0, 1) := by decide +kernel
theorem dX6_fieldsOfTape_6 : decode cX6_fieldsOfTape 6 = .ok (.aload_n 0, 1) := by decide +kernel
theorem dX6_fieldsOfTape_7 : decode cX6_fieldsOfTape 7 = .ok (.getfield 24, 3) := by decide +kernel
theorem dX6_fieldsOfTape_10 : decode cX6_fieldsOfTape 10 = .ok (.invokevirtual 208, 3) := by decide +kernel
theorem dX6_fieldsOfTape_13 : decode cX6_fieldsOfTape 13 = .ok (.invokevirtual 240, 3) := by decide +kernel
theorem dX6_fieldsOfTape_16 : decode cX6_fieldsOfTape 16 = .ok (.areturn, 1) := by decide +kernel
theorem dX6_fieldsIn_0 : decode cX6_fieldsIn 0 = .ok (.aload_n 0, 1) := by decide +kernel
theorem dX6_fieldsIn_1 : decode cX6_fieldsIn 1 = .ok (.getfield 38, 3) := by decide +kernel
theorem dX6_fieldsIn_4 : decode cX6_fieldsIn 4 = .ok (.aload_n 1, 1) := by decide +kernel
theorem dX6_fieldsIn_5 : decode cX6_fieldsIn 5 = .ok (.iload_n 2, 1) := by decide +kernel
theorem dX6_fieldsIn_6 : decode cX6_fieldsIn 6 = .ok (.iload_n 3, 1) := by decide +kernel
theorem dX6_fieldsIn_7 : decode cX6_fieldsIn 7 = .ok (.invokevirtual 310, 3) := by decide +kernel
theorem dX6_fieldsIn_10 : decode cX6_fieldsIn 10 = .ok (.aload_n 0, 1) := by decide +kernel
theorem dX6_fieldsIn_11 : decode cX6_fieldsIn 11 = .ok (.getfield 38, 3) := by decide +kernel
theorem dX6_fieldsIn_14 : decode cX6_fieldsIn 14 = .ok (.areturn, 1) := by decide +kernel
theorem dX6_chooseBoth_0 : decode cX6_chooseBoth 0 = .ok (.aload_n 0, 1) := by decide +kernel
theorem dX6_chooseBoth_1 : decode cX6_chooseBoth 1 = .ok (.getfield 45, 3) := by decide +kernel
theorem dX6_chooseBoth_4 : decode cX6_chooseBoth 4 = .ok (.aload_n 1, 1) := by decide +kernel
theorem dX6_chooseBoth_5 : decode cX6_chooseBoth 5 = .ok (.getfield 123, 3) := by decide +kernel
theorem dX6_chooseBoth_8 : decode cX6_chooseBoth 8 = .ok (.aload_n 1, 1) := by decide +kernel
theorem dX6_chooseBoth_9 : decode cX6_chooseBoth 9 = .ok (.getfield 141, 3) := by decide +kernel
theorem dX6_chooseBoth_12 : decode cX6_chooseBoth 12 = .ok (.invokevirtual 201, 3) := by decide +kernel
theorem dX6_chooseBoth_15 : decode cX6_chooseBoth 15 = .ok (.aload_n 0, 1) := by decide +kernel
theorem dX6_chooseBoth_16 : decode cX6_chooseBoth 16 = .ok (.getfield 49, 3) := by decide +kernel
theorem dX6_chooseBoth_19 : decode cX6_chooseBoth 19 = .ok (.aload_n 2, 1) := by decide +kernel
theorem dX6_chooseBoth_20 : decode cX6_chooseBoth 20 = .ok (.getfield 123, 3) := by decide +kernel
theorem dX6_chooseBoth_23 : decode cX6_chooseBoth 23 = .ok (.aload_n 2, 1) := by decide +kernel
theorem dX6_chooseBoth_24 : decode cX6_chooseBoth 24 = .ok (.getfield 141, 3) := by decide +kernel
theorem dX6_chooseBoth_27 : decode cX6_chooseBoth 27 = .ok (.invokevirtual 201, 3) := by decide +kernel
theorem dX6_chooseBoth_30 : decode cX6_chooseBoth 30 = .ok (.return_, 1) := by decide +kernel
theorem dX6_messageOf_0 : decode cX6_messageOf 0 = .ok (.new 15, 3) := by decide +kernel
theorem dX6_messageOf_3 : decode cX6_messageOf 3 = .ok (.dup, 1) := by decide +kernel
theorem dX6_messageOf_4 : decode cX6_messageOf 4 = .ok (.aload_n 1, 1) := by decide +kernel
theorem dX6_messageOf_5 : decode cX6_messageOf 5 = .ok (.invokespecial 112, 3) := by decide +kernel
theorem dX6_messageOf_8 : decode cX6_messageOf 8 = .ok (.astore_n 2, 1) := by decide +kernel
theorem dX6_messageOf_9 : decode cX6_messageOf 9 = .ok (.iconst 0, 1) := by decide +kernel
theorem dX6_messageOf_10 : decode cX6_messageOf 10 = .ok (.istore_n 3, 1) := by decide +kernel
theorem dX6_messageOf_11 : decode cX6_messageOf 11 = .ok (.iload_n 3, 1) := by decide +kernel
theorem dX6_messageOf_12 : decode cX6_messageOf 12 = .ok (.aload_n 0, 1) := by decide +kernel
theorem dX6_messageOf_13 : decode cX6_messageOf 13 = .ok (.invokevirtual 134, 3) := by decide +kernel
theorem dX6_messageOf_16 : decode cX6_messageOf 16 = .ok (.if_icmp .ge 18, 3) := by decide +kernel
theorem dX6_messageOf_19 : decode cX6_messageOf 19 = .ok (.aload_n 0, 1) := by decide +kernel
theorem dX6_messageOf_20 : decode cX6_messageOf 20 = .ok (.aload_n 2, 1) := by decide +kernel
theorem dX6_messageOf_21 : decode cX6_messageOf 21 = .ok (.getfield 123, 3) := by decide +kernel
theorem dX6_messageOf_24 : decode cX6_messageOf 24 = .ok (.iload_n 3, 1) := by decide +kernel
theorem dX6_messageOf_25 : decode cX6_messageOf 25 = .ok (.invokevirtual 215, 3) := by decide +kernel
theorem dX6_messageOf_28 : decode cX6_messageOf 28 = .ok (.iinc 3 1, 3) := by decide +kernel
theorem dX6_messageOf_31 : decode cX6_messageOf 31 = .ok (.goto (-20), 3) := by decide +kernel
theorem dX6_messageOf_34 : decode cX6_messageOf 34 = .ok (.aload_n 2, 1) := by decide +kernel
theorem dX6_messageOf_35 : decode cX6_messageOf 35 = .ok (.areturn, 1) := by decide +kernel
theorem dX6_addMessage_0 : decode cX6_addMessage 0 = .ok (.iconst 0, 1) := by decide +kernel
theorem dX6_addMessage_1 : decode cX6_addMessage 1 = .ok (.istore_n 2, 1) := by decide +kernel
theorem dX6_addMessage_2 : decode cX6_addMessage 2 = .ok (.iload_n 2, 1) := by decide +kernel
theorem dX6_addMessage_3 : decode cX6_addMessage 3 = .ok (.aload_n 0, 1) := by decide +kernel
theorem dX6_addMessage_4 : decode cX6_addMessage 4 = .ok (.getfield 17, 3) := by decide +kernel
theorem dX6_addMessage_7 : decode cX6_addMessage 7 = .ok (.arraylength, 1) := by decide +kernel
theorem dX6_addMessage_8 : decode cX6_addMessage 8 = .ok (.if_icmp .ge 27, 3) := by decide +kernel
theorem dX6_addMessage_11 : decode cX6_addMessage 11 = .ok (.aload_n 0, 1) := by decide +kernel
theorem dX6_addMessage_12 : decode cX6_addMessage 12 = .ok (.getfield 17, 3) := by decide +kernel
theorem dX6_addMessage_15 : decode cX6_addMessage 15 = .ok (.iload_n 2, 1) := by decide +kernel
theorem dX6_addMessage_16 : decode cX6_addMessage 16 = .ok (.aaload, 1) := by decide +kernel
theorem dX6_addMessage_17 : decode cX6_addMessage 17 = .ok (.ifnonnull 12, 3) := by decide +kernel
theorem dX6_addMessage_20 : decode cX6_addMessage 20 = .ok (.aload_n 0, 1) := by decide +kernel
theorem dX6_addMessage_21 : decode cX6_addMessage 21 = .ok (.getfield 17, 3) := by decide +kernel
theorem dX6_addMessage_24 : decode cX6_addMessage 24 = .ok (.iload_n 2, 1) := by decide +kernel
theorem dX6_addMessage_25 : decode cX6_addMessage 25 = .ok (.aload_n 1, 1) := by decide +kernel
theorem dX6_addMessage_26 : decode cX6_addMessage 26 = .ok (.aastore, 1) := by decide +kernel
theorem dX6_addMessage_27 : decode cX6_addMessage 27 = .ok (.iload_n 2, 1) := by decide +kernel
theorem dX6_addMessage_28 : decode cX6_addMessage 28 = .ok (.ireturn, 1) := by decide +kernel
theorem dX6_addMessage_29 : decode cX6_addMessage 29 = .ok (.iinc 2 1, 3) := by decide +kernel
theorem dX6_addMessage_32 : decode cX6_addMessage 32 = .ok (.goto (-30), 3) := by decide +kernel
theorem dX6_addMessage_35 : decode cX6_addMessage 35 = .ok (.new 65, 3) := by decide +kernel
theorem dX6_addMessage_38 : decode cX6_addMessage 38 = .ok (.dup, 1) := by decide +kernel
theorem dX6_addMessage_39 : decode cX6_addMessage 39 = .ok (.ldc_w 313, 3) := by decide +kernel
theorem dX6_addMessage_42 : decode cX6_addMessage 42 = .ok (.invokespecial 69, 3) := by decide +kernel
theorem dX6_addMessage_45 : decode cX6_addMessage 45 = .ok (.athrow, 1) := by decide +kernel
theorem dX6_removeMessage_0 : decode cX6_removeMessage 0 = .ok (.iload_n 1, 1) := by decide +kernel
theorem dX6_removeMessage_1 : decode cX6_removeMessage 1 = .ok (.ifCond .lt 19, 3) := by decide +kernel
theorem dX6_removeMessage_4 : decode cX6_removeMessage 4 = .ok (.iload_n 1, 1) := by decide +kernel
theorem dX6_removeMessage_5 : decode cX6_removeMessage 5 = .ok (.aload_n 0, 1) := by decide +kernel
theorem dX6_removeMessage_6 : decode cX6_removeMessage 6 = .ok (.getfield 17, 3) := by decide +kernel
theorem dX6_removeMessage_9 : decode cX6_removeMessage 9 = .ok (.arraylength, 1) := by decide +kernel
theorem dX6_removeMessage_10 : decode cX6_removeMessage 10 = .ok (.if_icmp .ge 10, 3) := by decide +kernel
theorem dX6_removeMessage_13 : decode cX6_removeMessage 13 = .ok (.aload_n 0, 1) := by decide +kernel
theorem dX6_removeMessage_14 : decode cX6_removeMessage 14 = .ok (.getfield 17, 3) := by decide +kernel
theorem dX6_removeMessage_17 : decode cX6_removeMessage 17 = .ok (.iload_n 1, 1) := by decide +kernel
theorem dX6_removeMessage_18 : decode cX6_removeMessage 18 = .ok (.aconst_null, 1) := by decide +kernel
theorem dX6_removeMessage_19 : decode cX6_removeMessage 19 = .ok (.aastore, 1) := by decide +kernel
theorem dX6_removeMessage_20 : decode cX6_removeMessage 20 = .ok (.return_, 1) := by decide +kernel
theorem dX6_draftWithoutKnown_0 : decode cX6_draftWithoutKnown 0 = .ok (.aload_n 0, 1) := by decide +kernel
theorem dX6_draftWithoutKnown_1 : decode cX6_draftWithoutKnown 1 = .ok (.getfield 58, 3) := by decide +kernel
theorem dX6_draftWithoutKnown_4 : decode cX6_draftWithoutKnown 4 = .ok (.iconst 0, 1) := by decide +kernel
theorem dX6_draftWithoutKnown_5 : decode cX6_draftWithoutKnown 5 = .ok (.invokevirtual 209, 3) := by decide +kernel
theorem dX6_draftWithoutKnown_8 : decode cX6_draftWithoutKnown 8 = .ok (.iconst 0, 1) := by decide +kernel
theorem dX6_draftWithoutKnown_9 : decode cX6_draftWithoutKnown 9 = .ok (.istore 4, 2) := by decide +kernel
theorem dX6_draftWithoutKnown_11 : decode cX6_draftWithoutKnown 11 = .ok (.iload 4, 2) := by decide +kernel
theorem dX6_draftWithoutKnown_13 : decode cX6_draftWithoutKnown 13 = .ok (.aload_n 1, 1) := by decide +kernel
theorem dX6_draftWithoutKnown_14 : decode cX6_draftWithoutKnown 14 = .ok (.invokevirtual 134, 3) := by decide +kernel
theorem dX6_draftWithoutKnown_17 : decode cX6_draftWithoutKnown 17 = .ok (.if_icmp .ge 39, 3) := by decide +kernel
theorem dX6_draftWithoutKnown_20 : decode cX6_draftWithoutKnown 20 = .ok (.aload_n 1, 1) := by decide +kernel
theorem dX6_draftWithoutKnown_21 : decode cX6_draftWithoutKnown 21 = .ok (.iload 4, 2) := by decide +kernel
theorem dX6_draftWithoutKnown_23 : decode cX6_draftWithoutKnown 23 = .ok (.invokevirtual 212, 3) := by decide +kernel
theorem dX6_draftWithoutKnown_26 : decode cX6_draftWithoutKnown 26 = .ok (.iload_n 3, 1) := by decide +kernel
theorem dX6_draftWithoutKnown_27 : decode cX6_draftWithoutKnown 27 = .ok (.if_icmp .ne 13, 3) := by decide +kernel
theorem dX6_draftWithoutKnown_30 : decode cX6_draftWithoutKnown 30 = .ok (.aload_n 1, 1) := by decide +kernel
theorem dX6_draftWithoutKnown_31 : decode cX6_draftWithoutKnown 31 = .ok (.aload_n 2, 1) := by decide +kernel
theorem dX6_draftWithoutKnown_32 : decode cX6_draftWithoutKnown 32 = .ok (.iload 4, 2) := by decide +kernel
theorem dX6_draftWithoutKnown_34 : decode cX6_draftWithoutKnown 34 = .ok (.invokevirtual 253, 3) := by decide +kernel
theorem dX6_draftWithoutKnown_37 : decode cX6_draftWithoutKnown 37 = .ok (.ifCond .ne 13, 3) := by decide +kernel
theorem dX6_draftWithoutKnown_40 : decode cX6_draftWithoutKnown 40 = .ok (.aload_n 1, 1) := by decide +kernel
theorem dX6_draftWithoutKnown_41 : decode cX6_draftWithoutKnown 41 = .ok (.aload_n 0, 1) := by decide +kernel
theorem dX6_draftWithoutKnown_42 : decode cX6_draftWithoutKnown 42 = .ok (.getfield 58, 3) := by decide +kernel
theorem dX6_draftWithoutKnown_45 : decode cX6_draftWithoutKnown 45 = .ok (.iload 4, 2) := by decide +kernel
theorem dX6_draftWithoutKnown_47 : decode cX6_draftWithoutKnown 47 = .ok (.invokevirtual 215, 3) := by decide +kernel
theorem dX6_draftWithoutKnown_50 : decode cX6_draftWithoutKnown 50 = .ok (.iinc 4 1, 3) := by decide +kernel
theorem dX6_draftWithoutKnown_53 : decode cX6_draftWithoutKnown 53 = .ok (.goto (-42), 3) := by decide +kernel
theorem dX6_draftWithoutKnown_56 : decode cX6_draftWithoutKnown 56 = .ok (.return_, 1) := by decide +kernel
theorem dX6_takeDraft_0 : decode cX6_takeDraft 0 = .ok (.aload_n 0, 1) := by decide +kernel
theorem dX6_takeDraft_1 : decode cX6_takeDraft 1 = .ok (.getfield 58, 3) := by decide +kernel
theorem dX6_takeDraft_4 : decode cX6_takeDraft 4 = .ok (.invokevirtual 208, 3) := by decide +kernel
theorem dX6_takeDraft_7 : decode cX6_takeDraft 7 = .ok (.bipush 120, 2) := by decide +kernel
theorem dX6_takeDraft_9 : decode cX6_takeDraft 9 = .ok (.if_icmp .le 14, 3) := by decide +kernel
theorem dX6_takeDraft_12 : decode cX6_takeDraft 12 = .ok (.new 65, 3) := by decide +kernel
theorem dX6_takeDraft_15 : decode cX6_takeDraft 15 = .ok (.dup, 1) := by decide +kernel
theorem dX6_takeDraft_16 : decode cX6_takeDraft 16 = .ok (.ldc_w 315, 3) := by decide +kernel
theorem dX6_takeDraft_19 : decode cX6_takeDraft 19 = .ok (.invokespecial 69, 3) := by decide +kernel
theorem dX6_takeDraft_22 : decode cX6_takeDraft 22 = .ok (.athrow, 1) := by decide +kernel
theorem dX6_takeDraft_23 : decode cX6_takeDraft 23 = .ok (.aload_n 1, 1) := by decide +kernel
theorem dX6_takeDraft_24 : decode cX6_takeDraft 24 = .ok (.getfield 123, 3) := by decide +kernel
theorem dX6_takeDraft_27 : decode cX6_takeDraft 27 = .ok (.aload_n 0, 1) := by decide +kernel
theorem dX6_takeDraft_28 : decode cX6_takeDraft 28 = .ok (.getfield 58, 3) := by decide +kernel
theorem dX6_takeDraft_31 : decode cX6_takeDraft 31 = .ok (.invokevirtual 126, 3) := by decide +kernel
theorem dX6_takeDraft_34 : decode cX6_takeDraft 34 = .ok (.return_, 1) := by decide +kernel
end
section
theorem dL_law_0 : decode cL_law 0 = .ok (.new 8, 3) := by decide +kernel
theorem dL_law_3 : decode cL_law 3 = .ok (.dup, 1) := by decide +kernel
theorem dL_law_4 : decode cL_law 4 = .ok (.invokespecial 116, 3) := by decide +kernel
theorem dL_law_7 : decode cL_law 7 = .ok (.astore_n 1, 1) := by decide +kernel
theorem dL_law_8 : decode cL_law 8 = .ok (.new 117, 3) := by decide +kernel
theorem dL_law_11 : decode cL_law 11 = .ok (.dup, 1) := by decide +kernel
theorem dL_law_12 : decode cL_law 12 = .ok (.invokespecial 119, 3) := by decide +kernel
theorem dL_law_15 : decode cL_law 15 = .ok (.astore_n 2, 1) := by decide +kernel
theorem dL_law_16 : decode cL_law 16 = .ok (.iconst 1, 1) := by decide +kernel
theorem dL_law_17 : decode cL_law 17 = .ok (.newarray .long, 2) := by decide +kernel
theorem dL_law_19 : decode cL_law 19 = .ok (.astore_n 3, 1) := by decide +kernel
theorem dL_law_20 : decode cL_law 20 = .ok (.iconst 0, 1) := by decide +kernel
theorem dL_law_21 : decode cL_law 21 = .ok (.istore 4, 2) := by decide +kernel
theorem dL_law_23 : decode cL_law 23 = .ok (.iload 4, 2) := by decide +kernel
theorem dL_law_25 : decode cL_law 25 = .ok (.aload_n 0, 1) := by decide +kernel
theorem dL_law_26 : decode cL_law 26 = .ok (.arraylength, 1) := by decide +kernel
theorem dL_law_27 : decode cL_law 27 = .ok (.iconst 5, 1) := by decide +kernel
theorem dL_law_28 : decode cL_law 28 = .ok (.isub, 1) := by decide +kernel
theorem dL_law_29 : decode cL_law 29 = .ok (.if_icmp .gt 2108, 3) := by decide +kernel
theorem dL_law_32 : decode cL_law 32 = .ok (.aload_n 0, 1) := by decide +kernel
theorem dL_law_33 : decode cL_law 33 = .ok (.iload 4, 2) := by decide +kernel
theorem dL_law_35 : decode cL_law 35 = .ok (.iaload, 1) := by decide +kernel
theorem dL_law_36 : decode cL_law 36 = .ok (.bipush 31, 2) := by decide +kernel
theorem dL_law_38 : decode cL_law 38 = .ok (.iand, 1) := by decide +kernel
theorem dL_law_39 : decode cL_law 39 = .ok (.tableswitch 2092 0 31 #[141, 185, 277, 345, 425, 493, 561, 617, 685, 741, 801, 883, 963, 1031, 1087, 1162, 1230, 1310, 1378, 1434, 1502, 1558, 1633, 1708, 1764, 1822, 1878, 1891, 1947, 1960, 1973, 2029], 141) := by decide +kernel
theorem dL_law_180 : decode cL_law 180 = .ok (.aload_n 1, 1) := by decide +kernel
theorem dL_law_181 : decode cL_law 181 = .ok (.aload_n 3, 1) := by decide +kernel
theorem dL_law_182 : decode cL_law 182 = .ok (.invokestatic 120, 3) := by decide +kernel
theorem dL_law_185 : decode cL_law 185 = .ok (.istore 5, 2) := by decide +kernel
theorem dL_law_187 : decode cL_law 187 = .ok (.aload_n 2, 1) := by decide +kernel
theorem dL_law_188 : decode cL_law 188 = .ok (.invokevirtual 125, 3) := by decide +kernel
theorem dL_law_191 : decode cL_law 191 = .ok (.istore 6, 2) := by decide +kernel
theorem dL_law_193 : decode cL_law 193 = .ok (.aload_n 2, 1) := by decide +kernel
theorem dL_law_194 : decode cL_law 194 = .ok (.invokevirtual 126, 3) := by decide +kernel
theorem dL_law_197 : decode cL_law 197 = .ok (.iload 5, 2) := by decide +kernel
theorem dL_law_199 : decode cL_law 199 = .ok (.if_icmp .eq 5, 3) := by decide +kernel
theorem dL_law_202 : decode cL_law 202 = .ok (.iconst 0, 1) := by decide +kernel
theorem dL_law_203 : decode cL_law 203 = .ok (.ireturn, 1) := by decide +kernel
theorem dL_law_204 : decode cL_law 204 = .ok (.iload 5, 2) := by decide +kernel
theorem dL_law_206 : decode cL_law 206 = .ok (.ifCond .ne 15, 3) := by decide +kernel
theorem dL_law_209 : decode cL_law 209 = .ok (.aload_n 3, 1) := by decide +kernel
theorem dL_law_210 : decode cL_law 210 = .ok (.iconst 0, 1) := by decide +kernel
theorem dL_law_211 : decode cL_law 211 = .ok (.laload, 1) := by decide +kernel
theorem dL_law_212 : decode cL_law 212 = .ok (.iload 6, 2) := by decide +kernel
theorem dL_law_214 : decode cL_law 214 = .ok (.i2l, 1) := by decide +kernel
theorem dL_law_215 : decode cL_law 215 = .ok (.lcmp, 1) := by decide +kernel
theorem dL_law_216 : decode cL_law 216 = .ok (.ifCond .eq 5, 3) := by decide +kernel
theorem dL_law_219 : decode cL_law 219 = .ok (.iconst 0, 1) := by decide +kernel
theorem dL_law_220 : decode cL_law 220 = .ok (.ireturn, 1) := by decide +kernel
theorem dL_law_221 : decode cL_law 221 = .ok (.goto 1910, 3) := by decide +kernel
theorem dL_law_224 : decode cL_law 224 = .ok (.aload_n 1, 1) := by decide +kernel
theorem dL_law_225 : decode cL_law 225 = .ok (.aload_n 0, 1) := by decide +kernel
theorem dL_law_226 : decode cL_law 226 = .ok (.iload 4, 2) := by decide +kernel
theorem dL_law_228 : decode cL_law 228 = .ok (.iconst 1, 1) := by decide +kernel
theorem dL_law_229 : decode cL_law 229 = .ok (.iadd, 1) := by decide +kernel
theorem dL_law_230 : decode cL_law 230 = .ok (.iaload, 1) := by decide +kernel
theorem dL_law_231 : decode cL_law 231 = .ok (.aload_n 0, 1) := by decide +kernel
theorem dL_law_232 : decode cL_law 232 = .ok (.iload 4, 2) := by decide +kernel
theorem dL_law_234 : decode cL_law 234 = .ok (.iconst 2, 1) := by decide +kernel
theorem dL_law_235 : decode cL_law 235 = .ok (.iadd, 1) := by decide +kernel
theorem dL_law_236 : decode cL_law 236 = .ok (.iaload, 1) := by decide +kernel
theorem dL_law_237 : decode cL_law 237 = .ok (.aload_n 0, 1) := by decide +kernel
theorem dL_law_238 : decode cL_law 238 = .ok (.iload 4, 2) := by decide +kernel
theorem dL_law_240 : decode cL_law 240 = .ok (.iconst 3, 1) := by decide +kernel
theorem dL_law_241 : decode cL_law 241 = .ok (.iadd, 1) := by decide +kernel
theorem dL_law_242 : decode cL_law 242 = .ok (.iaload, 1) := by decide +kernel
theorem dL_law_243 : decode cL_law 243 = .ok (.aload_n 0, 1) := by decide +kernel
theorem dL_law_244 : decode cL_law 244 = .ok (.iload 4, 2) := by decide +kernel
theorem dL_law_246 : decode cL_law 246 = .ok (.iconst 4, 1) := by decide +kernel
theorem dL_law_247 : decode cL_law 247 = .ok (.iadd, 1) := by decide +kernel
theorem dL_law_248 : decode cL_law 248 = .ok (.iaload, 1) := by decide +kernel
theorem dL_law_249 : decode cL_law 249 = .ok (.aload_n 3, 1) := by decide +kernel
theorem dL_law_250 : decode cL_law 250 = .ok (.invokestatic 129, 3) := by decide +kernel
theorem dL_law_253 : decode cL_law 253 = .ok (.istore 5, 2) := by decide +kernel
theorem dL_law_255 : decode cL_law 255 = .ok (.aload_n 2, 1) := by decide +kernel
theorem dL_law_256 : decode cL_law 256 = .ok (.aload_n 0, 1) := by decide +kernel
theorem dL_law_257 : decode cL_law 257 = .ok (.iload 4, 2) := by decide +kernel
theorem dL_law_259 : decode cL_law 259 = .ok (.iconst 1, 1) := by decide +kernel
theorem dL_law_260 : decode cL_law 260 = .ok (.iadd, 1) := by decide +kernel
theorem dL_law_261 : decode cL_law 261 = .ok (.iaload, 1) := by decide +kernel
theorem dL_law_262 : decode cL_law 262 = .ok (.aload_n 0, 1) := by decide +kernel
theorem dL_law_263 : decode cL_law 263 = .ok (.iload 4, 2) := by decide +kernel
theorem dL_law_265 : decode cL_law 265 = .ok (.iconst 2, 1) := by decide +kernel
theorem dL_law_266 : decode cL_law 266 = .ok (.iadd, 1) := by decide +kernel
theorem dL_law_267 : decode cL_law 267 = .ok (.iaload, 1) := by decide +kernel
theorem dL_law_268 : decode cL_law 268 = .ok (.aload_n 0, 1) := by decide +kernel
theorem dL_law_269 : decode cL_law 269 = .ok (.iload 4, 2) := by decide +kernel
theorem dL_law_271 : decode cL_law 271 = .ok (.iconst 3, 1) := by decide +kernel
theorem dL_law_272 : decode cL_law 272 = .ok (.iadd, 1) := by decide +kernel
theorem dL_law_273 : decode cL_law 273 = .ok (.iaload, 1) := by decide +kernel
theorem dL_law_274 : decode cL_law 274 = .ok (.aload_n 0, 1) := by decide +kernel
theorem dL_law_275 : decode cL_law 275 = .ok (.iload 4, 2) := by decide +kernel
theorem dL_law_277 : decode cL_law 277 = .ok (.iconst 4, 1) := by decide +kernel
theorem dL_law_278 : decode cL_law 278 = .ok (.iadd, 1) := by decide +kernel
theorem dL_law_279 : decode cL_law 279 = .ok (.iaload, 1) := by decide +kernel
theorem dL_law_280 : decode cL_law 280 = .ok (.invokevirtual 132, 3) := by decide +kernel
theorem dL_law_283 : decode cL_law 283 = .ok (.istore 6, 2) := by decide +kernel
theorem dL_law_285 : decode cL_law 285 = .ok (.aload_n 2, 1) := by decide +kernel
theorem dL_law_286 : decode cL_law 286 = .ok (.invokevirtual 126, 3) := by decide +kernel
theorem dL_law_289 : decode cL_law 289 = .ok (.iload 5, 2) := by decide +kernel
theorem dL_law_291 : decode cL_law 291 = .ok (.if_icmp .eq 5, 3) := by decide +kernel
theorem dL_law_294 : decode cL_law 294 = .ok (.iconst 0, 1) := by decide +kernel
theorem dL_law_295 : decode cL_law 295 = .ok (.ireturn, 1) := by decide +kernel
theorem dL_law_296 : decode cL_law 296 = .ok (.iload 5, 2) := by decide +kernel
theorem dL_law_298 : decode cL_law 298 = .ok (.ifCond .ne 15, 3) := by decide +kernel
theorem dL_law_301 : decode cL_law 301 = .ok (.aload_n 3, 1) := by decide +kernel
theorem dL_law_302 : decode cL_law 302 = .ok (.iconst 0, 1) := by decide +kernel
theorem dL_law_303 : decode cL_law 303 = .ok (.laload, 1) := by decide +kernel
theorem dL_law_304 : decode cL_law 304 = .ok (.iload 6, 2) := by decide +kernel
theorem dL_law_306 : decode cL_law 306 = .ok (.i2l, 1) := by decide +kernel
theorem dL_law_307 : decode cL_law 307 = .ok (.lcmp, 1) := by decide +kernel
theorem dL_law_308 : decode cL_law 308 = .ok (.ifCond .eq 5, 3) := by decide +kernel
theorem dL_law_311 : decode cL_law 311 = .ok (.iconst 0, 1) := by decide +kernel
theorem dL_law_312 : decode cL_law 312 = .ok (.ireturn, 1) := by decide +kernel
theorem dL_law_313 : decode cL_law 313 = .ok (.goto 1818, 3) := by decide +kernel
theorem dL_law_316 : decode cL_law 316 = .ok (.aload_n 1, 1) := by decide +kernel
theorem dL_law_317 : decode cL_law 317 = .ok (.aload_n 0, 1) := by decide +kernel
theorem dL_law_318 : decode cL_law 318 = .ok (.iload 4, 2) := by decide +kernel
theorem dL_law_320 : decode cL_law 320 = .ok (.iconst 1, 1) := by decide +kernel
theorem dL_law_321 : decode cL_law 321 = .ok (.iadd, 1) := by decide +kernel
theorem dL_law_322 : decode cL_law 322 = .ok (.iaload, 1) := by decide +kernel
theorem dL_law_323 : decode cL_law 323 = .ok (.aload_n 0, 1) := by decide +kernel
theorem dL_law_324 : decode cL_law 324 = .ok (.iload 4, 2) := by decide +kernel
theorem dL_law_326 : decode cL_law 326 = .ok (.iconst 2, 1) := by decide +kernel
theorem dL_law_327 : decode cL_law 327 = .ok (.iadd, 1) := by decide +kernel
theorem dL_law_328 : decode cL_law 328 = .ok (.iaload, 1) := by decide +kernel
theorem dL_law_329 : decode cL_law 329 = .ok (.aload_n 3, 1) := by decide +kernel
theorem dL_law_330 : decode cL_law 330 = .ok (.invokestatic 133, 3) := by decide +kernel
theorem dL_law_333 : decode cL_law 333 = .ok (.istore 5, 2) := by decide +kernel
theorem dL_law_335 : decode cL_law 335 = .ok (.aload_n 2, 1) := by decide +kernel
theorem dL_law_336 : decode cL_law 336 = .ok (.aload_n 0, 1) := by decide +kernel
theorem dL_law_337 : decode cL_law 337 = .ok (.iload 4, 2) := by decide +kernel
theorem dL_law_339 : decode cL_law 339 = .ok (.iconst 1, 1) := by decide +kernel
theorem dL_law_340 : decode cL_law 340 = .ok (.iadd, 1) := by decide +kernel
theorem dL_law_341 : decode cL_law 341 = .ok (.iaload, 1) := by decide +kernel
theorem dL_law_342 : decode cL_law 342 = .ok (.aload_n 0, 1) := by decide +kernel
theorem dL_law_343 : decode cL_law 343 = .ok (.iload 4, 2) := by decide +kernel
theorem dL_law_345 : decode cL_law 345 = .ok (.iconst 2, 1) := by decide +kernel
theorem dL_law_346 : decode cL_law 346 = .ok (.iadd, 1) := by decide +kernel
theorem dL_law_347 : decode cL_law 347 = .ok (.iaload, 1) := by decide +kernel
theorem dL_law_348 : decode cL_law 348 = .ok (.invokevirtual 136, 3) := by decide +kernel
theorem dL_law_351 : decode cL_law 351 = .ok (.istore 6, 2) := by decide +kernel
theorem dL_law_353 : decode cL_law 353 = .ok (.aload_n 2, 1) := by decide +kernel
theorem dL_law_354 : decode cL_law 354 = .ok (.invokevirtual 126, 3) := by decide +kernel
theorem dL_law_357 : decode cL_law 357 = .ok (.iload 5, 2) := by decide +kernel
theorem dL_law_359 : decode cL_law 359 = .ok (.if_icmp .eq 5, 3) := by decide +kernel
theorem dL_law_362 : decode cL_law 362 = .ok (.iconst 0, 1) := by decide +kernel
theorem dL_law_363 : decode cL_law 363 = .ok (.ireturn, 1) := by decide +kernel
theorem dL_law_364 : decode cL_law 364 = .ok (.iload 5, 2) := by decide +kernel
theorem dL_law_366 : decode cL_law 366 = .ok (.ifCond .ne 15, 3) := by decide +kernel
theorem dL_law_369 : decode cL_law 369 = .ok (.aload_n 3, 1) := by decide +kernel
theorem dL_law_370 : decode cL_law 370 = .ok (.iconst 0, 1) := by decide +kernel
theorem dL_law_371 : decode cL_law 371 = .ok (.laload, 1) := by decide +kernel
theorem dL_law_372 : decode cL_law 372 = .ok (.iload 6, 2) := by decide +kernel
theorem dL_law_374 : decode cL_law 374 = .ok (.i2l, 1) := by decide +kernel
theorem dL_law_375 : decode cL_law 375 = .ok (.lcmp, 1) := by decide +kernel
theorem dL_law_376 : decode cL_law 376 = .ok (.ifCond .eq 5, 3) := by decide +kernel
theorem dL_law_379 : decode cL_law 379 = .ok (.iconst 0, 1) := by decide +kernel
theorem dL_law_380 : decode cL_law 380 = .ok (.ireturn, 1) := by decide +kernel
theorem dL_law_381 : decode cL_law 381 = .ok (.goto 1750, 3) := by decide +kernel
theorem dL_law_384 : decode cL_law 384 = .ok (.aload_n 1, 1) := by decide +kernel
theorem dL_law_385 : decode cL_law 385 = .ok (.aload_n 0, 1) := by decide +kernel
theorem dL_law_386 : decode cL_law 386 = .ok (.iload 4, 2) := by decide +kernel
theorem dL_law_388 : decode cL_law 388 = .ok (.iconst 1, 1) := by decide +kernel
theorem dL_law_389 : decode cL_law 389 = .ok (.iadd, 1) := by decide +kernel
theorem dL_law_390 : decode cL_law 390 = .ok (.iaload, 1) := by decide +kernel
theorem dL_law_391 : decode cL_law 391 = .ok (.aload_n 0, 1) := by decide +kernel
theorem dL_law_392 : decode cL_law 392 = .ok (.iload 4, 2) := by decide +kernel
theorem dL_law_394 : decode cL_law 394 = .ok (.iconst 2, 1) := by decide +kernel
theorem dL_law_395 : decode cL_law 395 = .ok (.iadd, 1) := by decide +kernel
theorem dL_law_396 : decode cL_law 396 = .ok (.iaload, 1) := by decide +kernel
theorem dL_law_397 : decode cL_law 397 = .ok (.aload_n 0, 1) := by decide +kernel
theorem dL_law_398 : decode cL_law 398 = .ok (.iload 4, 2) := by decide +kernel
theorem dL_law_400 : decode cL_law 400 = .ok (.iconst 3, 1) := by decide +kernel
theorem dL_law_401 : decode cL_law 401 = .ok (.iadd, 1) := by decide +kernel
theorem dL_law_402 : decode cL_law 402 = .ok (.iaload, 1) := by decide +kernel
theorem dL_law_403 : decode cL_law 403 = .ok (.aload_n 3, 1) := by decide +kernel
theorem dL_law_404 : decode cL_law 404 = .ok (.invokestatic 137, 3) := by decide +kernel
theorem dL_law_407 : decode cL_law 407 = .ok (.istore 5, 2) := by decide +kernel
theorem dL_law_409 : decode cL_law 409 = .ok (.aload_n 2, 1) := by decide +kernel
theorem dL_law_410 : decode cL_law 410 = .ok (.aload_n 0, 1) := by decide +kernel
theorem dL_law_411 : decode cL_law 411 = .ok (.iload 4, 2) := by decide +kernel
theorem dL_law_413 : decode cL_law 413 = .ok (.iconst 1, 1) := by decide +kernel
theorem dL_law_414 : decode cL_law 414 = .ok (.iadd, 1) := by decide +kernel
theorem dL_law_415 : decode cL_law 415 = .ok (.iaload, 1) := by decide +kernel
theorem dL_law_416 : decode cL_law 416 = .ok (.aload_n 0, 1) := by decide +kernel
theorem dL_law_417 : decode cL_law 417 = .ok (.iload 4, 2) := by decide +kernel
theorem dL_law_419 : decode cL_law 419 = .ok (.iconst 2, 1) := by decide +kernel
theorem dL_law_420 : decode cL_law 420 = .ok (.iadd, 1) := by decide +kernel
theorem dL_law_421 : decode cL_law 421 = .ok (.iaload, 1) := by decide +kernel
theorem dL_law_422 : decode cL_law 422 = .ok (.aload_n 0, 1) := by decide +kernel
theorem dL_law_423 : decode cL_law 423 = .ok (.iload 4, 2) := by decide +kernel
theorem dL_law_425 : decode cL_law 425 = .ok (.iconst 3, 1) := by decide +kernel
theorem dL_law_426 : decode cL_law 426 = .ok (.iadd, 1) := by decide +kernel
theorem dL_law_427 : decode cL_law 427 = .ok (.iaload, 1) := by decide +kernel
theorem dL_law_428 : decode cL_law 428 = .ok (.invokevirtual 140, 3) := by decide +kernel
theorem dL_law_431 : decode cL_law 431 = .ok (.istore 6, 2) := by decide +kernel
theorem dL_law_433 : decode cL_law 433 = .ok (.aload_n 2, 1) := by decide +kernel
theorem dL_law_434 : decode cL_law 434 = .ok (.invokevirtual 126, 3) := by decide +kernel
theorem dL_law_437 : decode cL_law 437 = .ok (.iload 5, 2) := by decide +kernel
theorem dL_law_439 : decode cL_law 439 = .ok (.if_icmp .eq 5, 3) := by decide +kernel
theorem dL_law_442 : decode cL_law 442 = .ok (.iconst 0, 1) := by decide +kernel
theorem dL_law_443 : decode cL_law 443 = .ok (.ireturn, 1) := by decide +kernel
theorem dL_law_444 : decode cL_law 444 = .ok (.iload 5, 2) := by decide +kernel
theorem dL_law_446 : decode cL_law 446 = .ok (.ifCond .ne 15, 3) := by decide +kernel
theorem dL_law_449 : decode cL_law 449 = .ok (.aload_n 3, 1) := by decide +kernel
theorem dL_law_450 : decode cL_law 450 = .ok (.iconst 0, 1) := by decide +kernel
theorem dL_law_451 : decode cL_law 451 = .ok (.laload, 1) := by decide +kernel
theorem dL_law_452 : decode cL_law 452 = .ok (.iload 6, 2) := by decide +kernel
theorem dL_law_454 : decode cL_law 454 = .ok (.i2l, 1) := by decide +kernel
theorem dL_law_455 : decode cL_law 455 = .ok (.lcmp, 1) := by decide +kernel
theorem dL_law_456 : decode cL_law 456 = .ok (.ifCond .eq 5, 3) := by decide +kernel
theorem dL_law_459 : decode cL_law 459 = .ok (.iconst 0, 1) := by decide +kernel
theorem dL_law_460 : decode cL_law 460 = .ok (.ireturn, 1) := by decide +kernel
theorem dL_law_461 : decode cL_law 461 = .ok (.goto 1670, 3) := by decide +kernel
theorem dL_law_464 : decode cL_law 464 = .ok (.aload_n 1, 1) := by decide +kernel
theorem dL_law_465 : decode cL_law 465 = .ok (.aload_n 0, 1) := by decide +kernel
theorem dL_law_466 : decode cL_law 466 = .ok (.iload 4, 2) := by decide +kernel
theorem dL_law_468 : decode cL_law 468 = .ok (.iconst 1, 1) := by decide +kernel
theorem dL_law_469 : decode cL_law 469 = .ok (.iadd, 1) := by decide +kernel
theorem dL_law_470 : decode cL_law 470 = .ok (.iaload, 1) := by decide +kernel
theorem dL_law_471 : decode cL_law 471 = .ok (.aload_n 0, 1) := by decide +kernel
theorem dL_law_472 : decode cL_law 472 = .ok (.iload 4, 2) := by decide +kernel
theorem dL_law_474 : decode cL_law 474 = .ok (.iconst 2, 1) := by decide +kernel
theorem dL_law_475 : decode cL_law 475 = .ok (.iadd, 1) := by decide +kernel
theorem dL_law_476 : decode cL_law 476 = .ok (.iaload, 1) := by decide +kernel
theorem dL_law_477 : decode cL_law 477 = .ok (.aload_n 3, 1) := by decide +kernel
theorem dL_law_478 : decode cL_law 478 = .ok (.invokestatic 141, 3) := by decide +kernel
theorem dL_law_481 : decode cL_law 481 = .ok (.istore 5, 2) := by decide +kernel
theorem dL_law_483 : decode cL_law 483 = .ok (.aload_n 2, 1) := by decide +kernel
theorem dL_law_484 : decode cL_law 484 = .ok (.aload_n 0, 1) := by decide +kernel
theorem dL_law_485 : decode cL_law 485 = .ok (.iload 4, 2) := by decide +kernel
theorem dL_law_487 : decode cL_law 487 = .ok (.iconst 1, 1) := by decide +kernel
theorem dL_law_488 : decode cL_law 488 = .ok (.iadd, 1) := by decide +kernel
theorem dL_law_489 : decode cL_law 489 = .ok (.iaload, 1) := by decide +kernel
theorem dL_law_490 : decode cL_law 490 = .ok (.aload_n 0, 1) := by decide +kernel
theorem dL_law_491 : decode cL_law 491 = .ok (.iload 4, 2) := by decide +kernel
theorem dL_law_493 : decode cL_law 493 = .ok (.iconst 2, 1) := by decide +kernel
theorem dL_law_494 : decode cL_law 494 = .ok (.iadd, 1) := by decide +kernel
theorem dL_law_495 : decode cL_law 495 = .ok (.iaload, 1) := by decide +kernel
theorem dL_law_496 : decode cL_law 496 = .ok (.invokevirtual 143, 3) := by decide +kernel
theorem dL_law_499 : decode cL_law 499 = .ok (.istore 6, 2) := by decide +kernel
theorem dL_law_501 : decode cL_law 501 = .ok (.aload_n 2, 1) := by decide +kernel
theorem dL_law_502 : decode cL_law 502 = .ok (.invokevirtual 126, 3) := by decide +kernel
theorem dL_law_505 : decode cL_law 505 = .ok (.iload 5, 2) := by decide +kernel
theorem dL_law_507 : decode cL_law 507 = .ok (.if_icmp .eq 5, 3) := by decide +kernel
theorem dL_law_510 : decode cL_law 510 = .ok (.iconst 0, 1) := by decide +kernel
theorem dL_law_511 : decode cL_law 511 = .ok (.ireturn, 1) := by decide +kernel
theorem dL_law_512 : decode cL_law 512 = .ok (.iload 5, 2) := by decide +kernel
theorem dL_law_514 : decode cL_law 514 = .ok (.ifCond .ne 15, 3) := by decide +kernel
theorem dL_law_517 : decode cL_law 517 = .ok (.aload_n 3, 1) := by decide +kernel
theorem dL_law_518 : decode cL_law 518 = .ok (.iconst 0, 1) := by decide +kernel
theorem dL_law_519 : decode cL_law 519 = .ok (.laload, 1) := by decide +kernel
theorem dL_law_520 : decode cL_law 520 = .ok (.iload 6, 2) := by decide +kernel
theorem dL_law_522 : decode cL_law 522 = .ok (.i2l, 1) := by decide +kernel
theorem dL_law_523 : decode cL_law 523 = .ok (.lcmp, 1) := by decide +kernel
theorem dL_law_524 : decode cL_law 524 = .ok (.ifCond .eq 5, 3) := by decide +kernel
theorem dL_law_527 : decode cL_law 527 = .ok (.iconst 0, 1) := by decide +kernel
theorem dL_law_528 : decode cL_law 528 = .ok (.ireturn, 1) := by decide +kernel
theorem dL_law_529 : decode cL_law 529 = .ok (.goto 1602, 3) := by decide +kernel
theorem dL_law_532 : decode cL_law 532 = .ok (.aload_n 1, 1) := by decide +kernel
theorem dL_law_533 : decode cL_law 533 = .ok (.aload_n 0, 1) := by decide +kernel
theorem dL_law_534 : decode cL_law 534 = .ok (.iload 4, 2) := by decide +kernel
theorem dL_law_536 : decode cL_law 536 = .ok (.iconst 1, 1) := by decide +kernel
theorem dL_law_537 : decode cL_law 537 = .ok (.iadd, 1) := by decide +kernel
theorem dL_law_538 : decode cL_law 538 = .ok (.iaload, 1) := by decide +kernel
theorem dL_law_539 : decode cL_law 539 = .ok (.aload_n 0, 1) := by decide +kernel
theorem dL_law_540 : decode cL_law 540 = .ok (.iload 4, 2) := by decide +kernel
theorem dL_law_542 : decode cL_law 542 = .ok (.iconst 2, 1) := by decide +kernel
theorem dL_law_543 : decode cL_law 543 = .ok (.iadd, 1) := by decide +kernel
theorem dL_law_544 : decode cL_law 544 = .ok (.iaload, 1) := by decide +kernel
theorem dL_law_545 : decode cL_law 545 = .ok (.aload_n 3, 1) := by decide +kernel
theorem dL_law_546 : decode cL_law 546 = .ok (.invokestatic 144, 3) := by decide +kernel
theorem dL_law_549 : decode cL_law 549 = .ok (.istore 5, 2) := by decide +kernel
theorem dL_law_551 : decode cL_law 551 = .ok (.aload_n 2, 1) := by decide +kernel
theorem dL_law_552 : decode cL_law 552 = .ok (.aload_n 0, 1) := by decide +kernel
theorem dL_law_553 : decode cL_law 553 = .ok (.iload 4, 2) := by decide +kernel
theorem dL_law_555 : decode cL_law 555 = .ok (.iconst 1, 1) := by decide +kernel
theorem dL_law_556 : decode cL_law 556 = .ok (.iadd, 1) := by decide +kernel
theorem dL_law_557 : decode cL_law 557 = .ok (.iaload, 1) := by decide +kernel
theorem dL_law_558 : decode cL_law 558 = .ok (.aload_n 0, 1) := by decide +kernel
theorem dL_law_559 : decode cL_law 559 = .ok (.iload 4, 2) := by decide +kernel
theorem dL_law_561 : decode cL_law 561 = .ok (.iconst 2, 1) := by decide +kernel
theorem dL_law_562 : decode cL_law 562 = .ok (.iadd, 1) := by decide +kernel
theorem dL_law_563 : decode cL_law 563 = .ok (.iaload, 1) := by decide +kernel
theorem dL_law_564 : decode cL_law 564 = .ok (.invokevirtual 146, 3) := by decide +kernel
theorem dL_law_567 : decode cL_law 567 = .ok (.istore 6, 2) := by decide +kernel
theorem dL_law_569 : decode cL_law 569 = .ok (.aload_n 2, 1) := by decide +kernel
theorem dL_law_570 : decode cL_law 570 = .ok (.invokevirtual 126, 3) := by decide +kernel
theorem dL_law_573 : decode cL_law 573 = .ok (.iload 5, 2) := by decide +kernel
theorem dL_law_575 : decode cL_law 575 = .ok (.if_icmp .eq 5, 3) := by decide +kernel
theorem dL_law_578 : decode cL_law 578 = .ok (.iconst 0, 1) := by decide +kernel
theorem dL_law_579 : decode cL_law 579 = .ok (.ireturn, 1) := by decide +kernel
theorem dL_law_580 : decode cL_law 580 = .ok (.iload 5, 2) := by decide +kernel
theorem dL_law_582 : decode cL_law 582 = .ok (.ifCond .ne 15, 3) := by decide +kernel
theorem dL_law_585 : decode cL_law 585 = .ok (.aload_n 3, 1) := by decide +kernel
theorem dL_law_586 : decode cL_law 586 = .ok (.iconst 0, 1) := by decide +kernel
theorem dL_law_587 : decode cL_law 587 = .ok (.laload, 1) := by decide +kernel
theorem dL_law_588 : decode cL_law 588 = .ok (.iload 6, 2) := by decide +kernel
theorem dL_law_590 : decode cL_law 590 = .ok (.i2l, 1) := by decide +kernel
theorem dL_law_591 : decode cL_law 591 = .ok (.lcmp, 1) := by decide +kernel
theorem dL_law_592 : decode cL_law 592 = .ok (.ifCond .eq 5, 3) := by decide +kernel
theorem dL_law_595 : decode cL_law 595 = .ok (.iconst 0, 1) := by decide +kernel
theorem dL_law_596 : decode cL_law 596 = .ok (.ireturn, 1) := by decide +kernel
theorem dL_law_597 : decode cL_law 597 = .ok (.goto 1534, 3) := by decide +kernel
theorem dL_law_600 : decode cL_law 600 = .ok (.aload_n 1, 1) := by decide +kernel
theorem dL_law_601 : decode cL_law 601 = .ok (.aload_n 0, 1) := by decide +kernel
theorem dL_law_602 : decode cL_law 602 = .ok (.iload 4, 2) := by decide +kernel
theorem dL_law_604 : decode cL_law 604 = .ok (.iconst 1, 1) := by decide +kernel
theorem dL_law_605 : decode cL_law 605 = .ok (.iadd, 1) := by decide +kernel
theorem dL_law_606 : decode cL_law 606 = .ok (.iaload, 1) := by decide +kernel
theorem dL_law_607 : decode cL_law 607 = .ok (.aload_n 3, 1) := by decide +kernel
theorem dL_law_608 : decode cL_law 608 = .ok (.invokestatic 147, 3) := by decide +kernel
theorem dL_law_611 : decode cL_law 611 = .ok (.istore 5, 2) := by decide +kernel
theorem dL_law_613 : decode cL_law 613 = .ok (.aload_n 2, 1) := by decide +kernel
theorem dL_law_614 : decode cL_law 614 = .ok (.aload_n 0, 1) := by decide +kernel
theorem dL_law_615 : decode cL_law 615 = .ok (.iload 4, 2) := by decide +kernel
theorem dL_law_617 : decode cL_law 617 = .ok (.iconst 1, 1) := by decide +kernel
theorem dL_law_618 : decode cL_law 618 = .ok (.iadd, 1) := by decide +kernel
theorem dL_law_619 : decode cL_law 619 = .ok (.iaload, 1) := by decide +kernel
theorem dL_law_620 : decode cL_law 620 = .ok (.invokevirtual 150, 3) := by decide +kernel
theorem dL_law_623 : decode cL_law 623 = .ok (.istore 6, 2) := by decide +kernel
theorem dL_law_625 : decode cL_law 625 = .ok (.aload_n 2, 1) := by decide +kernel
theorem dL_law_626 : decode cL_law 626 = .ok (.invokevirtual 126, 3) := by decide +kernel
theorem dL_law_629 : decode cL_law 629 = .ok (.iload 5, 2) := by decide +kernel
theorem dL_law_631 : decode cL_law 631 = .ok (.if_icmp .eq 5, 3) := by decide +kernel
theorem dL_law_634 : decode cL_law 634 = .ok (.iconst 0, 1) := by decide +kernel
theorem dL_law_635 : decode cL_law 635 = .ok (.ireturn, 1) := by decide +kernel
theorem dL_law_636 : decode cL_law 636 = .ok (.iload 5, 2) := by decide +kernel
theorem dL_law_638 : decode cL_law 638 = .ok (.ifCond .ne 15, 3) := by decide +kernel
theorem dL_law_641 : decode cL_law 641 = .ok (.aload_n 3, 1) := by decide +kernel
theorem dL_law_642 : decode cL_law 642 = .ok (.iconst 0, 1) := by decide +kernel
theorem dL_law_643 : decode cL_law 643 = .ok (.laload, 1) := by decide +kernel
theorem dL_law_644 : decode cL_law 644 = .ok (.iload 6, 2) := by decide +kernel
theorem dL_law_646 : decode cL_law 646 = .ok (.i2l, 1) := by decide +kernel
theorem dL_law_647 : decode cL_law 647 = .ok (.lcmp, 1) := by decide +kernel
theorem dL_law_648 : decode cL_law 648 = .ok (.ifCond .eq 5, 3) := by decide +kernel
theorem dL_law_651 : decode cL_law 651 = .ok (.iconst 0, 1) := by decide +kernel
theorem dL_law_652 : decode cL_law 652 = .ok (.ireturn, 1) := by decide +kernel
theorem dL_law_653 : decode cL_law 653 = .ok (.goto 1478, 3) := by decide +kernel
theorem dL_law_656 : decode cL_law 656 = .ok (.aload_n 1, 1) := by decide +kernel
theorem dL_law_657 : decode cL_law 657 = .ok (.aload_n 0, 1) := by decide +kernel
theorem dL_law_658 : decode cL_law 658 = .ok (.iload 4, 2) := by decide +kernel
theorem dL_law_660 : decode cL_law 660 = .ok (.iconst 1, 1) := by decide +kernel
theorem dL_law_661 : decode cL_law 661 = .ok (.iadd, 1) := by decide +kernel
theorem dL_law_662 : decode cL_law 662 = .ok (.iaload, 1) := by decide +kernel
theorem dL_law_663 : decode cL_law 663 = .ok (.aload_n 0, 1) := by decide +kernel
theorem dL_law_664 : decode cL_law 664 = .ok (.iload 4, 2) := by decide +kernel
theorem dL_law_666 : decode cL_law 666 = .ok (.iconst 2, 1) := by decide +kernel
theorem dL_law_667 : decode cL_law 667 = .ok (.iadd, 1) := by decide +kernel
theorem dL_law_668 : decode cL_law 668 = .ok (.iaload, 1) := by decide +kernel
theorem dL_law_669 : decode cL_law 669 = .ok (.aload_n 3, 1) := by decide +kernel
theorem dL_law_670 : decode cL_law 670 = .ok (.invokestatic 151, 3) := by decide +kernel
theorem dL_law_673 : decode cL_law 673 = .ok (.istore 5, 2) := by decide +kernel
theorem dL_law_675 : decode cL_law 675 = .ok (.aload_n 2, 1) := by decide +kernel
theorem dL_law_676 : decode cL_law 676 = .ok (.aload_n 0, 1) := by decide +kernel
theorem dL_law_677 : decode cL_law 677 = .ok (.iload 4, 2) := by decide +kernel
theorem dL_law_679 : decode cL_law 679 = .ok (.iconst 1, 1) := by decide +kernel
theorem dL_law_680 : decode cL_law 680 = .ok (.iadd, 1) := by decide +kernel
theorem dL_law_681 : decode cL_law 681 = .ok (.iaload, 1) := by decide +kernel
theorem dL_law_682 : decode cL_law 682 = .ok (.aload_n 0, 1) := by decide +kernel
theorem dL_law_683 : decode cL_law 683 = .ok (.iload 4, 2) := by decide +kernel
theorem dL_law_685 : decode cL_law 685 = .ok (.iconst 2, 1) := by decide +kernel
theorem dL_law_686 : decode cL_law 686 = .ok (.iadd, 1) := by decide +kernel
theorem dL_law_687 : decode cL_law 687 = .ok (.iaload, 1) := by decide +kernel
theorem dL_law_688 : decode cL_law 688 = .ok (.invokevirtual 153, 3) := by decide +kernel
theorem dL_law_691 : decode cL_law 691 = .ok (.istore 6, 2) := by decide +kernel
theorem dL_law_693 : decode cL_law 693 = .ok (.aload_n 2, 1) := by decide +kernel
theorem dL_law_694 : decode cL_law 694 = .ok (.invokevirtual 126, 3) := by decide +kernel
theorem dL_law_697 : decode cL_law 697 = .ok (.iload 5, 2) := by decide +kernel
theorem dL_law_699 : decode cL_law 699 = .ok (.if_icmp .eq 5, 3) := by decide +kernel
theorem dL_law_702 : decode cL_law 702 = .ok (.iconst 0, 1) := by decide +kernel
theorem dL_law_703 : decode cL_law 703 = .ok (.ireturn, 1) := by decide +kernel
theorem dL_law_704 : decode cL_law 704 = .ok (.iload 5, 2) := by decide +kernel
theorem dL_law_706 : decode cL_law 706 = .ok (.ifCond .ne 15, 3) := by decide +kernel
theorem dL_law_709 : decode cL_law 709 = .ok (.aload_n 3, 1) := by decide +kernel
theorem dL_law_710 : decode cL_law 710 = .ok (.iconst 0, 1) := by decide +kernel
theorem dL_law_711 : decode cL_law 711 = .ok (.laload, 1) := by decide +kernel
theorem dL_law_712 : decode cL_law 712 = .ok (.iload 6, 2) := by decide +kernel
theorem dL_law_714 : decode cL_law 714 = .ok (.i2l, 1) := by decide +kernel
theorem dL_law_715 : decode cL_law 715 = .ok (.lcmp, 1) := by decide +kernel
theorem dL_law_716 : decode cL_law 716 = .ok (.ifCond .eq 5, 3) := by decide +kernel
theorem dL_law_719 : decode cL_law 719 = .ok (.iconst 0, 1) := by decide +kernel
theorem dL_law_720 : decode cL_law 720 = .ok (.ireturn, 1) := by decide +kernel
theorem dL_law_721 : decode cL_law 721 = .ok (.goto 1410, 3) := by decide +kernel
theorem dL_law_724 : decode cL_law 724 = .ok (.aload_n 1, 1) := by decide +kernel
theorem dL_law_725 : decode cL_law 725 = .ok (.aload_n 0, 1) := by decide +kernel
theorem dL_law_726 : decode cL_law 726 = .ok (.iload 4, 2) := by decide +kernel
theorem dL_law_728 : decode cL_law 728 = .ok (.iconst 1, 1) := by decide +kernel
theorem dL_law_729 : decode cL_law 729 = .ok (.iadd, 1) := by decide +kernel
theorem dL_law_730 : decode cL_law 730 = .ok (.iaload, 1) := by decide +kernel
theorem dL_law_731 : decode cL_law 731 = .ok (.aload_n 3, 1) := by decide +kernel
theorem dL_law_732 : decode cL_law 732 = .ok (.invokestatic 154, 3) := by decide +kernel
theorem dL_law_735 : decode cL_law 735 = .ok (.istore 5, 2) := by decide +kernel
theorem dL_law_737 : decode cL_law 737 = .ok (.aload_n 2, 1) := by decide +kernel
theorem dL_law_738 : decode cL_law 738 = .ok (.aload_n 0, 1) := by decide +kernel
theorem dL_law_739 : decode cL_law 739 = .ok (.iload 4, 2) := by decide +kernel
theorem dL_law_741 : decode cL_law 741 = .ok (.iconst 1, 1) := by decide +kernel
theorem dL_law_742 : decode cL_law 742 = .ok (.iadd, 1) := by decide +kernel
theorem dL_law_743 : decode cL_law 743 = .ok (.iaload, 1) := by decide +kernel
theorem dL_law_744 : decode cL_law 744 = .ok (.invokevirtual 156, 3) := by decide +kernel
theorem dL_law_747 : decode cL_law 747 = .ok (.istore 6, 2) := by decide +kernel
theorem dL_law_749 : decode cL_law 749 = .ok (.aload_n 2, 1) := by decide +kernel
theorem dL_law_750 : decode cL_law 750 = .ok (.invokevirtual 126, 3) := by decide +kernel
theorem dL_law_753 : decode cL_law 753 = .ok (.iload 5, 2) := by decide +kernel
theorem dL_law_755 : decode cL_law 755 = .ok (.if_icmp .eq 5, 3) := by decide +kernel
theorem dL_law_758 : decode cL_law 758 = .ok (.iconst 0, 1) := by decide +kernel
theorem dL_law_759 : decode cL_law 759 = .ok (.ireturn, 1) := by decide +kernel
theorem dL_law_760 : decode cL_law 760 = .ok (.iload 5, 2) := by decide +kernel
theorem dL_law_762 : decode cL_law 762 = .ok (.ifCond .ne 15, 3) := by decide +kernel
theorem dL_law_765 : decode cL_law 765 = .ok (.aload_n 3, 1) := by decide +kernel
theorem dL_law_766 : decode cL_law 766 = .ok (.iconst 0, 1) := by decide +kernel
theorem dL_law_767 : decode cL_law 767 = .ok (.laload, 1) := by decide +kernel
theorem dL_law_768 : decode cL_law 768 = .ok (.iload 6, 2) := by decide +kernel
theorem dL_law_770 : decode cL_law 770 = .ok (.i2l, 1) := by decide +kernel
theorem dL_law_771 : decode cL_law 771 = .ok (.lcmp, 1) := by decide +kernel
theorem dL_law_772 : decode cL_law 772 = .ok (.ifCond .eq 5, 3) := by decide +kernel
theorem dL_law_775 : decode cL_law 775 = .ok (.iconst 0, 1) := by decide +kernel
theorem dL_law_776 : decode cL_law 776 = .ok (.ireturn, 1) := by decide +kernel
theorem dL_law_777 : decode cL_law 777 = .ok (.goto 1354, 3) := by decide +kernel
theorem dL_law_780 : decode cL_law 780 = .ok (.aload_n 1, 1) := by decide +kernel
theorem dL_law_781 : decode cL_law 781 = .ok (.aload_n 0, 1) := by decide +kernel
theorem dL_law_782 : decode cL_law 782 = .ok (.iload 4, 2) := by decide +kernel
theorem dL_law_784 : decode cL_law 784 = .ok (.iconst 1, 1) := by decide +kernel
theorem dL_law_785 : decode cL_law 785 = .ok (.iadd, 1) := by decide +kernel
theorem dL_law_786 : decode cL_law 786 = .ok (.iaload, 1) := by decide +kernel
theorem dL_law_787 : decode cL_law 787 = .ok (.aload_n 0, 1) := by decide +kernel
theorem dL_law_788 : decode cL_law 788 = .ok (.iload 4, 2) := by decide +kernel
theorem dL_law_790 : decode cL_law 790 = .ok (.iconst 2, 1) := by decide +kernel
theorem dL_law_791 : decode cL_law 791 = .ok (.iadd, 1) := by decide +kernel
theorem dL_law_792 : decode cL_law 792 = .ok (.iaload, 1) := by decide +kernel
theorem dL_law_793 : decode cL_law 793 = .ok (.aload_n 0, 1) := by decide +kernel
theorem dL_law_794 : decode cL_law 794 = .ok (.iload 4, 2) := by decide +kernel
theorem dL_law_796 : decode cL_law 796 = .ok (.iconst 3, 1) := by decide +kernel
theorem dL_law_797 : decode cL_law 797 = .ok (.iadd, 1) := by decide +kernel
theorem dL_law_798 : decode cL_law 798 = .ok (.iaload, 1) := by decide +kernel
theorem dL_law_799 : decode cL_law 799 = .ok (.invokestatic 157, 3) := by decide +kernel
theorem dL_law_802 : decode cL_law 802 = .ok (.istore 5, 2) := by decide +kernel
theorem dL_law_804 : decode cL_law 804 = .ok (.aload_n 2, 1) := by decide +kernel
theorem dL_law_805 : decode cL_law 805 = .ok (.aload_n 0, 1) := by decide +kernel
theorem dL_law_806 : decode cL_law 806 = .ok (.iload 4, 2) := by decide +kernel
theorem dL_law_808 : decode cL_law 808 = .ok (.iconst 1, 1) := by decide +kernel
theorem dL_law_809 : decode cL_law 809 = .ok (.iadd, 1) := by decide +kernel
theorem dL_law_810 : decode cL_law 810 = .ok (.iaload, 1) := by decide +kernel
theorem dL_law_811 : decode cL_law 811 = .ok (.aload_n 0, 1) := by decide +kernel
theorem dL_law_812 : decode cL_law 812 = .ok (.iload 4, 2) := by decide +kernel
theorem dL_law_814 : decode cL_law 814 = .ok (.iconst 2, 1) := by decide +kernel
theorem dL_law_815 : decode cL_law 815 = .ok (.iadd, 1) := by decide +kernel
theorem dL_law_816 : decode cL_law 816 = .ok (.iaload, 1) := by decide +kernel
theorem dL_law_817 : decode cL_law 817 = .ok (.aload_n 0, 1) := by decide +kernel
theorem dL_law_818 : decode cL_law 818 = .ok (.iload 4, 2) := by decide +kernel
theorem dL_law_820 : decode cL_law 820 = .ok (.iconst 3, 1) := by decide +kernel
theorem dL_law_821 : decode cL_law 821 = .ok (.iadd, 1) := by decide +kernel
theorem dL_law_822 : decode cL_law 822 = .ok (.iaload, 1) := by decide +kernel
theorem dL_law_823 : decode cL_law 823 = .ok (.invokevirtual 160, 3) := by decide +kernel
theorem dL_law_826 : decode cL_law 826 = .ok (.aload_n 2, 1) := by decide +kernel
theorem dL_law_827 : decode cL_law 827 = .ok (.invokevirtual 126, 3) := by decide +kernel
theorem dL_law_830 : decode cL_law 830 = .ok (.iload 5, 2) := by decide +kernel
theorem dL_law_832 : decode cL_law 832 = .ok (.if_icmp .eq 5, 3) := by decide +kernel
theorem dL_law_835 : decode cL_law 835 = .ok (.iconst 0, 1) := by decide +kernel
theorem dL_law_836 : decode cL_law 836 = .ok (.ireturn, 1) := by decide +kernel
theorem dL_law_837 : decode cL_law 837 = .ok (.goto 1294, 3) := by decide +kernel
theorem dL_law_840 : decode cL_law 840 = .ok (.aload_n 1, 1) := by decide +kernel
theorem dL_law_841 : decode cL_law 841 = .ok (.aload_n 0, 1) := by decide +kernel
theorem dL_law_842 : decode cL_law 842 = .ok (.iload 4, 2) := by decide +kernel
theorem dL_law_844 : decode cL_law 844 = .ok (.iconst 1, 1) := by decide +kernel
theorem dL_law_845 : decode cL_law 845 = .ok (.iadd, 1) := by decide +kernel
theorem dL_law_846 : decode cL_law 846 = .ok (.iaload, 1) := by decide +kernel
theorem dL_law_847 : decode cL_law 847 = .ok (.aload_n 0, 1) := by decide +kernel
theorem dL_law_848 : decode cL_law 848 = .ok (.iload 4, 2) := by decide +kernel
theorem dL_law_850 : decode cL_law 850 = .ok (.iconst 2, 1) := by decide +kernel
theorem dL_law_851 : decode cL_law 851 = .ok (.iadd, 1) := by decide +kernel
theorem dL_law_852 : decode cL_law 852 = .ok (.iaload, 1) := by decide +kernel
theorem dL_law_853 : decode cL_law 853 = .ok (.aload_n 0, 1) := by decide +kernel
theorem dL_law_854 : decode cL_law 854 = .ok (.iload 4, 2) := by decide +kernel
theorem dL_law_856 : decode cL_law 856 = .ok (.iconst 3, 1) := by decide +kernel
theorem dL_law_857 : decode cL_law 857 = .ok (.iadd, 1) := by decide +kernel
theorem dL_law_858 : decode cL_law 858 = .ok (.iaload, 1) := by decide +kernel
theorem dL_law_859 : decode cL_law 859 = .ok (.i2b, 1) := by decide +kernel
theorem dL_law_860 : decode cL_law 860 = .ok (.aload_n 3, 1) := by decide +kernel
theorem dL_law_861 : decode cL_law 861 = .ok (.invokestatic 161, 3) := by decide +kernel
theorem dL_law_864 : decode cL_law 864 = .ok (.istore 5, 2) := by decide +kernel
theorem dL_law_866 : decode cL_law 866 = .ok (.aload_n 2, 1) := by decide +kernel
theorem dL_law_867 : decode cL_law 867 = .ok (.aload_n 0, 1) := by decide +kernel
theorem dL_law_868 : decode cL_law 868 = .ok (.iload 4, 2) := by decide +kernel
theorem dL_law_870 : decode cL_law 870 = .ok (.iconst 1, 1) := by decide +kernel
theorem dL_law_871 : decode cL_law 871 = .ok (.iadd, 1) := by decide +kernel
theorem dL_law_872 : decode cL_law 872 = .ok (.iaload, 1) := by decide +kernel
theorem dL_law_873 : decode cL_law 873 = .ok (.aload_n 0, 1) := by decide +kernel
theorem dL_law_874 : decode cL_law 874 = .ok (.iload 4, 2) := by decide +kernel
theorem dL_law_876 : decode cL_law 876 = .ok (.iconst 2, 1) := by decide +kernel
theorem dL_law_877 : decode cL_law 877 = .ok (.iadd, 1) := by decide +kernel
theorem dL_law_878 : decode cL_law 878 = .ok (.iaload, 1) := by decide +kernel
theorem dL_law_879 : decode cL_law 879 = .ok (.aload_n 0, 1) := by decide +kernel
theorem dL_law_880 : decode cL_law 880 = .ok (.iload 4, 2) := by decide +kernel
theorem dL_law_882 : decode cL_law 882 = .ok (.iconst 3, 1) := by decide +kernel
theorem dL_law_883 : decode cL_law 883 = .ok (.iadd, 1) := by decide +kernel
theorem dL_law_884 : decode cL_law 884 = .ok (.iaload, 1) := by decide +kernel
theorem dL_law_885 : decode cL_law 885 = .ok (.i2b, 1) := by decide +kernel
theorem dL_law_886 : decode cL_law 886 = .ok (.invokevirtual 164, 3) := by decide +kernel
theorem dL_law_889 : decode cL_law 889 = .ok (.istore 6, 2) := by decide +kernel
theorem dL_law_891 : decode cL_law 891 = .ok (.aload_n 2, 1) := by decide +kernel
theorem dL_law_892 : decode cL_law 892 = .ok (.invokevirtual 126, 3) := by decide +kernel
theorem dL_law_895 : decode cL_law 895 = .ok (.iload 5, 2) := by decide +kernel
theorem dL_law_897 : decode cL_law 897 = .ok (.if_icmp .eq 5, 3) := by decide +kernel
theorem dL_law_900 : decode cL_law 900 = .ok (.iconst 0, 1) := by decide +kernel
theorem dL_law_901 : decode cL_law 901 = .ok (.ireturn, 1) := by decide +kernel
theorem dL_law_902 : decode cL_law 902 = .ok (.iload 5, 2) := by decide +kernel
theorem dL_law_904 : decode cL_law 904 = .ok (.ifCond .ne 15, 3) := by decide +kernel
theorem dL_law_907 : decode cL_law 907 = .ok (.aload_n 3, 1) := by decide +kernel
theorem dL_law_908 : decode cL_law 908 = .ok (.iconst 0, 1) := by decide +kernel
theorem dL_law_909 : decode cL_law 909 = .ok (.laload, 1) := by decide +kernel
theorem dL_law_910 : decode cL_law 910 = .ok (.iload 6, 2) := by decide +kernel
theorem dL_law_912 : decode cL_law 912 = .ok (.i2l, 1) := by decide +kernel
theorem dL_law_913 : decode cL_law 913 = .ok (.lcmp, 1) := by decide +kernel
theorem dL_law_914 : decode cL_law 914 = .ok (.ifCond .eq 5, 3) := by decide +kernel
theorem dL_law_917 : decode cL_law 917 = .ok (.iconst 0, 1) := by decide +kernel
theorem dL_law_918 : decode cL_law 918 = .ok (.ireturn, 1) := by decide +kernel
theorem dL_law_919 : decode cL_law 919 = .ok (.goto 1212, 3) := by decide +kernel
theorem dL_law_922 : decode cL_law 922 = .ok (.aload_n 1, 1) := by decide +kernel
theorem dL_law_923 : decode cL_law 923 = .ok (.aload_n 0, 1) := by decide +kernel
theorem dL_law_924 : decode cL_law 924 = .ok (.iload 4, 2) := by decide +kernel
theorem dL_law_926 : decode cL_law 926 = .ok (.iconst 1, 1) := by decide +kernel
theorem dL_law_927 : decode cL_law 927 = .ok (.iadd, 1) := by decide +kernel
theorem dL_law_928 : decode cL_law 928 = .ok (.iaload, 1) := by decide +kernel
theorem dL_law_929 : decode cL_law 929 = .ok (.aload_n 0, 1) := by decide +kernel
theorem dL_law_930 : decode cL_law 930 = .ok (.iload 4, 2) := by decide +kernel
theorem dL_law_932 : decode cL_law 932 = .ok (.iconst 2, 1) := by decide +kernel
theorem dL_law_933 : decode cL_law 933 = .ok (.iadd, 1) := by decide +kernel
theorem dL_law_934 : decode cL_law 934 = .ok (.iaload, 1) := by decide +kernel
theorem dL_law_935 : decode cL_law 935 = .ok (.aload_n 0, 1) := by decide +kernel
theorem dL_law_936 : decode cL_law 936 = .ok (.iload 4, 2) := by decide +kernel
theorem dL_law_938 : decode cL_law 938 = .ok (.iconst 3, 1) := by decide +kernel
theorem dL_law_939 : decode cL_law 939 = .ok (.iadd, 1) := by decide +kernel
theorem dL_law_940 : decode cL_law 940 = .ok (.iaload, 1) := by decide +kernel
theorem dL_law_941 : decode cL_law 941 = .ok (.aload_n 3, 1) := by decide +kernel
theorem dL_law_942 : decode cL_law 942 = .ok (.invokestatic 165, 3) := by decide +kernel
theorem dL_law_945 : decode cL_law 945 = .ok (.istore 5, 2) := by decide +kernel
theorem dL_law_947 : decode cL_law 947 = .ok (.aload_n 2, 1) := by decide +kernel
theorem dL_law_948 : decode cL_law 948 = .ok (.aload_n 0, 1) := by decide +kernel
theorem dL_law_949 : decode cL_law 949 = .ok (.iload 4, 2) := by decide +kernel
theorem dL_law_951 : decode cL_law 951 = .ok (.iconst 1, 1) := by decide +kernel
theorem dL_law_952 : decode cL_law 952 = .ok (.iadd, 1) := by decide +kernel
theorem dL_law_953 : decode cL_law 953 = .ok (.iaload, 1) := by decide +kernel
theorem dL_law_954 : decode cL_law 954 = .ok (.aload_n 0, 1) := by decide +kernel
theorem dL_law_955 : decode cL_law 955 = .ok (.iload 4, 2) := by decide +kernel
theorem dL_law_957 : decode cL_law 957 = .ok (.iconst 2, 1) := by decide +kernel
theorem dL_law_958 : decode cL_law 958 = .ok (.iadd, 1) := by decide +kernel
theorem dL_law_959 : decode cL_law 959 = .ok (.iaload, 1) := by decide +kernel
theorem dL_law_960 : decode cL_law 960 = .ok (.aload_n 0, 1) := by decide +kernel
theorem dL_law_961 : decode cL_law 961 = .ok (.iload 4, 2) := by decide +kernel
theorem dL_law_963 : decode cL_law 963 = .ok (.iconst 3, 1) := by decide +kernel
theorem dL_law_964 : decode cL_law 964 = .ok (.iadd, 1) := by decide +kernel
theorem dL_law_965 : decode cL_law 965 = .ok (.iaload, 1) := by decide +kernel
theorem dL_law_966 : decode cL_law 966 = .ok (.invokevirtual 167, 3) := by decide +kernel
theorem dL_law_969 : decode cL_law 969 = .ok (.istore 6, 2) := by decide +kernel
theorem dL_law_971 : decode cL_law 971 = .ok (.aload_n 2, 1) := by decide +kernel
theorem dL_law_972 : decode cL_law 972 = .ok (.invokevirtual 126, 3) := by decide +kernel
theorem dL_law_975 : decode cL_law 975 = .ok (.iload 5, 2) := by decide +kernel
theorem dL_law_977 : decode cL_law 977 = .ok (.if_icmp .eq 5, 3) := by decide +kernel
theorem dL_law_980 : decode cL_law 980 = .ok (.iconst 0, 1) := by decide +kernel
theorem dL_law_981 : decode cL_law 981 = .ok (.ireturn, 1) := by decide +kernel
theorem dL_law_982 : decode cL_law 982 = .ok (.iload 5, 2) := by decide +kernel
theorem dL_law_984 : decode cL_law 984 = .ok (.ifCond .ne 15, 3) := by decide +kernel
theorem dL_law_987 : decode cL_law 987 = .ok (.aload_n 3, 1) := by decide +kernel
theorem dL_law_988 : decode cL_law 988 = .ok (.iconst 0, 1) := by decide +kernel
theorem dL_law_989 : decode cL_law 989 = .ok (.laload, 1) := by decide +kernel
theorem dL_law_990 : decode cL_law 990 = .ok (.iload 6, 2) := by decide +kernel
theorem dL_law_992 : decode cL_law 992 = .ok (.i2l, 1) := by decide +kernel
theorem dL_law_993 : decode cL_law 993 = .ok (.lcmp, 1) := by decide +kernel
theorem dL_law_994 : decode cL_law 994 = .ok (.ifCond .eq 5, 3) := by decide +kernel
theorem dL_law_997 : decode cL_law 997 = .ok (.iconst 0, 1) := by decide +kernel
theorem dL_law_998 : decode cL_law 998 = .ok (.ireturn, 1) := by decide +kernel
theorem dL_law_999 : decode cL_law 999 = .ok (.goto 1132, 3) := by decide +kernel
theorem dL_law_1002 : decode cL_law 1002 = .ok (.aload_n 1, 1) := by decide +kernel
theorem dL_law_1003 : decode cL_law 1003 = .ok (.aload_n 0, 1) := by decide +kernel
theorem dL_law_1004 : decode cL_law 1004 = .ok (.iload 4, 2) := by decide +kernel
theorem dL_law_1006 : decode cL_law 1006 = .ok (.iconst 1, 1) := by decide +kernel
theorem dL_law_1007 : decode cL_law 1007 = .ok (.iadd, 1) := by decide +kernel
theorem dL_law_1008 : decode cL_law 1008 = .ok (.iaload, 1) := by decide +kernel
theorem dL_law_1009 : decode cL_law 1009 = .ok (.aload_n 0, 1) := by decide +kernel
theorem dL_law_1010 : decode cL_law 1010 = .ok (.iload 4, 2) := by decide +kernel
theorem dL_law_1012 : decode cL_law 1012 = .ok (.iconst 2, 1) := by decide +kernel
theorem dL_law_1013 : decode cL_law 1013 = .ok (.iadd, 1) := by decide +kernel
theorem dL_law_1014 : decode cL_law 1014 = .ok (.iaload, 1) := by decide +kernel
theorem dL_law_1015 : decode cL_law 1015 = .ok (.aload_n 3, 1) := by decide +kernel
theorem dL_law_1016 : decode cL_law 1016 = .ok (.invokestatic 168, 3) := by decide +kernel
theorem dL_law_1019 : decode cL_law 1019 = .ok (.istore 5, 2) := by decide +kernel
theorem dL_law_1021 : decode cL_law 1021 = .ok (.aload_n 2, 1) := by decide +kernel
theorem dL_law_1022 : decode cL_law 1022 = .ok (.aload_n 0, 1) := by decide +kernel
theorem dL_law_1023 : decode cL_law 1023 = .ok (.iload 4, 2) := by decide +kernel
theorem dL_law_1025 : decode cL_law 1025 = .ok (.iconst 1, 1) := by decide +kernel
theorem dL_law_1026 : decode cL_law 1026 = .ok (.iadd, 1) := by decide +kernel
theorem dL_law_1027 : decode cL_law 1027 = .ok (.iaload, 1) := by decide +kernel
theorem dL_law_1028 : decode cL_law 1028 = .ok (.aload_n 0, 1) := by decide +kernel
theorem dL_law_1029 : decode cL_law 1029 = .ok (.iload 4, 2) := by decide +kernel
theorem dL_law_1031 : decode cL_law 1031 = .ok (.iconst 2, 1) := by decide +kernel
theorem dL_law_1032 : decode cL_law 1032 = .ok (.iadd, 1) := by decide +kernel
theorem dL_law_1033 : decode cL_law 1033 = .ok (.iaload, 1) := by decide +kernel
theorem dL_law_1034 : decode cL_law 1034 = .ok (.invokevirtual 170, 3) := by decide +kernel
theorem dL_law_1037 : decode cL_law 1037 = .ok (.istore 6, 2) := by decide +kernel
theorem dL_law_1039 : decode cL_law 1039 = .ok (.aload_n 2, 1) := by decide +kernel
theorem dL_law_1040 : decode cL_law 1040 = .ok (.invokevirtual 126, 3) := by decide +kernel
theorem dL_law_1043 : decode cL_law 1043 = .ok (.iload 5, 2) := by decide +kernel
theorem dL_law_1045 : decode cL_law 1045 = .ok (.if_icmp .eq 5, 3) := by decide +kernel
theorem dL_law_1048 : decode cL_law 1048 = .ok (.iconst 0, 1) := by decide +kernel
theorem dL_law_1049 : decode cL_law 1049 = .ok (.ireturn, 1) := by decide +kernel
theorem dL_law_1050 : decode cL_law 1050 = .ok (.iload 5, 2) := by decide +kernel
theorem dL_law_1052 : decode cL_law 1052 = .ok (.ifCond .ne 15, 3) := by decide +kernel
theorem dL_law_1055 : decode cL_law 1055 = .ok (.aload_n 3, 1) := by decide +kernel
theorem dL_law_1056 : decode cL_law 1056 = .ok (.iconst 0, 1) := by decide +kernel
theorem dL_law_1057 : decode cL_law 1057 = .ok (.laload, 1) := by decide +kernel
theorem dL_law_1058 : decode cL_law 1058 = .ok (.iload 6, 2) := by decide +kernel
theorem dL_law_1060 : decode cL_law 1060 = .ok (.i2l, 1) := by decide +kernel
theorem dL_law_1061 : decode cL_law 1061 = .ok (.lcmp, 1) := by decide +kernel
theorem dL_law_1062 : decode cL_law 1062 = .ok (.ifCond .eq 5, 3) := by decide +kernel
theorem dL_law_1065 : decode cL_law 1065 = .ok (.iconst 0, 1) := by decide +kernel
theorem dL_law_1066 : decode cL_law 1066 = .ok (.ireturn, 1) := by decide +kernel
theorem dL_law_1067 : decode cL_law 1067 = .ok (.goto 1064, 3) := by decide +kernel
theorem dL_law_1070 : decode cL_law 1070 = .ok (.aload_n 1, 1) := by decide +kernel
theorem dL_law_1071 : decode cL_law 1071 = .ok (.aload_n 0, 1) := by decide +kernel
theorem dL_law_1072 : decode cL_law 1072 = .ok (.iload 4, 2) := by decide +kernel
theorem dL_law_1074 : decode cL_law 1074 = .ok (.iconst 1, 1) := by decide +kernel
theorem dL_law_1075 : decode cL_law 1075 = .ok (.iadd, 1) := by decide +kernel
theorem dL_law_1076 : decode cL_law 1076 = .ok (.iaload, 1) := by decide +kernel
theorem dL_law_1077 : decode cL_law 1077 = .ok (.aload_n 3, 1) := by decide +kernel
theorem dL_law_1078 : decode cL_law 1078 = .ok (.invokestatic 171, 3) := by decide +kernel
theorem dL_law_1081 : decode cL_law 1081 = .ok (.istore 5, 2) := by decide +kernel
theorem dL_law_1083 : decode cL_law 1083 = .ok (.aload_n 2, 1) := by decide +kernel
theorem dL_law_1084 : decode cL_law 1084 = .ok (.aload_n 0, 1) := by decide +kernel
theorem dL_law_1085 : decode cL_law 1085 = .ok (.iload 4, 2) := by decide +kernel
theorem dL_law_1087 : decode cL_law 1087 = .ok (.iconst 1, 1) := by decide +kernel
theorem dL_law_1088 : decode cL_law 1088 = .ok (.iadd, 1) := by decide +kernel
theorem dL_law_1089 : decode cL_law 1089 = .ok (.iaload, 1) := by decide +kernel
theorem dL_law_1090 : decode cL_law 1090 = .ok (.invokevirtual 173, 3) := by decide +kernel
theorem dL_law_1093 : decode cL_law 1093 = .ok (.istore 6, 2) := by decide +kernel
theorem dL_law_1095 : decode cL_law 1095 = .ok (.aload_n 2, 1) := by decide +kernel
theorem dL_law_1096 : decode cL_law 1096 = .ok (.invokevirtual 126, 3) := by decide +kernel
theorem dL_law_1099 : decode cL_law 1099 = .ok (.iload 5, 2) := by decide +kernel
theorem dL_law_1101 : decode cL_law 1101 = .ok (.if_icmp .eq 5, 3) := by decide +kernel
theorem dL_law_1104 : decode cL_law 1104 = .ok (.iconst 0, 1) := by decide +kernel
theorem dL_law_1105 : decode cL_law 1105 = .ok (.ireturn, 1) := by decide +kernel
theorem dL_law_1106 : decode cL_law 1106 = .ok (.iload 5, 2) := by decide +kernel
theorem dL_law_1108 : decode cL_law 1108 = .ok (.ifCond .ne 15, 3) := by decide +kernel
theorem dL_law_1111 : decode cL_law 1111 = .ok (.aload_n 3, 1) := by decide +kernel
theorem dL_law_1112 : decode cL_law 1112 = .ok (.iconst 0, 1) := by decide +kernel
theorem dL_law_1113 : decode cL_law 1113 = .ok (.laload, 1) := by decide +kernel
theorem dL_law_1114 : decode cL_law 1114 = .ok (.iload 6, 2) := by decide +kernel
theorem dL_law_1116 : decode cL_law 1116 = .ok (.i2l, 1) := by decide +kernel
theorem dL_law_1117 : decode cL_law 1117 = .ok (.lcmp, 1) := by decide +kernel
theorem dL_law_1118 : decode cL_law 1118 = .ok (.ifCond .eq 5, 3) := by decide +kernel
theorem dL_law_1121 : decode cL_law 1121 = .ok (.iconst 0, 1) := by decide +kernel
theorem dL_law_1122 : decode cL_law 1122 = .ok (.ireturn, 1) := by decide +kernel
theorem dL_law_1123 : decode cL_law 1123 = .ok (.goto 1008, 3) := by decide +kernel
theorem dL_law_1126 : decode cL_law 1126 = .ok (.aload_n 1, 1) := by decide +kernel
theorem dL_law_1127 : decode cL_law 1127 = .ok (.aload_n 0, 1) := by decide +kernel
theorem dL_law_1128 : decode cL_law 1128 = .ok (.iload 4, 2) := by decide +kernel
theorem dL_law_1130 : decode cL_law 1130 = .ok (.iconst 1, 1) := by decide +kernel
theorem dL_law_1131 : decode cL_law 1131 = .ok (.iadd, 1) := by decide +kernel
theorem dL_law_1132 : decode cL_law 1132 = .ok (.iaload, 1) := by decide +kernel
theorem dL_law_1133 : decode cL_law 1133 = .ok (.aload_n 0, 1) := by decide +kernel
theorem dL_law_1134 : decode cL_law 1134 = .ok (.iload 4, 2) := by decide +kernel
theorem dL_law_1136 : decode cL_law 1136 = .ok (.iconst 2, 1) := by decide +kernel
theorem dL_law_1137 : decode cL_law 1137 = .ok (.iadd, 1) := by decide +kernel
theorem dL_law_1138 : decode cL_law 1138 = .ok (.iaload, 1) := by decide +kernel
theorem dL_law_1139 : decode cL_law 1139 = .ok (.aload_n 3, 1) := by decide +kernel
theorem dL_law_1140 : decode cL_law 1140 = .ok (.invokestatic 174, 3) := by decide +kernel
theorem dL_law_1143 : decode cL_law 1143 = .ok (.istore 5, 2) := by decide +kernel
theorem dL_law_1145 : decode cL_law 1145 = .ok (.aload_n 2, 1) := by decide +kernel
theorem dL_law_1146 : decode cL_law 1146 = .ok (.aload_n 0, 1) := by decide +kernel
theorem dL_law_1147 : decode cL_law 1147 = .ok (.iload 4, 2) := by decide +kernel
theorem dL_law_1149 : decode cL_law 1149 = .ok (.iconst 1, 1) := by decide +kernel
theorem dL_law_1150 : decode cL_law 1150 = .ok (.iadd, 1) := by decide +kernel
theorem dL_law_1151 : decode cL_law 1151 = .ok (.iaload, 1) := by decide +kernel
theorem dL_law_1152 : decode cL_law 1152 = .ok (.aload_n 0, 1) := by decide +kernel
theorem dL_law_1153 : decode cL_law 1153 = .ok (.iload 4, 2) := by decide +kernel
theorem dL_law_1155 : decode cL_law 1155 = .ok (.iconst 2, 1) := by decide +kernel
theorem dL_law_1156 : decode cL_law 1156 = .ok (.iadd, 1) := by decide +kernel
theorem dL_law_1157 : decode cL_law 1157 = .ok (.iaload, 1) := by decide +kernel
theorem dL_law_1158 : decode cL_law 1158 = .ok (.invokevirtual 176, 3) := by decide +kernel
theorem dL_law_1161 : decode cL_law 1161 = .ok (.istore 6, 2) := by decide +kernel
theorem dL_law_1163 : decode cL_law 1163 = .ok (.aload_n 2, 1) := by decide +kernel
theorem dL_law_1164 : decode cL_law 1164 = .ok (.invokevirtual 126, 3) := by decide +kernel
theorem dL_law_1167 : decode cL_law 1167 = .ok (.iload 5, 2) := by decide +kernel
theorem dL_law_1169 : decode cL_law 1169 = .ok (.if_icmp .eq 5, 3) := by decide +kernel
theorem dL_law_1172 : decode cL_law 1172 = .ok (.iconst 0, 1) := by decide +kernel
theorem dL_law_1173 : decode cL_law 1173 = .ok (.ireturn, 1) := by decide +kernel
theorem dL_law_1174 : decode cL_law 1174 = .ok (.iload 5, 2) := by decide +kernel
theorem dL_law_1176 : decode cL_law 1176 = .ok (.ifCond .ne 22, 3) := by decide +kernel
theorem dL_law_1179 : decode cL_law 1179 = .ok (.aload_n 3, 1) := by decide +kernel
theorem dL_law_1180 : decode cL_law 1180 = .ok (.iconst 0, 1) := by decide +kernel
theorem dL_law_1181 : decode cL_law 1181 = .ok (.laload, 1) := by decide +kernel
theorem dL_law_1182 : decode cL_law 1182 = .ok (.iload 6, 2) := by decide +kernel
theorem dL_law_1184 : decode cL_law 1184 = .ok (.ifCond .eq 7, 3) := by decide +kernel
theorem dL_law_1187 : decode cL_law 1187 = .ok (.lconst 1, 1) := by decide +kernel
theorem dL_law_1188 : decode cL_law 1188 = .ok (.goto 4, 3) := by decide +kernel
theorem dL_law_1191 : decode cL_law 1191 = .ok (.lconst 0, 1) := by decide +kernel
theorem dL_law_1192 : decode cL_law 1192 = .ok (.lcmp, 1) := by decide +kernel
theorem dL_law_1193 : decode cL_law 1193 = .ok (.ifCond .eq 5, 3) := by decide +kernel
theorem dL_law_1196 : decode cL_law 1196 = .ok (.iconst 0, 1) := by decide +kernel
theorem dL_law_1197 : decode cL_law 1197 = .ok (.ireturn, 1) := by decide +kernel
theorem dL_law_1198 : decode cL_law 1198 = .ok (.goto 933, 3) := by decide +kernel
theorem dL_law_1201 : decode cL_law 1201 = .ok (.aload_n 1, 1) := by decide +kernel
theorem dL_law_1202 : decode cL_law 1202 = .ok (.aload_n 0, 1) := by decide +kernel
theorem dL_law_1203 : decode cL_law 1203 = .ok (.iload 4, 2) := by decide +kernel
theorem dL_law_1205 : decode cL_law 1205 = .ok (.iconst 1, 1) := by decide +kernel
theorem dL_law_1206 : decode cL_law 1206 = .ok (.iadd, 1) := by decide +kernel
theorem dL_law_1207 : decode cL_law 1207 = .ok (.iaload, 1) := by decide +kernel
theorem dL_law_1208 : decode cL_law 1208 = .ok (.aload_n 0, 1) := by decide +kernel
theorem dL_law_1209 : decode cL_law 1209 = .ok (.iload 4, 2) := by decide +kernel
theorem dL_law_1211 : decode cL_law 1211 = .ok (.iconst 2, 1) := by decide +kernel
theorem dL_law_1212 : decode cL_law 1212 = .ok (.iadd, 1) := by decide +kernel
theorem dL_law_1213 : decode cL_law 1213 = .ok (.iaload, 1) := by decide +kernel
theorem dL_law_1214 : decode cL_law 1214 = .ok (.aload_n 3, 1) := by decide +kernel
theorem dL_law_1215 : decode cL_law 1215 = .ok (.invokestatic 177, 3) := by decide +kernel
theorem dL_law_1218 : decode cL_law 1218 = .ok (.istore 5, 2) := by decide +kernel
theorem dL_law_1220 : decode cL_law 1220 = .ok (.aload_n 2, 1) := by decide +kernel
theorem dL_law_1221 : decode cL_law 1221 = .ok (.aload_n 0, 1) := by decide +kernel
theorem dL_law_1222 : decode cL_law 1222 = .ok (.iload 4, 2) := by decide +kernel
theorem dL_law_1224 : decode cL_law 1224 = .ok (.iconst 1, 1) := by decide +kernel
theorem dL_law_1225 : decode cL_law 1225 = .ok (.iadd, 1) := by decide +kernel
theorem dL_law_1226 : decode cL_law 1226 = .ok (.iaload, 1) := by decide +kernel
theorem dL_law_1227 : decode cL_law 1227 = .ok (.aload_n 0, 1) := by decide +kernel
theorem dL_law_1228 : decode cL_law 1228 = .ok (.iload 4, 2) := by decide +kernel
theorem dL_law_1230 : decode cL_law 1230 = .ok (.iconst 2, 1) := by decide +kernel
theorem dL_law_1231 : decode cL_law 1231 = .ok (.iadd, 1) := by decide +kernel
theorem dL_law_1232 : decode cL_law 1232 = .ok (.iaload, 1) := by decide +kernel
theorem dL_law_1233 : decode cL_law 1233 = .ok (.invokevirtual 179, 3) := by decide +kernel
theorem dL_law_1236 : decode cL_law 1236 = .ok (.istore 6, 2) := by decide +kernel
theorem dL_law_1238 : decode cL_law 1238 = .ok (.aload_n 2, 1) := by decide +kernel
theorem dL_law_1239 : decode cL_law 1239 = .ok (.invokevirtual 126, 3) := by decide +kernel
theorem dL_law_1242 : decode cL_law 1242 = .ok (.iload 5, 2) := by decide +kernel
theorem dL_law_1244 : decode cL_law 1244 = .ok (.if_icmp .eq 5, 3) := by decide +kernel
theorem dL_law_1247 : decode cL_law 1247 = .ok (.iconst 0, 1) := by decide +kernel
theorem dL_law_1248 : decode cL_law 1248 = .ok (.ireturn, 1) := by decide +kernel
theorem dL_law_1249 : decode cL_law 1249 = .ok (.iload 5, 2) := by decide +kernel
theorem dL_law_1251 : decode cL_law 1251 = .ok (.ifCond .ne 15, 3) := by decide +kernel
theorem dL_law_1254 : decode cL_law 1254 = .ok (.aload_n 3, 1) := by decide +kernel
theorem dL_law_1255 : decode cL_law 1255 = .ok (.iconst 0, 1) := by decide +kernel
theorem dL_law_1256 : decode cL_law 1256 = .ok (.laload, 1) := by decide +kernel
theorem dL_law_1257 : decode cL_law 1257 = .ok (.iload 6, 2) := by decide +kernel
theorem dL_law_1259 : decode cL_law 1259 = .ok (.i2l, 1) := by decide +kernel
theorem dL_law_1260 : decode cL_law 1260 = .ok (.lcmp, 1) := by decide +kernel
theorem dL_law_1261 : decode cL_law 1261 = .ok (.ifCond .eq 5, 3) := by decide +kernel
theorem dL_law_1264 : decode cL_law 1264 = .ok (.iconst 0, 1) := by decide +kernel
theorem dL_law_1265 : decode cL_law 1265 = .ok (.ireturn, 1) := by decide +kernel
theorem dL_law_1266 : decode cL_law 1266 = .ok (.goto 865, 3) := by decide +kernel
theorem dL_law_1269 : decode cL_law 1269 = .ok (.aload_n 1, 1) := by decide +kernel
theorem dL_law_1270 : decode cL_law 1270 = .ok (.aload_n 0, 1) := by decide +kernel
theorem dL_law_1271 : decode cL_law 1271 = .ok (.iload 4, 2) := by decide +kernel
theorem dL_law_1273 : decode cL_law 1273 = .ok (.iconst 1, 1) := by decide +kernel
theorem dL_law_1274 : decode cL_law 1274 = .ok (.iadd, 1) := by decide +kernel
theorem dL_law_1275 : decode cL_law 1275 = .ok (.iaload, 1) := by decide +kernel
theorem dL_law_1276 : decode cL_law 1276 = .ok (.aload_n 0, 1) := by decide +kernel
theorem dL_law_1277 : decode cL_law 1277 = .ok (.iload 4, 2) := by decide +kernel
theorem dL_law_1279 : decode cL_law 1279 = .ok (.iconst 2, 1) := by decide +kernel
theorem dL_law_1280 : decode cL_law 1280 = .ok (.iadd, 1) := by decide +kernel
theorem dL_law_1281 : decode cL_law 1281 = .ok (.iaload, 1) := by decide +kernel
theorem dL_law_1282 : decode cL_law 1282 = .ok (.aload_n 0, 1) := by decide +kernel
theorem dL_law_1283 : decode cL_law 1283 = .ok (.iload 4, 2) := by decide +kernel
theorem dL_law_1285 : decode cL_law 1285 = .ok (.iconst 3, 1) := by decide +kernel
theorem dL_law_1286 : decode cL_law 1286 = .ok (.iadd, 1) := by decide +kernel
theorem dL_law_1287 : decode cL_law 1287 = .ok (.iaload, 1) := by decide +kernel
theorem dL_law_1288 : decode cL_law 1288 = .ok (.aload_n 3, 1) := by decide +kernel
theorem dL_law_1289 : decode cL_law 1289 = .ok (.invokestatic 180, 3) := by decide +kernel
theorem dL_law_1292 : decode cL_law 1292 = .ok (.istore 5, 2) := by decide +kernel
theorem dL_law_1294 : decode cL_law 1294 = .ok (.aload_n 2, 1) := by decide +kernel
theorem dL_law_1295 : decode cL_law 1295 = .ok (.aload_n 0, 1) := by decide +kernel
theorem dL_law_1296 : decode cL_law 1296 = .ok (.iload 4, 2) := by decide +kernel
theorem dL_law_1298 : decode cL_law 1298 = .ok (.iconst 1, 1) := by decide +kernel
theorem dL_law_1299 : decode cL_law 1299 = .ok (.iadd, 1) := by decide +kernel
theorem dL_law_1300 : decode cL_law 1300 = .ok (.iaload, 1) := by decide +kernel
theorem dL_law_1301 : decode cL_law 1301 = .ok (.aload_n 0, 1) := by decide +kernel
theorem dL_law_1302 : decode cL_law 1302 = .ok (.iload 4, 2) := by decide +kernel
theorem dL_law_1304 : decode cL_law 1304 = .ok (.iconst 2, 1) := by decide +kernel
theorem dL_law_1305 : decode cL_law 1305 = .ok (.iadd, 1) := by decide +kernel
theorem dL_law_1306 : decode cL_law 1306 = .ok (.iaload, 1) := by decide +kernel
theorem dL_law_1307 : decode cL_law 1307 = .ok (.aload_n 0, 1) := by decide +kernel
theorem dL_law_1308 : decode cL_law 1308 = .ok (.iload 4, 2) := by decide +kernel
theorem dL_law_1310 : decode cL_law 1310 = .ok (.iconst 3, 1) := by decide +kernel
theorem dL_law_1311 : decode cL_law 1311 = .ok (.iadd, 1) := by decide +kernel
theorem dL_law_1312 : decode cL_law 1312 = .ok (.iaload, 1) := by decide +kernel
theorem dL_law_1313 : decode cL_law 1313 = .ok (.invokevirtual 182, 3) := by decide +kernel
theorem dL_law_1316 : decode cL_law 1316 = .ok (.istore 6, 2) := by decide +kernel
theorem dL_law_1318 : decode cL_law 1318 = .ok (.aload_n 2, 1) := by decide +kernel
theorem dL_law_1319 : decode cL_law 1319 = .ok (.invokevirtual 126, 3) := by decide +kernel
theorem dL_law_1322 : decode cL_law 1322 = .ok (.iload 5, 2) := by decide +kernel
theorem dL_law_1324 : decode cL_law 1324 = .ok (.if_icmp .eq 5, 3) := by decide +kernel
theorem dL_law_1327 : decode cL_law 1327 = .ok (.iconst 0, 1) := by decide +kernel
theorem dL_law_1328 : decode cL_law 1328 = .ok (.ireturn, 1) := by decide +kernel
theorem dL_law_1329 : decode cL_law 1329 = .ok (.iload 5, 2) := by decide +kernel
theorem dL_law_1331 : decode cL_law 1331 = .ok (.ifCond .ne 15, 3) := by decide +kernel
theorem dL_law_1334 : decode cL_law 1334 = .ok (.aload_n 3, 1) := by decide +kernel
theorem dL_law_1335 : decode cL_law 1335 = .ok (.iconst 0, 1) := by decide +kernel
theorem dL_law_1336 : decode cL_law 1336 = .ok (.laload, 1) := by decide +kernel
theorem dL_law_1337 : decode cL_law 1337 = .ok (.iload 6, 2) := by decide +kernel
theorem dL_law_1339 : decode cL_law 1339 = .ok (.i2l, 1) := by decide +kernel
theorem dL_law_1340 : decode cL_law 1340 = .ok (.lcmp, 1) := by decide +kernel
theorem dL_law_1341 : decode cL_law 1341 = .ok (.ifCond .eq 5, 3) := by decide +kernel
theorem dL_law_1344 : decode cL_law 1344 = .ok (.iconst 0, 1) := by decide +kernel
theorem dL_law_1345 : decode cL_law 1345 = .ok (.ireturn, 1) := by decide +kernel
theorem dL_law_1346 : decode cL_law 1346 = .ok (.goto 785, 3) := by decide +kernel
theorem dL_law_1349 : decode cL_law 1349 = .ok (.aload_n 1, 1) := by decide +kernel
theorem dL_law_1350 : decode cL_law 1350 = .ok (.aload_n 0, 1) := by decide +kernel
theorem dL_law_1351 : decode cL_law 1351 = .ok (.iload 4, 2) := by decide +kernel
theorem dL_law_1353 : decode cL_law 1353 = .ok (.iconst 1, 1) := by decide +kernel
theorem dL_law_1354 : decode cL_law 1354 = .ok (.iadd, 1) := by decide +kernel
theorem dL_law_1355 : decode cL_law 1355 = .ok (.iaload, 1) := by decide +kernel
theorem dL_law_1356 : decode cL_law 1356 = .ok (.aload_n 0, 1) := by decide +kernel
theorem dL_law_1357 : decode cL_law 1357 = .ok (.iload 4, 2) := by decide +kernel
theorem dL_law_1359 : decode cL_law 1359 = .ok (.iconst 2, 1) := by decide +kernel
theorem dL_law_1360 : decode cL_law 1360 = .ok (.iadd, 1) := by decide +kernel
theorem dL_law_1361 : decode cL_law 1361 = .ok (.iaload, 1) := by decide +kernel
theorem dL_law_1362 : decode cL_law 1362 = .ok (.aload_n 3, 1) := by decide +kernel
theorem dL_law_1363 : decode cL_law 1363 = .ok (.invokestatic 183, 3) := by decide +kernel
theorem dL_law_1366 : decode cL_law 1366 = .ok (.istore 5, 2) := by decide +kernel
theorem dL_law_1368 : decode cL_law 1368 = .ok (.aload_n 2, 1) := by decide +kernel
theorem dL_law_1369 : decode cL_law 1369 = .ok (.aload_n 0, 1) := by decide +kernel
theorem dL_law_1370 : decode cL_law 1370 = .ok (.iload 4, 2) := by decide +kernel
theorem dL_law_1372 : decode cL_law 1372 = .ok (.iconst 1, 1) := by decide +kernel
theorem dL_law_1373 : decode cL_law 1373 = .ok (.iadd, 1) := by decide +kernel
theorem dL_law_1374 : decode cL_law 1374 = .ok (.iaload, 1) := by decide +kernel
theorem dL_law_1375 : decode cL_law 1375 = .ok (.aload_n 0, 1) := by decide +kernel
theorem dL_law_1376 : decode cL_law 1376 = .ok (.iload 4, 2) := by decide +kernel
theorem dL_law_1378 : decode cL_law 1378 = .ok (.iconst 2, 1) := by decide +kernel
theorem dL_law_1379 : decode cL_law 1379 = .ok (.iadd, 1) := by decide +kernel
theorem dL_law_1380 : decode cL_law 1380 = .ok (.iaload, 1) := by decide +kernel
theorem dL_law_1381 : decode cL_law 1381 = .ok (.invokevirtual 185, 3) := by decide +kernel
theorem dL_law_1384 : decode cL_law 1384 = .ok (.istore 6, 2) := by decide +kernel
theorem dL_law_1386 : decode cL_law 1386 = .ok (.aload_n 2, 1) := by decide +kernel
theorem dL_law_1387 : decode cL_law 1387 = .ok (.invokevirtual 126, 3) := by decide +kernel
theorem dL_law_1390 : decode cL_law 1390 = .ok (.iload 5, 2) := by decide +kernel
theorem dL_law_1392 : decode cL_law 1392 = .ok (.if_icmp .eq 5, 3) := by decide +kernel
theorem dL_law_1395 : decode cL_law 1395 = .ok (.iconst 0, 1) := by decide +kernel
theorem dL_law_1396 : decode cL_law 1396 = .ok (.ireturn, 1) := by decide +kernel
theorem dL_law_1397 : decode cL_law 1397 = .ok (.iload 5, 2) := by decide +kernel
theorem dL_law_1399 : decode cL_law 1399 = .ok (.ifCond .ne 15, 3) := by decide +kernel
theorem dL_law_1402 : decode cL_law 1402 = .ok (.aload_n 3, 1) := by decide +kernel
theorem dL_law_1403 : decode cL_law 1403 = .ok (.iconst 0, 1) := by decide +kernel
theorem dL_law_1404 : decode cL_law 1404 = .ok (.laload, 1) := by decide +kernel
theorem dL_law_1405 : decode cL_law 1405 = .ok (.iload 6, 2) := by decide +kernel
theorem dL_law_1407 : decode cL_law 1407 = .ok (.i2l, 1) := by decide +kernel
theorem dL_law_1408 : decode cL_law 1408 = .ok (.lcmp, 1) := by decide +kernel
theorem dL_law_1409 : decode cL_law 1409 = .ok (.ifCond .eq 5, 3) := by decide +kernel
theorem dL_law_1412 : decode cL_law 1412 = .ok (.iconst 0, 1) := by decide +kernel
theorem dL_law_1413 : decode cL_law 1413 = .ok (.ireturn, 1) := by decide +kernel
theorem dL_law_1414 : decode cL_law 1414 = .ok (.goto 717, 3) := by decide +kernel
theorem dL_law_1417 : decode cL_law 1417 = .ok (.aload_n 1, 1) := by decide +kernel
theorem dL_law_1418 : decode cL_law 1418 = .ok (.aload_n 0, 1) := by decide +kernel
theorem dL_law_1419 : decode cL_law 1419 = .ok (.iload 4, 2) := by decide +kernel
theorem dL_law_1421 : decode cL_law 1421 = .ok (.iconst 1, 1) := by decide +kernel
theorem dL_law_1422 : decode cL_law 1422 = .ok (.iadd, 1) := by decide +kernel
theorem dL_law_1423 : decode cL_law 1423 = .ok (.iaload, 1) := by decide +kernel
theorem dL_law_1424 : decode cL_law 1424 = .ok (.aload_n 3, 1) := by decide +kernel
theorem dL_law_1425 : decode cL_law 1425 = .ok (.invokestatic 186, 3) := by decide +kernel
theorem dL_law_1428 : decode cL_law 1428 = .ok (.istore 5, 2) := by decide +kernel
theorem dL_law_1430 : decode cL_law 1430 = .ok (.aload_n 2, 1) := by decide +kernel
theorem dL_law_1431 : decode cL_law 1431 = .ok (.aload_n 0, 1) := by decide +kernel
theorem dL_law_1432 : decode cL_law 1432 = .ok (.iload 4, 2) := by decide +kernel
theorem dL_law_1434 : decode cL_law 1434 = .ok (.iconst 1, 1) := by decide +kernel
theorem dL_law_1435 : decode cL_law 1435 = .ok (.iadd, 1) := by decide +kernel
theorem dL_law_1436 : decode cL_law 1436 = .ok (.iaload, 1) := by decide +kernel
theorem dL_law_1437 : decode cL_law 1437 = .ok (.invokevirtual 188, 3) := by decide +kernel
theorem dL_law_1440 : decode cL_law 1440 = .ok (.istore 6, 2) := by decide +kernel
theorem dL_law_1442 : decode cL_law 1442 = .ok (.aload_n 2, 1) := by decide +kernel
theorem dL_law_1443 : decode cL_law 1443 = .ok (.invokevirtual 126, 3) := by decide +kernel
theorem dL_law_1446 : decode cL_law 1446 = .ok (.iload 5, 2) := by decide +kernel
theorem dL_law_1448 : decode cL_law 1448 = .ok (.if_icmp .eq 5, 3) := by decide +kernel
theorem dL_law_1451 : decode cL_law 1451 = .ok (.iconst 0, 1) := by decide +kernel
theorem dL_law_1452 : decode cL_law 1452 = .ok (.ireturn, 1) := by decide +kernel
theorem dL_law_1453 : decode cL_law 1453 = .ok (.iload 5, 2) := by decide +kernel
theorem dL_law_1455 : decode cL_law 1455 = .ok (.ifCond .ne 15, 3) := by decide +kernel
theorem dL_law_1458 : decode cL_law 1458 = .ok (.aload_n 3, 1) := by decide +kernel
theorem dL_law_1459 : decode cL_law 1459 = .ok (.iconst 0, 1) := by decide +kernel
theorem dL_law_1460 : decode cL_law 1460 = .ok (.laload, 1) := by decide +kernel
theorem dL_law_1461 : decode cL_law 1461 = .ok (.iload 6, 2) := by decide +kernel
theorem dL_law_1463 : decode cL_law 1463 = .ok (.i2l, 1) := by decide +kernel
theorem dL_law_1464 : decode cL_law 1464 = .ok (.lcmp, 1) := by decide +kernel
theorem dL_law_1465 : decode cL_law 1465 = .ok (.ifCond .eq 5, 3) := by decide +kernel
theorem dL_law_1468 : decode cL_law 1468 = .ok (.iconst 0, 1) := by decide +kernel
theorem dL_law_1469 : decode cL_law 1469 = .ok (.ireturn, 1) := by decide +kernel
theorem dL_law_1470 : decode cL_law 1470 = .ok (.goto 661, 3) := by decide +kernel
theorem dL_law_1473 : decode cL_law 1473 = .ok (.aload_n 1, 1) := by decide +kernel
theorem dL_law_1474 : decode cL_law 1474 = .ok (.aload_n 0, 1) := by decide +kernel
theorem dL_law_1475 : decode cL_law 1475 = .ok (.iload 4, 2) := by decide +kernel
theorem dL_law_1477 : decode cL_law 1477 = .ok (.iconst 1, 1) := by decide +kernel
theorem dL_law_1478 : decode cL_law 1478 = .ok (.iadd, 1) := by decide +kernel
theorem dL_law_1479 : decode cL_law 1479 = .ok (.iaload, 1) := by decide +kernel
theorem dL_law_1480 : decode cL_law 1480 = .ok (.aload_n 0, 1) := by decide +kernel
theorem dL_law_1481 : decode cL_law 1481 = .ok (.iload 4, 2) := by decide +kernel
theorem dL_law_1483 : decode cL_law 1483 = .ok (.iconst 2, 1) := by decide +kernel
theorem dL_law_1484 : decode cL_law 1484 = .ok (.iadd, 1) := by decide +kernel
theorem dL_law_1485 : decode cL_law 1485 = .ok (.iaload, 1) := by decide +kernel
theorem dL_law_1486 : decode cL_law 1486 = .ok (.aload_n 3, 1) := by decide +kernel
theorem dL_law_1487 : decode cL_law 1487 = .ok (.invokestatic 189, 3) := by decide +kernel
theorem dL_law_1490 : decode cL_law 1490 = .ok (.istore 5, 2) := by decide +kernel
theorem dL_law_1492 : decode cL_law 1492 = .ok (.aload_n 2, 1) := by decide +kernel
theorem dL_law_1493 : decode cL_law 1493 = .ok (.aload_n 0, 1) := by decide +kernel
theorem dL_law_1494 : decode cL_law 1494 = .ok (.iload 4, 2) := by decide +kernel
theorem dL_law_1496 : decode cL_law 1496 = .ok (.iconst 1, 1) := by decide +kernel
theorem dL_law_1497 : decode cL_law 1497 = .ok (.iadd, 1) := by decide +kernel
theorem dL_law_1498 : decode cL_law 1498 = .ok (.iaload, 1) := by decide +kernel
theorem dL_law_1499 : decode cL_law 1499 = .ok (.aload_n 0, 1) := by decide +kernel
theorem dL_law_1500 : decode cL_law 1500 = .ok (.iload 4, 2) := by decide +kernel
theorem dL_law_1502 : decode cL_law 1502 = .ok (.iconst 2, 1) := by decide +kernel
theorem dL_law_1503 : decode cL_law 1503 = .ok (.iadd, 1) := by decide +kernel
theorem dL_law_1504 : decode cL_law 1504 = .ok (.iaload, 1) := by decide +kernel
theorem dL_law_1505 : decode cL_law 1505 = .ok (.invokevirtual 191, 3) := by decide +kernel
theorem dL_law_1508 : decode cL_law 1508 = .ok (.istore 6, 2) := by decide +kernel
theorem dL_law_1510 : decode cL_law 1510 = .ok (.aload_n 2, 1) := by decide +kernel
theorem dL_law_1511 : decode cL_law 1511 = .ok (.invokevirtual 126, 3) := by decide +kernel
theorem dL_law_1514 : decode cL_law 1514 = .ok (.iload 5, 2) := by decide +kernel
theorem dL_law_1516 : decode cL_law 1516 = .ok (.if_icmp .eq 5, 3) := by decide +kernel
theorem dL_law_1519 : decode cL_law 1519 = .ok (.iconst 0, 1) := by decide +kernel
theorem dL_law_1520 : decode cL_law 1520 = .ok (.ireturn, 1) := by decide +kernel
theorem dL_law_1521 : decode cL_law 1521 = .ok (.iload 5, 2) := by decide +kernel
theorem dL_law_1523 : decode cL_law 1523 = .ok (.ifCond .ne 15, 3) := by decide +kernel
theorem dL_law_1526 : decode cL_law 1526 = .ok (.aload_n 3, 1) := by decide +kernel
theorem dL_law_1527 : decode cL_law 1527 = .ok (.iconst 0, 1) := by decide +kernel
theorem dL_law_1528 : decode cL_law 1528 = .ok (.laload, 1) := by decide +kernel
theorem dL_law_1529 : decode cL_law 1529 = .ok (.iload 6, 2) := by decide +kernel
theorem dL_law_1531 : decode cL_law 1531 = .ok (.i2l, 1) := by decide +kernel
theorem dL_law_1532 : decode cL_law 1532 = .ok (.lcmp, 1) := by decide +kernel
theorem dL_law_1533 : decode cL_law 1533 = .ok (.ifCond .eq 5, 3) := by decide +kernel
theorem dL_law_1536 : decode cL_law 1536 = .ok (.iconst 0, 1) := by decide +kernel
theorem dL_law_1537 : decode cL_law 1537 = .ok (.ireturn, 1) := by decide +kernel
theorem dL_law_1538 : decode cL_law 1538 = .ok (.goto 593, 3) := by decide +kernel
theorem dL_law_1541 : decode cL_law 1541 = .ok (.aload_n 1, 1) := by decide +kernel
theorem dL_law_1542 : decode cL_law 1542 = .ok (.aload_n 0, 1) := by decide +kernel
theorem dL_law_1543 : decode cL_law 1543 = .ok (.iload 4, 2) := by decide +kernel
theorem dL_law_1545 : decode cL_law 1545 = .ok (.iconst 1, 1) := by decide +kernel
theorem dL_law_1546 : decode cL_law 1546 = .ok (.iadd, 1) := by decide +kernel
theorem dL_law_1547 : decode cL_law 1547 = .ok (.iaload, 1) := by decide +kernel
theorem dL_law_1548 : decode cL_law 1548 = .ok (.aload_n 3, 1) := by decide +kernel
theorem dL_law_1549 : decode cL_law 1549 = .ok (.invokestatic 192, 3) := by decide +kernel
theorem dL_law_1552 : decode cL_law 1552 = .ok (.istore 5, 2) := by decide +kernel
theorem dL_law_1554 : decode cL_law 1554 = .ok (.aload_n 2, 1) := by decide +kernel
theorem dL_law_1555 : decode cL_law 1555 = .ok (.aload_n 0, 1) := by decide +kernel
theorem dL_law_1556 : decode cL_law 1556 = .ok (.iload 4, 2) := by decide +kernel
theorem dL_law_1558 : decode cL_law 1558 = .ok (.iconst 1, 1) := by decide +kernel
theorem dL_law_1559 : decode cL_law 1559 = .ok (.iadd, 1) := by decide +kernel
theorem dL_law_1560 : decode cL_law 1560 = .ok (.iaload, 1) := by decide +kernel
theorem dL_law_1561 : decode cL_law 1561 = .ok (.invokevirtual 194, 3) := by decide +kernel
theorem dL_law_1564 : decode cL_law 1564 = .ok (.istore 6, 2) := by decide +kernel
theorem dL_law_1566 : decode cL_law 1566 = .ok (.aload_n 2, 1) := by decide +kernel
theorem dL_law_1567 : decode cL_law 1567 = .ok (.invokevirtual 126, 3) := by decide +kernel
theorem dL_law_1570 : decode cL_law 1570 = .ok (.iload 5, 2) := by decide +kernel
theorem dL_law_1572 : decode cL_law 1572 = .ok (.if_icmp .eq 5, 3) := by decide +kernel
theorem dL_law_1575 : decode cL_law 1575 = .ok (.iconst 0, 1) := by decide +kernel
theorem dL_law_1576 : decode cL_law 1576 = .ok (.ireturn, 1) := by decide +kernel
theorem dL_law_1577 : decode cL_law 1577 = .ok (.iload 5, 2) := by decide +kernel
theorem dL_law_1579 : decode cL_law 1579 = .ok (.ifCond .ne 15, 3) := by decide +kernel
theorem dL_law_1582 : decode cL_law 1582 = .ok (.aload_n 3, 1) := by decide +kernel
theorem dL_law_1583 : decode cL_law 1583 = .ok (.iconst 0, 1) := by decide +kernel
theorem dL_law_1584 : decode cL_law 1584 = .ok (.laload, 1) := by decide +kernel
theorem dL_law_1585 : decode cL_law 1585 = .ok (.iload 6, 2) := by decide +kernel
theorem dL_law_1587 : decode cL_law 1587 = .ok (.i2l, 1) := by decide +kernel
theorem dL_law_1588 : decode cL_law 1588 = .ok (.lcmp, 1) := by decide +kernel
theorem dL_law_1589 : decode cL_law 1589 = .ok (.ifCond .eq 5, 3) := by decide +kernel
theorem dL_law_1592 : decode cL_law 1592 = .ok (.iconst 0, 1) := by decide +kernel
theorem dL_law_1593 : decode cL_law 1593 = .ok (.ireturn, 1) := by decide +kernel
theorem dL_law_1594 : decode cL_law 1594 = .ok (.goto 537, 3) := by decide +kernel
theorem dL_law_1597 : decode cL_law 1597 = .ok (.aload_n 1, 1) := by decide +kernel
theorem dL_law_1598 : decode cL_law 1598 = .ok (.aload_n 0, 1) := by decide +kernel
theorem dL_law_1599 : decode cL_law 1599 = .ok (.iload 4, 2) := by decide +kernel
theorem dL_law_1601 : decode cL_law 1601 = .ok (.iconst 1, 1) := by decide +kernel
theorem dL_law_1602 : decode cL_law 1602 = .ok (.iadd, 1) := by decide +kernel
theorem dL_law_1603 : decode cL_law 1603 = .ok (.iaload, 1) := by decide +kernel
theorem dL_law_1604 : decode cL_law 1604 = .ok (.aload_n 0, 1) := by decide +kernel
theorem dL_law_1605 : decode cL_law 1605 = .ok (.iload 4, 2) := by decide +kernel
theorem dL_law_1607 : decode cL_law 1607 = .ok (.iconst 2, 1) := by decide +kernel
theorem dL_law_1608 : decode cL_law 1608 = .ok (.iadd, 1) := by decide +kernel
theorem dL_law_1609 : decode cL_law 1609 = .ok (.iaload, 1) := by decide +kernel
theorem dL_law_1610 : decode cL_law 1610 = .ok (.aload_n 3, 1) := by decide +kernel
theorem dL_law_1611 : decode cL_law 1611 = .ok (.invokestatic 195, 3) := by decide +kernel
theorem dL_law_1614 : decode cL_law 1614 = .ok (.istore 5, 2) := by decide +kernel
theorem dL_law_1616 : decode cL_law 1616 = .ok (.aload_n 2, 1) := by decide +kernel
theorem dL_law_1617 : decode cL_law 1617 = .ok (.aload_n 0, 1) := by decide +kernel
theorem dL_law_1618 : decode cL_law 1618 = .ok (.iload 4, 2) := by decide +kernel
theorem dL_law_1620 : decode cL_law 1620 = .ok (.iconst 1, 1) := by decide +kernel
theorem dL_law_1621 : decode cL_law 1621 = .ok (.iadd, 1) := by decide +kernel
theorem dL_law_1622 : decode cL_law 1622 = .ok (.iaload, 1) := by decide +kernel
theorem dL_law_1623 : decode cL_law 1623 = .ok (.aload_n 0, 1) := by decide +kernel
theorem dL_law_1624 : decode cL_law 1624 = .ok (.iload 4, 2) := by decide +kernel
theorem dL_law_1626 : decode cL_law 1626 = .ok (.iconst 2, 1) := by decide +kernel
theorem dL_law_1627 : decode cL_law 1627 = .ok (.iadd, 1) := by decide +kernel
theorem dL_law_1628 : decode cL_law 1628 = .ok (.iaload, 1) := by decide +kernel
theorem dL_law_1629 : decode cL_law 1629 = .ok (.invokevirtual 197, 3) := by decide +kernel
theorem dL_law_1632 : decode cL_law 1632 = .ok (.istore 6, 2) := by decide +kernel
theorem dL_law_1634 : decode cL_law 1634 = .ok (.aload_n 2, 1) := by decide +kernel
theorem dL_law_1635 : decode cL_law 1635 = .ok (.invokevirtual 126, 3) := by decide +kernel
theorem dL_law_1638 : decode cL_law 1638 = .ok (.iload 5, 2) := by decide +kernel
theorem dL_law_1640 : decode cL_law 1640 = .ok (.if_icmp .eq 5, 3) := by decide +kernel
theorem dL_law_1643 : decode cL_law 1643 = .ok (.iconst 0, 1) := by decide +kernel
theorem dL_law_1644 : decode cL_law 1644 = .ok (.ireturn, 1) := by decide +kernel
theorem dL_law_1645 : decode cL_law 1645 = .ok (.iload 5, 2) := by decide +kernel
theorem dL_law_1647 : decode cL_law 1647 = .ok (.ifCond .ne 22, 3) := by decide +kernel
theorem dL_law_1650 : decode cL_law 1650 = .ok (.aload_n 3, 1) := by decide +kernel
theorem dL_law_1651 : decode cL_law 1651 = .ok (.iconst 0, 1) := by decide +kernel
theorem dL_law_1652 : decode cL_law 1652 = .ok (.laload, 1) := by decide +kernel
theorem dL_law_1653 : decode cL_law 1653 = .ok (.iload 6, 2) := by decide +kernel
theorem dL_law_1655 : decode cL_law 1655 = .ok (.ifCond .eq 7, 3) := by decide +kernel
theorem dL_law_1658 : decode cL_law 1658 = .ok (.lconst 1, 1) := by decide +kernel
theorem dL_law_1659 : decode cL_law 1659 = .ok (.goto 4, 3) := by decide +kernel
theorem dL_law_1662 : decode cL_law 1662 = .ok (.lconst 0, 1) := by decide +kernel
theorem dL_law_1663 : decode cL_law 1663 = .ok (.lcmp, 1) := by decide +kernel
theorem dL_law_1664 : decode cL_law 1664 = .ok (.ifCond .eq 5, 3) := by decide +kernel
theorem dL_law_1667 : decode cL_law 1667 = .ok (.iconst 0, 1) := by decide +kernel
theorem dL_law_1668 : decode cL_law 1668 = .ok (.ireturn, 1) := by decide +kernel
theorem dL_law_1669 : decode cL_law 1669 = .ok (.goto 462, 3) := by decide +kernel
theorem dL_law_1672 : decode cL_law 1672 = .ok (.aload_n 1, 1) := by decide +kernel
theorem dL_law_1673 : decode cL_law 1673 = .ok (.aload_n 0, 1) := by decide +kernel
theorem dL_law_1674 : decode cL_law 1674 = .ok (.iload 4, 2) := by decide +kernel
theorem dL_law_1676 : decode cL_law 1676 = .ok (.iconst 1, 1) := by decide +kernel
theorem dL_law_1677 : decode cL_law 1677 = .ok (.iadd, 1) := by decide +kernel
theorem dL_law_1678 : decode cL_law 1678 = .ok (.iaload, 1) := by decide +kernel
theorem dL_law_1679 : decode cL_law 1679 = .ok (.aload_n 0, 1) := by decide +kernel
theorem dL_law_1680 : decode cL_law 1680 = .ok (.iload 4, 2) := by decide +kernel
theorem dL_law_1682 : decode cL_law 1682 = .ok (.iconst 2, 1) := by decide +kernel
theorem dL_law_1683 : decode cL_law 1683 = .ok (.iadd, 1) := by decide +kernel
theorem dL_law_1684 : decode cL_law 1684 = .ok (.iaload, 1) := by decide +kernel
theorem dL_law_1685 : decode cL_law 1685 = .ok (.aload_n 3, 1) := by decide +kernel
theorem dL_law_1686 : decode cL_law 1686 = .ok (.invokestatic 198, 3) := by decide +kernel
theorem dL_law_1689 : decode cL_law 1689 = .ok (.istore 5, 2) := by decide +kernel
theorem dL_law_1691 : decode cL_law 1691 = .ok (.aload_n 2, 1) := by decide +kernel
theorem dL_law_1692 : decode cL_law 1692 = .ok (.aload_n 0, 1) := by decide +kernel
theorem dL_law_1693 : decode cL_law 1693 = .ok (.iload 4, 2) := by decide +kernel
theorem dL_law_1695 : decode cL_law 1695 = .ok (.iconst 1, 1) := by decide +kernel
theorem dL_law_1696 : decode cL_law 1696 = .ok (.iadd, 1) := by decide +kernel
theorem dL_law_1697 : decode cL_law 1697 = .ok (.iaload, 1) := by decide +kernel
theorem dL_law_1698 : decode cL_law 1698 = .ok (.aload_n 0, 1) := by decide +kernel
theorem dL_law_1699 : decode cL_law 1699 = .ok (.iload 4, 2) := by decide +kernel
theorem dL_law_1701 : decode cL_law 1701 = .ok (.iconst 2, 1) := by decide +kernel
theorem dL_law_1702 : decode cL_law 1702 = .ok (.iadd, 1) := by decide +kernel
theorem dL_law_1703 : decode cL_law 1703 = .ok (.iaload, 1) := by decide +kernel
theorem dL_law_1704 : decode cL_law 1704 = .ok (.invokevirtual 200, 3) := by decide +kernel
theorem dL_law_1707 : decode cL_law 1707 = .ok (.istore 6, 2) := by decide +kernel
theorem dL_law_1709 : decode cL_law 1709 = .ok (.aload_n 2, 1) := by decide +kernel
theorem dL_law_1710 : decode cL_law 1710 = .ok (.invokevirtual 126, 3) := by decide +kernel
theorem dL_law_1713 : decode cL_law 1713 = .ok (.iload 5, 2) := by decide +kernel
theorem dL_law_1715 : decode cL_law 1715 = .ok (.if_icmp .eq 5, 3) := by decide +kernel
theorem dL_law_1718 : decode cL_law 1718 = .ok (.iconst 0, 1) := by decide +kernel
theorem dL_law_1719 : decode cL_law 1719 = .ok (.ireturn, 1) := by decide +kernel
theorem dL_law_1720 : decode cL_law 1720 = .ok (.iload 5, 2) := by decide +kernel
theorem dL_law_1722 : decode cL_law 1722 = .ok (.ifCond .ne 22, 3) := by decide +kernel
theorem dL_law_1725 : decode cL_law 1725 = .ok (.aload_n 3, 1) := by decide +kernel
theorem dL_law_1726 : decode cL_law 1726 = .ok (.iconst 0, 1) := by decide +kernel
theorem dL_law_1727 : decode cL_law 1727 = .ok (.laload, 1) := by decide +kernel
theorem dL_law_1728 : decode cL_law 1728 = .ok (.iload 6, 2) := by decide +kernel
theorem dL_law_1730 : decode cL_law 1730 = .ok (.ifCond .eq 7, 3) := by decide +kernel
theorem dL_law_1733 : decode cL_law 1733 = .ok (.lconst 1, 1) := by decide +kernel
theorem dL_law_1734 : decode cL_law 1734 = .ok (.goto 4, 3) := by decide +kernel
theorem dL_law_1737 : decode cL_law 1737 = .ok (.lconst 0, 1) := by decide +kernel
theorem dL_law_1738 : decode cL_law 1738 = .ok (.lcmp, 1) := by decide +kernel
theorem dL_law_1739 : decode cL_law 1739 = .ok (.ifCond .eq 5, 3) := by decide +kernel
theorem dL_law_1742 : decode cL_law 1742 = .ok (.iconst 0, 1) := by decide +kernel
theorem dL_law_1743 : decode cL_law 1743 = .ok (.ireturn, 1) := by decide +kernel
theorem dL_law_1744 : decode cL_law 1744 = .ok (.goto 387, 3) := by decide +kernel
theorem dL_law_1747 : decode cL_law 1747 = .ok (.aload_n 1, 1) := by decide +kernel
theorem dL_law_1748 : decode cL_law 1748 = .ok (.aload_n 0, 1) := by decide +kernel
theorem dL_law_1749 : decode cL_law 1749 = .ok (.iload 4, 2) := by decide +kernel
theorem dL_law_1751 : decode cL_law 1751 = .ok (.iconst 1, 1) := by decide +kernel
theorem dL_law_1752 : decode cL_law 1752 = .ok (.iadd, 1) := by decide +kernel
theorem dL_law_1753 : decode cL_law 1753 = .ok (.iaload, 1) := by decide +kernel
theorem dL_law_1754 : decode cL_law 1754 = .ok (.aload_n 3, 1) := by decide +kernel
theorem dL_law_1755 : decode cL_law 1755 = .ok (.invokestatic 201, 3) := by decide +kernel
theorem dL_law_1758 : decode cL_law 1758 = .ok (.istore 5, 2) := by decide +kernel
theorem dL_law_1760 : decode cL_law 1760 = .ok (.aload_n 2, 1) := by decide +kernel
theorem dL_law_1761 : decode cL_law 1761 = .ok (.aload_n 0, 1) := by decide +kernel
theorem dL_law_1762 : decode cL_law 1762 = .ok (.iload 4, 2) := by decide +kernel
theorem dL_law_1764 : decode cL_law 1764 = .ok (.iconst 1, 1) := by decide +kernel
theorem dL_law_1765 : decode cL_law 1765 = .ok (.iadd, 1) := by decide +kernel
theorem dL_law_1766 : decode cL_law 1766 = .ok (.iaload, 1) := by decide +kernel
theorem dL_law_1767 : decode cL_law 1767 = .ok (.invokevirtual 203, 3) := by decide +kernel
theorem dL_law_1770 : decode cL_law 1770 = .ok (.istore 6, 2) := by decide +kernel
theorem dL_law_1772 : decode cL_law 1772 = .ok (.aload_n 2, 1) := by decide +kernel
theorem dL_law_1773 : decode cL_law 1773 = .ok (.invokevirtual 126, 3) := by decide +kernel
theorem dL_law_1776 : decode cL_law 1776 = .ok (.iload 5, 2) := by decide +kernel
theorem dL_law_1778 : decode cL_law 1778 = .ok (.if_icmp .eq 5, 3) := by decide +kernel
theorem dL_law_1781 : decode cL_law 1781 = .ok (.iconst 0, 1) := by decide +kernel
theorem dL_law_1782 : decode cL_law 1782 = .ok (.ireturn, 1) := by decide +kernel
theorem dL_law_1783 : decode cL_law 1783 = .ok (.iload 5, 2) := by decide +kernel
theorem dL_law_1785 : decode cL_law 1785 = .ok (.ifCond .ne 15, 3) := by decide +kernel
theorem dL_law_1788 : decode cL_law 1788 = .ok (.aload_n 3, 1) := by decide +kernel
theorem dL_law_1789 : decode cL_law 1789 = .ok (.iconst 0, 1) := by decide +kernel
theorem dL_law_1790 : decode cL_law 1790 = .ok (.laload, 1) := by decide +kernel
theorem dL_law_1791 : decode cL_law 1791 = .ok (.iload 6, 2) := by decide +kernel
theorem dL_law_1793 : decode cL_law 1793 = .ok (.i2l, 1) := by decide +kernel
theorem dL_law_1794 : decode cL_law 1794 = .ok (.lcmp, 1) := by decide +kernel
theorem dL_law_1795 : decode cL_law 1795 = .ok (.ifCond .eq 5, 3) := by decide +kernel
theorem dL_law_1798 : decode cL_law 1798 = .ok (.iconst 0, 1) := by decide +kernel
theorem dL_law_1799 : decode cL_law 1799 = .ok (.ireturn, 1) := by decide +kernel
theorem dL_law_1800 : decode cL_law 1800 = .ok (.goto 331, 3) := by decide +kernel
theorem dL_law_1803 : decode cL_law 1803 = .ok (.aload_n 1, 1) := by decide +kernel
theorem dL_law_1804 : decode cL_law 1804 = .ok (.aload_n 0, 1) := by decide +kernel
theorem dL_law_1805 : decode cL_law 1805 = .ok (.iload 4, 2) := by decide +kernel
theorem dL_law_1807 : decode cL_law 1807 = .ok (.iconst 1, 1) := by decide +kernel
theorem dL_law_1808 : decode cL_law 1808 = .ok (.iadd, 1) := by decide +kernel
theorem dL_law_1809 : decode cL_law 1809 = .ok (.iaload, 1) := by decide +kernel
theorem dL_law_1810 : decode cL_law 1810 = .ok (.i2b, 1) := by decide +kernel
theorem dL_law_1811 : decode cL_law 1811 = .ok (.aload_n 3, 1) := by decide +kernel
theorem dL_law_1812 : decode cL_law 1812 = .ok (.invokestatic 204, 3) := by decide +kernel
theorem dL_law_1815 : decode cL_law 1815 = .ok (.istore 5, 2) := by decide +kernel
theorem dL_law_1817 : decode cL_law 1817 = .ok (.aload_n 2, 1) := by decide +kernel
theorem dL_law_1818 : decode cL_law 1818 = .ok (.aload_n 0, 1) := by decide +kernel
theorem dL_law_1819 : decode cL_law 1819 = .ok (.iload 4, 2) := by decide +kernel
theorem dL_law_1821 : decode cL_law 1821 = .ok (.iconst 1, 1) := by decide +kernel
theorem dL_law_1822 : decode cL_law 1822 = .ok (.iadd, 1) := by decide +kernel
theorem dL_law_1823 : decode cL_law 1823 = .ok (.iaload, 1) := by decide +kernel
theorem dL_law_1824 : decode cL_law 1824 = .ok (.i2b, 1) := by decide +kernel
theorem dL_law_1825 : decode cL_law 1825 = .ok (.invokevirtual 207, 3) := by decide +kernel
theorem dL_law_1828 : decode cL_law 1828 = .ok (.istore 6, 2) := by decide +kernel
theorem dL_law_1830 : decode cL_law 1830 = .ok (.aload_n 2, 1) := by decide +kernel
theorem dL_law_1831 : decode cL_law 1831 = .ok (.invokevirtual 126, 3) := by decide +kernel
theorem dL_law_1834 : decode cL_law 1834 = .ok (.iload 5, 2) := by decide +kernel
theorem dL_law_1836 : decode cL_law 1836 = .ok (.if_icmp .eq 5, 3) := by decide +kernel
theorem dL_law_1839 : decode cL_law 1839 = .ok (.iconst 0, 1) := by decide +kernel
theorem dL_law_1840 : decode cL_law 1840 = .ok (.ireturn, 1) := by decide +kernel
theorem dL_law_1841 : decode cL_law 1841 = .ok (.iload 5, 2) := by decide +kernel
theorem dL_law_1843 : decode cL_law 1843 = .ok (.ifCond .ne 15, 3) := by decide +kernel
theorem dL_law_1846 : decode cL_law 1846 = .ok (.aload_n 3, 1) := by decide +kernel
theorem dL_law_1847 : decode cL_law 1847 = .ok (.iconst 0, 1) := by decide +kernel
theorem dL_law_1848 : decode cL_law 1848 = .ok (.laload, 1) := by decide +kernel
theorem dL_law_1849 : decode cL_law 1849 = .ok (.iload 6, 2) := by decide +kernel
theorem dL_law_1851 : decode cL_law 1851 = .ok (.i2l, 1) := by decide +kernel
theorem dL_law_1852 : decode cL_law 1852 = .ok (.lcmp, 1) := by decide +kernel
theorem dL_law_1853 : decode cL_law 1853 = .ok (.ifCond .eq 5, 3) := by decide +kernel
theorem dL_law_1856 : decode cL_law 1856 = .ok (.iconst 0, 1) := by decide +kernel
theorem dL_law_1857 : decode cL_law 1857 = .ok (.ireturn, 1) := by decide +kernel
theorem dL_law_1858 : decode cL_law 1858 = .ok (.goto 273, 3) := by decide +kernel
theorem dL_law_1861 : decode cL_law 1861 = .ok (.aload_n 1, 1) := by decide +kernel
theorem dL_law_1862 : decode cL_law 1862 = .ok (.aload_n 0, 1) := by decide +kernel
theorem dL_law_1863 : decode cL_law 1863 = .ok (.iload 4, 2) := by decide +kernel
theorem dL_law_1865 : decode cL_law 1865 = .ok (.iconst 1, 1) := by decide +kernel
theorem dL_law_1866 : decode cL_law 1866 = .ok (.iadd, 1) := by decide +kernel
theorem dL_law_1867 : decode cL_law 1867 = .ok (.iaload, 1) := by decide +kernel
theorem dL_law_1868 : decode cL_law 1868 = .ok (.aload_n 3, 1) := by decide +kernel
theorem dL_law_1869 : decode cL_law 1869 = .ok (.invokestatic 208, 3) := by decide +kernel
theorem dL_law_1872 : decode cL_law 1872 = .ok (.istore 5, 2) := by decide +kernel
theorem dL_law_1874 : decode cL_law 1874 = .ok (.aload_n 2, 1) := by decide +kernel
theorem dL_law_1875 : decode cL_law 1875 = .ok (.aload_n 0, 1) := by decide +kernel
theorem dL_law_1876 : decode cL_law 1876 = .ok (.iload 4, 2) := by decide +kernel
theorem dL_law_1878 : decode cL_law 1878 = .ok (.iconst 1, 1) := by decide +kernel
theorem dL_law_1879 : decode cL_law 1879 = .ok (.iadd, 1) := by decide +kernel
theorem dL_law_1880 : decode cL_law 1880 = .ok (.iaload, 1) := by decide +kernel
theorem dL_law_1881 : decode cL_law 1881 = .ok (.invokevirtual 210, 3) := by decide +kernel
theorem dL_law_1884 : decode cL_law 1884 = .ok (.istore 6, 2) := by decide +kernel
theorem dL_law_1886 : decode cL_law 1886 = .ok (.aload_n 2, 1) := by decide +kernel
theorem dL_law_1887 : decode cL_law 1887 = .ok (.invokevirtual 126, 3) := by decide +kernel
theorem dL_law_1890 : decode cL_law 1890 = .ok (.iload 5, 2) := by decide +kernel
theorem dL_law_1892 : decode cL_law 1892 = .ok (.if_icmp .eq 5, 3) := by decide +kernel
theorem dL_law_1895 : decode cL_law 1895 = .ok (.iconst 0, 1) := by decide +kernel
theorem dL_law_1896 : decode cL_law 1896 = .ok (.ireturn, 1) := by decide +kernel
theorem dL_law_1897 : decode cL_law 1897 = .ok (.iload 5, 2) := by decide +kernel
theorem dL_law_1899 : decode cL_law 1899 = .ok (.ifCond .ne 15, 3) := by decide +kernel
theorem dL_law_1902 : decode cL_law 1902 = .ok (.aload_n 3, 1) := by decide +kernel
theorem dL_law_1903 : decode cL_law 1903 = .ok (.iconst 0, 1) := by decide +kernel
theorem dL_law_1904 : decode cL_law 1904 = .ok (.laload, 1) := by decide +kernel
theorem dL_law_1905 : decode cL_law 1905 = .ok (.iload 6, 2) := by decide +kernel
theorem dL_law_1907 : decode cL_law 1907 = .ok (.i2l, 1) := by decide +kernel
theorem dL_law_1908 : decode cL_law 1908 = .ok (.lcmp, 1) := by decide +kernel
theorem dL_law_1909 : decode cL_law 1909 = .ok (.ifCond .eq 5, 3) := by decide +kernel
theorem dL_law_1912 : decode cL_law 1912 = .ok (.iconst 0, 1) := by decide +kernel
theorem dL_law_1913 : decode cL_law 1913 = .ok (.ireturn, 1) := by decide +kernel
theorem dL_law_1914 : decode cL_law 1914 = .ok (.goto 217, 3) := by decide +kernel
theorem dL_law_1917 : decode cL_law 1917 = .ok (.aload_n 1, 1) := by decide +kernel
theorem dL_law_1918 : decode cL_law 1918 = .ok (.invokevirtual 211, 3) := by decide +kernel
theorem dL_law_1921 : decode cL_law 1921 = .ok (.aload_n 2, 1) := by decide +kernel
theorem dL_law_1922 : decode cL_law 1922 = .ok (.invokevirtual 214, 3) := by decide +kernel
theorem dL_law_1925 : decode cL_law 1925 = .ok (.if_icmp .eq 206, 3) := by decide +kernel
theorem dL_law_1928 : decode cL_law 1928 = .ok (.iconst 0, 1) := by decide +kernel
theorem dL_law_1929 : decode cL_law 1929 = .ok (.ireturn, 1) := by decide +kernel
theorem dL_law_1930 : decode cL_law 1930 = .ok (.aload_n 1, 1) := by decide +kernel
theorem dL_law_1931 : decode cL_law 1931 = .ok (.aload_n 0, 1) := by decide +kernel
theorem dL_law_1932 : decode cL_law 1932 = .ok (.iload 4, 2) := by decide +kernel
theorem dL_law_1934 : decode cL_law 1934 = .ok (.iconst 1, 1) := by decide +kernel
theorem dL_law_1935 : decode cL_law 1935 = .ok (.iadd, 1) := by decide +kernel
theorem dL_law_1936 : decode cL_law 1936 = .ok (.iaload, 1) := by decide +kernel
theorem dL_law_1937 : decode cL_law 1937 = .ok (.aload_n 3, 1) := by decide +kernel
theorem dL_law_1938 : decode cL_law 1938 = .ok (.invokestatic 215, 3) := by decide +kernel
theorem dL_law_1941 : decode cL_law 1941 = .ok (.istore 5, 2) := by decide +kernel
theorem dL_law_1943 : decode cL_law 1943 = .ok (.aload_n 2, 1) := by decide +kernel
theorem dL_law_1944 : decode cL_law 1944 = .ok (.aload_n 0, 1) := by decide +kernel
theorem dL_law_1945 : decode cL_law 1945 = .ok (.iload 4, 2) := by decide +kernel
theorem dL_law_1947 : decode cL_law 1947 = .ok (.iconst 1, 1) := by decide +kernel
theorem dL_law_1948 : decode cL_law 1948 = .ok (.iadd, 1) := by decide +kernel
theorem dL_law_1949 : decode cL_law 1949 = .ok (.iaload, 1) := by decide +kernel
theorem dL_law_1950 : decode cL_law 1950 = .ok (.invokevirtual 217, 3) := by decide +kernel
theorem dL_law_1953 : decode cL_law 1953 = .ok (.istore 6, 2) := by decide +kernel
theorem dL_law_1955 : decode cL_law 1955 = .ok (.aload_n 2, 1) := by decide +kernel
theorem dL_law_1956 : decode cL_law 1956 = .ok (.invokevirtual 126, 3) := by decide +kernel
theorem dL_law_1959 : decode cL_law 1959 = .ok (.iload 5, 2) := by decide +kernel
theorem dL_law_1961 : decode cL_law 1961 = .ok (.if_icmp .eq 5, 3) := by decide +kernel
theorem dL_law_1964 : decode cL_law 1964 = .ok (.iconst 0, 1) := by decide +kernel
theorem dL_law_1965 : decode cL_law 1965 = .ok (.ireturn, 1) := by decide +kernel
theorem dL_law_1966 : decode cL_law 1966 = .ok (.iload 5, 2) := by decide +kernel
theorem dL_law_1968 : decode cL_law 1968 = .ok (.ifCond .ne 15, 3) := by decide +kernel
theorem dL_law_1971 : decode cL_law 1971 = .ok (.aload_n 3, 1) := by decide +kernel
theorem dL_law_1972 : decode cL_law 1972 = .ok (.iconst 0, 1) := by decide +kernel
theorem dL_law_1973 : decode cL_law 1973 = .ok (.laload, 1) := by decide +kernel
theorem dL_law_1974 : decode cL_law 1974 = .ok (.iload 6, 2) := by decide +kernel
theorem dL_law_1976 : decode cL_law 1976 = .ok (.i2l, 1) := by decide +kernel
theorem dL_law_1977 : decode cL_law 1977 = .ok (.lcmp, 1) := by decide +kernel
theorem dL_law_1978 : decode cL_law 1978 = .ok (.ifCond .eq 5, 3) := by decide +kernel
theorem dL_law_1981 : decode cL_law 1981 = .ok (.iconst 0, 1) := by decide +kernel
theorem dL_law_1982 : decode cL_law 1982 = .ok (.ireturn, 1) := by decide +kernel
theorem dL_law_1983 : decode cL_law 1983 = .ok (.goto 148, 3) := by decide +kernel
theorem dL_law_1986 : decode cL_law 1986 = .ok (.aload_n 1, 1) := by decide +kernel
theorem dL_law_1987 : decode cL_law 1987 = .ok (.invokevirtual 218, 3) := by decide +kernel
theorem dL_law_1990 : decode cL_law 1990 = .ok (.aload_n 2, 1) := by decide +kernel
theorem dL_law_1991 : decode cL_law 1991 = .ok (.invokevirtual 221, 3) := by decide +kernel
theorem dL_law_1994 : decode cL_law 1994 = .ok (.if_icmp .eq 137, 3) := by decide +kernel
theorem dL_law_1997 : decode cL_law 1997 = .ok (.iconst 0, 1) := by decide +kernel
theorem dL_law_1998 : decode cL_law 1998 = .ok (.ireturn, 1) := by decide +kernel
theorem dL_law_1999 : decode cL_law 1999 = .ok (.aload_n 1, 1) := by decide +kernel
theorem dL_law_2000 : decode cL_law 2000 = .ok (.invokevirtual 222, 3) := by decide +kernel
theorem dL_law_2003 : decode cL_law 2003 = .ok (.aload_n 2, 1) := by decide +kernel
theorem dL_law_2004 : decode cL_law 2004 = .ok (.invokevirtual 225, 3) := by decide +kernel
theorem dL_law_2007 : decode cL_law 2007 = .ok (.if_icmp .eq 124, 3) := by decide +kernel
theorem dL_law_2010 : decode cL_law 2010 = .ok (.iconst 0, 1) := by decide +kernel
theorem dL_law_2011 : decode cL_law 2011 = .ok (.ireturn, 1) := by decide +kernel
theorem dL_law_2012 : decode cL_law 2012 = .ok (.aload_n 1, 1) := by decide +kernel
theorem dL_law_2013 : decode cL_law 2013 = .ok (.aload_n 0, 1) := by decide +kernel
theorem dL_law_2014 : decode cL_law 2014 = .ok (.iload 4, 2) := by decide +kernel
theorem dL_law_2016 : decode cL_law 2016 = .ok (.iconst 1, 1) := by decide +kernel
theorem dL_law_2017 : decode cL_law 2017 = .ok (.iadd, 1) := by decide +kernel
theorem dL_law_2018 : decode cL_law 2018 = .ok (.iaload, 1) := by decide +kernel
theorem dL_law_2019 : decode cL_law 2019 = .ok (.aload_n 3, 1) := by decide +kernel
theorem dL_law_2020 : decode cL_law 2020 = .ok (.invokestatic 226, 3) := by decide +kernel
theorem dL_law_2023 : decode cL_law 2023 = .ok (.istore 5, 2) := by decide +kernel
theorem dL_law_2025 : decode cL_law 2025 = .ok (.aload_n 2, 1) := by decide +kernel
theorem dL_law_2026 : decode cL_law 2026 = .ok (.aload_n 0, 1) := by decide +kernel
theorem dL_law_2027 : decode cL_law 2027 = .ok (.iload 4, 2) := by decide +kernel
theorem dL_law_2029 : decode cL_law 2029 = .ok (.iconst 1, 1) := by decide +kernel
theorem dL_law_2030 : decode cL_law 2030 = .ok (.iadd, 1) := by decide +kernel
theorem dL_law_2031 : decode cL_law 2031 = .ok (.iaload, 1) := by decide +kernel
theorem dL_law_2032 : decode cL_law 2032 = .ok (.invokevirtual 228, 3) := by decide +kernel
theorem dL_law_2035 : decode cL_law 2035 = .ok (.istore 6, 2) := by decide +kernel
theorem dL_law_2037 : decode cL_law 2037 = .ok (.aload_n 2, 1) := by decide +kernel
theorem dL_law_2038 : decode cL_law 2038 = .ok (.invokevirtual 126, 3) := by decide +kernel
theorem dL_law_2041 : decode cL_law 2041 = .ok (.iload 5, 2) := by decide +kernel
theorem dL_law_2043 : decode cL_law 2043 = .ok (.if_icmp .eq 5, 3) := by decide +kernel
theorem dL_law_2046 : decode cL_law 2046 = .ok (.iconst 0, 1) := by decide +kernel
theorem dL_law_2047 : decode cL_law 2047 = .ok (.ireturn, 1) := by decide +kernel
theorem dL_law_2048 : decode cL_law 2048 = .ok (.iload 5, 2) := by decide +kernel
theorem dL_law_2050 : decode cL_law 2050 = .ok (.ifCond .ne 15, 3) := by decide +kernel
theorem dL_law_2053 : decode cL_law 2053 = .ok (.aload_n 3, 1) := by decide +kernel
theorem dL_law_2054 : decode cL_law 2054 = .ok (.iconst 0, 1) := by decide +kernel
theorem dL_law_2055 : decode cL_law 2055 = .ok (.laload, 1) := by decide +kernel
theorem dL_law_2056 : decode cL_law 2056 = .ok (.iload 6, 2) := by decide +kernel
theorem dL_law_2058 : decode cL_law 2058 = .ok (.i2l, 1) := by decide +kernel
theorem dL_law_2059 : decode cL_law 2059 = .ok (.lcmp, 1) := by decide +kernel
theorem dL_law_2060 : decode cL_law 2060 = .ok (.ifCond .eq 5, 3) := by decide +kernel
theorem dL_law_2063 : decode cL_law 2063 = .ok (.iconst 0, 1) := by decide +kernel
theorem dL_law_2064 : decode cL_law 2064 = .ok (.ireturn, 1) := by decide +kernel
theorem dL_law_2065 : decode cL_law 2065 = .ok (.goto 66, 3) := by decide +kernel
theorem dL_law_2068 : decode cL_law 2068 = .ok (.aload_n 1, 1) := by decide +kernel
theorem dL_law_2069 : decode cL_law 2069 = .ok (.aload_n 0, 1) := by decide +kernel
theorem dL_law_2070 : decode cL_law 2070 = .ok (.iload 4, 2) := by decide +kernel
theorem dL_law_2072 : decode cL_law 2072 = .ok (.iconst 1, 1) := by decide +kernel
theorem dL_law_2073 : decode cL_law 2073 = .ok (.iadd, 1) := by decide +kernel
theorem dL_law_2074 : decode cL_law 2074 = .ok (.iaload, 1) := by decide +kernel
theorem dL_law_2075 : decode cL_law 2075 = .ok (.aload_n 3, 1) := by decide +kernel
theorem dL_law_2076 : decode cL_law 2076 = .ok (.invokestatic 229, 3) := by decide +kernel
theorem dL_law_2079 : decode cL_law 2079 = .ok (.istore 5, 2) := by decide +kernel
theorem dL_law_2081 : decode cL_law 2081 = .ok (.aload_n 2, 1) := by decide +kernel
theorem dL_law_2082 : decode cL_law 2082 = .ok (.aload_n 0, 1) := by decide +kernel
theorem dL_law_2083 : decode cL_law 2083 = .ok (.iload 4, 2) := by decide +kernel
theorem dL_law_2085 : decode cL_law 2085 = .ok (.iconst 1, 1) := by decide +kernel
theorem dL_law_2086 : decode cL_law 2086 = .ok (.iadd, 1) := by decide +kernel
theorem dL_law_2087 : decode cL_law 2087 = .ok (.iaload, 1) := by decide +kernel
theorem dL_law_2088 : decode cL_law 2088 = .ok (.invokevirtual 231, 3) := by decide +kernel
theorem dL_law_2091 : decode cL_law 2091 = .ok (.istore 6, 2) := by decide +kernel
theorem dL_law_2093 : decode cL_law 2093 = .ok (.aload_n 2, 1) := by decide +kernel
theorem dL_law_2094 : decode cL_law 2094 = .ok (.invokevirtual 126, 3) := by decide +kernel
theorem dL_law_2097 : decode cL_law 2097 = .ok (.iload 5, 2) := by decide +kernel
theorem dL_law_2099 : decode cL_law 2099 = .ok (.if_icmp .eq 5, 3) := by decide +kernel
theorem dL_law_2102 : decode cL_law 2102 = .ok (.iconst 0, 1) := by decide +kernel
theorem dL_law_2103 : decode cL_law 2103 = .ok (.ireturn, 1) := by decide +kernel
theorem dL_law_2104 : decode cL_law 2104 = .ok (.iload 5, 2) := by decide +kernel
theorem dL_law_2106 : decode cL_law 2106 = .ok (.ifCond .ne 22, 3) := by decide +kernel
theorem dL_law_2109 : decode cL_law 2109 = .ok (.aload_n 3, 1) := by decide +kernel
theorem dL_law_2110 : decode cL_law 2110 = .ok (.iconst 0, 1) := by decide +kernel
theorem dL_law_2111 : decode cL_law 2111 = .ok (.laload, 1) := by decide +kernel
theorem dL_law_2112 : decode cL_law 2112 = .ok (.iload 6, 2) := by decide +kernel
theorem dL_law_2114 : decode cL_law 2114 = .ok (.ifCond .eq 7, 3) := by decide +kernel
theorem dL_law_2117 : decode cL_law 2117 = .ok (.lconst 1, 1) := by decide +kernel
theorem dL_law_2118 : decode cL_law 2118 = .ok (.goto 4, 3) := by decide +kernel
theorem dL_law_2121 : decode cL_law 2121 = .ok (.lconst 0, 1) := by decide +kernel
theorem dL_law_2122 : decode cL_law 2122 = .ok (.lcmp, 1) := by decide +kernel
theorem dL_law_2123 : decode cL_law 2123 = .ok (.ifCond .eq 5, 3) := by decide +kernel
theorem dL_law_2126 : decode cL_law 2126 = .ok (.iconst 0, 1) := by decide +kernel
theorem dL_law_2127 : decode cL_law 2127 = .ok (.ireturn, 1) := by decide +kernel
theorem dL_law_2128 : decode cL_law 2128 = .ok (.goto 3, 3) := by decide +kernel
theorem dL_law_2131 : decode cL_law 2131 = .ok (.iinc 4 5, 3) := by decide +kernel
theorem dL_law_2134 : decode cL_law 2134 = .ok (.goto (-2111), 3) := by decide +kernel
theorem dL_law_2137 : decode cL_law 2137 = .ok (.iconst 1, 1) := by decide +kernel
theorem dL_law_2138 : decode cL_law 2138 = .ok (.ireturn, 1) := by decide +kernel
end
