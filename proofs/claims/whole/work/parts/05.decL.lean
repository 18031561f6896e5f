theorem dL_addSchema_0 : decode cL_addSchema 0 = .ok (.aload_n 1, 1) := by decide +kernel
theorem dL_addSchema_1 : decode cL_addSchema 1 = .ok (.iconst 0, 1) := by decide +kernel
theorem dL_addSchema_2 : decode cL_addSchema 2 = .ok (.aload_n 0, 1) := by decide +kernel
theorem dL_addSchema_3 : decode cL_addSchema 3 = .ok (.invokevirtual 7, 3) := by decide +kernel
theorem dL_addSchema_6 : decode cL_addSchema 6 = .ok (.i2l, 1) := by decide +kernel
theorem dL_addSchema_7 : decode cL_addSchema 7 = .ok (.lastore, 1) := by decide +kernel
theorem dL_addSchema_8 : decode cL_addSchema 8 = .ok (.goto 6, 3) := by decide +kernel
theorem dL_addSchema_11 : decode cL_addSchema 11 = .ok (.astore_n 2, 1) := by decide +kernel
theorem dL_addSchema_12 : decode cL_addSchema 12 = .ok (.iconst 1, 1) := by decide +kernel
theorem dL_addSchema_13 : decode cL_addSchema 13 = .ok (.ireturn, 1) := by decide +kernel
theorem dL_addSchema_14 : decode cL_addSchema 14 = .ok (.iconst 0, 1) := by decide +kernel
theorem dL_addSchema_15 : decode cL_addSchema 15 = .ok (.ireturn, 1) := by decide +kernel
theorem dL_setKind_0 : decode cL_setKind 0 = .ok (.aload 5, 2) := by decide +kernel
theorem dL_setKind_2 : decode cL_setKind 2 = .ok (.iconst 0, 1) := by decide +kernel
theorem dL_setKind_3 : decode cL_setKind 3 = .ok (.aload_n 0, 1) := by decide +kernel
theorem dL_setKind_4 : decode cL_setKind 4 = .ok (.iload_n 1, 1) := by decide +kernel
theorem dL_setKind_5 : decode cL_setKind 5 = .ok (.iload_n 2, 1) := by decide +kernel
theorem dL_setKind_6 : decode cL_setKind 6 = .ok (.iload_n 3, 1) := by decide +kernel
theorem dL_setKind_7 : decode cL_setKind 7 = .ok (.iload 4, 2) := by decide +kernel
theorem dL_setKind_9 : decode cL_setKind 9 = .ok (.invokevirtual 15, 3) := by decide +kernel
theorem dL_setKind_12 : decode cL_setKind 12 = .ok (.i2l, 1) := by decide +kernel
theorem dL_setKind_13 : decode cL_setKind 13 = .ok (.lastore, 1) := by decide +kernel
theorem dL_setKind_14 : decode cL_setKind 14 = .ok (.goto 11, 3) := by decide +kernel
theorem dL_setKind_17 : decode cL_setKind 17 = .ok (.astore 6, 2) := by decide +kernel
theorem dL_setKind_19 : decode cL_setKind 19 = .ok (.iconst 1, 1) := by decide +kernel
theorem dL_setKind_20 : decode cL_setKind 20 = .ok (.ireturn, 1) := by decide +kernel
theorem dL_setKind_21 : decode cL_setKind 21 = .ok (.astore 6, 2) := by decide +kernel
theorem dL_setKind_23 : decode cL_setKind 23 = .ok (.iconst 2, 1) := by decide +kernel
theorem dL_setKind_24 : decode cL_setKind 24 = .ok (.ireturn, 1) := by decide +kernel
theorem dL_setKind_25 : decode cL_setKind 25 = .ok (.iconst 0, 1) := by decide +kernel
theorem dL_setKind_26 : decode cL_setKind 26 = .ok (.ireturn, 1) := by decide +kernel
theorem dL_dropKind_0 : decode cL_dropKind 0 = .ok (.aload_n 3, 1) := by decide +kernel
theorem dL_dropKind_1 : decode cL_dropKind 1 = .ok (.iconst 0, 1) := by decide +kernel
theorem dL_dropKind_2 : decode cL_dropKind 2 = .ok (.aload_n 0, 1) := by decide +kernel
theorem dL_dropKind_3 : decode cL_dropKind 3 = .ok (.iload_n 1, 1) := by decide +kernel
theorem dL_dropKind_4 : decode cL_dropKind 4 = .ok (.iload_n 2, 1) := by decide +kernel
theorem dL_dropKind_5 : decode cL_dropKind 5 = .ok (.invokevirtual 23, 3) := by decide +kernel
theorem dL_dropKind_8 : decode cL_dropKind 8 = .ok (.i2l, 1) := by decide +kernel
theorem dL_dropKind_9 : decode cL_dropKind 9 = .ok (.lastore, 1) := by decide +kernel
theorem dL_dropKind_10 : decode cL_dropKind 10 = .ok (.goto 11, 3) := by decide +kernel
theorem dL_dropKind_13 : decode cL_dropKind 13 = .ok (.astore 4, 2) := by decide +kernel
theorem dL_dropKind_15 : decode cL_dropKind 15 = .ok (.iconst 1, 1) := by decide +kernel
theorem dL_dropKind_16 : decode cL_dropKind 16 = .ok (.ireturn, 1) := by decide +kernel
theorem dL_dropKind_17 : decode cL_dropKind 17 = .ok (.astore 4, 2) := by decide +kernel
theorem dL_dropKind_19 : decode cL_dropKind 19 = .ok (.iconst 2, 1) := by decide +kernel
theorem dL_dropKind_20 : decode cL_dropKind 20 = .ok (.ireturn, 1) := by decide +kernel
theorem dL_dropKind_21 : decode cL_dropKind 21 = .ok (.iconst 0, 1) := by decide +kernel
theorem dL_dropKind_22 : decode cL_dropKind 22 = .ok (.ireturn, 1) := by decide +kernel
theorem dL_setDefault_0 : decode cL_setDefault 0 = .ok (.aload 4, 2) := by decide +kernel
theorem dL_setDefault_2 : decode cL_setDefault 2 = .ok (.iconst 0, 1) := by decide +kernel
theorem dL_setDefault_3 : decode cL_setDefault 3 = .ok (.aload_n 0, 1) := by decide +kernel
theorem dL_setDefault_4 : decode cL_setDefault 4 = .ok (.iload_n 1, 1) := by decide +kernel
theorem dL_setDefault_5 : decode cL_setDefault 5 = .ok (.iload_n 2, 1) := by decide +kernel
theorem dL_setDefault_6 : decode cL_setDefault 6 = .ok (.iload_n 3, 1) := by decide +kernel
theorem dL_setDefault_7 : decode cL_setDefault 7 = .ok (.invokevirtual 27, 3) := by decide +kernel
theorem dL_setDefault_10 : decode cL_setDefault 10 = .ok (.i2l, 1) := by decide +kernel
theorem dL_setDefault_11 : decode cL_setDefault 11 = .ok (.lastore, 1) := by decide +kernel
theorem dL_setDefault_12 : decode cL_setDefault 12 = .ok (.goto 15, 3) := by decide +kernel
theorem dL_setDefault_15 : decode cL_setDefault 15 = .ok (.astore 5, 2) := by decide +kernel
theorem dL_setDefault_17 : decode cL_setDefault 17 = .ok (.iconst 1, 1) := by decide +kernel
theorem dL_setDefault_18 : decode cL_setDefault 18 = .ok (.ireturn, 1) := by decide +kernel
theorem dL_setDefault_19 : decode cL_setDefault 19 = .ok (.astore 5, 2) := by decide +kernel
theorem dL_setDefault_21 : decode cL_setDefault 21 = .ok (.iconst 2, 1) := by decide +kernel
theorem dL_setDefault_22 : decode cL_setDefault 22 = .ok (.ireturn, 1) := by decide +kernel
theorem dL_setDefault_23 : decode cL_setDefault 23 = .ok (.astore 5, 2) := by decide +kernel
theorem dL_setDefault_25 : decode cL_setDefault 25 = .ok (.iconst 3, 1) := by decide +kernel
theorem dL_setDefault_26 : decode cL_setDefault 26 = .ok (.ireturn, 1) := by decide +kernel
theorem dL_setDefault_27 : decode cL_setDefault 27 = .ok (.iconst 0, 1) := by decide +kernel
theorem dL_setDefault_28 : decode cL_setDefault 28 = .ok (.ireturn, 1) := by decide +kernel
theorem dL_kindOf_0 : decode cL_kindOf 0 = .ok (.aload_n 3, 1) := by decide +kernel
theorem dL_kindOf_1 : decode cL_kindOf 1 = .ok (.iconst 0, 1) := by decide +kernel
theorem dL_kindOf_2 : decode cL_kindOf 2 = .ok (.aload_n 0, 1) := by decide +kernel
theorem dL_kindOf_3 : decode cL_kindOf 3 = .ok (.iload_n 1, 1) := by decide +kernel
theorem dL_kindOf_4 : decode cL_kindOf 4 = .ok (.iload_n 2, 1) := by decide +kernel
theorem dL_kindOf_5 : decode cL_kindOf 5 = .ok (.invokevirtual 31, 3) := by decide +kernel
theorem dL_kindOf_8 : decode cL_kindOf 8 = .ok (.i2l, 1) := by decide +kernel
theorem dL_kindOf_9 : decode cL_kindOf 9 = .ok (.lastore, 1) := by decide +kernel
theorem dL_kindOf_10 : decode cL_kindOf 10 = .ok (.goto 11, 3) := by decide +kernel
theorem dL_kindOf_13 : decode cL_kindOf 13 = .ok (.astore 4, 2) := by decide +kernel
theorem dL_kindOf_15 : decode cL_kindOf 15 = .ok (.iconst 1, 1) := by decide +kernel
theorem dL_kindOf_16 : decode cL_kindOf 16 = .ok (.ireturn, 1) := by decide +kernel
theorem dL_kindOf_17 : decode cL_kindOf 17 = .ok (.astore 4, 2) := by decide +kernel
theorem dL_kindOf_19 : decode cL_kindOf 19 = .ok (.iconst 2, 1) := by decide +kernel
theorem dL_kindOf_20 : decode cL_kindOf 20 = .ok (.ireturn, 1) := by decide +kernel
theorem dL_kindOf_21 : decode cL_kindOf 21 = .ok (.iconst 0, 1) := by decide +kernel
theorem dL_kindOf_22 : decode cL_kindOf 22 = .ok (.ireturn, 1) := by decide +kernel
theorem dL_conflict_0 : decode cL_conflict 0 = .ok (.aload_n 3, 1) := by decide +kernel
theorem dL_conflict_1 : decode cL_conflict 1 = .ok (.iconst 0, 1) := by decide +kernel
theorem dL_conflict_2 : decode cL_conflict 2 = .ok (.aload_n 0, 1) := by decide +kernel
theorem dL_conflict_3 : decode cL_conflict 3 = .ok (.iload_n 1, 1) := by decide +kernel
theorem dL_conflict_4 : decode cL_conflict 4 = .ok (.iload_n 2, 1) := by decide +kernel
theorem dL_conflict_5 : decode cL_conflict 5 = .ok (.invokevirtual 34, 3) := by decide +kernel
theorem dL_conflict_8 : decode cL_conflict 8 = .ok (.i2l, 1) := by decide +kernel
theorem dL_conflict_9 : decode cL_conflict 9 = .ok (.lastore, 1) := by decide +kernel
theorem dL_conflict_10 : decode cL_conflict 10 = .ok (.goto 7, 3) := by decide +kernel
theorem dL_conflict_13 : decode cL_conflict 13 = .ok (.astore 4, 2) := by decide +kernel
theorem dL_conflict_15 : decode cL_conflict 15 = .ok (.iconst 1, 1) := by decide +kernel
theorem dL_conflict_16 : decode cL_conflict 16 = .ok (.ireturn, 1) := by decide +kernel
theorem dL_conflict_17 : decode cL_conflict 17 = .ok (.iconst 0, 1) := by decide +kernel
theorem dL_conflict_18 : decode cL_conflict 18 = .ok (.ireturn, 1) := by decide +kernel
theorem dL_create_0 : decode cL_create 0 = .ok (.aload_n 2, 1) := by decide +kernel
theorem dL_create_1 : decode cL_create 1 = .ok (.iconst 0, 1) := by decide +kernel
theorem dL_create_2 : decode cL_create 2 = .ok (.aload_n 0, 1) := by decide +kernel
theorem dL_create_3 : decode cL_create 3 = .ok (.iload_n 1, 1) := by decide +kernel
theorem dL_create_4 : decode cL_create 4 = .ok (.invokevirtual 37, 3) := by decide +kernel
theorem dL_create_7 : decode cL_create 7 = .ok (.i2l, 1) := by decide +kernel
theorem dL_create_8 : decode cL_create 8 = .ok (.lastore, 1) := by decide +kernel
theorem dL_create_9 : decode cL_create 9 = .ok (.goto 9, 3) := by decide +kernel
theorem dL_create_12 : decode cL_create 12 = .ok (.astore_n 3, 1) := by decide +kernel
theorem dL_create_13 : decode cL_create 13 = .ok (.iconst 1, 1) := by decide +kernel
theorem dL_create_14 : decode cL_create 14 = .ok (.ireturn, 1) := by decide +kernel
theorem dL_create_15 : decode cL_create 15 = .ok (.astore_n 3, 1) := by decide +kernel
theorem dL_create_16 : decode cL_create 16 = .ok (.iconst 2, 1) := by decide +kernel
theorem dL_create_17 : decode cL_create 17 = .ok (.ireturn, 1) := by decide +kernel
theorem dL_create_18 : decode cL_create 18 = .ok (.iconst 0, 1) := by decide +kernel
theorem dL_create_19 : decode cL_create 19 = .ok (.ireturn, 1) := by decide +kernel
theorem dL_copy_0 : decode cL_copy 0 = .ok (.aload_n 3, 1) := by decide +kernel
theorem dL_copy_1 : decode cL_copy 1 = .ok (.iconst 0, 1) := by decide +kernel
theorem dL_copy_2 : decode cL_copy 2 = .ok (.aload_n 0, 1) := by decide +kernel
theorem dL_copy_3 : decode cL_copy 3 = .ok (.iload_n 1, 1) := by decide +kernel
theorem dL_copy_4 : decode cL_copy 4 = .ok (.iload_n 2, 1) := by decide +kernel
theorem dL_copy_5 : decode cL_copy 5 = .ok (.invokevirtual 41, 3) := by decide +kernel
theorem dL_copy_8 : decode cL_copy 8 = .ok (.i2l, 1) := by decide +kernel
theorem dL_copy_9 : decode cL_copy 9 = .ok (.lastore, 1) := by decide +kernel
theorem dL_copy_10 : decode cL_copy 10 = .ok (.goto 11, 3) := by decide +kernel
theorem dL_copy_13 : decode cL_copy 13 = .ok (.astore 4, 2) := by decide +kernel
theorem dL_copy_15 : decode cL_copy 15 = .ok (.iconst 1, 1) := by decide +kernel
theorem dL_copy_16 : decode cL_copy 16 = .ok (.ireturn, 1) := by decide +kernel
theorem dL_copy_17 : decode cL_copy 17 = .ok (.astore 4, 2) := by decide +kernel
theorem dL_copy_19 : decode cL_copy 19 = .ok (.iconst 2, 1) := by decide +kernel
theorem dL_copy_20 : decode cL_copy 20 = .ok (.ireturn, 1) := by decide +kernel
theorem dL_copy_21 : decode cL_copy 21 = .ok (.iconst 0, 1) := by decide +kernel
theorem dL_copy_22 : decode cL_copy 22 = .ok (.ireturn, 1) := by decide +kernel
theorem dL_discard_0 : decode cL_discard 0 = .ok (.aload_n 2, 1) := by decide +kernel
theorem dL_discard_1 : decode cL_discard 1 = .ok (.iconst 0, 1) := by decide +kernel
theorem dL_discard_2 : decode cL_discard 2 = .ok (.aload_n 0, 1) := by decide +kernel
theorem dL_discard_3 : decode cL_discard 3 = .ok (.iload_n 1, 1) := by decide +kernel
theorem dL_discard_4 : decode cL_discard 4 = .ok (.invokevirtual 44, 3) := by decide +kernel
theorem dL_discard_7 : decode cL_discard 7 = .ok (.i2l, 1) := by decide +kernel
theorem dL_discard_8 : decode cL_discard 8 = .ok (.lastore, 1) := by decide +kernel
theorem dL_discard_9 : decode cL_discard 9 = .ok (.goto 6, 3) := by decide +kernel
theorem dL_discard_12 : decode cL_discard 12 = .ok (.astore_n 3, 1) := by decide +kernel
theorem dL_discard_13 : decode cL_discard 13 = .ok (.iconst 1, 1) := by decide +kernel
theorem dL_discard_14 : decode cL_discard 14 = .ok (.ireturn, 1) := by decide +kernel
theorem dL_discard_15 : decode cL_discard 15 = .ok (.iconst 0, 1) := by decide +kernel
theorem dL_discard_16 : decode cL_discard 16 = .ok (.ireturn, 1) := by decide +kernel
theorem dL_set_0 : decode cL_set 0 = .ok (.aload_n 0, 1) := by decide +kernel
theorem dL_set_1 : decode cL_set 1 = .ok (.iload_n 1, 1) := by decide +kernel
theorem dL_set_2 : decode cL_set 2 = .ok (.iload_n 2, 1) := by decide +kernel
theorem dL_set_3 : decode cL_set 3 = .ok (.iload_n 3, 1) := by decide +kernel
theorem dL_set_4 : decode cL_set 4 = .ok (.invokevirtual 47, 3) := by decide +kernel
theorem dL_set_7 : decode cL_set 7 = .ok (.goto 15, 3) := by decide +kernel
theorem dL_set_10 : decode cL_set 10 = .ok (.astore 4, 2) := by decide +kernel
theorem dL_set_12 : decode cL_set 12 = .ok (.iconst 1, 1) := by decide +kernel
theorem dL_set_13 : decode cL_set 13 = .ok (.ireturn, 1) := by decide +kernel
theorem dL_set_14 : decode cL_set 14 = .ok (.astore 4, 2) := by decide +kernel
theorem dL_set_16 : decode cL_set 16 = .ok (.iconst 2, 1) := by decide +kernel
theorem dL_set_17 : decode cL_set 17 = .ok (.ireturn, 1) := by decide +kernel
theorem dL_set_18 : decode cL_set 18 = .ok (.astore 4, 2) := by decide +kernel
theorem dL_set_20 : decode cL_set 20 = .ok (.iconst 3, 1) := by decide +kernel
theorem dL_set_21 : decode cL_set 21 = .ok (.ireturn, 1) := by decide +kernel
theorem dL_set_22 : decode cL_set 22 = .ok (.iconst 0, 1) := by decide +kernel
theorem dL_set_23 : decode cL_set 23 = .ok (.ireturn, 1) := by decide +kernel
theorem dL_append_0 : decode cL_append 0 = .ok (.aload 4, 2) := by decide +kernel
theorem dL_append_2 : decode cL_append 2 = .ok (.iconst 0, 1) := by decide +kernel
theorem dL_append_3 : decode cL_append 3 = .ok (.aload_n 0, 1) := by decide +kernel
theorem dL_append_4 : decode cL_append 4 = .ok (.iload_n 1, 1) := by decide +kernel
theorem dL_append_5 : decode cL_append 5 = .ok (.iload_n 2, 1) := by decide +kernel
theorem dL_append_6 : decode cL_append 6 = .ok (.iload_n 3, 1) := by decide +kernel
theorem dL_append_7 : decode cL_append 7 = .ok (.invokevirtual 51, 3) := by decide +kernel
theorem dL_append_10 : decode cL_append 10 = .ok (.i2l, 1) := by decide +kernel
theorem dL_append_11 : decode cL_append 11 = .ok (.lastore, 1) := by decide +kernel
theorem dL_append_12 : decode cL_append 12 = .ok (.goto 15, 3) := by decide +kernel
theorem dL_append_15 : decode cL_append 15 = .ok (.astore 5, 2) := by decide +kernel
theorem dL_append_17 : decode cL_append 17 = .ok (.iconst 1, 1) := by decide +kernel
theorem dL_append_18 : decode cL_append 18 = .ok (.ireturn, 1) := by decide +kernel
theorem dL_append_19 : decode cL_append 19 = .ok (.astore 5, 2) := by decide +kernel
theorem dL_append_21 : decode cL_append 21 = .ok (.iconst 2, 1) := by decide +kernel
theorem dL_append_22 : decode cL_append 22 = .ok (.ireturn, 1) := by decide +kernel
theorem dL_append_23 : decode cL_append 23 = .ok (.astore 5, 2) := by decide +kernel
theorem dL_append_25 : decode cL_append 25 = .ok (.iconst 3, 1) := by decide +kernel
theorem dL_append_26 : decode cL_append 26 = .ok (.ireturn, 1) := by decide +kernel
theorem dL_append_27 : decode cL_append 27 = .ok (.iconst 0, 1) := by decide +kernel
theorem dL_append_28 : decode cL_append 28 = .ok (.ireturn, 1) := by decide +kernel
theorem dL_setPart_0 : decode cL_setPart 0 = .ok (.aload 4, 2) := by decide +kernel
theorem dL_setPart_2 : decode cL_setPart 2 = .ok (.iconst 0, 1) := by decide +kernel
theorem dL_setPart_3 : decode cL_setPart 3 = .ok (.aload_n 0, 1) := by decide +kernel
theorem dL_setPart_4 : decode cL_setPart 4 = .ok (.iload_n 1, 1) := by decide +kernel
theorem dL_setPart_5 : decode cL_setPart 5 = .ok (.iload_n 2, 1) := by decide +kernel
theorem dL_setPart_6 : decode cL_setPart 6 = .ok (.iload_n 3, 1) := by decide +kernel
theorem dL_setPart_7 : decode cL_setPart 7 = .ok (.invokevirtual 55, 3) := by decide +kernel
theorem dL_setPart_10 : decode cL_setPart 10 = .ok (.i2l, 1) := by decide +kernel
theorem dL_setPart_11 : decode cL_setPart 11 = .ok (.lastore, 1) := by decide +kernel
theorem dL_setPart_12 : decode cL_setPart 12 = .ok (.goto 15, 3) := by decide +kernel
theorem dL_setPart_15 : decode cL_setPart 15 = .ok (.astore 5, 2) := by decide +kernel
theorem dL_setPart_17 : decode cL_setPart 17 = .ok (.iconst 1, 1) := by decide +kernel
theorem dL_setPart_18 : decode cL_setPart 18 = .ok (.ireturn, 1) := by decide +kernel
theorem dL_setPart_19 : decode cL_setPart 19 = .ok (.astore 5, 2) := by decide +kernel
theorem dL_setPart_21 : decode cL_setPart 21 = .ok (.iconst 2, 1) := by decide +kernel
theorem dL_setPart_22 : decode cL_setPart 22 = .ok (.ireturn, 1) := by decide +kernel
theorem dL_setPart_23 : decode cL_setPart 23 = .ok (.astore 5, 2) := by decide +kernel
theorem dL_setPart_25 : decode cL_setPart 25 = .ok (.iconst 3, 1) := by decide +kernel
theorem dL_setPart_26 : decode cL_setPart 26 = .ok (.ireturn, 1) := by decide +kernel
theorem dL_setPart_27 : decode cL_setPart 27 = .ok (.iconst 0, 1) := by decide +kernel
theorem dL_setPart_28 : decode cL_setPart 28 = .ok (.ireturn, 1) := by decide +kernel
theorem dL_clear_0 : decode cL_clear 0 = .ok (.aload_n 3, 1) := by decide +kernel
theorem dL_clear_1 : decode cL_clear 1 = .ok (.iconst 0, 1) := by decide +kernel
theorem dL_clear_2 : decode cL_clear 2 = .ok (.aload_n 0, 1) := by decide +kernel
theorem dL_clear_3 : decode cL_clear 3 = .ok (.iload_n 1, 1) := by decide +kernel
theorem dL_clear_4 : decode cL_clear 4 = .ok (.iload_n 2, 1) := by decide +kernel
theorem dL_clear_5 : decode cL_clear 5 = .ok (.invokevirtual 58, 3) := by decide +kernel
theorem dL_clear_8 : decode cL_clear 8 = .ok (.i2l, 1) := by decide +kernel
theorem dL_clear_9 : decode cL_clear 9 = .ok (.lastore, 1) := by decide +kernel
theorem dL_clear_10 : decode cL_clear 10 = .ok (.goto 11, 3) := by decide +kernel
theorem dL_clear_13 : decode cL_clear 13 = .ok (.astore 4, 2) := by decide +kernel
theorem dL_clear_15 : decode cL_clear 15 = .ok (.iconst 1, 1) := by decide +kernel
theorem dL_clear_16 : decode cL_clear 16 = .ok (.ireturn, 1) := by decide +kernel
theorem dL_clear_17 : decode cL_clear 17 = .ok (.astore 4, 2) := by decide +kernel
theorem dL_clear_19 : decode cL_clear 19 = .ok (.iconst 2, 1) := by decide +kernel
theorem dL_clear_20 : decode cL_clear 20 = .ok (.ireturn, 1) := by decide +kernel
theorem dL_clear_21 : decode cL_clear 21 = .ok (.iconst 0, 1) := by decide +kernel
theorem dL_clear_22 : decode cL_clear 22 = .ok (.ireturn, 1) := by decide +kernel
theorem dL_schemaOf_0 : decode cL_schemaOf 0 = .ok (.aload_n 2, 1) := by decide +kernel
theorem dL_schemaOf_1 : decode cL_schemaOf 1 = .ok (.iconst 0, 1) := by decide +kernel
theorem dL_schemaOf_2 : decode cL_schemaOf 2 = .ok (.aload_n 0, 1) := by decide +kernel
theorem dL_schemaOf_3 : decode cL_schemaOf 3 = .ok (.iload_n 1, 1) := by decide +kernel
theorem dL_schemaOf_4 : decode cL_schemaOf 4 = .ok (.invokevirtual 61, 3) := by decide +kernel
theorem dL_schemaOf_7 : decode cL_schemaOf 7 = .ok (.i2l, 1) := by decide +kernel
theorem dL_schemaOf_8 : decode cL_schemaOf 8 = .ok (.lastore, 1) := by decide +kernel
theorem dL_schemaOf_9 : decode cL_schemaOf 9 = .ok (.goto 6, 3) := by decide +kernel
theorem dL_schemaOf_12 : decode cL_schemaOf 12 = .ok (.astore_n 3, 1) := by decide +kernel
theorem dL_schemaOf_13 : decode cL_schemaOf 13 = .ok (.iconst 1, 1) := by decide +kernel
theorem dL_schemaOf_14 : decode cL_schemaOf 14 = .ok (.ireturn, 1) := by decide +kernel
theorem dL_schemaOf_15 : decode cL_schemaOf 15 = .ok (.iconst 0, 1) := by decide +kernel
theorem dL_schemaOf_16 : decode cL_schemaOf 16 = .ok (.ireturn, 1) := by decide +kernel
theorem dL_has_0 : decode cL_has 0 = .ok (.aload_n 3, 1) := by decide +kernel
theorem dL_has_1 : decode cL_has 1 = .ok (.iconst 0, 1) := by decide +kernel
theorem dL_has_2 : decode cL_has 2 = .ok (.aload_n 0, 1) := by decide +kernel
theorem dL_has_3 : decode cL_has 3 = .ok (.iload_n 1, 1) := by decide +kernel
theorem dL_has_4 : decode cL_has 4 = .ok (.iload_n 2, 1) := by decide +kernel
theorem dL_has_5 : decode cL_has 5 = .ok (.invokevirtual 64, 3) := by decide +kernel
theorem dL_has_8 : decode cL_has 8 = .ok (.ifCond .eq 7, 3) := by decide +kernel
theorem dL_has_11 : decode cL_has 11 = .ok (.lconst 1, 1) := by decide +kernel
theorem dL_has_12 : decode cL_has 12 = .ok (.goto 4, 3) := by decide +kernel
theorem dL_has_15 : decode cL_has 15 = .ok (.lconst 0, 1) := by decide +kernel
theorem dL_has_16 : decode cL_has 16 = .ok (.lastore, 1) := by decide +kernel
theorem dL_has_17 : decode cL_has 17 = .ok (.goto 11, 3) := by decide +kernel
theorem dL_has_20 : decode cL_has 20 = .ok (.astore 4, 2) := by decide +kernel
theorem dL_has_22 : decode cL_has 22 = .ok (.iconst 1, 1) := by decide +kernel
theorem dL_has_23 : decode cL_has 23 = .ok (.ireturn, 1) := by decide +kernel
theorem dL_has_24 : decode cL_has 24 = .ok (.astore 4, 2) := by decide +kernel
theorem dL_has_26 : decode cL_has 26 = .ok (.iconst 2, 1) := by decide +kernel
theorem dL_has_27 : decode cL_has 27 = .ok (.ireturn, 1) := by decide +kernel
theorem dL_has_28 : decode cL_has 28 = .ok (.iconst 0, 1) := by decide +kernel
theorem dL_has_29 : decode cL_has 29 = .ok (.ireturn, 1) := by decide +kernel
theorem dL_get_0 : decode cL_get 0 = .ok (.aload_n 3, 1) := by decide +kernel
theorem dL_get_1 : decode cL_get 1 = .ok (.iconst 0, 1) := by decide +kernel
theorem dL_get_2 : decode cL_get 2 = .ok (.aload_n 0, 1) := by decide +kernel
theorem dL_get_3 : decode cL_get 3 = .ok (.iload_n 1, 1) := by decide +kernel
theorem dL_get_4 : decode cL_get 4 = .ok (.iload_n 2, 1) := by decide +kernel
theorem dL_get_5 : decode cL_get 5 = .ok (.invokevirtual 68, 3) := by decide +kernel
theorem dL_get_8 : decode cL_get 8 = .ok (.i2l, 1) := by decide +kernel
theorem dL_get_9 : decode cL_get 9 = .ok (.lastore, 1) := by decide +kernel
theorem dL_get_10 : decode cL_get 10 = .ok (.goto 11, 3) := by decide +kernel
theorem dL_get_13 : decode cL_get 13 = .ok (.astore 4, 2) := by decide +kernel
theorem dL_get_15 : decode cL_get 15 = .ok (.iconst 1, 1) := by decide +kernel
theorem dL_get_16 : decode cL_get 16 = .ok (.ireturn, 1) := by decide +kernel
theorem dL_get_17 : decode cL_get 17 = .ok (.astore 4, 2) := by decide +kernel
theorem dL_get_19 : decode cL_get 19 = .ok (.iconst 2, 1) := by decide +kernel
theorem dL_get_20 : decode cL_get 20 = .ok (.ireturn, 1) := by decide +kernel
theorem dL_get_21 : decode cL_get 21 = .ok (.iconst 0, 1) := by decide +kernel
theorem dL_get_22 : decode cL_get 22 = .ok (.ireturn, 1) := by decide +kernel
theorem dL_byteOf_0 : decode cL_byteOf 0 = .ok (.aload 4, 2) := by decide +kernel
theorem dL_byteOf_2 : decode cL_byteOf 2 = .ok (.iconst 0, 1) := by decide +kernel
theorem dL_byteOf_3 : decode cL_byteOf 3 = .ok (.aload_n 0, 1) := by decide +kernel
theorem dL_byteOf_4 : decode cL_byteOf 4 = .ok (.iload_n 1, 1) := by decide +kernel
theorem dL_byteOf_5 : decode cL_byteOf 5 = .ok (.iload_n 2, 1) := by decide +kernel
theorem dL_byteOf_6 : decode cL_byteOf 6 = .ok (.iload_n 3, 1) := by decide +kernel
theorem dL_byteOf_7 : decode cL_byteOf 7 = .ok (.invokevirtual 71, 3) := by decide +kernel
theorem dL_byteOf_10 : decode cL_byteOf 10 = .ok (.i2l, 1) := by decide +kernel
theorem dL_byteOf_11 : decode cL_byteOf 11 = .ok (.lastore, 1) := by decide +kernel
theorem dL_byteOf_12 : decode cL_byteOf 12 = .ok (.goto 15, 3) := by decide +kernel
theorem dL_byteOf_15 : decode cL_byteOf 15 = .ok (.astore 5, 2) := by decide +kernel
theorem dL_byteOf_17 : decode cL_byteOf 17 = .ok (.iconst 1, 1) := by decide +kernel
theorem dL_byteOf_18 : decode cL_byteOf 18 = .ok (.ireturn, 1) := by decide +kernel
theorem dL_byteOf_19 : decode cL_byteOf 19 = .ok (.astore 5, 2) := by decide +kernel
theorem dL_byteOf_21 : decode cL_byteOf 21 = .ok (.iconst 2, 1) := by decide +kernel
theorem dL_byteOf_22 : decode cL_byteOf 22 = .ok (.ireturn, 1) := by decide +kernel
theorem dL_byteOf_23 : decode cL_byteOf 23 = .ok (.astore 5, 2) := by decide +kernel
theorem dL_byteOf_25 : decode cL_byteOf 25 = .ok (.iconst 3, 1) := by decide +kernel
theorem dL_byteOf_26 : decode cL_byteOf 26 = .ok (.ireturn, 1) := by decide +kernel
theorem dL_byteOf_27 : decode cL_byteOf 27 = .ok (.iconst 0, 1) := by decide +kernel
theorem dL_byteOf_28 : decode cL_byteOf 28 = .ok (.ireturn, 1) := by decide +kernel
theorem dL_open_0 : decode cL_open 0 = .ok (.aload_n 3, 1) := by decide +kernel
theorem dL_open_1 : decode cL_open 1 = .ok (.iconst 0, 1) := by decide +kernel
theorem dL_open_2 : decode cL_open 2 = .ok (.aload_n 0, 1) := by decide +kernel
theorem dL_open_3 : decode cL_open 3 = .ok (.iload_n 1, 1) := by decide +kernel
theorem dL_open_4 : decode cL_open 4 = .ok (.iload_n 2, 1) := by decide +kernel
theorem dL_open_5 : decode cL_open 5 = .ok (.invokevirtual 77, 3) := by decide +kernel
theorem dL_open_8 : decode cL_open 8 = .ok (.i2l, 1) := by decide +kernel
theorem dL_open_9 : decode cL_open 9 = .ok (.lastore, 1) := by decide +kernel
theorem dL_open_10 : decode cL_open 10 = .ok (.goto 19, 3) := by decide +kernel
theorem dL_open_13 : decode cL_open 13 = .ok (.astore 4, 2) := by decide +kernel
theorem dL_open_15 : decode cL_open 15 = .ok (.iconst 1, 1) := by decide +kernel
theorem dL_open_16 : decode cL_open 16 = .ok (.ireturn, 1) := by decide +kernel
theorem dL_open_17 : decode cL_open 17 = .ok (.astore 4, 2) := by decide +kernel
theorem dL_open_19 : decode cL_open 19 = .ok (.iconst 2, 1) := by decide +kernel
theorem dL_open_20 : decode cL_open 20 = .ok (.ireturn, 1) := by decide +kernel
theorem dL_open_21 : decode cL_open 21 = .ok (.astore 4, 2) := by decide +kernel
theorem dL_open_23 : decode cL_open 23 = .ok (.iconst 3, 1) := by decide +kernel
theorem dL_open_24 : decode cL_open 24 = .ok (.ireturn, 1) := by decide +kernel
theorem dL_open_25 : decode cL_open 25 = .ok (.astore 4, 2) := by decide +kernel
theorem dL_open_27 : decode cL_open 27 = .ok (.iconst 4, 1) := by decide +kernel
theorem dL_open_28 : decode cL_open 28 = .ok (.ireturn, 1) := by decide +kernel
theorem dL_open_29 : decode cL_open 29 = .ok (.iconst 0, 1) := by decide +kernel
theorem dL_open_30 : decode cL_open 30 = .ok (.ireturn, 1) := by decide +kernel
theorem dL_unknowns_0 : decode cL_unknowns 0 = .ok (.aload_n 2, 1) := by decide +kernel
theorem dL_unknowns_1 : decode cL_unknowns 1 = .ok (.iconst 0, 1) := by decide +kernel
theorem dL_unknowns_2 : decode cL_unknowns 2 = .ok (.aload_n 0, 1) := by decide +kernel
theorem dL_unknowns_3 : decode cL_unknowns 3 = .ok (.iload_n 1, 1) := by decide +kernel
theorem dL_unknowns_4 : decode cL_unknowns 4 = .ok (.invokevirtual 80, 3) := by decide +kernel
theorem dL_unknowns_7 : decode cL_unknowns 7 = .ok (.i2l, 1) := by decide +kernel
theorem dL_unknowns_8 : decode cL_unknowns 8 = .ok (.lastore, 1) := by decide +kernel
theorem dL_unknowns_9 : decode cL_unknowns 9 = .ok (.goto 6, 3) := by decide +kernel
theorem dL_unknowns_12 : decode cL_unknowns 12 = .ok (.astore_n 3, 1) := by decide +kernel
theorem dL_unknowns_13 : decode cL_unknowns 13 = .ok (.iconst 1, 1) := by decide +kernel
theorem dL_unknowns_14 : decode cL_unknowns 14 = .ok (.ireturn, 1) := by decide +kernel
theorem dL_unknowns_15 : decode cL_unknowns 15 = .ok (.iconst 0, 1) := by decide +kernel
theorem dL_unknowns_16 : decode cL_unknowns 16 = .ok (.ireturn, 1) := by decide +kernel
theorem dL_unknownTag_0 : decode cL_unknownTag 0 = .ok (.aload_n 3, 1) := by decide +kernel
theorem dL_unknownTag_1 : decode cL_unknownTag 1 = .ok (.iconst 0, 1) := by decide +kernel
theorem dL_unknownTag_2 : decode cL_unknownTag 2 = .ok (.aload_n 0, 1) := by decide +kernel
theorem dL_unknownTag_3 : decode cL_unknownTag 3 = .ok (.iload_n 1, 1) := by decide +kernel
theorem dL_unknownTag_4 : decode cL_unknownTag 4 = .ok (.iload_n 2, 1) := by decide +kernel
theorem dL_unknownTag_5 : decode cL_unknownTag 5 = .ok (.invokevirtual 83, 3) := by decide +kernel
theorem dL_unknownTag_8 : decode cL_unknownTag 8 = .ok (.i2l, 1) := by decide +kernel
theorem dL_unknownTag_9 : decode cL_unknownTag 9 = .ok (.lastore, 1) := by decide +kernel
theorem dL_unknownTag_10 : decode cL_unknownTag 10 = .ok (.goto 7, 3) := by decide +kernel
theorem dL_unknownTag_13 : decode cL_unknownTag 13 = .ok (.astore 4, 2) := by decide +kernel
theorem dL_unknownTag_15 : decode cL_unknownTag 15 = .ok (.iconst 1, 1) := by decide +kernel
theorem dL_unknownTag_16 : decode cL_unknownTag 16 = .ok (.ireturn, 1) := by decide +kernel
theorem dL_unknownTag_17 : decode cL_unknownTag 17 = .ok (.iconst 0, 1) := by decide +kernel
theorem dL_unknownTag_18 : decode cL_unknownTag 18 = .ok (.ireturn, 1) := by decide +kernel
theorem dL_weight_0 : decode cL_weight 0 = .ok (.aload_n 2, 1) := by decide +kernel
theorem dL_weight_1 : decode cL_weight 1 = .ok (.iconst 0, 1) := by decide +kernel
theorem dL_weight_2 : decode cL_weight 2 = .ok (.aload_n 0, 1) := by decide +kernel
theorem dL_weight_3 : decode cL_weight 3 = .ok (.iload_n 1, 1) := by decide +kernel
theorem dL_weight_4 : decode cL_weight 4 = .ok (.invokevirtual 86, 3) := by decide +kernel
theorem dL_weight_7 : decode cL_weight 7 = .ok (.i2l, 1) := by decide +kernel
theorem dL_weight_8 : decode cL_weight 8 = .ok (.lastore, 1) := by decide +kernel
theorem dL_weight_9 : decode cL_weight 9 = .ok (.goto 6, 3) := by decide +kernel
theorem dL_weight_12 : decode cL_weight 12 = .ok (.astore_n 3, 1) := by decide +kernel
theorem dL_weight_13 : decode cL_weight 13 = .ok (.iconst 1, 1) := by decide +kernel
theorem dL_weight_14 : decode cL_weight 14 = .ok (.ireturn, 1) := by decide +kernel
theorem dL_weight_15 : decode cL_weight 15 = .ok (.iconst 0, 1) := by decide +kernel
theorem dL_weight_16 : decode cL_weight 16 = .ok (.ireturn, 1) := by decide +kernel
theorem dL_areSame_0 : decode cL_areSame 0 = .ok (.aload_n 3, 1) := by decide +kernel
theorem dL_areSame_1 : decode cL_areSame 1 = .ok (.iconst 0, 1) := by decide +kernel
theorem dL_areSame_2 : decode cL_areSame 2 = .ok (.aload_n 0, 1) := by decide +kernel
theorem dL_areSame_3 : decode cL_areSame 3 = .ok (.iload_n 1, 1) := by decide +kernel
theorem dL_areSame_4 : decode cL_areSame 4 = .ok (.iload_n 2, 1) := by decide +kernel
theorem dL_areSame_5 : decode cL_areSame 5 = .ok (.invokevirtual 89, 3) := by decide +kernel
theorem dL_areSame_8 : decode cL_areSame 8 = .ok (.ifCond .eq 7, 3) := by decide +kernel
theorem dL_areSame_11 : decode cL_areSame 11 = .ok (.lconst 1, 1) := by decide +kernel
theorem dL_areSame_12 : decode cL_areSame 12 = .ok (.goto 4, 3) := by decide +kernel
theorem dL_areSame_15 : decode cL_areSame 15 = .ok (.lconst 0, 1) := by decide +kernel
theorem dL_areSame_16 : decode cL_areSame 16 = .ok (.lastore, 1) := by decide +kernel
theorem dL_areSame_17 : decode cL_areSame 17 = .ok (.goto 7, 3) := by decide +kernel
theorem dL_areSame_20 : decode cL_areSame 20 = .ok (.astore 4, 2) := by decide +kernel
theorem dL_areSame_22 : decode cL_areSame 22 = .ok (.iconst 1, 1) := by decide +kernel
theorem dL_areSame_23 : decode cL_areSame 23 = .ok (.ireturn, 1) := by decide +kernel
theorem dL_areSame_24 : decode cL_areSame 24 = .ok (.iconst 0, 1) := by decide +kernel
theorem dL_areSame_25 : decode cL_areSame 25 = .ok (.ireturn, 1) := by decide +kernel
theorem dL_areSameByBytes_0 : decode cL_areSameByBytes 0 = .ok (.aload_n 3, 1) := by decide +kernel
theorem dL_areSameByBytes_1 : decode cL_areSameByBytes 1 = .ok (.iconst 0, 1) := by decide +kernel
theorem dL_areSameByBytes_2 : decode cL_areSameByBytes 2 = .ok (.aload_n 0, 1) := by decide +kernel
theorem dL_areSameByBytes_3 : decode cL_areSameByBytes 3 = .ok (.iload_n 1, 1) := by decide +kernel
theorem dL_areSameByBytes_4 : decode cL_areSameByBytes 4 = .ok (.iload_n 2, 1) := by decide +kernel
theorem dL_areSameByBytes_5 : decode cL_areSameByBytes 5 = .ok (.invokevirtual 92, 3) := by decide +kernel
theorem dL_areSameByBytes_8 : decode cL_areSameByBytes 8 = .ok (.ifCond .eq 7, 3) := by decide +kernel
theorem dL_areSameByBytes_11 : decode cL_areSameByBytes 11 = .ok (.lconst 1, 1) := by decide +kernel
theorem dL_areSameByBytes_12 : decode cL_areSameByBytes 12 = .ok (.goto 4, 3) := by decide +kernel
theorem dL_areSameByBytes_15 : decode cL_areSameByBytes 15 = .ok (.lconst 0, 1) := by decide +kernel
theorem dL_areSameByBytes_16 : decode cL_areSameByBytes 16 = .ok (.lastore, 1) := by decide +kernel
theorem dL_areSameByBytes_17 : decode cL_areSameByBytes 17 = .ok (.goto 7, 3) := by decide +kernel
theorem dL_areSameByBytes_20 : decode cL_areSameByBytes 20 = .ok (.astore 4, 2) := by decide +kernel
theorem dL_areSameByBytes_22 : decode cL_areSameByBytes 22 = .ok (.iconst 1, 1) := by decide +kernel
theorem dL_areSameByBytes_23 : decode cL_areSameByBytes 23 = .ok (.ireturn, 1) := by decide +kernel
theorem dL_areSameByBytes_24 : decode cL_areSameByBytes 24 = .ok (.iconst 0, 1) := by decide +kernel
theorem dL_areSameByBytes_25 : decode cL_areSameByBytes 25 = .ok (.ireturn, 1) := by decide +kernel
theorem dL_write_0 : decode cL_write 0 = .ok (.aload_n 2, 1) := by decide +kernel
theorem dL_write_1 : decode cL_write 1 = .ok (.iconst 0, 1) := by decide +kernel
theorem dL_write_2 : decode cL_write 2 = .ok (.aload_n 0, 1) := by decide +kernel
theorem dL_write_3 : decode cL_write 3 = .ok (.iload_n 1, 1) := by decide +kernel
theorem dL_write_4 : decode cL_write 4 = .ok (.invokevirtual 95, 3) := by decide +kernel
theorem dL_write_7 : decode cL_write 7 = .ok (.i2l, 1) := by decide +kernel
theorem dL_write_8 : decode cL_write 8 = .ok (.lastore, 1) := by decide +kernel
theorem dL_write_9 : decode cL_write 9 = .ok (.goto 6, 3) := by decide +kernel
theorem dL_write_12 : decode cL_write 12 = .ok (.astore_n 3, 1) := by decide +kernel
theorem dL_write_13 : decode cL_write 13 = .ok (.iconst 1, 1) := by decide +kernel
theorem dL_write_14 : decode cL_write 14 = .ok (.ireturn, 1) := by decide +kernel
theorem dL_write_15 : decode cL_write 15 = .ok (.iconst 0, 1) := by decide +kernel
theorem dL_write_16 : decode cL_write 16 = .ok (.ireturn, 1) := by decide +kernel
theorem dL_put_0 : decode cL_put 0 = .ok (.aload_n 2, 1) := by decide +kernel
theorem dL_put_1 : decode cL_put 1 = .ok (.iconst 0, 1) := by decide +kernel
theorem dL_put_2 : decode cL_put 2 = .ok (.aload_n 0, 1) := by decide +kernel
theorem dL_put_3 : decode cL_put 3 = .ok (.iload_n 1, 1) := by decide +kernel
theorem dL_put_4 : decode cL_put 4 = .ok (.invokevirtual 98, 3) := by decide +kernel
theorem dL_put_7 : decode cL_put 7 = .ok (.i2l, 1) := by decide +kernel
theorem dL_put_8 : decode cL_put 8 = .ok (.lastore, 1) := by decide +kernel
theorem dL_put_9 : decode cL_put 9 = .ok (.goto 6, 3) := by decide +kernel
theorem dL_put_12 : decode cL_put 12 = .ok (.astore_n 3, 1) := by decide +kernel
theorem dL_put_13 : decode cL_put 13 = .ok (.iconst 1, 1) := by decide +kernel
theorem dL_put_14 : decode cL_put 14 = .ok (.ireturn, 1) := by decide +kernel
theorem dL_put_15 : decode cL_put 15 = .ok (.iconst 0, 1) := by decide +kernel
theorem dL_put_16 : decode cL_put 16 = .ok (.ireturn, 1) := by decide +kernel
theorem dL_cut_0 : decode cL_cut 0 = .ok (.aload_n 2, 1) := by decide +kernel
theorem dL_cut_1 : decode cL_cut 1 = .ok (.iconst 0, 1) := by decide +kernel
theorem dL_cut_2 : decode cL_cut 2 = .ok (.aload_n 0, 1) := by decide +kernel
theorem dL_cut_3 : decode cL_cut 3 = .ok (.iload_n 1, 1) := by decide +kernel
theorem dL_cut_4 : decode cL_cut 4 = .ok (.invokevirtual 102, 3) := by decide +kernel
theorem dL_cut_7 : decode cL_cut 7 = .ok (.i2l, 1) := by decide +kernel
theorem dL_cut_8 : decode cL_cut 8 = .ok (.lastore, 1) := by decide +kernel
theorem dL_cut_9 : decode cL_cut 9 = .ok (.goto 6, 3) := by decide +kernel
theorem dL_cut_12 : decode cL_cut 12 = .ok (.astore_n 3, 1) := by decide +kernel
theorem dL_cut_13 : decode cL_cut 13 = .ok (.iconst 1, 1) := by decide +kernel
theorem dL_cut_14 : decode cL_cut 14 = .ok (.ireturn, 1) := by decide +kernel
theorem dL_cut_15 : decode cL_cut 15 = .ok (.iconst 0, 1) := by decide +kernel
theorem dL_cut_16 : decode cL_cut 16 = .ok (.ireturn, 1) := by decide +kernel
theorem dL_byteAt_0 : decode cL_byteAt 0 = .ok (.aload_n 2, 1) := by decide +kernel
theorem dL_byteAt_1 : decode cL_byteAt 1 = .ok (.iconst 0, 1) := by decide +kernel
theorem dL_byteAt_2 : decode cL_byteAt 2 = .ok (.aload_n 0, 1) := by decide +kernel
theorem dL_byteAt_3 : decode cL_byteAt 3 = .ok (.iload_n 1, 1) := by decide +kernel
theorem dL_byteAt_4 : decode cL_byteAt 4 = .ok (.invokevirtual 105, 3) := by decide +kernel
theorem dL_byteAt_7 : decode cL_byteAt 7 = .ok (.i2l, 1) := by decide +kernel
theorem dL_byteAt_8 : decode cL_byteAt 8 = .ok (.lastore, 1) := by decide +kernel
theorem dL_byteAt_9 : decode cL_byteAt 9 = .ok (.goto 6, 3) := by decide +kernel
theorem dL_byteAt_12 : decode cL_byteAt 12 = .ok (.astore_n 3, 1) := by decide +kernel
theorem dL_byteAt_13 : decode cL_byteAt 13 = .ok (.iconst 1, 1) := by decide +kernel
theorem dL_byteAt_14 : decode cL_byteAt 14 = .ok (.ireturn, 1) := by decide +kernel
theorem dL_byteAt_15 : decode cL_byteAt 15 = .ok (.iconst 0, 1) := by decide +kernel
theorem dL_byteAt_16 : decode cL_byteAt 16 = .ok (.ireturn, 1) := by decide +kernel
theorem dL_read_0 : decode cL_read 0 = .ok (.aload_n 2, 1) := by decide +kernel
theorem dL_read_1 : decode cL_read 1 = .ok (.iconst 0, 1) := by decide +kernel
theorem dL_read_2 : decode cL_read 2 = .ok (.aload_n 0, 1) := by decide +kernel
theorem dL_read_3 : decode cL_read 3 = .ok (.iload_n 1, 1) := by decide +kernel
theorem dL_read_4 : decode cL_read 4 = .ok (.invokevirtual 109, 3) := by decide +kernel
theorem dL_read_7 : decode cL_read 7 = .ok (.i2l, 1) := by decide +kernel
theorem dL_read_8 : decode cL_read 8 = .ok (.lastore, 1) := by decide +kernel
theorem dL_read_9 : decode cL_read 9 = .ok (.goto 12, 3) := by decide +kernel
theorem dL_read_12 : decode cL_read 12 = .ok (.astore_n 3, 1) := by decide +kernel
theorem dL_read_13 : decode cL_read 13 = .ok (.iconst 1, 1) := by decide +kernel
theorem dL_read_14 : decode cL_read 14 = .ok (.ireturn, 1) := by decide +kernel
theorem dL_read_15 : decode cL_read 15 = .ok (.astore_n 3, 1) := by decide +kernel
theorem dL_read_16 : decode cL_read 16 = .ok (.iconst 2, 1) := by decide +kernel
theorem dL_read_17 : decode cL_read 17 = .ok (.ireturn, 1) := by decide +kernel
theorem dL_read_18 : decode cL_read 18 = .ok (.astore_n 3, 1) := by decide +kernel
theorem dL_read_19 : decode cL_read 19 = .ok (.iconst 3, 1) := by decide +kernel
theorem dL_read_20 : decode cL_read 20 = .ok (.ireturn, 1) := by decide +kernel
theorem dL_read_21 : decode cL_read 21 = .ok (.iconst 0, 1) := by decide +kernel
theorem dL_read_22 : decode cL_read 22 = .ok (.ireturn, 1) := by decide +kernel
theorem dL_isCanonical_0 : decode cL_isCanonical 0 = .ok (.aload_n 2, 1) := by decide +kernel
theorem dL_isCanonical_1 : decode cL_isCanonical 1 = .ok (.iconst 0, 1) := by decide +kernel
theorem dL_isCanonical_2 : decode cL_isCanonical 2 = .ok (.aload_n 0, 1) := by decide +kernel
theorem dL_isCanonical_3 : decode cL_isCanonical 3 = .ok (.iload_n 1, 1) := by decide +kernel
theorem dL_isCanonical_4 : decode cL_isCanonical 4 = .ok (.invokevirtual 112, 3) := by decide +kernel
theorem dL_isCanonical_7 : decode cL_isCanonical 7 = .ok (.ifCond .eq 7, 3) := by decide +kernel
theorem dL_isCanonical_10 : decode cL_isCanonical 10 = .ok (.lconst 1, 1) := by decide +kernel
theorem dL_isCanonical_11 : decode cL_isCanonical 11 = .ok (.goto 4, 3) := by decide +kernel
theorem dL_isCanonical_14 : decode cL_isCanonical 14 = .ok (.lconst 0, 1) := by decide +kernel
theorem dL_isCanonical_15 : decode cL_isCanonical 15 = .ok (.lastore, 1) := by decide +kernel
theorem dL_isCanonical_16 : decode cL_isCanonical 16 = .ok (.goto 6, 3) := by decide +kernel
theorem dL_isCanonical_19 : decode cL_isCanonical 19 = .ok (.astore_n 3, 1) := by decide +kernel
theorem dL_isCanonical_20 : decode cL_isCanonical 20 = .ok (.iconst 1, 1) := by decide +kernel
theorem dL_isCanonical_21 : decode cL_isCanonical 21 = .ok (.ireturn, 1) := by decide +kernel
theorem dL_isCanonical_22 : decode cL_isCanonical 22 = .ok (.iconst 0, 1) := by decide +kernel
theorem dL_isCanonical_23 : decode cL_isCanonical 23 = .ok (.ireturn, 1) := by decide +kernel
