theorem dL_cell_0 : decode cL_cell 0 = .ok (.iload_n 1, 1) := by decide +kernel
theorem dL_cell_1 : decode cL_cell 1 = .ok (.aload_n 0, 1) := by decide +kernel
theorem dL_cell_2 : decode cL_cell 2 = .ok (.arraylength, 1) := by decide +kernel
theorem dL_cell_3 : decode cL_cell 3 = .ok (.if_icmp .ge 9, 3) := by decide +kernel
theorem dL_cell_6 : decode cL_cell 6 = .ok (.aload_n 0, 1) := by decide +kernel
theorem dL_cell_7 : decode cL_cell 7 = .ok (.iload_n 1, 1) := by decide +kernel
theorem dL_cell_8 : decode cL_cell 8 = .ok (.iaload, 1) := by decide +kernel
theorem dL_cell_9 : decode cL_cell 9 = .ok (.goto 9, 3) := by decide +kernel
theorem dL_cell_12 : decode cL_cell 12 = .ok (.ldc 7, 2) := by decide +kernel
theorem dL_cell_14 : decode cL_cell 14 = .ok (.iload_n 1, 1) := by decide +kernel
theorem dL_cell_15 : decode cL_cell 15 = .ok (.iconst 2, 1) := by decide +kernel
theorem dL_cell_16 : decode cL_cell 16 = .ok (.iadd, 1) := by decide +kernel
theorem dL_cell_17 : decode cL_cell 17 = .ok (.imul, 1) := by decide +kernel
theorem dL_cell_18 : decode cL_cell 18 = .ok (.ireturn, 1) := by decide +kernel
theorem dL_low_0 : decode cL_low 0 = .ok (.iload_n 0, 1) := by decide +kernel
theorem dL_low_1 : decode cL_low 1 = .ok (.iconst 1, 1) := by decide +kernel
theorem dL_low_2 : decode cL_low 2 = .ok (.iushr, 1) := by decide +kernel
theorem dL_low_3 : decode cL_low 3 = .ok (.iload_n 1, 1) := by decide +kernel
theorem dL_low_4 : decode cL_low 4 = .ok (.irem, 1) := by decide +kernel
theorem dL_low_5 : decode cL_low 5 = .ok (.ireturn, 1) := by decide +kernel
theorem dL_setKind_0 : decode cL_setKind 0 = .ok (.aload_n 0, 1) := by decide +kernel
theorem dL_setKind_1 : decode cL_setKind 1 = .ok (.iload_n 1, 1) := by decide +kernel
theorem dL_setKind_2 : decode cL_setKind 2 = .ok (.iload_n 2, 1) := by decide +kernel
theorem dL_setKind_3 : decode cL_setKind 3 = .ok (.iload_n 3, 1) := by decide +kernel
theorem dL_setKind_4 : decode cL_setKind 4 = .ok (.iload 4, 2) := by decide +kernel
theorem dL_setKind_6 : decode cL_setKind 6 = .ok (.invokevirtual 8, 3) := by decide +kernel
theorem dL_setKind_9 : decode cL_setKind 9 = .ok (.istore 5, 2) := by decide +kernel
theorem dL_setKind_11 : decode cL_setKind 11 = .ok (.goto 13, 3) := by decide +kernel
theorem dL_setKind_14 : decode cL_setKind 14 = .ok (.astore 6, 2) := by decide +kernel
theorem dL_setKind_16 : decode cL_setKind 16 = .ok (.bipush (-71), 2) := by decide +kernel
theorem dL_setKind_18 : decode cL_setKind 18 = .ok (.ireturn, 1) := by decide +kernel
theorem dL_setKind_19 : decode cL_setKind 19 = .ok (.astore 6, 2) := by decide +kernel
theorem dL_setKind_21 : decode cL_setKind 21 = .ok (.bipush (-72), 2) := by decide +kernel
theorem dL_setKind_23 : decode cL_setKind 23 = .ok (.ireturn, 1) := by decide +kernel
theorem dL_setKind_24 : decode cL_setKind 24 = .ok (.iload 5, 2) := by decide +kernel
theorem dL_setKind_26 : decode cL_setKind 26 = .ok (.ireturn, 1) := by decide +kernel
theorem dL_setDefault_0 : decode cL_setDefault 0 = .ok (.aload_n 0, 1) := by decide +kernel
theorem dL_setDefault_1 : decode cL_setDefault 1 = .ok (.iload_n 1, 1) := by decide +kernel
theorem dL_setDefault_2 : decode cL_setDefault 2 = .ok (.iload_n 2, 1) := by decide +kernel
theorem dL_setDefault_3 : decode cL_setDefault 3 = .ok (.iload_n 3, 1) := by decide +kernel
theorem dL_setDefault_4 : decode cL_setDefault 4 = .ok (.invokevirtual 18, 3) := by decide +kernel
theorem dL_setDefault_7 : decode cL_setDefault 7 = .ok (.pop, 1) := by decide +kernel
theorem dL_setDefault_8 : decode cL_setDefault 8 = .ok (.goto 18, 3) := by decide +kernel
theorem dL_setDefault_11 : decode cL_setDefault 11 = .ok (.astore 4, 2) := by decide +kernel
theorem dL_setDefault_13 : decode cL_setDefault 13 = .ok (.bipush (-71), 2) := by decide +kernel
theorem dL_setDefault_15 : decode cL_setDefault 15 = .ok (.ireturn, 1) := by decide +kernel
theorem dL_setDefault_16 : decode cL_setDefault 16 = .ok (.astore 4, 2) := by decide +kernel
theorem dL_setDefault_18 : decode cL_setDefault 18 = .ok (.bipush (-72), 2) := by decide +kernel
theorem dL_setDefault_20 : decode cL_setDefault 20 = .ok (.ireturn, 1) := by decide +kernel
theorem dL_setDefault_21 : decode cL_setDefault 21 = .ok (.astore 4, 2) := by decide +kernel
theorem dL_setDefault_23 : decode cL_setDefault 23 = .ok (.bipush (-73), 2) := by decide +kernel
theorem dL_setDefault_25 : decode cL_setDefault 25 = .ok (.ireturn, 1) := by decide +kernel
theorem dL_setDefault_26 : decode cL_setDefault 26 = .ok (.iconst 0, 1) := by decide +kernel
theorem dL_setDefault_27 : decode cL_setDefault 27 = .ok (.ireturn, 1) := by decide +kernel
theorem dL_create_0 : decode cL_create 0 = .ok (.aload_n 0, 1) := by decide +kernel
theorem dL_create_1 : decode cL_create 1 = .ok (.iload_n 1, 1) := by decide +kernel
theorem dL_create_2 : decode cL_create 2 = .ok (.invokevirtual 24, 3) := by decide +kernel
theorem dL_create_5 : decode cL_create 5 = .ok (.istore_n 2, 1) := by decide +kernel
theorem dL_create_6 : decode cL_create 6 = .ok (.goto 7, 3) := by decide +kernel
theorem dL_create_9 : decode cL_create 9 = .ok (.astore_n 3, 1) := by decide +kernel
theorem dL_create_10 : decode cL_create 10 = .ok (.bipush (-71), 2) := by decide +kernel
theorem dL_create_12 : decode cL_create 12 = .ok (.ireturn, 1) := by decide +kernel
theorem dL_create_13 : decode cL_create 13 = .ok (.iload_n 2, 1) := by decide +kernel
theorem dL_create_14 : decode cL_create 14 = .ok (.ireturn, 1) := by decide +kernel
theorem dL_set_0 : decode cL_set 0 = .ok (.aload_n 0, 1) := by decide +kernel
theorem dL_set_1 : decode cL_set 1 = .ok (.iload_n 1, 1) := by decide +kernel
theorem dL_set_2 : decode cL_set 2 = .ok (.iload_n 2, 1) := by decide +kernel
theorem dL_set_3 : decode cL_set 3 = .ok (.iload_n 3, 1) := by decide +kernel
theorem dL_set_4 : decode cL_set 4 = .ok (.invokevirtual 28, 3) := by decide +kernel
theorem dL_set_7 : decode cL_set 7 = .ok (.goto 18, 3) := by decide +kernel
theorem dL_set_10 : decode cL_set 10 = .ok (.astore 4, 2) := by decide +kernel
theorem dL_set_12 : decode cL_set 12 = .ok (.bipush (-71), 2) := by decide +kernel
theorem dL_set_14 : decode cL_set 14 = .ok (.ireturn, 1) := by decide +kernel
theorem dL_set_15 : decode cL_set 15 = .ok (.astore 4, 2) := by decide +kernel
theorem dL_set_17 : decode cL_set 17 = .ok (.bipush (-72), 2) := by decide +kernel
theorem dL_set_19 : decode cL_set 19 = .ok (.ireturn, 1) := by decide +kernel
theorem dL_set_20 : decode cL_set 20 = .ok (.astore 4, 2) := by decide +kernel
theorem dL_set_22 : decode cL_set 22 = .ok (.bipush (-73), 2) := by decide +kernel
theorem dL_set_24 : decode cL_set 24 = .ok (.ireturn, 1) := by decide +kernel
theorem dL_set_25 : decode cL_set 25 = .ok (.iconst 0, 1) := by decide +kernel
theorem dL_set_26 : decode cL_set 26 = .ok (.ireturn, 1) := by decide +kernel
theorem dL_append_0 : decode cL_append 0 = .ok (.aload_n 0, 1) := by decide +kernel
theorem dL_append_1 : decode cL_append 1 = .ok (.iload_n 1, 1) := by decide +kernel
theorem dL_append_2 : decode cL_append 2 = .ok (.iload_n 2, 1) := by decide +kernel
theorem dL_append_3 : decode cL_append 3 = .ok (.iload_n 3, 1) := by decide +kernel
theorem dL_append_4 : decode cL_append 4 = .ok (.i2b, 1) := by decide +kernel
theorem dL_append_5 : decode cL_append 5 = .ok (.invokevirtual 32, 3) := by decide +kernel
theorem dL_append_8 : decode cL_append 8 = .ok (.istore 4, 2) := by decide +kernel
theorem dL_append_10 : decode cL_append 10 = .ok (.goto 18, 3) := by decide +kernel
theorem dL_append_13 : decode cL_append 13 = .ok (.astore 5, 2) := by decide +kernel
theorem dL_append_15 : decode cL_append 15 = .ok (.bipush (-71), 2) := by decide +kernel
theorem dL_append_17 : decode cL_append 17 = .ok (.ireturn, 1) := by decide +kernel
theorem dL_append_18 : decode cL_append 18 = .ok (.astore 5, 2) := by decide +kernel
theorem dL_append_20 : decode cL_append 20 = .ok (.bipush (-72), 2) := by decide +kernel
theorem dL_append_22 : decode cL_append 22 = .ok (.ireturn, 1) := by decide +kernel
theorem dL_append_23 : decode cL_append 23 = .ok (.astore 5, 2) := by decide +kernel
theorem dL_append_25 : decode cL_append 25 = .ok (.bipush (-73), 2) := by decide +kernel
theorem dL_append_27 : decode cL_append 27 = .ok (.ireturn, 1) := by decide +kernel
theorem dL_append_28 : decode cL_append 28 = .ok (.iload 4, 2) := by decide +kernel
theorem dL_append_30 : decode cL_append 30 = .ok (.ireturn, 1) := by decide +kernel
theorem dL_setPart_0 : decode cL_setPart 0 = .ok (.aload_n 0, 1) := by decide +kernel
theorem dL_setPart_1 : decode cL_setPart 1 = .ok (.iload_n 1, 1) := by decide +kernel
theorem dL_setPart_2 : decode cL_setPart 2 = .ok (.iload_n 2, 1) := by decide +kernel
theorem dL_setPart_3 : decode cL_setPart 3 = .ok (.iload_n 3, 1) := by decide +kernel
theorem dL_setPart_4 : decode cL_setPart 4 = .ok (.invokevirtual 36, 3) := by decide +kernel
theorem dL_setPart_7 : decode cL_setPart 7 = .ok (.istore 4, 2) := by decide +kernel
theorem dL_setPart_9 : decode cL_setPart 9 = .ok (.goto 18, 3) := by decide +kernel
theorem dL_setPart_12 : decode cL_setPart 12 = .ok (.astore 5, 2) := by decide +kernel
theorem dL_setPart_14 : decode cL_setPart 14 = .ok (.bipush (-71), 2) := by decide +kernel
theorem dL_setPart_16 : decode cL_setPart 16 = .ok (.ireturn, 1) := by decide +kernel
theorem dL_setPart_17 : decode cL_setPart 17 = .ok (.astore 5, 2) := by decide +kernel
theorem dL_setPart_19 : decode cL_setPart 19 = .ok (.bipush (-72), 2) := by decide +kernel
theorem dL_setPart_21 : decode cL_setPart 21 = .ok (.ireturn, 1) := by decide +kernel
theorem dL_setPart_22 : decode cL_setPart 22 = .ok (.astore 5, 2) := by decide +kernel
theorem dL_setPart_24 : decode cL_setPart 24 = .ok (.bipush (-73), 2) := by decide +kernel
theorem dL_setPart_26 : decode cL_setPart 26 = .ok (.ireturn, 1) := by decide +kernel
theorem dL_setPart_27 : decode cL_setPart 27 = .ok (.iload 4, 2) := by decide +kernel
theorem dL_setPart_29 : decode cL_setPart 29 = .ok (.ireturn, 1) := by decide +kernel
theorem dL_open_0 : decode cL_open 0 = .ok (.aload_n 0, 1) := by decide +kernel
theorem dL_open_1 : decode cL_open 1 = .ok (.iload_n 1, 1) := by decide +kernel
theorem dL_open_2 : decode cL_open 2 = .ok (.iload_n 2, 1) := by decide +kernel
theorem dL_open_3 : decode cL_open 3 = .ok (.invokevirtual 39, 3) := by decide +kernel
theorem dL_open_6 : decode cL_open 6 = .ok (.istore_n 3, 1) := by decide +kernel
theorem dL_open_7 : decode cL_open 7 = .ok (.goto 23, 3) := by decide +kernel
theorem dL_open_10 : decode cL_open 10 = .ok (.astore 4, 2) := by decide +kernel
theorem dL_open_12 : decode cL_open 12 = .ok (.bipush (-71), 2) := by decide +kernel
theorem dL_open_14 : decode cL_open 14 = .ok (.ireturn, 1) := by decide +kernel
theorem dL_open_15 : decode cL_open 15 = .ok (.astore 4, 2) := by decide +kernel
theorem dL_open_17 : decode cL_open 17 = .ok (.bipush (-72), 2) := by decide +kernel
theorem dL_open_19 : decode cL_open 19 = .ok (.ireturn, 1) := by decide +kernel
theorem dL_open_20 : decode cL_open 20 = .ok (.astore 4, 2) := by decide +kernel
theorem dL_open_22 : decode cL_open 22 = .ok (.bipush (-73), 2) := by decide +kernel
theorem dL_open_24 : decode cL_open 24 = .ok (.ireturn, 1) := by decide +kernel
theorem dL_open_25 : decode cL_open 25 = .ok (.astore 4, 2) := by decide +kernel
theorem dL_open_27 : decode cL_open 27 = .ok (.bipush (-74), 2) := by decide +kernel
theorem dL_open_29 : decode cL_open 29 = .ok (.ireturn, 1) := by decide +kernel
theorem dL_open_30 : decode cL_open 30 = .ok (.iload_n 3, 1) := by decide +kernel
theorem dL_open_31 : decode cL_open 31 = .ok (.ireturn, 1) := by decide +kernel
theorem dL_byteOf_0 : decode cL_byteOf 0 = .ok (.aload_n 0, 1) := by decide +kernel
theorem dL_byteOf_1 : decode cL_byteOf 1 = .ok (.iload_n 1, 1) := by decide +kernel
theorem dL_byteOf_2 : decode cL_byteOf 2 = .ok (.iload_n 2, 1) := by decide +kernel
theorem dL_byteOf_3 : decode cL_byteOf 3 = .ok (.iload_n 3, 1) := by decide +kernel
theorem dL_byteOf_4 : decode cL_byteOf 4 = .ok (.invokevirtual 45, 3) := by decide +kernel
theorem dL_byteOf_7 : decode cL_byteOf 7 = .ok (.istore 4, 2) := by decide +kernel
theorem dL_byteOf_9 : decode cL_byteOf 9 = .ok (.goto 21, 3) := by decide +kernel
theorem dL_byteOf_12 : decode cL_byteOf 12 = .ok (.astore 5, 2) := by decide +kernel
theorem dL_byteOf_14 : decode cL_byteOf 14 = .ok (.sipush (-1071), 3) := by decide +kernel
theorem dL_byteOf_17 : decode cL_byteOf 17 = .ok (.ireturn, 1) := by decide +kernel
theorem dL_byteOf_18 : decode cL_byteOf 18 = .ok (.astore 5, 2) := by decide +kernel
theorem dL_byteOf_20 : decode cL_byteOf 20 = .ok (.sipush (-1072), 3) := by decide +kernel
theorem dL_byteOf_23 : decode cL_byteOf 23 = .ok (.ireturn, 1) := by decide +kernel
theorem dL_byteOf_24 : decode cL_byteOf 24 = .ok (.astore 5, 2) := by decide +kernel
theorem dL_byteOf_26 : decode cL_byteOf 26 = .ok (.sipush (-1074), 3) := by decide +kernel
theorem dL_byteOf_29 : decode cL_byteOf 29 = .ok (.ireturn, 1) := by decide +kernel
theorem dL_byteOf_30 : decode cL_byteOf 30 = .ok (.iload 4, 2) := by decide +kernel
theorem dL_byteOf_32 : decode cL_byteOf 32 = .ok (.ireturn, 1) := by decide +kernel
theorem dL_read_0 : decode cL_read 0 = .ok (.aload_n 0, 1) := by decide +kernel
theorem dL_read_1 : decode cL_read 1 = .ok (.iload_n 1, 1) := by decide +kernel
theorem dL_read_2 : decode cL_read 2 = .ok (.invokevirtual 49, 3) := by decide +kernel
theorem dL_read_5 : decode cL_read 5 = .ok (.istore_n 2, 1) := by decide +kernel
theorem dL_read_6 : decode cL_read 6 = .ok (.goto 11, 3) := by decide +kernel
theorem dL_read_9 : decode cL_read 9 = .ok (.astore_n 3, 1) := by decide +kernel
theorem dL_read_10 : decode cL_read 10 = .ok (.bipush (-71), 2) := by decide +kernel
theorem dL_read_12 : decode cL_read 12 = .ok (.ireturn, 1) := by decide +kernel
theorem dL_read_13 : decode cL_read 13 = .ok (.astore_n 3, 1) := by decide +kernel
theorem dL_read_14 : decode cL_read 14 = .ok (.bipush (-72), 2) := by decide +kernel
theorem dL_read_16 : decode cL_read 16 = .ok (.ireturn, 1) := by decide +kernel
theorem dL_read_17 : decode cL_read 17 = .ok (.iload_n 2, 1) := by decide +kernel
theorem dL_read_18 : decode cL_read 18 = .ok (.ireturn, 1) := by decide +kernel
theorem dL_hasNone_0 : decode cL_hasNone 0 = .ok (.aload_n 0, 1) := by decide +kernel
theorem dL_hasNone_1 : decode cL_hasNone 1 = .ok (.iload_n 1, 1) := by decide +kernel
theorem dL_hasNone_2 : decode cL_hasNone 2 = .ok (.iload_n 2, 1) := by decide +kernel
theorem dL_hasNone_3 : decode cL_hasNone 3 = .ok (.invokevirtual 52, 3) := by decide +kernel
theorem dL_hasNone_6 : decode cL_hasNone 6 = .ok (.istore_n 3, 1) := by decide +kernel
theorem dL_hasNone_7 : decode cL_hasNone 7 = .ok (.goto 7, 3) := by decide +kernel
theorem dL_hasNone_10 : decode cL_hasNone 10 = .ok (.astore 4, 2) := by decide +kernel
theorem dL_hasNone_12 : decode cL_hasNone 12 = .ok (.iconst 1, 1) := by decide +kernel
theorem dL_hasNone_13 : decode cL_hasNone 13 = .ok (.ireturn, 1) := by decide +kernel
theorem dL_hasNone_14 : decode cL_hasNone 14 = .ok (.iload_n 3, 1) := by decide +kernel
theorem dL_hasNone_15 : decode cL_hasNone 15 = .ok (.ifCond .ge 11, 3) := by decide +kernel
theorem dL_hasNone_18 : decode cL_hasNone 18 = .ok (.iload_n 3, 1) := by decide +kernel
theorem dL_hasNone_19 : decode cL_hasNone 19 = .ok (.ifCond .lt 7, 3) := by decide +kernel
theorem dL_hasNone_22 : decode cL_hasNone 22 = .ok (.iconst 1, 1) := by decide +kernel
theorem dL_hasNone_23 : decode cL_hasNone 23 = .ok (.goto 4, 3) := by decide +kernel
theorem dL_hasNone_26 : decode cL_hasNone 26 = .ok (.iconst 0, 1) := by decide +kernel
theorem dL_hasNone_27 : decode cL_hasNone 27 = .ok (.ireturn, 1) := by decide +kernel
theorem dL_weight_0 : decode cL_weight 0 = .ok (.aload_n 0, 1) := by decide +kernel
theorem dL_weight_1 : decode cL_weight 1 = .ok (.iload_n 1, 1) := by decide +kernel
theorem dL_weight_2 : decode cL_weight 2 = .ok (.invokevirtual 55, 3) := by decide +kernel
theorem dL_weight_5 : decode cL_weight 5 = .ok (.istore_n 2, 1) := by decide +kernel
theorem dL_weight_6 : decode cL_weight 6 = .ok (.goto 7, 3) := by decide +kernel
theorem dL_weight_9 : decode cL_weight 9 = .ok (.astore_n 3, 1) := by decide +kernel
theorem dL_weight_10 : decode cL_weight 10 = .ok (.bipush (-71), 2) := by decide +kernel
theorem dL_weight_12 : decode cL_weight 12 = .ok (.ireturn, 1) := by decide +kernel
theorem dL_weight_13 : decode cL_weight 13 = .ok (.iload_n 2, 1) := by decide +kernel
theorem dL_weight_14 : decode cL_weight 14 = .ok (.ireturn, 1) := by decide +kernel
theorem dL_unknownTag_0 : decode cL_unknownTag 0 = .ok (.aload_n 0, 1) := by decide +kernel
theorem dL_unknownTag_1 : decode cL_unknownTag 1 = .ok (.iload_n 1, 1) := by decide +kernel
theorem dL_unknownTag_2 : decode cL_unknownTag 2 = .ok (.iload_n 2, 1) := by decide +kernel
theorem dL_unknownTag_3 : decode cL_unknownTag 3 = .ok (.invokevirtual 58, 3) := by decide +kernel
theorem dL_unknownTag_6 : decode cL_unknownTag 6 = .ok (.istore_n 3, 1) := by decide +kernel
theorem dL_unknownTag_7 : decode cL_unknownTag 7 = .ok (.goto 8, 3) := by decide +kernel
theorem dL_unknownTag_10 : decode cL_unknownTag 10 = .ok (.astore 4, 2) := by decide +kernel
theorem dL_unknownTag_12 : decode cL_unknownTag 12 = .ok (.bipush (-71), 2) := by decide +kernel
theorem dL_unknownTag_14 : decode cL_unknownTag 14 = .ok (.ireturn, 1) := by decide +kernel
theorem dL_unknownTag_15 : decode cL_unknownTag 15 = .ok (.iload_n 3, 1) := by decide +kernel
theorem dL_unknownTag_16 : decode cL_unknownTag 16 = .ok (.ireturn, 1) := by decide +kernel
theorem dL_cut_0 : decode cL_cut 0 = .ok (.aload_n 0, 1) := by decide +kernel
theorem dL_cut_1 : decode cL_cut 1 = .ok (.iload_n 1, 1) := by decide +kernel
theorem dL_cut_2 : decode cL_cut 2 = .ok (.invokevirtual 61, 3) := by decide +kernel
theorem dL_cut_5 : decode cL_cut 5 = .ok (.istore_n 2, 1) := by decide +kernel
theorem dL_cut_6 : decode cL_cut 6 = .ok (.goto 7, 3) := by decide +kernel
theorem dL_cut_9 : decode cL_cut 9 = .ok (.astore_n 3, 1) := by decide +kernel
theorem dL_cut_10 : decode cL_cut 10 = .ok (.bipush (-71), 2) := by decide +kernel
theorem dL_cut_12 : decode cL_cut 12 = .ok (.ireturn, 1) := by decide +kernel
theorem dL_cut_13 : decode cL_cut 13 = .ok (.iload_n 2, 1) := by decide +kernel
theorem dL_cut_14 : decode cL_cut 14 = .ok (.ireturn, 1) := by decide +kernel
theorem dL_tagAt_0 : decode cL_tagAt 0 = .ok (.iload_n 0, 1) := by decide +kernel
theorem dL_tagAt_1 : decode cL_tagAt 1 = .ok (.iconst 3, 1) := by decide +kernel
theorem dL_tagAt_2 : decode cL_tagAt 2 = .ok (.if_icmp .ge 9, 3) := by decide +kernel
theorem dL_tagAt_5 : decode cL_tagAt 5 = .ok (.iload_n 0, 1) := by decide +kernel
theorem dL_tagAt_6 : decode cL_tagAt 6 = .ok (.iconst 1, 1) := by decide +kernel
theorem dL_tagAt_7 : decode cL_tagAt 7 = .ok (.iadd, 1) := by decide +kernel
theorem dL_tagAt_8 : decode cL_tagAt 8 = .ok (.goto 25, 3) := by decide +kernel
theorem dL_tagAt_11 : decode cL_tagAt 11 = .ok (.iload_n 0, 1) := by decide +kernel
theorem dL_tagAt_12 : decode cL_tagAt 12 = .ok (.iconst 3, 1) := by decide +kernel
theorem dL_tagAt_13 : decode cL_tagAt 13 = .ok (.if_icmp .ne 8, 3) := by decide +kernel
theorem dL_tagAt_16 : decode cL_tagAt 16 = .ok (.bipush 15, 2) := by decide +kernel
theorem dL_tagAt_18 : decode cL_tagAt 18 = .ok (.goto 15, 3) := by decide +kernel
theorem dL_tagAt_21 : decode cL_tagAt 21 = .ok (.iload_n 0, 1) := by decide +kernel
theorem dL_tagAt_22 : decode cL_tagAt 22 = .ok (.iconst 4, 1) := by decide +kernel
theorem dL_tagAt_23 : decode cL_tagAt 23 = .ok (.if_icmp .ne 8, 3) := by decide +kernel
theorem dL_tagAt_26 : decode cL_tagAt 26 = .ok (.bipush 16, 2) := by decide +kernel
theorem dL_tagAt_28 : decode cL_tagAt 28 = .ok (.goto 5, 3) := by decide +kernel
theorem dL_tagAt_31 : decode cL_tagAt 31 = .ok (.bipush 31, 2) := by decide +kernel
theorem dL_tagAt_33 : decode cL_tagAt 33 = .ok (.ireturn, 1) := by decide +kernel
theorem dL_kind_0 : decode cL_kind 0 = .ok (.iconst 0, 1) := by decide +kernel
theorem dL_kind_1 : decode cL_kind 1 = .ok (.istore_n 3, 1) := by decide +kernel
theorem dL_kind_2 : decode cL_kind 2 = .ok (.iload_n 3, 1) := by decide +kernel
theorem dL_kind_3 : decode cL_kind 3 = .ok (.bipush 6, 2) := by decide +kernel
theorem dL_kind_5 : decode cL_kind 5 = .ok (.if_icmp .ge 31, 3) := by decide +kernel
theorem dL_kind_8 : decode cL_kind 8 = .ok (.iload_n 3, 1) := by decide +kernel
theorem dL_kind_9 : decode cL_kind 9 = .ok (.invokestatic 64, 3) := by decide +kernel
theorem dL_kind_12 : decode cL_kind 12 = .ok (.iload_n 2, 1) := by decide +kernel
theorem dL_kind_13 : decode cL_kind 13 = .ok (.if_icmp .ne 17, 3) := by decide +kernel
theorem dL_kind_16 : decode cL_kind 16 = .ok (.aload_n 0, 1) := by decide +kernel
theorem dL_kind_17 : decode cL_kind 17 = .ok (.bipush 6, 2) := by decide +kernel
theorem dL_kind_19 : decode cL_kind 19 = .ok (.iload_n 1, 1) := by decide +kernel
theorem dL_kind_20 : decode cL_kind 20 = .ok (.imul, 1) := by decide +kernel
theorem dL_kind_21 : decode cL_kind 21 = .ok (.iload_n 3, 1) := by decide +kernel
theorem dL_kind_22 : decode cL_kind 22 = .ok (.iadd, 1) := by decide +kernel
theorem dL_kind_23 : decode cL_kind 23 = .ok (.iaload, 1) := by decide +kernel
theorem dL_kind_24 : decode cL_kind 24 = .ok (.bipush 8, 2) := by decide +kernel
theorem dL_kind_26 : decode cL_kind 26 = .ok (.irem, 1) := by decide +kernel
theorem dL_kind_27 : decode cL_kind 27 = .ok (.iconst 1, 1) := by decide +kernel
theorem dL_kind_28 : decode cL_kind 28 = .ok (.isub, 1) := by decide +kernel
theorem dL_kind_29 : decode cL_kind 29 = .ok (.ireturn, 1) := by decide +kernel
theorem dL_kind_30 : decode cL_kind 30 = .ok (.iinc 3 1, 3) := by decide +kernel
theorem dL_kind_33 : decode cL_kind 33 = .ok (.goto (-31), 3) := by decide +kernel
theorem dL_kind_36 : decode cL_kind 36 = .ok (.iconst (-1), 1) := by decide +kernel
theorem dL_kind_37 : decode cL_kind 37 = .ok (.ireturn, 1) := by decide +kernel
theorem dL_place_0 : decode cL_place 0 = .ok (.iconst 0, 1) := by decide +kernel
theorem dL_place_1 : decode cL_place 1 = .ok (.istore_n 2, 1) := by decide +kernel
theorem dL_place_2 : decode cL_place 2 = .ok (.iload_n 2, 1) := by decide +kernel
theorem dL_place_3 : decode cL_place 3 = .ok (.invokestatic 64, 3) := by decide +kernel
theorem dL_place_6 : decode cL_place 6 = .ok (.iload_n 1, 1) := by decide +kernel
theorem dL_place_7 : decode cL_place 7 = .ok (.if_icmp .eq 9, 3) := by decide +kernel
theorem dL_place_10 : decode cL_place 10 = .ok (.iinc 2 1, 3) := by decide +kernel
theorem dL_place_13 : decode cL_place 13 = .ok (.goto (-11), 3) := by decide +kernel
theorem dL_place_16 : decode cL_place 16 = .ok (.bipush 6, 2) := by decide +kernel
theorem dL_place_18 : decode cL_place 18 = .ok (.iload_n 0, 1) := by decide +kernel
theorem dL_place_19 : decode cL_place 19 = .ok (.imul, 1) := by decide +kernel
theorem dL_place_20 : decode cL_place 20 = .ok (.iload_n 2, 1) := by decide +kernel
theorem dL_place_21 : decode cL_place 21 = .ok (.iadd, 1) := by decide +kernel
theorem dL_place_22 : decode cL_place 22 = .ok (.ireturn, 1) := by decide +kernel
theorem dL_isKnown_0 : decode cL_isKnown 0 = .ok (.aload_n 0, 1) := by decide +kernel
theorem dL_isKnown_1 : decode cL_isKnown 1 = .ok (.iload_n 1, 1) := by decide +kernel
theorem dL_isKnown_2 : decode cL_isKnown 2 = .ok (.iload_n 2, 1) := by decide +kernel
theorem dL_isKnown_3 : decode cL_isKnown 3 = .ok (.bipush 8, 2) := by decide +kernel
theorem dL_isKnown_5 : decode cL_isKnown 5 = .ok (.idiv, 1) := by decide +kernel
theorem dL_isKnown_6 : decode cL_isKnown 6 = .ok (.invokestatic 69, 3) := by decide +kernel
theorem dL_isKnown_9 : decode cL_isKnown 9 = .ok (.istore_n 3, 1) := by decide +kernel
theorem dL_isKnown_10 : decode cL_isKnown 10 = .ok (.iload_n 3, 1) := by decide +kernel
theorem dL_isKnown_11 : decode cL_isKnown 11 = .ok (.ifCond .lt 33, 3) := by decide +kernel
theorem dL_isKnown_14 : decode cL_isKnown 14 = .ok (.iload_n 2, 1) := by decide +kernel
theorem dL_isKnown_15 : decode cL_isKnown 15 = .ok (.bipush 8, 2) := by decide +kernel
theorem dL_isKnown_17 : decode cL_isKnown 17 = .ok (.irem, 1) := by decide +kernel
theorem dL_isKnown_18 : decode cL_isKnown 18 = .ok (.iload_n 3, 1) := by decide +kernel
theorem dL_isKnown_19 : decode cL_isKnown 19 = .ok (.iconst 2, 1) := by decide +kernel
theorem dL_isKnown_20 : decode cL_isKnown 20 = .ok (.if_icmp .ge 7, 3) := by decide +kernel
theorem dL_isKnown_23 : decode cL_isKnown 23 = .ok (.iconst 0, 1) := by decide +kernel
theorem dL_isKnown_24 : decode cL_isKnown 24 = .ok (.goto 13, 3) := by decide +kernel
theorem dL_isKnown_27 : decode cL_isKnown 27 = .ok (.iload_n 3, 1) := by decide +kernel
theorem dL_isKnown_28 : decode cL_isKnown 28 = .ok (.iconst 2, 1) := by decide +kernel
theorem dL_isKnown_29 : decode cL_isKnown 29 = .ok (.if_icmp .ne 7, 3) := by decide +kernel
theorem dL_isKnown_32 : decode cL_isKnown 32 = .ok (.iconst 5, 1) := by decide +kernel
theorem dL_isKnown_33 : decode cL_isKnown 33 = .ok (.goto 4, 3) := by decide +kernel
theorem dL_isKnown_36 : decode cL_isKnown 36 = .ok (.iconst 2, 1) := by decide +kernel
theorem dL_isKnown_37 : decode cL_isKnown 37 = .ok (.if_icmp .ne 7, 3) := by decide +kernel
theorem dL_isKnown_40 : decode cL_isKnown 40 = .ok (.iconst 1, 1) := by decide +kernel
theorem dL_isKnown_41 : decode cL_isKnown 41 = .ok (.goto 4, 3) := by decide +kernel
theorem dL_isKnown_44 : decode cL_isKnown 44 = .ok (.iconst 0, 1) := by decide +kernel
theorem dL_isKnown_45 : decode cL_isKnown 45 = .ok (.ireturn, 1) := by decide +kernel
theorem dL_stands_0 : decode cL_stands 0 = .ok (.iload_n 0, 1) := by decide +kernel
theorem dL_stands_1 : decode cL_stands 1 = .ok (.iconst 1, 1) := by decide +kernel
theorem dL_stands_2 : decode cL_stands 2 = .ok (.if_icmp .eq 7, 3) := by decide +kernel
theorem dL_stands_5 : decode cL_stands 5 = .ok (.iload_n 1, 1) := by decide +kernel
theorem dL_stands_6 : decode cL_stands 6 = .ok (.goto 20, 3) := by decide +kernel
theorem dL_stands_9 : decode cL_stands 9 = .ok (.iload_n 1, 1) := by decide +kernel
theorem dL_stands_10 : decode cL_stands 10 = .ok (.iconst 1, 1) := by decide +kernel
theorem dL_stands_11 : decode cL_stands 11 = .ok (.iand, 1) := by decide +kernel
theorem dL_stands_12 : decode cL_stands 12 = .ok (.ifCond .ne 9, 3) := by decide +kernel
theorem dL_stands_15 : decode cL_stands 15 = .ok (.iload_n 1, 1) := by decide +kernel
theorem dL_stands_16 : decode cL_stands 16 = .ok (.iconst 1, 1) := by decide +kernel
theorem dL_stands_17 : decode cL_stands 17 = .ok (.iushr, 1) := by decide +kernel
theorem dL_stands_18 : decode cL_stands 18 = .ok (.goto 8, 3) := by decide +kernel
theorem dL_stands_21 : decode cL_stands 21 = .ok (.iload_n 1, 1) := by decide +kernel
theorem dL_stands_22 : decode cL_stands 22 = .ok (.iconst 1, 1) := by decide +kernel
theorem dL_stands_23 : decode cL_stands 23 = .ok (.iushr, 1) := by decide +kernel
theorem dL_stands_24 : decode cL_stands 24 = .ok (.iconst (-1), 1) := by decide +kernel
theorem dL_stands_25 : decode cL_stands 25 = .ok (.ixor, 1) := by decide +kernel
theorem dL_stands_26 : decode cL_stands 26 = .ok (.ireturn, 1) := by decide +kernel
theorem dL_groups_0 : decode cL_groups 0 = .ok (.iconst 1, 1) := by decide +kernel
theorem dL_groups_1 : decode cL_groups 1 = .ok (.istore_n 1, 1) := by decide +kernel
theorem dL_groups_2 : decode cL_groups 2 = .ok (.iload_n 0, 1) := by decide +kernel
theorem dL_groups_3 : decode cL_groups 3 = .ok (.bipush 7, 2) := by decide +kernel
theorem dL_groups_5 : decode cL_groups 5 = .ok (.iushr, 1) := by decide +kernel
theorem dL_groups_6 : decode cL_groups 6 = .ok (.istore_n 2, 1) := by decide +kernel
theorem dL_groups_7 : decode cL_groups 7 = .ok (.iload_n 2, 1) := by decide +kernel
theorem dL_groups_8 : decode cL_groups 8 = .ok (.ifCond .eq 14, 3) := by decide +kernel
theorem dL_groups_11 : decode cL_groups 11 = .ok (.iinc 1 1, 3) := by decide +kernel
theorem dL_groups_14 : decode cL_groups 14 = .ok (.iload_n 2, 1) := by decide +kernel
theorem dL_groups_15 : decode cL_groups 15 = .ok (.bipush 7, 2) := by decide +kernel
theorem dL_groups_17 : decode cL_groups 17 = .ok (.iushr, 1) := by decide +kernel
theorem dL_groups_18 : decode cL_groups 18 = .ok (.istore_n 2, 1) := by decide +kernel
theorem dL_groups_19 : decode cL_groups 19 = .ok (.goto (-12), 3) := by decide +kernel
theorem dL_groups_22 : decode cL_groups 22 = .ok (.iload_n 1, 1) := by decide +kernel
theorem dL_groups_23 : decode cL_groups 23 = .ok (.ireturn, 1) := by decide +kernel
theorem dL_size_0 : decode cL_size 0 = .ok (.aload_n 0, 1) := by decide +kernel
theorem dL_size_1 : decode cL_size 1 = .ok (.iload_n 2, 1) := by decide +kernel
theorem dL_size_2 : decode cL_size 2 = .ok (.iaload, 1) := by decide +kernel
theorem dL_size_3 : decode cL_size 3 = .ok (.invokestatic 73, 3) := by decide +kernel
theorem dL_size_6 : decode cL_size 6 = .ok (.aload_n 0, 1) := by decide +kernel
theorem dL_size_7 : decode cL_size 7 = .ok (.iload_n 2, 1) := by decide +kernel
theorem dL_size_8 : decode cL_size 8 = .ok (.iaload, 1) := by decide +kernel
theorem dL_size_9 : decode cL_size 9 = .ok (.bipush 8, 2) := by decide +kernel
theorem dL_size_11 : decode cL_size 11 = .ok (.irem, 1) := by decide +kernel
theorem dL_size_12 : decode cL_size 12 = .ok (.iconst 5, 1) := by decide +kernel
theorem dL_size_13 : decode cL_size 13 = .ok (.if_icmp .ne 7, 3) := by decide +kernel
theorem dL_size_16 : decode cL_size 16 = .ok (.iconst 4, 1) := by decide +kernel
theorem dL_size_17 : decode cL_size 17 = .ok (.goto 31, 3) := by decide +kernel
theorem dL_size_20 : decode cL_size 20 = .ok (.aload_n 0, 1) := by decide +kernel
theorem dL_size_21 : decode cL_size 21 = .ok (.iload_n 2, 1) := by decide +kernel
theorem dL_size_22 : decode cL_size 22 = .ok (.iaload, 1) := by decide +kernel
theorem dL_size_23 : decode cL_size 23 = .ok (.bipush 8, 2) := by decide +kernel
theorem dL_size_25 : decode cL_size 25 = .ok (.irem, 1) := by decide +kernel
theorem dL_size_26 : decode cL_size 26 = .ok (.ifCond .ne 12, 3) := by decide +kernel
theorem dL_size_29 : decode cL_size 29 = .ok (.aload_n 1, 1) := by decide +kernel
theorem dL_size_30 : decode cL_size 30 = .ok (.iload_n 2, 1) := by decide +kernel
theorem dL_size_31 : decode cL_size 31 = .ok (.iaload, 1) := by decide +kernel
theorem dL_size_32 : decode cL_size 32 = .ok (.invokestatic 73, 3) := by decide +kernel
theorem dL_size_35 : decode cL_size 35 = .ok (.goto 13, 3) := by decide +kernel
theorem dL_size_38 : decode cL_size 38 = .ok (.aload_n 1, 1) := by decide +kernel
theorem dL_size_39 : decode cL_size 39 = .ok (.iload_n 2, 1) := by decide +kernel
theorem dL_size_40 : decode cL_size 40 = .ok (.iaload, 1) := by decide +kernel
theorem dL_size_41 : decode cL_size 41 = .ok (.invokestatic 73, 3) := by decide +kernel
theorem dL_size_44 : decode cL_size 44 = .ok (.aload_n 1, 1) := by decide +kernel
theorem dL_size_45 : decode cL_size 45 = .ok (.iload_n 2, 1) := by decide +kernel
theorem dL_size_46 : decode cL_size 46 = .ok (.iaload, 1) := by decide +kernel
theorem dL_size_47 : decode cL_size 47 = .ok (.iadd, 1) := by decide +kernel
theorem dL_size_48 : decode cL_size 48 = .ok (.iadd, 1) := by decide +kernel
theorem dL_size_49 : decode cL_size 49 = .ok (.ireturn, 1) := by decide +kernel
theorem dL_byteAt_0 : decode cL_byteAt 0 = .ok (.iload_n 3, 1) := by decide +kernel
theorem dL_byteAt_1 : decode cL_byteAt 1 = .ok (.bipush 8, 2) := by decide +kernel
theorem dL_byteAt_3 : decode cL_byteAt 3 = .ok (.if_icmp .ge 14, 3) := by decide +kernel
theorem dL_byteAt_6 : decode cL_byteAt 6 = .ok (.aload_n 0, 1) := by decide +kernel
theorem dL_byteAt_7 : decode cL_byteAt 7 = .ok (.iload_n 2, 1) := by decide +kernel
theorem dL_byteAt_8 : decode cL_byteAt 8 = .ok (.laload, 1) := by decide +kernel
theorem dL_byteAt_9 : decode cL_byteAt 9 = .ok (.bipush 8, 2) := by decide +kernel
theorem dL_byteAt_11 : decode cL_byteAt 11 = .ok (.iload_n 3, 1) := by decide +kernel
theorem dL_byteAt_12 : decode cL_byteAt 12 = .ok (.imul, 1) := by decide +kernel
theorem dL_byteAt_13 : decode cL_byteAt 13 = .ok (.lshr, 1) := by decide +kernel
theorem dL_byteAt_14 : decode cL_byteAt 14 = .ok (.goto 14, 3) := by decide +kernel
theorem dL_byteAt_17 : decode cL_byteAt 17 = .ok (.aload_n 1, 1) := by decide +kernel
theorem dL_byteAt_18 : decode cL_byteAt 18 = .ok (.iload_n 2, 1) := by decide +kernel
theorem dL_byteAt_19 : decode cL_byteAt 19 = .ok (.laload, 1) := by decide +kernel
theorem dL_byteAt_20 : decode cL_byteAt 20 = .ok (.bipush 8, 2) := by decide +kernel
theorem dL_byteAt_22 : decode cL_byteAt 22 = .ok (.iload_n 3, 1) := by decide +kernel
theorem dL_byteAt_23 : decode cL_byteAt 23 = .ok (.bipush 8, 2) := by decide +kernel
theorem dL_byteAt_25 : decode cL_byteAt 25 = .ok (.isub, 1) := by decide +kernel
theorem dL_byteAt_26 : decode cL_byteAt 26 = .ok (.imul, 1) := by decide +kernel
theorem dL_byteAt_27 : decode cL_byteAt 27 = .ok (.lshr, 1) := by decide +kernel
theorem dL_byteAt_28 : decode cL_byteAt 28 = .ok (.ldc2_w 76, 3) := by decide +kernel
theorem dL_byteAt_31 : decode cL_byteAt 31 = .ok (.land, 1) := by decide +kernel
theorem dL_byteAt_32 : decode cL_byteAt 32 = .ok (.l2i, 1) := by decide +kernel
theorem dL_byteAt_33 : decode cL_byteAt 33 = .ok (.ireturn, 1) := by decide +kernel
theorem dL_weightOf_0 : decode cL_weightOf 0 = .ok (.iconst 0, 1) := by decide +kernel
theorem dL_weightOf_1 : decode cL_weightOf 1 = .ok (.istore 4, 2) := by decide +kernel
theorem dL_weightOf_3 : decode cL_weightOf 3 = .ok (.iconst 0, 1) := by decide +kernel
theorem dL_weightOf_4 : decode cL_weightOf 4 = .ok (.istore 5, 2) := by decide +kernel
theorem dL_weightOf_6 : decode cL_weightOf 6 = .ok (.iload 5, 2) := by decide +kernel
theorem dL_weightOf_8 : decode cL_weightOf 8 = .ok (.aload_n 2, 1) := by decide +kernel
theorem dL_weightOf_9 : decode cL_weightOf 9 = .ok (.iload_n 3, 1) := by decide +kernel
theorem dL_weightOf_10 : decode cL_weightOf 10 = .ok (.iaload, 1) := by decide +kernel
theorem dL_weightOf_11 : decode cL_weightOf 11 = .ok (.if_icmp .ge 26, 3) := by decide +kernel
theorem dL_weightOf_14 : decode cL_weightOf 14 = .ok (.iload 4, 2) := by decide +kernel
theorem dL_weightOf_16 : decode cL_weightOf 16 = .ok (.aload_n 0, 1) := by decide +kernel
theorem dL_weightOf_17 : decode cL_weightOf 17 = .ok (.aload_n 1, 1) := by decide +kernel
theorem dL_weightOf_18 : decode cL_weightOf 18 = .ok (.bipush 12, 2) := by decide +kernel
theorem dL_weightOf_20 : decode cL_weightOf 20 = .ok (.iload_n 3, 1) := by decide +kernel
theorem dL_weightOf_21 : decode cL_weightOf 21 = .ok (.imul, 1) := by decide +kernel
theorem dL_weightOf_22 : decode cL_weightOf 22 = .ok (.iload 5, 2) := by decide +kernel
theorem dL_weightOf_24 : decode cL_weightOf 24 = .ok (.iadd, 1) := by decide +kernel
theorem dL_weightOf_25 : decode cL_weightOf 25 = .ok (.invokestatic 78, 3) := by decide +kernel
theorem dL_weightOf_28 : decode cL_weightOf 28 = .ok (.iadd, 1) := by decide +kernel
theorem dL_weightOf_29 : decode cL_weightOf 29 = .ok (.istore 4, 2) := by decide +kernel
theorem dL_weightOf_31 : decode cL_weightOf 31 = .ok (.iinc 5 1, 3) := by decide +kernel
theorem dL_weightOf_34 : decode cL_weightOf 34 = .ok (.goto (-28), 3) := by decide +kernel
theorem dL_weightOf_37 : decode cL_weightOf 37 = .ok (.iload 4, 2) := by decide +kernel
theorem dL_weightOf_39 : decode cL_weightOf 39 = .ok (.ireturn, 1) := by decide +kernel
theorem dL_last_0 : decode cL_last 0 = .ok (.aload_n 2, 1) := by decide +kernel
theorem dL_last_1 : decode cL_last 1 = .ok (.iload 4, 2) := by decide +kernel
theorem dL_last_3 : decode cL_last 3 = .ok (.iaload, 1) := by decide +kernel
theorem dL_last_4 : decode cL_last 4 = .ok (.iconst 1, 1) := by decide +kernel
theorem dL_last_5 : decode cL_last 5 = .ok (.isub, 1) := by decide +kernel
theorem dL_last_6 : decode cL_last 6 = .ok (.istore 6, 2) := by decide +kernel
theorem dL_last_8 : decode cL_last 8 = .ok (.iload 6, 2) := by decide +kernel
theorem dL_last_10 : decode cL_last 10 = .ok (.ifCond .lt 59, 3) := by decide +kernel
theorem dL_last_13 : decode cL_last 13 = .ok (.aload_n 3, 1) := by decide +kernel
theorem dL_last_14 : decode cL_last 14 = .ok (.bipush 12, 2) := by decide +kernel
theorem dL_last_16 : decode cL_last 16 = .ok (.iload 4, 2) := by decide +kernel
theorem dL_last_18 : decode cL_last 18 = .ok (.imul, 1) := by decide +kernel
theorem dL_last_19 : decode cL_last 19 = .ok (.iload 6, 2) := by decide +kernel
theorem dL_last_21 : decode cL_last 21 = .ok (.iadd, 1) := by decide +kernel
theorem dL_last_22 : decode cL_last 22 = .ok (.iaload, 1) := by decide +kernel
theorem dL_last_23 : decode cL_last 23 = .ok (.bipush 8, 2) := by decide +kernel
theorem dL_last_25 : decode cL_last 25 = .ok (.idiv, 1) := by decide +kernel
theorem dL_last_26 : decode cL_last 26 = .ok (.iload 5, 2) := by decide +kernel
theorem dL_last_28 : decode cL_last 28 = .ok (.if_icmp .ne 35, 3) := by decide +kernel
theorem dL_last_31 : decode cL_last 31 = .ok (.aload_n 0, 1) := by decide +kernel
theorem dL_last_32 : decode cL_last 32 = .ok (.aload_n 1, 1) := by decide +kernel
theorem dL_last_33 : decode cL_last 33 = .ok (.iload 4, 2) := by decide +kernel
theorem dL_last_35 : decode cL_last 35 = .ok (.iaload, 1) := by decide +kernel
theorem dL_last_36 : decode cL_last 36 = .ok (.iconst 1, 1) := by decide +kernel
theorem dL_last_37 : decode cL_last 37 = .ok (.isub, 1) := by decide +kernel
theorem dL_last_38 : decode cL_last 38 = .ok (.aload_n 3, 1) := by decide +kernel
theorem dL_last_39 : decode cL_last 39 = .ok (.bipush 12, 2) := by decide +kernel
theorem dL_last_41 : decode cL_last 41 = .ok (.iload 4, 2) := by decide +kernel
theorem dL_last_43 : decode cL_last 43 = .ok (.imul, 1) := by decide +kernel
theorem dL_last_44 : decode cL_last 44 = .ok (.iload 6, 2) := by decide +kernel
theorem dL_last_46 : decode cL_last 46 = .ok (.iadd, 1) := by decide +kernel
theorem dL_last_47 : decode cL_last 47 = .ok (.iaload, 1) := by decide +kernel
theorem dL_last_48 : decode cL_last 48 = .ok (.invokestatic 82, 3) := by decide +kernel
theorem dL_last_51 : decode cL_last 51 = .ok (.ifCond .eq 12, 3) := by decide +kernel
theorem dL_last_54 : decode cL_last 54 = .ok (.bipush 12, 2) := by decide +kernel
theorem dL_last_56 : decode cL_last 56 = .ok (.iload 4, 2) := by decide +kernel
theorem dL_last_58 : decode cL_last 58 = .ok (.imul, 1) := by decide +kernel
theorem dL_last_59 : decode cL_last 59 = .ok (.iload 6, 2) := by decide +kernel
theorem dL_last_61 : decode cL_last 61 = .ok (.iadd, 1) := by decide +kernel
theorem dL_last_62 : decode cL_last 62 = .ok (.ireturn, 1) := by decide +kernel
theorem dL_last_63 : decode cL_last 63 = .ok (.iinc 6 (-1), 3) := by decide +kernel
theorem dL_last_66 : decode cL_last 66 = .ok (.goto (-58), 3) := by decide +kernel
theorem dL_last_69 : decode cL_last 69 = .ok (.iconst (-1), 1) := by decide +kernel
theorem dL_last_70 : decode cL_last 70 = .ok (.ireturn, 1) := by decide +kernel
theorem dL_isCanonical_0 : decode cL_isCanonical 0 = .ok (.aload_n 2, 1) := by decide +kernel
theorem dL_isCanonical_1 : decode cL_isCanonical 1 = .ok (.iload 6, 2) := by decide +kernel
theorem dL_isCanonical_3 : decode cL_isCanonical 3 = .ok (.iaload, 1) := by decide +kernel
theorem dL_isCanonical_4 : decode cL_isCanonical 4 = .ok (.iconst 1, 1) := by decide +kernel
theorem dL_isCanonical_5 : decode cL_isCanonical 5 = .ok (.isub, 1) := by decide +kernel
theorem dL_isCanonical_6 : decode cL_isCanonical 6 = .ok (.istore 8, 2) := by decide +kernel
theorem dL_isCanonical_8 : decode cL_isCanonical 8 = .ok (.aload_n 0, 1) := by decide +kernel
theorem dL_isCanonical_9 : decode cL_isCanonical 9 = .ok (.iload 8, 2) := by decide +kernel
theorem dL_isCanonical_11 : decode cL_isCanonical 11 = .ok (.aload 4, 2) := by decide +kernel
theorem dL_isCanonical_13 : decode cL_isCanonical 13 = .ok (.iload 7, 2) := by decide +kernel
theorem dL_isCanonical_15 : decode cL_isCanonical 15 = .ok (.iaload, 1) := by decide +kernel
theorem dL_isCanonical_16 : decode cL_isCanonical 16 = .ok (.invokestatic 82, 3) := by decide +kernel
theorem dL_isCanonical_19 : decode cL_isCanonical 19 = .ok (.ifCond .ne 5, 3) := by decide +kernel
theorem dL_isCanonical_22 : decode cL_isCanonical 22 = .ok (.iconst 1, 1) := by decide +kernel
theorem dL_isCanonical_23 : decode cL_isCanonical 23 = .ok (.ireturn, 1) := by decide +kernel
theorem dL_isCanonical_24 : decode cL_isCanonical 24 = .ok (.aload_n 0, 1) := by decide +kernel
theorem dL_isCanonical_25 : decode cL_isCanonical 25 = .ok (.iload 8, 2) := by decide +kernel
theorem dL_isCanonical_27 : decode cL_isCanonical 27 = .ok (.aload 4, 2) := by decide +kernel
theorem dL_isCanonical_29 : decode cL_isCanonical 29 = .ok (.iload 7, 2) := by decide +kernel
theorem dL_isCanonical_31 : decode cL_isCanonical 31 = .ok (.iaload, 1) := by decide +kernel
theorem dL_isCanonical_32 : decode cL_isCanonical 32 = .ok (.bipush 8, 2) := by decide +kernel
theorem dL_isCanonical_34 : decode cL_isCanonical 34 = .ok (.idiv, 1) := by decide +kernel
theorem dL_isCanonical_35 : decode cL_isCanonical 35 = .ok (.invokestatic 69, 3) := by decide +kernel
theorem dL_isCanonical_38 : decode cL_isCanonical 38 = .ok (.istore 9, 2) := by decide +kernel
theorem dL_isCanonical_40 : decode cL_isCanonical 40 = .ok (.aload_n 0, 1) := by decide +kernel
theorem dL_isCanonical_41 : decode cL_isCanonical 41 = .ok (.aload_n 2, 1) := by decide +kernel
theorem dL_isCanonical_42 : decode cL_isCanonical 42 = .ok (.aload_n 3, 1) := by decide +kernel
theorem dL_isCanonical_43 : decode cL_isCanonical 43 = .ok (.aload 4, 2) := by decide +kernel
theorem dL_isCanonical_45 : decode cL_isCanonical 45 = .ok (.iload 6, 2) := by decide +kernel
theorem dL_isCanonical_47 : decode cL_isCanonical 47 = .ok (.aload 4, 2) := by decide +kernel
theorem dL_isCanonical_49 : decode cL_isCanonical 49 = .ok (.iload 7, 2) := by decide +kernel
theorem dL_isCanonical_51 : decode cL_isCanonical 51 = .ok (.iaload, 1) := by decide +kernel
theorem dL_isCanonical_52 : decode cL_isCanonical 52 = .ok (.bipush 8, 2) := by decide +kernel
theorem dL_isCanonical_54 : decode cL_isCanonical 54 = .ok (.idiv, 1) := by decide +kernel
theorem dL_isCanonical_55 : decode cL_isCanonical 55 = .ok (.invokestatic 86, 3) := by decide +kernel
theorem dL_isCanonical_58 : decode cL_isCanonical 58 = .ok (.iload 7, 2) := by decide +kernel
theorem dL_isCanonical_60 : decode cL_isCanonical 60 = .ok (.if_icmp .ne 41, 3) := by decide +kernel
theorem dL_isCanonical_63 : decode cL_isCanonical 63 = .ok (.iload 9, 2) := by decide +kernel
theorem dL_isCanonical_65 : decode cL_isCanonical 65 = .ok (.iconst 2, 1) := by decide +kernel
theorem dL_isCanonical_66 : decode cL_isCanonical 66 = .ok (.if_icmp .gt 31, 3) := by decide +kernel
theorem dL_isCanonical_69 : decode cL_isCanonical 69 = .ok (.iload 9, 2) := by decide +kernel
theorem dL_isCanonical_71 : decode cL_isCanonical 71 = .ok (.aload 5, 2) := by decide +kernel
theorem dL_isCanonical_73 : decode cL_isCanonical 73 = .ok (.iload 7, 2) := by decide +kernel
theorem dL_isCanonical_75 : decode cL_isCanonical 75 = .ok (.iaload, 1) := by decide +kernel
theorem dL_isCanonical_76 : decode cL_isCanonical 76 = .ok (.invokestatic 90, 3) := by decide +kernel
theorem dL_isCanonical_79 : decode cL_isCanonical 79 = .ok (.aload_n 1, 1) := by decide +kernel
theorem dL_isCanonical_80 : decode cL_isCanonical 80 = .ok (.iload 8, 2) := by decide +kernel
theorem dL_isCanonical_82 : decode cL_isCanonical 82 = .ok (.aload 4, 2) := by decide +kernel
theorem dL_isCanonical_84 : decode cL_isCanonical 84 = .ok (.iload 7, 2) := by decide +kernel
theorem dL_isCanonical_86 : decode cL_isCanonical 86 = .ok (.iaload, 1) := by decide +kernel
theorem dL_isCanonical_87 : decode cL_isCanonical 87 = .ok (.bipush 8, 2) := by decide +kernel
theorem dL_isCanonical_89 : decode cL_isCanonical 89 = .ok (.idiv, 1) := by decide +kernel
theorem dL_isCanonical_90 : decode cL_isCanonical 90 = .ok (.invokestatic 93, 3) := by decide +kernel
theorem dL_isCanonical_93 : decode cL_isCanonical 93 = .ok (.iaload, 1) := by decide +kernel
theorem dL_isCanonical_94 : decode cL_isCanonical 94 = .ok (.if_icmp .eq 7, 3) := by decide +kernel
theorem dL_isCanonical_97 : decode cL_isCanonical 97 = .ok (.iconst 1, 1) := by decide +kernel
theorem dL_isCanonical_98 : decode cL_isCanonical 98 = .ok (.goto 4, 3) := by decide +kernel
theorem dL_isCanonical_101 : decode cL_isCanonical 101 = .ok (.iconst 0, 1) := by decide +kernel
theorem dL_isCanonical_102 : decode cL_isCanonical 102 = .ok (.ireturn, 1) := by decide +kernel
theorem dL_writes_0 : decode cL_writes 0 = .ok (.aload_n 1, 1) := by decide +kernel
theorem dL_writes_1 : decode cL_writes 1 = .ok (.iconst 2, 1) := by decide +kernel
theorem dL_writes_2 : decode cL_writes 2 = .ok (.iaload, 1) := by decide +kernel
theorem dL_writes_3 : decode cL_writes 3 = .ok (.bipush 64, 2) := by decide +kernel
theorem dL_writes_5 : decode cL_writes 5 = .ok (.if_icmp .ge 13, 3) := by decide +kernel
theorem dL_writes_8 : decode cL_writes 8 = .ok (.aload_n 0, 1) := by decide +kernel
theorem dL_writes_9 : decode cL_writes 9 = .ok (.aload_n 1, 1) := by decide +kernel
theorem dL_writes_10 : decode cL_writes 10 = .ok (.iconst 2, 1) := by decide +kernel
theorem dL_writes_11 : decode cL_writes 11 = .ok (.iaload, 1) := by decide +kernel
theorem dL_writes_12 : decode cL_writes 12 = .ok (.iload_n 2, 1) := by decide +kernel
theorem dL_writes_13 : decode cL_writes 13 = .ok (.sipush 255, 3) := by decide +kernel
theorem dL_writes_16 : decode cL_writes 16 = .ok (.iand, 1) := by decide +kernel
theorem dL_writes_17 : decode cL_writes 17 = .ok (.iastore, 1) := by decide +kernel
theorem dL_writes_18 : decode cL_writes 18 = .ok (.aload_n 1, 1) := by decide +kernel
theorem dL_writes_19 : decode cL_writes 19 = .ok (.iconst 2, 1) := by decide +kernel
theorem dL_writes_20 : decode cL_writes 20 = .ok (.dup2, 1) := by decide +kernel
theorem dL_writes_21 : decode cL_writes 21 = .ok (.iaload, 1) := by decide +kernel
theorem dL_writes_22 : decode cL_writes 22 = .ok (.iconst 1, 1) := by decide +kernel
theorem dL_writes_23 : decode cL_writes 23 = .ok (.iadd, 1) := by decide +kernel
theorem dL_writes_24 : decode cL_writes 24 = .ok (.iastore, 1) := by decide +kernel
theorem dL_writes_25 : decode cL_writes 25 = .ok (.return_, 1) := by decide +kernel
theorem dL_writeGroups_0 : decode cL_writeGroups 0 = .ok (.iload_n 2, 1) := by decide +kernel
theorem dL_writeGroups_1 : decode cL_writeGroups 1 = .ok (.invokestatic 73, 3) := by decide +kernel
theorem dL_writeGroups_4 : decode cL_writeGroups 4 = .ok (.istore_n 3, 1) := by decide +kernel
theorem dL_writeGroups_5 : decode cL_writeGroups 5 = .ok (.iconst 0, 1) := by decide +kernel
theorem dL_writeGroups_6 : decode cL_writeGroups 6 = .ok (.istore 4, 2) := by decide +kernel
theorem dL_writeGroups_8 : decode cL_writeGroups 8 = .ok (.iload 4, 2) := by decide +kernel
theorem dL_writeGroups_10 : decode cL_writeGroups 10 = .ok (.iload_n 3, 1) := by decide +kernel
theorem dL_writeGroups_11 : decode cL_writeGroups 11 = .ok (.if_icmp .ge 40, 3) := by decide +kernel
theorem dL_writeGroups_14 : decode cL_writeGroups 14 = .ok (.aload_n 0, 1) := by decide +kernel
theorem dL_writeGroups_15 : decode cL_writeGroups 15 = .ok (.aload_n 1, 1) := by decide +kernel
theorem dL_writeGroups_16 : decode cL_writeGroups 16 = .ok (.iload_n 2, 1) := by decide +kernel
theorem dL_writeGroups_17 : decode cL_writeGroups 17 = .ok (.bipush 7, 2) := by decide +kernel
theorem dL_writeGroups_19 : decode cL_writeGroups 19 = .ok (.iload 4, 2) := by decide +kernel
theorem dL_writeGroups_21 : decode cL_writeGroups 21 = .ok (.imul, 1) := by decide +kernel
theorem dL_writeGroups_22 : decode cL_writeGroups 22 = .ok (.iushr, 1) := by decide +kernel
theorem dL_writeGroups_23 : decode cL_writeGroups 23 = .ok (.bipush 127, 2) := by decide +kernel
theorem dL_writeGroups_25 : decode cL_writeGroups 25 = .ok (.iand, 1) := by decide +kernel
theorem dL_writeGroups_26 : decode cL_writeGroups 26 = .ok (.iload 4, 2) := by decide +kernel
theorem dL_writeGroups_28 : decode cL_writeGroups 28 = .ok (.iload_n 3, 1) := by decide +kernel
theorem dL_writeGroups_29 : decode cL_writeGroups 29 = .ok (.iconst 1, 1) := by decide +kernel
theorem dL_writeGroups_30 : decode cL_writeGroups 30 = .ok (.isub, 1) := by decide +kernel
theorem dL_writeGroups_31 : decode cL_writeGroups 31 = .ok (.if_icmp .ge 9, 3) := by decide +kernel
theorem dL_writeGroups_34 : decode cL_writeGroups 34 = .ok (.sipush 128, 3) := by decide +kernel
theorem dL_writeGroups_37 : decode cL_writeGroups 37 = .ok (.goto 4, 3) := by decide +kernel
theorem dL_writeGroups_40 : decode cL_writeGroups 40 = .ok (.iconst 0, 1) := by decide +kernel
theorem dL_writeGroups_41 : decode cL_writeGroups 41 = .ok (.iadd, 1) := by decide +kernel
theorem dL_writeGroups_42 : decode cL_writeGroups 42 = .ok (.invokestatic 96, 3) := by decide +kernel
theorem dL_writeGroups_45 : decode cL_writeGroups 45 = .ok (.iinc 4 1, 3) := by decide +kernel
theorem dL_writeGroups_48 : decode cL_writeGroups 48 = .ok (.goto (-40), 3) := by decide +kernel
theorem dL_writeGroups_51 : decode cL_writeGroups 51 = .ok (.return_, 1) := by decide +kernel
theorem dL_writeField_0 : decode cL_writeField 0 = .ok (.aload 4, 2) := by decide +kernel
theorem dL_writeField_2 : decode cL_writeField 2 = .ok (.aload 5, 2) := by decide +kernel
theorem dL_writeField_4 : decode cL_writeField 4 = .ok (.aload_n 0, 1) := by decide +kernel
theorem dL_writeField_5 : decode cL_writeField 5 = .ok (.iload 6, 2) := by decide +kernel
theorem dL_writeField_7 : decode cL_writeField 7 = .ok (.iaload, 1) := by decide +kernel
theorem dL_writeField_8 : decode cL_writeField 8 = .ok (.invokestatic 100, 3) := by decide +kernel
theorem dL_writeField_11 : decode cL_writeField 11 = .ok (.aload_n 0, 1) := by decide +kernel
theorem dL_writeField_12 : decode cL_writeField 12 = .ok (.iload 6, 2) := by decide +kernel
theorem dL_writeField_14 : decode cL_writeField 14 = .ok (.iaload, 1) := by decide +kernel
theorem dL_writeField_15 : decode cL_writeField 15 = .ok (.bipush 8, 2) := by decide +kernel
theorem dL_writeField_17 : decode cL_writeField 17 = .ok (.irem, 1) := by decide +kernel
theorem dL_writeField_18 : decode cL_writeField 18 = .ok (.iconst 5, 1) := by decide +kernel
theorem dL_writeField_19 : decode cL_writeField 19 = .ok (.if_icmp .eq 14, 3) := by decide +kernel
theorem dL_writeField_22 : decode cL_writeField 22 = .ok (.aload 4, 2) := by decide +kernel
theorem dL_writeField_24 : decode cL_writeField 24 = .ok (.aload 5, 2) := by decide +kernel
theorem dL_writeField_26 : decode cL_writeField 26 = .ok (.aload_n 1, 1) := by decide +kernel
theorem dL_writeField_27 : decode cL_writeField 27 = .ok (.iload 6, 2) := by decide +kernel
theorem dL_writeField_29 : decode cL_writeField 29 = .ok (.iaload, 1) := by decide +kernel
theorem dL_writeField_30 : decode cL_writeField 30 = .ok (.invokestatic 100, 3) := by decide +kernel
theorem dL_writeField_33 : decode cL_writeField 33 = .ok (.iconst 0, 1) := by decide +kernel
theorem dL_writeField_34 : decode cL_writeField 34 = .ok (.istore 7, 2) := by decide +kernel
theorem dL_writeField_36 : decode cL_writeField 36 = .ok (.aload_n 0, 1) := by decide +kernel
theorem dL_writeField_37 : decode cL_writeField 37 = .ok (.iload 6, 2) := by decide +kernel
theorem dL_writeField_39 : decode cL_writeField 39 = .ok (.iaload, 1) := by decide +kernel
theorem dL_writeField_40 : decode cL_writeField 40 = .ok (.bipush 8, 2) := by decide +kernel
theorem dL_writeField_42 : decode cL_writeField 42 = .ok (.irem, 1) := by decide +kernel
theorem dL_writeField_43 : decode cL_writeField 43 = .ok (.iconst 5, 1) := by decide +kernel
theorem dL_writeField_44 : decode cL_writeField 44 = .ok (.if_icmp .ne 32, 3) := by decide +kernel
theorem dL_writeField_47 : decode cL_writeField 47 = .ok (.iload 7, 2) := by decide +kernel
theorem dL_writeField_49 : decode cL_writeField 49 = .ok (.iconst 4, 1) := by decide +kernel
theorem dL_writeField_50 : decode cL_writeField 50 = .ok (.if_icmp .ge 26, 3) := by decide +kernel
theorem dL_writeField_53 : decode cL_writeField 53 = .ok (.aload 4, 2) := by decide +kernel
theorem dL_writeField_55 : decode cL_writeField 55 = .ok (.aload 5, 2) := by decide +kernel
theorem dL_writeField_57 : decode cL_writeField 57 = .ok (.aload_n 1, 1) := by decide +kernel
theorem dL_writeField_58 : decode cL_writeField 58 = .ok (.iload 6, 2) := by decide +kernel
theorem dL_writeField_60 : decode cL_writeField 60 = .ok (.iaload, 1) := by decide +kernel
theorem dL_writeField_61 : decode cL_writeField 61 = .ok (.bipush 8, 2) := by decide +kernel
theorem dL_writeField_63 : decode cL_writeField 63 = .ok (.iload 7, 2) := by decide +kernel
theorem dL_writeField_65 : decode cL_writeField 65 = .ok (.imul, 1) := by decide +kernel
theorem dL_writeField_66 : decode cL_writeField 66 = .ok (.ishr, 1) := by decide +kernel
theorem dL_writeField_67 : decode cL_writeField 67 = .ok (.invokestatic 96, 3) := by decide +kernel
theorem dL_writeField_70 : decode cL_writeField 70 = .ok (.iinc 7 1, 3) := by decide +kernel
theorem dL_writeField_73 : decode cL_writeField 73 = .ok (.goto (-37), 3) := by decide +kernel
theorem dL_writeField_76 : decode cL_writeField 76 = .ok (.iconst 0, 1) := by decide +kernel
theorem dL_writeField_77 : decode cL_writeField 77 = .ok (.istore 7, 2) := by decide +kernel
theorem dL_writeField_79 : decode cL_writeField 79 = .ok (.aload_n 0, 1) := by decide +kernel
theorem dL_writeField_80 : decode cL_writeField 80 = .ok (.iload 6, 2) := by decide +kernel
theorem dL_writeField_82 : decode cL_writeField 82 = .ok (.iaload, 1) := by decide +kernel
theorem dL_writeField_83 : decode cL_writeField 83 = .ok (.bipush 8, 2) := by decide +kernel
theorem dL_writeField_85 : decode cL_writeField 85 = .ok (.irem, 1) := by decide +kernel
theorem dL_writeField_86 : decode cL_writeField 86 = .ok (.iconst 2, 1) := by decide +kernel
theorem dL_writeField_87 : decode cL_writeField 87 = .ok (.if_icmp .ne 34, 3) := by decide +kernel
theorem dL_writeField_90 : decode cL_writeField 90 = .ok (.iload 7, 2) := by decide +kernel
theorem dL_writeField_92 : decode cL_writeField 92 = .ok (.aload_n 1, 1) := by decide +kernel
theorem dL_writeField_93 : decode cL_writeField 93 = .ok (.iload 6, 2) := by decide +kernel
theorem dL_writeField_95 : decode cL_writeField 95 = .ok (.iaload, 1) := by decide +kernel
theorem dL_writeField_96 : decode cL_writeField 96 = .ok (.if_icmp .ge 25, 3) := by decide +kernel
theorem dL_writeField_99 : decode cL_writeField 99 = .ok (.aload 4, 2) := by decide +kernel
theorem dL_writeField_101 : decode cL_writeField 101 = .ok (.aload 5, 2) := by decide +kernel
theorem dL_writeField_103 : decode cL_writeField 103 = .ok (.aload_n 2, 1) := by decide +kernel
theorem dL_writeField_104 : decode cL_writeField 104 = .ok (.aload_n 3, 1) := by decide +kernel
theorem dL_writeField_105 : decode cL_writeField 105 = .ok (.iload 6, 2) := by decide +kernel
theorem dL_writeField_107 : decode cL_writeField 107 = .ok (.iload 7, 2) := by decide +kernel
theorem dL_writeField_109 : decode cL_writeField 109 = .ok (.invokestatic 103, 3) := by decide +kernel
theorem dL_writeField_112 : decode cL_writeField 112 = .ok (.invokestatic 96, 3) := by decide +kernel
theorem dL_writeField_115 : decode cL_writeField 115 = .ok (.iinc 7 1, 3) := by decide +kernel
theorem dL_writeField_118 : decode cL_writeField 118 = .ok (.goto (-39), 3) := by decide +kernel
theorem dL_writeField_121 : decode cL_writeField 121 = .ok (.return_, 1) := by decide +kernel
theorem dL_canonical_0 : decode cL_canonical 0 = .ok (.aload 9, 2) := by decide +kernel
theorem dL_canonical_2 : decode cL_canonical 2 = .ok (.iconst 2, 1) := by decide +kernel
theorem dL_canonical_3 : decode cL_canonical 3 = .ok (.iconst 0, 1) := by decide +kernel
theorem dL_canonical_4 : decode cL_canonical 4 = .ok (.iastore, 1) := by decide +kernel
theorem dL_canonical_5 : decode cL_canonical 5 = .ok (.iconst 1, 1) := by decide +kernel
theorem dL_canonical_6 : decode cL_canonical 6 = .ok (.istore 11, 2) := by decide +kernel
theorem dL_canonical_8 : decode cL_canonical 8 = .ok (.iload 11, 2) := by decide +kernel
theorem dL_canonical_10 : decode cL_canonical 10 = .ok (.bipush 32, 2) := by decide +kernel
theorem dL_canonical_12 : decode cL_canonical 12 = .ok (.if_icmp .ge 85, 3) := by decide +kernel
theorem dL_canonical_15 : decode cL_canonical 15 = .ok (.bipush 12, 2) := by decide +kernel
theorem dL_canonical_17 : decode cL_canonical 17 = .ok (.iload 10, 2) := by decide +kernel
theorem dL_canonical_19 : decode cL_canonical 19 = .ok (.imul, 1) := by decide +kernel
theorem dL_canonical_20 : decode cL_canonical 20 = .ok (.istore 12, 2) := by decide +kernel
theorem dL_canonical_22 : decode cL_canonical 22 = .ok (.iload 12, 2) := by decide +kernel
theorem dL_canonical_24 : decode cL_canonical 24 = .ok (.bipush 12, 2) := by decide +kernel
theorem dL_canonical_26 : decode cL_canonical 26 = .ok (.iload 10, 2) := by decide +kernel
theorem dL_canonical_28 : decode cL_canonical 28 = .ok (.imul, 1) := by decide +kernel
theorem dL_canonical_29 : decode cL_canonical 29 = .ok (.aload_n 3, 1) := by decide +kernel
theorem dL_canonical_30 : decode cL_canonical 30 = .ok (.iload 10, 2) := by decide +kernel
theorem dL_canonical_32 : decode cL_canonical 32 = .ok (.iaload, 1) := by decide +kernel
theorem dL_canonical_33 : decode cL_canonical 33 = .ok (.iadd, 1) := by decide +kernel
theorem dL_canonical_34 : decode cL_canonical 34 = .ok (.if_icmp .ge 57, 3) := by decide +kernel
theorem dL_canonical_37 : decode cL_canonical 37 = .ok (.aload 4, 2) := by decide +kernel
theorem dL_canonical_39 : decode cL_canonical 39 = .ok (.iload 12, 2) := by decide +kernel
theorem dL_canonical_41 : decode cL_canonical 41 = .ok (.iaload, 1) := by decide +kernel
theorem dL_canonical_42 : decode cL_canonical 42 = .ok (.bipush 8, 2) := by decide +kernel
theorem dL_canonical_44 : decode cL_canonical 44 = .ok (.idiv, 1) := by decide +kernel
theorem dL_canonical_45 : decode cL_canonical 45 = .ok (.iload 11, 2) := by decide +kernel
theorem dL_canonical_47 : decode cL_canonical 47 = .ok (.if_icmp .ne 38, 3) := by decide +kernel
theorem dL_canonical_50 : decode cL_canonical 50 = .ok (.aload_n 0, 1) := by decide +kernel
theorem dL_canonical_51 : decode cL_canonical 51 = .ok (.aload_n 1, 1) := by decide +kernel
theorem dL_canonical_52 : decode cL_canonical 52 = .ok (.aload_n 2, 1) := by decide +kernel
theorem dL_canonical_53 : decode cL_canonical 53 = .ok (.aload_n 3, 1) := by decide +kernel
theorem dL_canonical_54 : decode cL_canonical 54 = .ok (.aload 4, 2) := by decide +kernel
theorem dL_canonical_56 : decode cL_canonical 56 = .ok (.aload 5, 2) := by decide +kernel
theorem dL_canonical_58 : decode cL_canonical 58 = .ok (.iload 10, 2) := by decide +kernel
theorem dL_canonical_60 : decode cL_canonical 60 = .ok (.iload 12, 2) := by decide +kernel
theorem dL_canonical_62 : decode cL_canonical 62 = .ok (.invokestatic 107, 3) := by decide +kernel
theorem dL_canonical_65 : decode cL_canonical 65 = .ok (.ifCond .eq 20, 3) := by decide +kernel
theorem dL_canonical_68 : decode cL_canonical 68 = .ok (.aload 4, 2) := by decide +kernel
theorem dL_canonical_70 : decode cL_canonical 70 = .ok (.aload 5, 2) := by decide +kernel
theorem dL_canonical_72 : decode cL_canonical 72 = .ok (.aload 6, 2) := by decide +kernel
theorem dL_canonical_74 : decode cL_canonical 74 = .ok (.aload 7, 2) := by decide +kernel
theorem dL_canonical_76 : decode cL_canonical 76 = .ok (.aload 8, 2) := by decide +kernel
theorem dL_canonical_78 : decode cL_canonical 78 = .ok (.aload 9, 2) := by decide +kernel
theorem dL_canonical_80 : decode cL_canonical 80 = .ok (.iload 12, 2) := by decide +kernel
theorem dL_canonical_82 : decode cL_canonical 82 = .ok (.invokestatic 111, 3) := by decide +kernel
theorem dL_canonical_85 : decode cL_canonical 85 = .ok (.iinc 12 1, 3) := by decide +kernel
theorem dL_canonical_88 : decode cL_canonical 88 = .ok (.goto (-66), 3) := by decide +kernel
theorem dL_canonical_91 : decode cL_canonical 91 = .ok (.iinc 11 1, 3) := by decide +kernel
theorem dL_canonical_94 : decode cL_canonical 94 = .ok (.goto (-86), 3) := by decide +kernel
theorem dL_canonical_97 : decode cL_canonical 97 = .ok (.aload 9, 2) := by decide +kernel
theorem dL_canonical_99 : decode cL_canonical 99 = .ok (.iconst 2, 1) := by decide +kernel
theorem dL_canonical_100 : decode cL_canonical 100 = .ok (.iaload, 1) := by decide +kernel
theorem dL_canonical_101 : decode cL_canonical 101 = .ok (.ireturn, 1) := by decide +kernel
theorem dL_remove_0 : decode cL_remove 0 = .ok (.aload_n 0, 1) := by decide +kernel
theorem dL_remove_1 : decode cL_remove 1 = .ok (.iload 5, 2) := by decide +kernel
theorem dL_remove_3 : decode cL_remove 3 = .ok (.dup2, 1) := by decide +kernel
theorem dL_remove_4 : decode cL_remove 4 = .ok (.iaload, 1) := by decide +kernel
theorem dL_remove_5 : decode cL_remove 5 = .ok (.iconst 1, 1) := by decide +kernel
theorem dL_remove_6 : decode cL_remove 6 = .ok (.isub, 1) := by decide +kernel
theorem dL_remove_7 : decode cL_remove 7 = .ok (.iastore, 1) := by decide +kernel
theorem dL_remove_8 : decode cL_remove 8 = .ok (.iload 6, 2) := by decide +kernel
theorem dL_remove_10 : decode cL_remove 10 = .ok (.istore 7, 2) := by decide +kernel
theorem dL_remove_12 : decode cL_remove 12 = .ok (.iload 7, 2) := by decide +kernel
theorem dL_remove_14 : decode cL_remove 14 = .ok (.bipush 12, 2) := by decide +kernel
theorem dL_remove_16 : decode cL_remove 16 = .ok (.iload 5, 2) := by decide +kernel
theorem dL_remove_18 : decode cL_remove 18 = .ok (.imul, 1) := by decide +kernel
theorem dL_remove_19 : decode cL_remove 19 = .ok (.aload_n 0, 1) := by decide +kernel
theorem dL_remove_20 : decode cL_remove 20 = .ok (.iload 5, 2) := by decide +kernel
theorem dL_remove_22 : decode cL_remove 22 = .ok (.iaload, 1) := by decide +kernel
theorem dL_remove_23 : decode cL_remove 23 = .ok (.iadd, 1) := by decide +kernel
theorem dL_remove_24 : decode cL_remove 24 = .ok (.if_icmp .ge 51, 3) := by decide +kernel
theorem dL_remove_27 : decode cL_remove 27 = .ok (.aload_n 1, 1) := by decide +kernel
theorem dL_remove_28 : decode cL_remove 28 = .ok (.iload 7, 2) := by decide +kernel
theorem dL_remove_30 : decode cL_remove 30 = .ok (.aload_n 1, 1) := by decide +kernel
theorem dL_remove_31 : decode cL_remove 31 = .ok (.iload 7, 2) := by decide +kernel
theorem dL_remove_33 : decode cL_remove 33 = .ok (.iconst 1, 1) := by decide +kernel
theorem dL_remove_34 : decode cL_remove 34 = .ok (.iadd, 1) := by decide +kernel
theorem dL_remove_35 : decode cL_remove 35 = .ok (.iaload, 1) := by decide +kernel
theorem dL_remove_36 : decode cL_remove 36 = .ok (.iastore, 1) := by decide +kernel
theorem dL_remove_37 : decode cL_remove 37 = .ok (.aload_n 2, 1) := by decide +kernel
theorem dL_remove_38 : decode cL_remove 38 = .ok (.iload 7, 2) := by decide +kernel
theorem dL_remove_40 : decode cL_remove 40 = .ok (.aload_n 2, 1) := by decide +kernel
theorem dL_remove_41 : decode cL_remove 41 = .ok (.iload 7, 2) := by decide +kernel
theorem dL_remove_43 : decode cL_remove 43 = .ok (.iconst 1, 1) := by decide +kernel
theorem dL_remove_44 : decode cL_remove 44 = .ok (.iadd, 1) := by decide +kernel
theorem dL_remove_45 : decode cL_remove 45 = .ok (.iaload, 1) := by decide +kernel
theorem dL_remove_46 : decode cL_remove 46 = .ok (.iastore, 1) := by decide +kernel
theorem dL_remove_47 : decode cL_remove 47 = .ok (.aload_n 3, 1) := by decide +kernel
theorem dL_remove_48 : decode cL_remove 48 = .ok (.iload 7, 2) := by decide +kernel
theorem dL_remove_50 : decode cL_remove 50 = .ok (.aload_n 3, 1) := by decide +kernel
theorem dL_remove_51 : decode cL_remove 51 = .ok (.iload 7, 2) := by decide +kernel
theorem dL_remove_53 : decode cL_remove 53 = .ok (.iconst 1, 1) := by decide +kernel
theorem dL_remove_54 : decode cL_remove 54 = .ok (.iadd, 1) := by decide +kernel
theorem dL_remove_55 : decode cL_remove 55 = .ok (.laload, 1) := by decide +kernel
theorem dL_remove_56 : decode cL_remove 56 = .ok (.lastore, 1) := by decide +kernel
theorem dL_remove_57 : decode cL_remove 57 = .ok (.aload 4, 2) := by decide +kernel
theorem dL_remove_59 : decode cL_remove 59 = .ok (.iload 7, 2) := by decide +kernel
theorem dL_remove_61 : decode cL_remove 61 = .ok (.aload 4, 2) := by decide +kernel
theorem dL_remove_63 : decode cL_remove 63 = .ok (.iload 7, 2) := by decide +kernel
theorem dL_remove_65 : decode cL_remove 65 = .ok (.iconst 1, 1) := by decide +kernel
theorem dL_remove_66 : decode cL_remove 66 = .ok (.iadd, 1) := by decide +kernel
theorem dL_remove_67 : decode cL_remove 67 = .ok (.laload, 1) := by decide +kernel
theorem dL_remove_68 : decode cL_remove 68 = .ok (.lastore, 1) := by decide +kernel
theorem dL_remove_69 : decode cL_remove 69 = .ok (.iinc 7 1, 3) := by decide +kernel
theorem dL_remove_72 : decode cL_remove 72 = .ok (.goto (-60), 3) := by decide +kernel
theorem dL_remove_75 : decode cL_remove 75 = .ok (.return_, 1) := by decide +kernel
theorem dL_others_0 : decode cL_others 0 = .ok (.iconst 0, 1) := by decide +kernel
theorem dL_others_1 : decode cL_others 1 = .ok (.istore 6, 2) := by decide +kernel
theorem dL_others_3 : decode cL_others 3 = .ok (.bipush 12, 2) := by decide +kernel
theorem dL_others_5 : decode cL_others 5 = .ok (.iload 4, 2) := by decide +kernel
theorem dL_others_7 : decode cL_others 7 = .ok (.imul, 1) := by decide +kernel
theorem dL_others_8 : decode cL_others 8 = .ok (.istore 7, 2) := by decide +kernel
theorem dL_others_10 : decode cL_others 10 = .ok (.iload 7, 2) := by decide +kernel
theorem dL_others_12 : decode cL_others 12 = .ok (.bipush 12, 2) := by decide +kernel
theorem dL_others_14 : decode cL_others 14 = .ok (.iload 4, 2) := by decide +kernel
theorem dL_others_16 : decode cL_others 16 = .ok (.imul, 1) := by decide +kernel
theorem dL_others_17 : decode cL_others 17 = .ok (.aload_n 2, 1) := by decide +kernel
theorem dL_others_18 : decode cL_others 18 = .ok (.iload 4, 2) := by decide +kernel
theorem dL_others_20 : decode cL_others 20 = .ok (.iaload, 1) := by decide +kernel
theorem dL_others_21 : decode cL_others 21 = .ok (.iadd, 1) := by decide +kernel
theorem dL_others_22 : decode cL_others 22 = .ok (.if_icmp .ge 48, 3) := by decide +kernel
theorem dL_others_25 : decode cL_others 25 = .ok (.iload 6, 2) := by decide +kernel
theorem dL_others_27 : decode cL_others 27 = .ok (.aload_n 3, 1) := by decide +kernel
theorem dL_others_28 : decode cL_others 28 = .ok (.iload 7, 2) := by decide +kernel
theorem dL_others_30 : decode cL_others 30 = .ok (.iaload, 1) := by decide +kernel
theorem dL_others_31 : decode cL_others 31 = .ok (.bipush 8, 2) := by decide +kernel
theorem dL_others_33 : decode cL_others 33 = .ok (.idiv, 1) := by decide +kernel
theorem dL_others_34 : decode cL_others 34 = .ok (.iload 5, 2) := by decide +kernel
theorem dL_others_36 : decode cL_others 36 = .ok (.if_icmp .ne 24, 3) := by decide +kernel
theorem dL_others_39 : decode cL_others 39 = .ok (.aload_n 0, 1) := by decide +kernel
theorem dL_others_40 : decode cL_others 40 = .ok (.aload_n 1, 1) := by decide +kernel
theorem dL_others_41 : decode cL_others 41 = .ok (.iload 4, 2) := by decide +kernel
theorem dL_others_43 : decode cL_others 43 = .ok (.iaload, 1) := by decide +kernel
theorem dL_others_44 : decode cL_others 44 = .ok (.iconst 1, 1) := by decide +kernel
theorem dL_others_45 : decode cL_others 45 = .ok (.isub, 1) := by decide +kernel
theorem dL_others_46 : decode cL_others 46 = .ok (.aload_n 3, 1) := by decide +kernel
theorem dL_others_47 : decode cL_others 47 = .ok (.iload 7, 2) := by decide +kernel
theorem dL_others_49 : decode cL_others 49 = .ok (.iaload, 1) := by decide +kernel
theorem dL_others_50 : decode cL_others 50 = .ok (.invokestatic 82, 3) := by decide +kernel
theorem dL_others_53 : decode cL_others 53 = .ok (.ifCond .eq 7, 3) := by decide +kernel
theorem dL_others_56 : decode cL_others 56 = .ok (.iconst 0, 1) := by decide +kernel
theorem dL_others_57 : decode cL_others 57 = .ok (.goto 4, 3) := by decide +kernel
theorem dL_others_60 : decode cL_others 60 = .ok (.iconst 1, 1) := by decide +kernel
theorem dL_others_61 : decode cL_others 61 = .ok (.iadd, 1) := by decide +kernel
theorem dL_others_62 : decode cL_others 62 = .ok (.istore 6, 2) := by decide +kernel
theorem dL_others_64 : decode cL_others 64 = .ok (.iinc 7 1, 3) := by decide +kernel
theorem dL_others_67 : decode cL_others 67 = .ok (.goto (-57), 3) := by decide +kernel
theorem dL_others_70 : decode cL_others 70 = .ok (.iload 6, 2) := by decide +kernel
theorem dL_others_72 : decode cL_others 72 = .ok (.ireturn, 1) := by decide +kernel
theorem dL_weightOfOthers_0 : decode cL_weightOfOthers 0 = .ok (.iconst 0, 1) := by decide +kernel
theorem dL_weightOfOthers_1 : decode cL_weightOfOthers 1 = .ok (.istore 7, 2) := by decide +kernel
theorem dL_weightOfOthers_3 : decode cL_weightOfOthers 3 = .ok (.bipush 12, 2) := by decide +kernel
theorem dL_weightOfOthers_5 : decode cL_weightOfOthers 5 = .ok (.iload 5, 2) := by decide +kernel
theorem dL_weightOfOthers_7 : decode cL_weightOfOthers 7 = .ok (.imul, 1) := by decide +kernel
theorem dL_weightOfOthers_8 : decode cL_weightOfOthers 8 = .ok (.istore 8, 2) := by decide +kernel
theorem dL_weightOfOthers_10 : decode cL_weightOfOthers 10 = .ok (.iload 8, 2) := by decide +kernel
theorem dL_weightOfOthers_12 : decode cL_weightOfOthers 12 = .ok (.bipush 12, 2) := by decide +kernel
theorem dL_weightOfOthers_14 : decode cL_weightOfOthers 14 = .ok (.iload 5, 2) := by decide +kernel
theorem dL_weightOfOthers_16 : decode cL_weightOfOthers 16 = .ok (.imul, 1) := by decide +kernel
theorem dL_weightOfOthers_17 : decode cL_weightOfOthers 17 = .ok (.aload_n 2, 1) := by decide +kernel
theorem dL_weightOfOthers_18 : decode cL_weightOfOthers 18 = .ok (.iload 5, 2) := by decide +kernel
theorem dL_weightOfOthers_20 : decode cL_weightOfOthers 20 = .ok (.iaload, 1) := by decide +kernel
theorem dL_weightOfOthers_21 : decode cL_weightOfOthers 21 = .ok (.iadd, 1) := by decide +kernel
theorem dL_weightOfOthers_22 : decode cL_weightOfOthers 22 = .ok (.if_icmp .ge 55, 3) := by decide +kernel
theorem dL_weightOfOthers_25 : decode cL_weightOfOthers 25 = .ok (.iload 7, 2) := by decide +kernel
theorem dL_weightOfOthers_27 : decode cL_weightOfOthers 27 = .ok (.aload_n 3, 1) := by decide +kernel
theorem dL_weightOfOthers_28 : decode cL_weightOfOthers 28 = .ok (.iload 8, 2) := by decide +kernel
theorem dL_weightOfOthers_30 : decode cL_weightOfOthers 30 = .ok (.iaload, 1) := by decide +kernel
theorem dL_weightOfOthers_31 : decode cL_weightOfOthers 31 = .ok (.bipush 8, 2) := by decide +kernel
theorem dL_weightOfOthers_33 : decode cL_weightOfOthers 33 = .ok (.idiv, 1) := by decide +kernel
theorem dL_weightOfOthers_34 : decode cL_weightOfOthers 34 = .ok (.iload 6, 2) := by decide +kernel
theorem dL_weightOfOthers_36 : decode cL_weightOfOthers 36 = .ok (.if_icmp .ne 24, 3) := by decide +kernel
theorem dL_weightOfOthers_39 : decode cL_weightOfOthers 39 = .ok (.aload_n 0, 1) := by decide +kernel
theorem dL_weightOfOthers_40 : decode cL_weightOfOthers 40 = .ok (.aload_n 1, 1) := by decide +kernel
theorem dL_weightOfOthers_41 : decode cL_weightOfOthers 41 = .ok (.iload 5, 2) := by decide +kernel
theorem dL_weightOfOthers_43 : decode cL_weightOfOthers 43 = .ok (.iaload, 1) := by decide +kernel
theorem dL_weightOfOthers_44 : decode cL_weightOfOthers 44 = .ok (.iconst 1, 1) := by decide +kernel
theorem dL_weightOfOthers_45 : decode cL_weightOfOthers 45 = .ok (.isub, 1) := by decide +kernel
theorem dL_weightOfOthers_46 : decode cL_weightOfOthers 46 = .ok (.aload_n 3, 1) := by decide +kernel
theorem dL_weightOfOthers_47 : decode cL_weightOfOthers 47 = .ok (.iload 8, 2) := by decide +kernel
theorem dL_weightOfOthers_49 : decode cL_weightOfOthers 49 = .ok (.iaload, 1) := by decide +kernel
theorem dL_weightOfOthers_50 : decode cL_weightOfOthers 50 = .ok (.invokestatic 82, 3) := by decide +kernel
theorem dL_weightOfOthers_53 : decode cL_weightOfOthers 53 = .ok (.ifCond .eq 7, 3) := by decide +kernel
theorem dL_weightOfOthers_56 : decode cL_weightOfOthers 56 = .ok (.iconst 0, 1) := by decide +kernel
theorem dL_weightOfOthers_57 : decode cL_weightOfOthers 57 = .ok (.goto 11, 3) := by decide +kernel
theorem dL_weightOfOthers_60 : decode cL_weightOfOthers 60 = .ok (.aload_n 3, 1) := by decide +kernel
theorem dL_weightOfOthers_61 : decode cL_weightOfOthers 61 = .ok (.aload 4, 2) := by decide +kernel
theorem dL_weightOfOthers_63 : decode cL_weightOfOthers 63 = .ok (.iload 8, 2) := by decide +kernel
theorem dL_weightOfOthers_65 : decode cL_weightOfOthers 65 = .ok (.invokestatic 78, 3) := by decide +kernel
theorem dL_weightOfOthers_68 : decode cL_weightOfOthers 68 = .ok (.iadd, 1) := by decide +kernel
theorem dL_weightOfOthers_69 : decode cL_weightOfOthers 69 = .ok (.istore 7, 2) := by decide +kernel
theorem dL_weightOfOthers_71 : decode cL_weightOfOthers 71 = .ok (.iinc 8 1, 3) := by decide +kernel
theorem dL_weightOfOthers_74 : decode cL_weightOfOthers 74 = .ok (.goto (-64), 3) := by decide +kernel
theorem dL_weightOfOthers_77 : decode cL_weightOfOthers 77 = .ok (.iload 7, 2) := by decide +kernel
theorem dL_weightOfOthers_79 : decode cL_weightOfOthers 79 = .ok (.ireturn, 1) := by decide +kernel
theorem dL_replace_0 : decode cL_replace 0 = .ok (.aload_n 0, 1) := by decide +kernel
theorem dL_replace_1 : decode cL_replace 1 = .ok (.aload_n 1, 1) := by decide +kernel
theorem dL_replace_2 : decode cL_replace 2 = .ok (.aload_n 2, 1) := by decide +kernel
theorem dL_replace_3 : decode cL_replace 3 = .ok (.aload_n 3, 1) := by decide +kernel
theorem dL_replace_4 : decode cL_replace 4 = .ok (.iload 7, 2) := by decide +kernel
theorem dL_replace_6 : decode cL_replace 6 = .ok (.iload 8, 2) := by decide +kernel
theorem dL_replace_8 : decode cL_replace 8 = .ok (.bipush 8, 2) := by decide +kernel
theorem dL_replace_10 : decode cL_replace 10 = .ok (.idiv, 1) := by decide +kernel
theorem dL_replace_11 : decode cL_replace 11 = .ok (.invokestatic 86, 3) := by decide +kernel
theorem dL_replace_14 : decode cL_replace 14 = .ok (.istore 14, 2) := by decide +kernel
theorem dL_replace_16 : decode cL_replace 16 = .ok (.iload 14, 2) := by decide +kernel
theorem dL_replace_18 : decode cL_replace 18 = .ok (.ifCond .lt 37, 3) := by decide +kernel
theorem dL_replace_21 : decode cL_replace 21 = .ok (.aload_n 2, 1) := by decide +kernel
theorem dL_replace_22 : decode cL_replace 22 = .ok (.aload_n 3, 1) := by decide +kernel
theorem dL_replace_23 : decode cL_replace 23 = .ok (.aload 4, 2) := by decide +kernel
theorem dL_replace_25 : decode cL_replace 25 = .ok (.aload 5, 2) := by decide +kernel
theorem dL_replace_27 : decode cL_replace 27 = .ok (.aload 6, 2) := by decide +kernel
theorem dL_replace_29 : decode cL_replace 29 = .ok (.iload 7, 2) := by decide +kernel
theorem dL_replace_31 : decode cL_replace 31 = .ok (.iload 14, 2) := by decide +kernel
theorem dL_replace_33 : decode cL_replace 33 = .ok (.invokestatic 115, 3) := by decide +kernel
theorem dL_replace_36 : decode cL_replace 36 = .ok (.aload_n 0, 1) := by decide +kernel
theorem dL_replace_37 : decode cL_replace 37 = .ok (.aload_n 1, 1) := by decide +kernel
theorem dL_replace_38 : decode cL_replace 38 = .ok (.aload_n 2, 1) := by decide +kernel
theorem dL_replace_39 : decode cL_replace 39 = .ok (.aload_n 3, 1) := by decide +kernel
theorem dL_replace_40 : decode cL_replace 40 = .ok (.iload 7, 2) := by decide +kernel
theorem dL_replace_42 : decode cL_replace 42 = .ok (.iload 8, 2) := by decide +kernel
theorem dL_replace_44 : decode cL_replace 44 = .ok (.bipush 8, 2) := by decide +kernel
theorem dL_replace_46 : decode cL_replace 46 = .ok (.idiv, 1) := by decide +kernel
theorem dL_replace_47 : decode cL_replace 47 = .ok (.invokestatic 86, 3) := by decide +kernel
theorem dL_replace_50 : decode cL_replace 50 = .ok (.istore 14, 2) := by decide +kernel
theorem dL_replace_52 : decode cL_replace 52 = .ok (.goto (-36), 3) := by decide +kernel
theorem dL_replace_55 : decode cL_replace 55 = .ok (.bipush 12, 2) := by decide +kernel
theorem dL_replace_57 : decode cL_replace 57 = .ok (.iload 7, 2) := by decide +kernel
theorem dL_replace_59 : decode cL_replace 59 = .ok (.imul, 1) := by decide +kernel
theorem dL_replace_60 : decode cL_replace 60 = .ok (.aload_n 2, 1) := by decide +kernel
theorem dL_replace_61 : decode cL_replace 61 = .ok (.iload 7, 2) := by decide +kernel
theorem dL_replace_63 : decode cL_replace 63 = .ok (.iaload, 1) := by decide +kernel
theorem dL_replace_64 : decode cL_replace 64 = .ok (.iadd, 1) := by decide +kernel
theorem dL_replace_65 : decode cL_replace 65 = .ok (.istore 14, 2) := by decide +kernel
theorem dL_replace_67 : decode cL_replace 67 = .ok (.aload_n 2, 1) := by decide +kernel
theorem dL_replace_68 : decode cL_replace 68 = .ok (.iload 7, 2) := by decide +kernel
theorem dL_replace_70 : decode cL_replace 70 = .ok (.dup2, 1) := by decide +kernel
theorem dL_replace_71 : decode cL_replace 71 = .ok (.iaload, 1) := by decide +kernel
theorem dL_replace_72 : decode cL_replace 72 = .ok (.iconst 1, 1) := by decide +kernel
theorem dL_replace_73 : decode cL_replace 73 = .ok (.iadd, 1) := by decide +kernel
theorem dL_replace_74 : decode cL_replace 74 = .ok (.iastore, 1) := by decide +kernel
theorem dL_replace_75 : decode cL_replace 75 = .ok (.aload_n 3, 1) := by decide +kernel
theorem dL_replace_76 : decode cL_replace 76 = .ok (.iload 14, 2) := by decide +kernel
theorem dL_replace_78 : decode cL_replace 78 = .ok (.iload 8, 2) := by decide +kernel
theorem dL_replace_80 : decode cL_replace 80 = .ok (.iastore, 1) := by decide +kernel
theorem dL_replace_81 : decode cL_replace 81 = .ok (.aload 4, 2) := by decide +kernel
theorem dL_replace_83 : decode cL_replace 83 = .ok (.iload 14, 2) := by decide +kernel
theorem dL_replace_85 : decode cL_replace 85 = .ok (.iload 9, 2) := by decide +kernel
theorem dL_replace_87 : decode cL_replace 87 = .ok (.iastore, 1) := by decide +kernel
theorem dL_replace_88 : decode cL_replace 88 = .ok (.aload 5, 2) := by decide +kernel
theorem dL_replace_90 : decode cL_replace 90 = .ok (.iload 14, 2) := by decide +kernel
theorem dL_replace_92 : decode cL_replace 92 = .ok (.lload 10, 2) := by decide +kernel
theorem dL_replace_94 : decode cL_replace 94 = .ok (.lastore, 1) := by decide +kernel
theorem dL_replace_95 : decode cL_replace 95 = .ok (.aload 6, 2) := by decide +kernel
theorem dL_replace_97 : decode cL_replace 97 = .ok (.iload 14, 2) := by decide +kernel
theorem dL_replace_99 : decode cL_replace 99 = .ok (.lload 12, 2) := by decide +kernel
theorem dL_replace_101 : decode cL_replace 101 = .ok (.lastore, 1) := by decide +kernel
theorem dL_replace_102 : decode cL_replace 102 = .ok (.return_, 1) := by decide +kernel
theorem dL_number_0 : decode cL_number 0 = .ok (.aload_n 1, 1) := by decide +kernel
theorem dL_number_1 : decode cL_number 1 = .ok (.iconst 5, 1) := by decide +kernel
theorem dL_number_2 : decode cL_number 2 = .ok (.iconst 0, 1) := by decide +kernel
theorem dL_number_3 : decode cL_number 3 = .ok (.iastore, 1) := by decide +kernel
theorem dL_number_4 : decode cL_number 4 = .ok (.iconst 0, 1) := by decide +kernel
theorem dL_number_5 : decode cL_number 5 = .ok (.istore_n 3, 1) := by decide +kernel
theorem dL_number_6 : decode cL_number 6 = .ok (.iload_n 3, 1) := by decide +kernel
theorem dL_number_7 : decode cL_number 7 = .ok (.iconst 5, 1) := by decide +kernel
theorem dL_number_8 : decode cL_number 8 = .ok (.if_icmp .ge 77, 3) := by decide +kernel
theorem dL_number_11 : decode cL_number 11 = .ok (.aload_n 1, 1) := by decide +kernel
theorem dL_number_12 : decode cL_number 12 = .ok (.iconst 3, 1) := by decide +kernel
theorem dL_number_13 : decode cL_number 13 = .ok (.iaload, 1) := by decide +kernel
theorem dL_number_14 : decode cL_number 14 = .ok (.iload_n 2, 1) := by decide +kernel
theorem dL_number_15 : decode cL_number 15 = .ok (.if_icmp .ne 8, 3) := by decide +kernel
theorem dL_number_18 : decode cL_number 18 = .ok (.aload_n 1, 1) := by decide +kernel
theorem dL_number_19 : decode cL_number 19 = .ok (.iconst 4, 1) := by decide +kernel
theorem dL_number_20 : decode cL_number 20 = .ok (.iconst 1, 1) := by decide +kernel
theorem dL_number_21 : decode cL_number 21 = .ok (.iastore, 1) := by decide +kernel
theorem dL_number_22 : decode cL_number 22 = .ok (.return_, 1) := by decide +kernel
theorem dL_number_23 : decode cL_number 23 = .ok (.aload_n 0, 1) := by decide +kernel
theorem dL_number_24 : decode cL_number 24 = .ok (.aload_n 1, 1) := by decide +kernel
theorem dL_number_25 : decode cL_number 25 = .ok (.iconst 3, 1) := by decide +kernel
theorem dL_number_26 : decode cL_number 26 = .ok (.iaload, 1) := by decide +kernel
theorem dL_number_27 : decode cL_number 27 = .ok (.iaload, 1) := by decide +kernel
theorem dL_number_28 : decode cL_number 28 = .ok (.istore 4, 2) := by decide +kernel
theorem dL_number_30 : decode cL_number 30 = .ok (.aload_n 1, 1) := by decide +kernel
theorem dL_number_31 : decode cL_number 31 = .ok (.iconst 3, 1) := by decide +kernel
theorem dL_number_32 : decode cL_number 32 = .ok (.dup2, 1) := by decide +kernel
theorem dL_number_33 : decode cL_number 33 = .ok (.iaload, 1) := by decide +kernel
theorem dL_number_34 : decode cL_number 34 = .ok (.iconst 1, 1) := by decide +kernel
theorem dL_number_35 : decode cL_number 35 = .ok (.iadd, 1) := by decide +kernel
theorem dL_number_36 : decode cL_number 36 = .ok (.iastore, 1) := by decide +kernel
theorem dL_number_37 : decode cL_number 37 = .ok (.iload_n 3, 1) := by decide +kernel
theorem dL_number_38 : decode cL_number 38 = .ok (.iconst 4, 1) := by decide +kernel
theorem dL_number_39 : decode cL_number 39 = .ok (.if_icmp .ne 15, 3) := by decide +kernel
theorem dL_number_42 : decode cL_number 42 = .ok (.iload 4, 2) := by decide +kernel
theorem dL_number_44 : decode cL_number 44 = .ok (.bipush 15, 2) := by decide +kernel
theorem dL_number_46 : decode cL_number 46 = .ok (.if_icmp .le 8, 3) := by decide +kernel
theorem dL_number_49 : decode cL_number 49 = .ok (.aload_n 1, 1) := by decide +kernel
theorem dL_number_50 : decode cL_number 50 = .ok (.iconst 4, 1) := by decide +kernel
theorem dL_number_51 : decode cL_number 51 = .ok (.iconst 2, 1) := by decide +kernel
theorem dL_number_52 : decode cL_number 52 = .ok (.iastore, 1) := by decide +kernel
theorem dL_number_53 : decode cL_number 53 = .ok (.return_, 1) := by decide +kernel
theorem dL_number_54 : decode cL_number 54 = .ok (.aload_n 1, 1) := by decide +kernel
theorem dL_number_55 : decode cL_number 55 = .ok (.iconst 5, 1) := by decide +kernel
theorem dL_number_56 : decode cL_number 56 = .ok (.dup2, 1) := by decide +kernel
theorem dL_number_57 : decode cL_number 57 = .ok (.iaload, 1) := by decide +kernel
theorem dL_number_58 : decode cL_number 58 = .ok (.iload 4, 2) := by decide +kernel
theorem dL_number_60 : decode cL_number 60 = .ok (.bipush 127, 2) := by decide +kernel
theorem dL_number_62 : decode cL_number 62 = .ok (.iand, 1) := by decide +kernel
theorem dL_number_63 : decode cL_number 63 = .ok (.bipush 7, 2) := by decide +kernel
theorem dL_number_65 : decode cL_number 65 = .ok (.iload_n 3, 1) := by decide +kernel
theorem dL_number_66 : decode cL_number 66 = .ok (.imul, 1) := by decide +kernel
theorem dL_number_67 : decode cL_number 67 = .ok (.ishl, 1) := by decide +kernel
theorem dL_number_68 : decode cL_number 68 = .ok (.iadd, 1) := by decide +kernel
theorem dL_number_69 : decode cL_number 69 = .ok (.iastore, 1) := by decide +kernel
theorem dL_number_70 : decode cL_number 70 = .ok (.iload 4, 2) := by decide +kernel
theorem dL_number_72 : decode cL_number 72 = .ok (.sipush 128, 3) := by decide +kernel
theorem dL_number_75 : decode cL_number 75 = .ok (.if_icmp .ge 4, 3) := by decide +kernel
theorem dL_number_78 : decode cL_number 78 = .ok (.return_, 1) := by decide +kernel
theorem dL_number_79 : decode cL_number 79 = .ok (.iinc 3 1, 3) := by decide +kernel
theorem dL_number_82 : decode cL_number 82 = .ok (.goto (-76), 3) := by decide +kernel
theorem dL_number_85 : decode cL_number 85 = .ok (.return_, 1) := by decide +kernel
theorem dL_free_0 : decode cL_free 0 = .ok (.iconst 0, 1) := by decide +kernel
theorem dL_free_1 : decode cL_free 1 = .ok (.istore_n 1, 1) := by decide +kernel
theorem dL_free_2 : decode cL_free 2 = .ok (.iload_n 1, 1) := by decide +kernel
theorem dL_free_3 : decode cL_free 3 = .ok (.iconst 5, 1) := by decide +kernel
theorem dL_free_4 : decode cL_free 4 = .ok (.if_icmp .ge 17, 3) := by decide +kernel
theorem dL_free_7 : decode cL_free 7 = .ok (.aload_n 0, 1) := by decide +kernel
theorem dL_free_8 : decode cL_free 8 = .ok (.iload_n 1, 1) := by decide +kernel
theorem dL_free_9 : decode cL_free 9 = .ok (.iaload, 1) := by decide +kernel
theorem dL_free_10 : decode cL_free 10 = .ok (.ifCond .ne 5, 3) := by decide +kernel
theorem dL_free_13 : decode cL_free 13 = .ok (.iload_n 1, 1) := by decide +kernel
theorem dL_free_14 : decode cL_free 14 = .ok (.ireturn, 1) := by decide +kernel
theorem dL_free_15 : decode cL_free 15 = .ok (.iinc 1 1, 3) := by decide +kernel
theorem dL_free_18 : decode cL_free 18 = .ok (.goto (-16), 3) := by decide +kernel
theorem dL_free_21 : decode cL_free 21 = .ok (.iconst (-1), 1) := by decide +kernel
theorem dL_free_22 : decode cL_free 22 = .ok (.ireturn, 1) := by decide +kernel
theorem dL_law_0 : decode cL_law 0 = .ok (.new 9, 3) := by decide +kernel
theorem dL_law_3 : decode cL_law 3 = .ok (.dup, 1) := by decide +kernel
theorem dL_law_4 : decode cL_law 4 = .ok (.invokespecial 261, 3) := by decide +kernel
theorem dL_law_7 : decode cL_law 7 = .ok (.astore_n 1, 1) := by decide +kernel
theorem dL_law_8 : decode cL_law 8 = .ok (.bipush 36, 2) := by decide +kernel
theorem dL_law_10 : decode cL_law 10 = .ok (.newarray .int, 2) := by decide +kernel
theorem dL_law_12 : decode cL_law 12 = .ok (.astore_n 2, 1) := by decide +kernel
theorem dL_law_13 : decode cL_law 13 = .ok (.bipush 36, 2) := by decide +kernel
theorem dL_law_15 : decode cL_law 15 = .ok (.newarray .int, 2) := by decide +kernel
theorem dL_law_17 : decode cL_law 17 = .ok (.astore_n 3, 1) := by decide +kernel
theorem dL_law_18 : decode cL_law 18 = .ok (.iconst 5, 1) := by decide +kernel
theorem dL_law_19 : decode cL_law 19 = .ok (.newarray .int, 2) := by decide +kernel
theorem dL_law_21 : decode cL_law 21 = .ok (.astore 4, 2) := by decide +kernel
theorem dL_law_23 : decode cL_law 23 = .ok (.iconst 5, 1) := by decide +kernel
theorem dL_law_24 : decode cL_law 24 = .ok (.newarray .int, 2) := by decide +kernel
theorem dL_law_26 : decode cL_law 26 = .ok (.astore 5, 2) := by decide +kernel
theorem dL_law_28 : decode cL_law 28 = .ok (.bipush 60, 2) := by decide +kernel
theorem dL_law_30 : decode cL_law 30 = .ok (.newarray .int, 2) := by decide +kernel
theorem dL_law_32 : decode cL_law 32 = .ok (.astore 6, 2) := by decide +kernel
theorem dL_law_34 : decode cL_law 34 = .ok (.bipush 60, 2) := by decide +kernel
theorem dL_law_36 : decode cL_law 36 = .ok (.newarray .int, 2) := by decide +kernel
theorem dL_law_38 : decode cL_law 38 = .ok (.astore 7, 2) := by decide +kernel
theorem dL_law_40 : decode cL_law 40 = .ok (.bipush 60, 2) := by decide +kernel
theorem dL_law_42 : decode cL_law 42 = .ok (.newarray .long, 2) := by decide +kernel
theorem dL_law_44 : decode cL_law 44 = .ok (.astore 8, 2) := by decide +kernel
theorem dL_law_46 : decode cL_law 46 = .ok (.bipush 60, 2) := by decide +kernel
theorem dL_law_48 : decode cL_law 48 = .ok (.newarray .long, 2) := by decide +kernel
theorem dL_law_50 : decode cL_law 50 = .ok (.astore 9, 2) := by decide +kernel
theorem dL_law_52 : decode cL_law 52 = .ok (.bipush 64, 2) := by decide +kernel
theorem dL_law_54 : decode cL_law 54 = .ok (.newarray .int, 2) := by decide +kernel
theorem dL_law_56 : decode cL_law 56 = .ok (.astore 10, 2) := by decide +kernel
theorem dL_law_58 : decode cL_law 58 = .ok (.bipush 64, 2) := by decide +kernel
theorem dL_law_60 : decode cL_law 60 = .ok (.newarray .int, 2) := by decide +kernel
theorem dL_law_62 : decode cL_law 62 = .ok (.astore 11, 2) := by decide +kernel
theorem dL_law_64 : decode cL_law 64 = .ok (.bipush 64, 2) := by decide +kernel
theorem dL_law_66 : decode cL_law 66 = .ok (.newarray .int, 2) := by decide +kernel
theorem dL_law_68 : decode cL_law 68 = .ok (.astore 12, 2) := by decide +kernel
theorem dL_law_70 : decode cL_law 70 = .ok (.bipush 6, 2) := by decide +kernel
theorem dL_law_72 : decode cL_law 72 = .ok (.newarray .int, 2) := by decide +kernel
theorem dL_law_74 : decode cL_law 74 = .ok (.astore 13, 2) := by decide +kernel
theorem dL_law_76 : decode cL_law 76 = .ok (.iconst 0, 1) := by decide +kernel
theorem dL_law_77 : decode cL_law 77 = .ok (.istore 14, 2) := by decide +kernel
theorem dL_law_79 : decode cL_law 79 = .ok (.iload 14, 2) := by decide +kernel
theorem dL_law_81 : decode cL_law 81 = .ok (.sipush 160, 3) := by decide +kernel
theorem dL_law_84 : decode cL_law 84 = .ok (.if_icmp .ge 138, 3) := by decide +kernel
theorem dL_law_87 : decode cL_law 87 = .ok (.aload_n 0, 1) := by decide +kernel
theorem dL_law_88 : decode cL_law 88 = .ok (.iconst 2, 1) := by decide +kernel
theorem dL_law_89 : decode cL_law 89 = .ok (.iload 14, 2) := by decide +kernel
theorem dL_law_91 : decode cL_law 91 = .ok (.imul, 1) := by decide +kernel
theorem dL_law_92 : decode cL_law 92 = .ok (.invokestatic 262, 3) := by decide +kernel
theorem dL_law_95 : decode cL_law 95 = .ok (.istore 15, 2) := by decide +kernel
theorem dL_law_97 : decode cL_law 97 = .ok (.aload_n 0, 1) := by decide +kernel
theorem dL_law_98 : decode cL_law 98 = .ok (.iconst 2, 1) := by decide +kernel
theorem dL_law_99 : decode cL_law 99 = .ok (.iload 14, 2) := by decide +kernel
theorem dL_law_101 : decode cL_law 101 = .ok (.imul, 1) := by decide +kernel
theorem dL_law_102 : decode cL_law 102 = .ok (.iconst 1, 1) := by decide +kernel
theorem dL_law_103 : decode cL_law 103 = .ok (.iadd, 1) := by decide +kernel
theorem dL_law_104 : decode cL_law 104 = .ok (.invokestatic 262, 3) := by decide +kernel
theorem dL_law_107 : decode cL_law 107 = .ok (.istore 16, 2) := by decide +kernel
theorem dL_law_109 : decode cL_law 109 = .ok (.aload_n 1, 1) := by decide +kernel
theorem dL_law_110 : decode cL_law 110 = .ok (.iload 14, 2) := by decide +kernel
theorem dL_law_112 : decode cL_law 112 = .ok (.iconst 2, 1) := by decide +kernel
theorem dL_law_113 : decode cL_law 113 = .ok (.if_icmp .ge 7, 3) := by decide +kernel
theorem dL_law_116 : decode cL_law 116 = .ok (.iconst 0, 1) := by decide +kernel
theorem dL_law_117 : decode cL_law 117 = .ok (.goto 33, 3) := by decide +kernel
theorem dL_law_120 : decode cL_law 120 = .ok (.iload 14, 2) := by decide +kernel
theorem dL_law_122 : decode cL_law 122 = .ok (.bipush 10, 2) := by decide +kernel
theorem dL_law_124 : decode cL_law 124 = .ok (.if_icmp .ge 7, 3) := by decide +kernel
theorem dL_law_127 : decode cL_law 127 = .ok (.iconst 1, 1) := by decide +kernel
theorem dL_law_128 : decode cL_law 128 = .ok (.goto 22, 3) := by decide +kernel
theorem dL_law_131 : decode cL_law 131 = .ok (.iload 14, 2) := by decide +kernel
theorem dL_law_133 : decode cL_law 133 = .ok (.bipush 12, 2) := by decide +kernel
theorem dL_law_135 : decode cL_law 135 = .ok (.if_icmp .ge 8, 3) := by decide +kernel
theorem dL_law_138 : decode cL_law 138 = .ok (.bipush 6, 2) := by decide +kernel
theorem dL_law_140 : decode cL_law 140 = .ok (.goto 10, 3) := by decide +kernel
theorem dL_law_143 : decode cL_law 143 = .ok (.iload 15, 2) := by decide +kernel
theorem dL_law_145 : decode cL_law 145 = .ok (.bipush 24, 2) := by decide +kernel
theorem dL_law_147 : decode cL_law 147 = .ok (.invokestatic 129, 3) := by decide +kernel
theorem dL_law_150 : decode cL_law 150 = .ok (.iload 16, 2) := by decide +kernel
theorem dL_law_152 : decode cL_law 152 = .ok (.aload_n 2, 1) := by decide +kernel
theorem dL_law_153 : decode cL_law 153 = .ok (.aload_n 3, 1) := by decide +kernel
theorem dL_law_154 : decode cL_law 154 = .ok (.aload 4, 2) := by decide +kernel
theorem dL_law_156 : decode cL_law 156 = .ok (.aload 5, 2) := by decide +kernel
theorem dL_law_158 : decode cL_law 158 = .ok (.aload 6, 2) := by decide +kernel
theorem dL_law_160 : decode cL_law 160 = .ok (.aload 7, 2) := by decide +kernel
theorem dL_law_162 : decode cL_law 162 = .ok (.aload 8, 2) := by decide +kernel
theorem dL_law_164 : decode cL_law 164 = .ok (.aload 9, 2) := by decide +kernel
theorem dL_law_166 : decode cL_law 166 = .ok (.aload 10, 2) := by decide +kernel
theorem dL_law_168 : decode cL_law 168 = .ok (.aload 11, 2) := by decide +kernel
theorem dL_law_170 : decode cL_law 170 = .ok (.aload 13, 2) := by decide +kernel
theorem dL_law_172 : decode cL_law 172 = .ok (.invokestatic 266, 3) := by decide +kernel
theorem dL_law_175 : decode cL_law 175 = .ok (.ifCond .eq 39, 3) := by decide +kernel
theorem dL_law_178 : decode cL_law 178 = .ok (.aload_n 1, 1) := by decide +kernel
theorem dL_law_179 : decode cL_law 179 = .ok (.iload 15, 2) := by decide +kernel
theorem dL_law_181 : decode cL_law 181 = .ok (.iconst 5, 1) := by decide +kernel
theorem dL_law_182 : decode cL_law 182 = .ok (.ishr, 1) := by decide +kernel
theorem dL_law_183 : decode cL_law 183 = .ok (.iload 16, 2) := by decide +kernel
theorem dL_law_185 : decode cL_law 185 = .ok (.ixor, 1) := by decide +kernel
theorem dL_law_186 : decode cL_law 186 = .ok (.aload_n 2, 1) := by decide +kernel
theorem dL_law_187 : decode cL_law 187 = .ok (.aload_n 3, 1) := by decide +kernel
theorem dL_law_188 : decode cL_law 188 = .ok (.aload 4, 2) := by decide +kernel
theorem dL_law_190 : decode cL_law 190 = .ok (.aload 5, 2) := by decide +kernel
theorem dL_law_192 : decode cL_law 192 = .ok (.aload 6, 2) := by decide +kernel
theorem dL_law_194 : decode cL_law 194 = .ok (.aload 7, 2) := by decide +kernel
theorem dL_law_196 : decode cL_law 196 = .ok (.aload 8, 2) := by decide +kernel
theorem dL_law_198 : decode cL_law 198 = .ok (.aload 9, 2) := by decide +kernel
theorem dL_law_200 : decode cL_law 200 = .ok (.aload 10, 2) := by decide +kernel
theorem dL_law_202 : decode cL_law 202 = .ok (.aload 11, 2) := by decide +kernel
theorem dL_law_204 : decode cL_law 204 = .ok (.aload 12, 2) := by decide +kernel
theorem dL_law_206 : decode cL_law 206 = .ok (.aload 13, 2) := by decide +kernel
theorem dL_law_208 : decode cL_law 208 = .ok (.invokestatic 270, 3) := by decide +kernel
theorem dL_law_211 : decode cL_law 211 = .ok (.ifCond .ne 5, 3) := by decide +kernel
theorem dL_law_214 : decode cL_law 214 = .ok (.iconst 0, 1) := by decide +kernel
theorem dL_law_215 : decode cL_law 215 = .ok (.ireturn, 1) := by decide +kernel
theorem dL_law_216 : decode cL_law 216 = .ok (.iinc 14 1, 3) := by decide +kernel
theorem dL_law_219 : decode cL_law 219 = .ok (.goto (-140), 3) := by decide +kernel
theorem dL_law_222 : decode cL_law 222 = .ok (.iconst 1, 1) := by decide +kernel
theorem dL_law_223 : decode cL_law 223 = .ok (.ireturn, 1) := by decide +kernel
