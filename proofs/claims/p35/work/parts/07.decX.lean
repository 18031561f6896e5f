theorem dX0_init_0 : decode cX0_init 0 = .ok (.aload_n 0, 1) := by decide +kernel
theorem dX0_init_1 : decode cX0_init 1 = .ok (.invokespecial 3, 3) := by decide +kernel
theorem dX0_init_4 : decode cX0_init 4 = .ok (.aload_n 0, 1) := by decide +kernel
theorem dX0_init_5 : decode cX0_init 5 = .ok (.sipush 256, 3) := by decide +kernel
theorem dX0_init_8 : decode cX0_init 8 = .ok (.newarray .byte, 2) := by decide +kernel
theorem dX0_init_10 : decode cX0_init 10 = .ok (.putfield 9, 3) := by decide +kernel
theorem dX0_init_13 : decode cX0_init 13 = .ok (.return_, 1) := by decide +kernel
theorem dX0_count_0 : decode cX0_count 0 = .ok (.aload_n 0, 1) := by decide +kernel
theorem dX0_count_1 : decode cX0_count 1 = .ok (.getfield 15, 3) := by decide +kernel
theorem dX0_count_4 : decode cX0_count 4 = .ok (.ireturn, 1) := by decide +kernel
theorem dX0_at_0 : decode cX0_at 0 = .ok (.iload_n 1, 1) := by decide +kernel
theorem dX0_at_1 : decode cX0_at 1 = .ok (.ifCond .lt 29, 3) := by decide +kernel
theorem dX0_at_4 : decode cX0_at 4 = .ok (.iload_n 1, 1) := by decide +kernel
theorem dX0_at_5 : decode cX0_at 5 = .ok (.aload_n 0, 1) := by decide +kernel
theorem dX0_at_6 : decode cX0_at 6 = .ok (.getfield 15, 3) := by decide +kernel
theorem dX0_at_9 : decode cX0_at 9 = .ok (.if_icmp .ge 21, 3) := by decide +kernel
theorem dX0_at_12 : decode cX0_at 12 = .ok (.iload_n 1, 1) := by decide +kernel
theorem dX0_at_13 : decode cX0_at 13 = .ok (.aload_n 0, 1) := by decide +kernel
theorem dX0_at_14 : decode cX0_at 14 = .ok (.getfield 9, 3) := by decide +kernel
theorem dX0_at_17 : decode cX0_at 17 = .ok (.arraylength, 1) := by decide +kernel
theorem dX0_at_18 : decode cX0_at 18 = .ok (.if_icmp .ge 12, 3) := by decide +kernel
theorem dX0_at_21 : decode cX0_at 21 = .ok (.aload_n 0, 1) := by decide +kernel
theorem dX0_at_22 : decode cX0_at 22 = .ok (.getfield 9, 3) := by decide +kernel
theorem dX0_at_25 : decode cX0_at 25 = .ok (.iload_n 1, 1) := by decide +kernel
theorem dX0_at_26 : decode cX0_at 26 = .ok (.baload, 1) := by decide +kernel
theorem dX0_at_27 : decode cX0_at 27 = .ok (.goto 4, 3) := by decide +kernel
theorem dX0_at_30 : decode cX0_at 30 = .ok (.iconst 0, 1) := by decide +kernel
theorem dX0_at_31 : decode cX0_at 31 = .ok (.ireturn, 1) := by decide +kernel
theorem dX0_keepFirst_0 : decode cX0_keepFirst 0 = .ok (.iload_n 1, 1) := by decide +kernel
theorem dX0_keepFirst_1 : decode cX0_keepFirst 1 = .ok (.ifCond .lt 16, 3) := by decide +kernel
theorem dX0_keepFirst_4 : decode cX0_keepFirst 4 = .ok (.iload_n 1, 1) := by decide +kernel
theorem dX0_keepFirst_5 : decode cX0_keepFirst 5 = .ok (.aload_n 0, 1) := by decide +kernel
theorem dX0_keepFirst_6 : decode cX0_keepFirst 6 = .ok (.getfield 15, 3) := by decide +kernel
theorem dX0_keepFirst_9 : decode cX0_keepFirst 9 = .ok (.if_icmp .ge 8, 3) := by decide +kernel
theorem dX0_keepFirst_12 : decode cX0_keepFirst 12 = .ok (.aload_n 0, 1) := by decide +kernel
theorem dX0_keepFirst_13 : decode cX0_keepFirst 13 = .ok (.iload_n 1, 1) := by decide +kernel
theorem dX0_keepFirst_14 : decode cX0_keepFirst 14 = .ok (.putfield 15, 3) := by decide +kernel
theorem dX0_keepFirst_17 : decode cX0_keepFirst 17 = .ok (.return_, 1) := by decide +kernel
theorem dX0_add_0 : decode cX0_add 0 = .ok (.aload_n 0, 1) := by decide +kernel
theorem dX0_add_1 : decode cX0_add 1 = .ok (.getfield 15, 3) := by decide +kernel
theorem dX0_add_4 : decode cX0_add 4 = .ok (.ifCond .lt 35, 3) := by decide +kernel
theorem dX0_add_7 : decode cX0_add 7 = .ok (.aload_n 0, 1) := by decide +kernel
theorem dX0_add_8 : decode cX0_add 8 = .ok (.getfield 15, 3) := by decide +kernel
theorem dX0_add_11 : decode cX0_add 11 = .ok (.aload_n 0, 1) := by decide +kernel
theorem dX0_add_12 : decode cX0_add 12 = .ok (.getfield 9, 3) := by decide +kernel
theorem dX0_add_15 : decode cX0_add 15 = .ok (.arraylength, 1) := by decide +kernel
theorem dX0_add_16 : decode cX0_add 16 = .ok (.if_icmp .ge 23, 3) := by decide +kernel
theorem dX0_add_19 : decode cX0_add 19 = .ok (.aload_n 0, 1) := by decide +kernel
theorem dX0_add_20 : decode cX0_add 20 = .ok (.getfield 9, 3) := by decide +kernel
theorem dX0_add_23 : decode cX0_add 23 = .ok (.aload_n 0, 1) := by decide +kernel
theorem dX0_add_24 : decode cX0_add 24 = .ok (.getfield 15, 3) := by decide +kernel
theorem dX0_add_27 : decode cX0_add 27 = .ok (.iload_n 1, 1) := by decide +kernel
theorem dX0_add_28 : decode cX0_add 28 = .ok (.bastore, 1) := by decide +kernel
theorem dX0_add_29 : decode cX0_add 29 = .ok (.aload_n 0, 1) := by decide +kernel
theorem dX0_add_30 : decode cX0_add 30 = .ok (.dup, 1) := by decide +kernel
theorem dX0_add_31 : decode cX0_add 31 = .ok (.getfield 15, 3) := by decide +kernel
theorem dX0_add_34 : decode cX0_add 34 = .ok (.iconst 1, 1) := by decide +kernel
theorem dX0_add_35 : decode cX0_add 35 = .ok (.iadd, 1) := by decide +kernel
theorem dX0_add_36 : decode cX0_add 36 = .ok (.putfield 15, 3) := by decide +kernel
theorem dX0_add_39 : decode cX0_add 39 = .ok (.return_, 1) := by decide +kernel
theorem dX0_addRange_0 : decode cX0_addRange 0 = .ok (.iload_n 2, 1) := by decide +kernel
theorem dX0_addRange_1 : decode cX0_addRange 1 = .ok (.istore 4, 2) := by decide +kernel
theorem dX0_addRange_3 : decode cX0_addRange 3 = .ok (.iload 4, 2) := by decide +kernel
theorem dX0_addRange_5 : decode cX0_addRange 5 = .ok (.iload_n 3, 1) := by decide +kernel
theorem dX0_addRange_6 : decode cX0_addRange 6 = .ok (.if_icmp .ge 19, 3) := by decide +kernel
theorem dX0_addRange_9 : decode cX0_addRange 9 = .ok (.aload_n 0, 1) := by decide +kernel
theorem dX0_addRange_10 : decode cX0_addRange 10 = .ok (.aload_n 1, 1) := by decide +kernel
theorem dX0_addRange_11 : decode cX0_addRange 11 = .ok (.iload 4, 2) := by decide +kernel
theorem dX0_addRange_13 : decode cX0_addRange 13 = .ok (.invokevirtual 19, 3) := by decide +kernel
theorem dX0_addRange_16 : decode cX0_addRange 16 = .ok (.invokevirtual 23, 3) := by decide +kernel
theorem dX0_addRange_19 : decode cX0_addRange 19 = .ok (.iinc 4 1, 3) := by decide +kernel
theorem dX0_addRange_22 : decode cX0_addRange 22 = .ok (.goto (-19), 3) := by decide +kernel
theorem dX0_addRange_25 : decode cX0_addRange 25 = .ok (.return_, 1) := by decide +kernel
theorem dX0_replaceBy_0 : decode cX0_replaceBy 0 = .ok (.aload_n 0, 1) := by decide +kernel
theorem dX0_replaceBy_1 : decode cX0_replaceBy 1 = .ok (.iconst 0, 1) := by decide +kernel
theorem dX0_replaceBy_2 : decode cX0_replaceBy 2 = .ok (.invokevirtual 27, 3) := by decide +kernel
theorem dX0_replaceBy_5 : decode cX0_replaceBy 5 = .ok (.aload_n 0, 1) := by decide +kernel
theorem dX0_replaceBy_6 : decode cX0_replaceBy 6 = .ok (.aload_n 1, 1) := by decide +kernel
theorem dX0_replaceBy_7 : decode cX0_replaceBy 7 = .ok (.iconst 0, 1) := by decide +kernel
theorem dX0_replaceBy_8 : decode cX0_replaceBy 8 = .ok (.aload_n 1, 1) := by decide +kernel
theorem dX0_replaceBy_9 : decode cX0_replaceBy 9 = .ok (.invokevirtual 31, 3) := by decide +kernel
theorem dX0_replaceBy_12 : decode cX0_replaceBy 12 = .ok (.invokevirtual 34, 3) := by decide +kernel
theorem dX0_replaceBy_15 : decode cX0_replaceBy 15 = .ok (.return_, 1) := by decide +kernel
theorem dX0_addNumberField_0 : decode cX0_addNumberField 0 = .ok (.aload_n 0, 1) := by decide +kernel
theorem dX0_addNumberField_1 : decode cX0_addNumberField 1 = .ok (.iload_n 1, 1) := by decide +kernel
theorem dX0_addNumberField_2 : decode cX0_addNumberField 2 = .ok (.iload_n 2, 1) := by decide +kernel
theorem dX0_addNumberField_3 : decode cX0_addNumberField 3 = .ok (.invokevirtual 38, 3) := by decide +kernel
theorem dX0_addNumberField_6 : decode cX0_addNumberField 6 = .ok (.iload_n 2, 1) := by decide +kernel
theorem dX0_addNumberField_7 : decode cX0_addNumberField 7 = .ok (.iconst 5, 1) := by decide +kernel
theorem dX0_addNumberField_8 : decode cX0_addNumberField 8 = .ok (.if_icmp .ne 11, 3) := by decide +kernel
theorem dX0_addNumberField_11 : decode cX0_addNumberField 11 = .ok (.aload_n 0, 1) := by decide +kernel
theorem dX0_addNumberField_12 : decode cX0_addNumberField 12 = .ok (.iload_n 3, 1) := by decide +kernel
theorem dX0_addNumberField_13 : decode cX0_addNumberField 13 = .ok (.invokevirtual 42, 3) := by decide +kernel
theorem dX0_addNumberField_16 : decode cX0_addNumberField 16 = .ok (.goto 8, 3) := by decide +kernel
theorem dX0_addNumberField_19 : decode cX0_addNumberField 19 = .ok (.aload_n 0, 1) := by decide +kernel
theorem dX0_addNumberField_20 : decode cX0_addNumberField 20 = .ok (.iload_n 3, 1) := by decide +kernel
theorem dX0_addNumberField_21 : decode cX0_addNumberField 21 = .ok (.invokevirtual 45, 3) := by decide +kernel
theorem dX0_addNumberField_24 : decode cX0_addNumberField 24 = .ok (.return_, 1) := by decide +kernel
theorem dX0_addBytesHead_0 : decode cX0_addBytesHead 0 = .ok (.aload_n 0, 1) := by decide +kernel
theorem dX0_addBytesHead_1 : decode cX0_addBytesHead 1 = .ok (.iload_n 1, 1) := by decide +kernel
theorem dX0_addBytesHead_2 : decode cX0_addBytesHead 2 = .ok (.iconst 2, 1) := by decide +kernel
theorem dX0_addBytesHead_3 : decode cX0_addBytesHead 3 = .ok (.invokevirtual 38, 3) := by decide +kernel
theorem dX0_addBytesHead_6 : decode cX0_addBytesHead 6 = .ok (.aload_n 0, 1) := by decide +kernel
theorem dX0_addBytesHead_7 : decode cX0_addBytesHead 7 = .ok (.iload_n 2, 1) := by decide +kernel
theorem dX0_addBytesHead_8 : decode cX0_addBytesHead 8 = .ok (.invokevirtual 45, 3) := by decide +kernel
theorem dX0_addBytesHead_11 : decode cX0_addBytesHead 11 = .ok (.return_, 1) := by decide +kernel
theorem dX0_isSameAs_0 : decode cX0_isSameAs 0 = .ok (.aload_n 0, 1) := by decide +kernel
theorem dX0_isSameAs_1 : decode cX0_isSameAs 1 = .ok (.getfield 15, 3) := by decide +kernel
theorem dX0_isSameAs_4 : decode cX0_isSameAs 4 = .ok (.aload_n 1, 1) := by decide +kernel
theorem dX0_isSameAs_5 : decode cX0_isSameAs 5 = .ok (.invokevirtual 31, 3) := by decide +kernel
theorem dX0_isSameAs_8 : decode cX0_isSameAs 8 = .ok (.if_icmp .ne 21, 3) := by decide +kernel
theorem dX0_isSameAs_11 : decode cX0_isSameAs 11 = .ok (.aload_n 0, 1) := by decide +kernel
theorem dX0_isSameAs_12 : decode cX0_isSameAs 12 = .ok (.iconst 0, 1) := by decide +kernel
theorem dX0_isSameAs_13 : decode cX0_isSameAs 13 = .ok (.aload_n 1, 1) := by decide +kernel
theorem dX0_isSameAs_14 : decode cX0_isSameAs 14 = .ok (.iconst 0, 1) := by decide +kernel
theorem dX0_isSameAs_15 : decode cX0_isSameAs 15 = .ok (.aload_n 0, 1) := by decide +kernel
theorem dX0_isSameAs_16 : decode cX0_isSameAs 16 = .ok (.getfield 15, 3) := by decide +kernel
theorem dX0_isSameAs_19 : decode cX0_isSameAs 19 = .ok (.invokevirtual 48, 3) := by decide +kernel
theorem dX0_isSameAs_22 : decode cX0_isSameAs 22 = .ok (.ifCond .eq 7, 3) := by decide +kernel
theorem dX0_isSameAs_25 : decode cX0_isSameAs 25 = .ok (.iconst 1, 1) := by decide +kernel
theorem dX0_isSameAs_26 : decode cX0_isSameAs 26 = .ok (.goto 4, 3) := by decide +kernel
theorem dX0_isSameAs_29 : decode cX0_isSameAs 29 = .ok (.iconst 0, 1) := by decide +kernel
theorem dX0_isSameAs_30 : decode cX0_isSameAs 30 = .ok (.ireturn, 1) := by decide +kernel
theorem dX0_hasSameRange_0 : decode cX0_hasSameRange 0 = .ok (.iconst 0, 1) := by decide +kernel
theorem dX0_hasSameRange_1 : decode cX0_hasSameRange 1 = .ok (.istore 5, 2) := by decide +kernel
theorem dX0_hasSameRange_3 : decode cX0_hasSameRange 3 = .ok (.iload 5, 2) := by decide +kernel
theorem dX0_hasSameRange_5 : decode cX0_hasSameRange 5 = .ok (.iload 4, 2) := by decide +kernel
theorem dX0_hasSameRange_7 : decode cX0_hasSameRange 7 = .ok (.if_icmp .ge 30, 3) := by decide +kernel
theorem dX0_hasSameRange_10 : decode cX0_hasSameRange 10 = .ok (.aload_n 0, 1) := by decide +kernel
theorem dX0_hasSameRange_11 : decode cX0_hasSameRange 11 = .ok (.iload_n 1, 1) := by decide +kernel
theorem dX0_hasSameRange_12 : decode cX0_hasSameRange 12 = .ok (.iload 5, 2) := by decide +kernel
theorem dX0_hasSameRange_14 : decode cX0_hasSameRange 14 = .ok (.iadd, 1) := by decide +kernel
theorem dX0_hasSameRange_15 : decode cX0_hasSameRange 15 = .ok (.invokevirtual 19, 3) := by decide +kernel
theorem dX0_hasSameRange_18 : decode cX0_hasSameRange 18 = .ok (.aload_n 2, 1) := by decide +kernel
theorem dX0_hasSameRange_19 : decode cX0_hasSameRange 19 = .ok (.iload_n 3, 1) := by decide +kernel
theorem dX0_hasSameRange_20 : decode cX0_hasSameRange 20 = .ok (.iload 5, 2) := by decide +kernel
theorem dX0_hasSameRange_22 : decode cX0_hasSameRange 22 = .ok (.iadd, 1) := by decide +kernel
theorem dX0_hasSameRange_23 : decode cX0_hasSameRange 23 = .ok (.invokevirtual 19, 3) := by decide +kernel
theorem dX0_hasSameRange_26 : decode cX0_hasSameRange 26 = .ok (.if_icmp .eq 5, 3) := by decide +kernel
theorem dX0_hasSameRange_29 : decode cX0_hasSameRange 29 = .ok (.iconst 0, 1) := by decide +kernel
theorem dX0_hasSameRange_30 : decode cX0_hasSameRange 30 = .ok (.ireturn, 1) := by decide +kernel
theorem dX0_hasSameRange_31 : decode cX0_hasSameRange 31 = .ok (.iinc 5 1, 3) := by decide +kernel
theorem dX0_hasSameRange_34 : decode cX0_hasSameRange 34 = .ok (.goto (-31), 3) := by decide +kernel
theorem dX0_hasSameRange_37 : decode cX0_hasSameRange 37 = .ok (.iconst 1, 1) := by decide +kernel
theorem dX0_hasSameRange_38 : decode cX0_hasSameRange 38 = .ok (.ireturn, 1) := by decide +kernel
theorem dX0_addKey_0 : decode cX0_addKey 0 = .ok (.aload_n 0, 1) := by decide +kernel
theorem dX0_addKey_1 : decode cX0_addKey 1 = .ok (.bipush 8, 2) := by decide +kernel
theorem dX0_addKey_3 : decode cX0_addKey 3 = .ok (.iload_n 1, 1) := by decide +kernel
theorem dX0_addKey_4 : decode cX0_addKey 4 = .ok (.imul, 1) := by decide +kernel
theorem dX0_addKey_5 : decode cX0_addKey 5 = .ok (.iload_n 2, 1) := by decide +kernel
theorem dX0_addKey_6 : decode cX0_addKey 6 = .ok (.iadd, 1) := by decide +kernel
theorem dX0_addKey_7 : decode cX0_addKey 7 = .ok (.invokevirtual 45, 3) := by decide +kernel
theorem dX0_addKey_10 : decode cX0_addKey 10 = .ok (.return_, 1) := by decide +kernel
theorem dX0_addGroups_0 : decode cX0_addGroups 0 = .ok (.iload_n 1, 1) := by decide +kernel
theorem dX0_addGroups_1 : decode cX0_addGroups 1 = .ok (.istore_n 2, 1) := by decide +kernel
theorem dX0_addGroups_2 : decode cX0_addGroups 2 = .ok (.iconst 0, 1) := by decide +kernel
theorem dX0_addGroups_3 : decode cX0_addGroups 3 = .ok (.istore_n 3, 1) := by decide +kernel
theorem dX0_addGroups_4 : decode cX0_addGroups 4 = .ok (.iload_n 3, 1) := by decide +kernel
theorem dX0_addGroups_5 : decode cX0_addGroups 5 = .ok (.iconst 4, 1) := by decide +kernel
theorem dX0_addGroups_6 : decode cX0_addGroups 6 = .ok (.if_icmp .ge 34, 3) := by decide +kernel
theorem dX0_addGroups_9 : decode cX0_addGroups 9 = .ok (.iload_n 2, 1) := by decide +kernel
theorem dX0_addGroups_10 : decode cX0_addGroups 10 = .ok (.bipush 7, 2) := by decide +kernel
theorem dX0_addGroups_12 : decode cX0_addGroups 12 = .ok (.iushr, 1) := by decide +kernel
theorem dX0_addGroups_13 : decode cX0_addGroups 13 = .ok (.ifCond .eq 27, 3) := by decide +kernel
theorem dX0_addGroups_16 : decode cX0_addGroups 16 = .ok (.aload_n 0, 1) := by decide +kernel
theorem dX0_addGroups_17 : decode cX0_addGroups 17 = .ok (.iload_n 2, 1) := by decide +kernel
theorem dX0_addGroups_18 : decode cX0_addGroups 18 = .ok (.bipush 127, 2) := by decide +kernel
theorem dX0_addGroups_20 : decode cX0_addGroups 20 = .ok (.iand, 1) := by decide +kernel
theorem dX0_addGroups_21 : decode cX0_addGroups 21 = .ok (.sipush 128, 3) := by decide +kernel
theorem dX0_addGroups_24 : decode cX0_addGroups 24 = .ok (.ior, 1) := by decide +kernel
theorem dX0_addGroups_25 : decode cX0_addGroups 25 = .ok (.i2b, 1) := by decide +kernel
theorem dX0_addGroups_26 : decode cX0_addGroups 26 = .ok (.invokevirtual 23, 3) := by decide +kernel
theorem dX0_addGroups_29 : decode cX0_addGroups 29 = .ok (.iload_n 2, 1) := by decide +kernel
theorem dX0_addGroups_30 : decode cX0_addGroups 30 = .ok (.bipush 7, 2) := by decide +kernel
theorem dX0_addGroups_32 : decode cX0_addGroups 32 = .ok (.iushr, 1) := by decide +kernel
theorem dX0_addGroups_33 : decode cX0_addGroups 33 = .ok (.istore_n 2, 1) := by decide +kernel
theorem dX0_addGroups_34 : decode cX0_addGroups 34 = .ok (.iinc 3 1, 3) := by decide +kernel
theorem dX0_addGroups_37 : decode cX0_addGroups 37 = .ok (.goto (-33), 3) := by decide +kernel
theorem dX0_addGroups_40 : decode cX0_addGroups 40 = .ok (.aload_n 0, 1) := by decide +kernel
theorem dX0_addGroups_41 : decode cX0_addGroups 41 = .ok (.iload_n 2, 1) := by decide +kernel
theorem dX0_addGroups_42 : decode cX0_addGroups 42 = .ok (.i2b, 1) := by decide +kernel
theorem dX0_addGroups_43 : decode cX0_addGroups 43 = .ok (.invokevirtual 23, 3) := by decide +kernel
theorem dX0_addGroups_46 : decode cX0_addGroups 46 = .ok (.return_, 1) := by decide +kernel
theorem dX0_addFour_0 : decode cX0_addFour 0 = .ok (.iconst 0, 1) := by decide +kernel
theorem dX0_addFour_1 : decode cX0_addFour 1 = .ok (.istore_n 2, 1) := by decide +kernel
theorem dX0_addFour_2 : decode cX0_addFour 2 = .ok (.iload_n 2, 1) := by decide +kernel
theorem dX0_addFour_3 : decode cX0_addFour 3 = .ok (.bipush 32, 2) := by decide +kernel
theorem dX0_addFour_5 : decode cX0_addFour 5 = .ok (.if_icmp .ge 17, 3) := by decide +kernel
theorem dX0_addFour_8 : decode cX0_addFour 8 = .ok (.aload_n 0, 1) := by decide +kernel
theorem dX0_addFour_9 : decode cX0_addFour 9 = .ok (.iload_n 1, 1) := by decide +kernel
theorem dX0_addFour_10 : decode cX0_addFour 10 = .ok (.iload_n 2, 1) := by decide +kernel
theorem dX0_addFour_11 : decode cX0_addFour 11 = .ok (.iushr, 1) := by decide +kernel
theorem dX0_addFour_12 : decode cX0_addFour 12 = .ok (.i2b, 1) := by decide +kernel
theorem dX0_addFour_13 : decode cX0_addFour 13 = .ok (.invokevirtual 23, 3) := by decide +kernel
theorem dX0_addFour_16 : decode cX0_addFour 16 = .ok (.iinc 2 8, 3) := by decide +kernel
theorem dX0_addFour_19 : decode cX0_addFour 19 = .ok (.goto (-17), 3) := by decide +kernel
theorem dX0_addFour_22 : decode cX0_addFour 22 = .ok (.return_, 1) := by decide +kernel
theorem dX1_init_0 : decode cX1_init 0 = .ok (.aload_n 0, 1) := by decide +kernel
theorem dX1_init_1 : decode cX1_init 1 = .ok (.invokespecial 3, 3) := by decide +kernel
theorem dX1_init_4 : decode cX1_init 4 = .ok (.aload_n 0, 1) := by decide +kernel
theorem dX1_init_5 : decode cX1_init 5 = .ok (.new 9, 3) := by decide +kernel
theorem dX1_init_8 : decode cX1_init 8 = .ok (.dup, 1) := by decide +kernel
theorem dX1_init_9 : decode cX1_init 9 = .ok (.invokespecial 11, 3) := by decide +kernel
theorem dX1_init_12 : decode cX1_init 12 = .ok (.putfield 12, 3) := by decide +kernel
theorem dX1_init_15 : decode cX1_init 15 = .ok (.aload_n 0, 1) := by decide +kernel
theorem dX1_init_16 : decode cX1_init 16 = .ok (.bipush 60, 2) := by decide +kernel
theorem dX1_init_18 : decode cX1_init 18 = .ok (.newarray .int, 2) := by decide +kernel
theorem dX1_init_20 : decode cX1_init 20 = .ok (.putfield 18, 3) := by decide +kernel
theorem dX1_init_23 : decode cX1_init 23 = .ok (.aload_n 0, 1) := by decide +kernel
theorem dX1_init_24 : decode cX1_init 24 = .ok (.bipush 32, 2) := by decide +kernel
theorem dX1_init_26 : decode cX1_init 26 = .ok (.newarray .int, 2) := by decide +kernel
theorem dX1_init_28 : decode cX1_init 28 = .ok (.putfield 22, 3) := by decide +kernel
theorem dX1_init_31 : decode cX1_init 31 = .ok (.return_, 1) := by decide +kernel
theorem dX1_choose_0 : decode cX1_choose 0 = .ok (.aload_n 0, 1) := by decide +kernel
theorem dX1_choose_1 : decode cX1_choose 1 = .ok (.getfield 12, 3) := by decide +kernel
theorem dX1_choose_4 : decode cX1_choose 4 = .ok (.aload_n 1, 1) := by decide +kernel
theorem dX1_choose_5 : decode cX1_choose 5 = .ok (.iconst 0, 1) := by decide +kernel
theorem dX1_choose_6 : decode cX1_choose 6 = .ok (.aload_n 1, 1) := by decide +kernel
theorem dX1_choose_7 : decode cX1_choose 7 = .ok (.invokevirtual 25, 3) := by decide +kernel
theorem dX1_choose_10 : decode cX1_choose 10 = .ok (.invokevirtual 31, 3) := by decide +kernel
theorem dX1_choose_13 : decode cX1_choose 13 = .ok (.aload_n 0, 1) := by decide +kernel
theorem dX1_choose_14 : decode cX1_choose 14 = .ok (.aload_n 2, 1) := by decide +kernel
theorem dX1_choose_15 : decode cX1_choose 15 = .ok (.invokevirtual 35, 3) := by decide +kernel
theorem dX1_choose_18 : decode cX1_choose 18 = .ok (.aload_n 0, 1) := by decide +kernel
theorem dX1_choose_19 : decode cX1_choose 19 = .ok (.iconst 0, 1) := by decide +kernel
theorem dX1_choose_20 : decode cX1_choose 20 = .ok (.putfield 39, 3) := by decide +kernel
theorem dX1_choose_23 : decode cX1_choose 23 = .ok (.iconst 0, 1) := by decide +kernel
theorem dX1_choose_24 : decode cX1_choose 24 = .ok (.istore_n 3, 1) := by decide +kernel
theorem dX1_choose_25 : decode cX1_choose 25 = .ok (.iload_n 3, 1) := by decide +kernel
theorem dX1_choose_26 : decode cX1_choose 26 = .ok (.aload_n 0, 1) := by decide +kernel
theorem dX1_choose_27 : decode cX1_choose 27 = .ok (.getfield 12, 3) := by decide +kernel
theorem dX1_choose_30 : decode cX1_choose 30 = .ok (.invokevirtual 42, 3) := by decide +kernel
theorem dX1_choose_33 : decode cX1_choose 33 = .ok (.if_icmp .ge 35, 3) := by decide +kernel
theorem dX1_choose_36 : decode cX1_choose 36 = .ok (.aload_n 0, 1) := by decide +kernel
theorem dX1_choose_37 : decode cX1_choose 37 = .ok (.getfield 12, 3) := by decide +kernel
theorem dX1_choose_40 : decode cX1_choose 40 = .ok (.aload_n 2, 1) := by decide +kernel
theorem dX1_choose_41 : decode cX1_choose 41 = .ok (.iload_n 3, 1) := by decide +kernel
theorem dX1_choose_42 : decode cX1_choose 42 = .ok (.invokevirtual 43, 3) := by decide +kernel
theorem dX1_choose_45 : decode cX1_choose 45 = .ok (.ifCond .eq 12, 3) := by decide +kernel
theorem dX1_choose_48 : decode cX1_choose 48 = .ok (.aload_n 0, 1) := by decide +kernel
theorem dX1_choose_49 : decode cX1_choose 49 = .ok (.aload_n 2, 1) := by decide +kernel
theorem dX1_choose_50 : decode cX1_choose 50 = .ok (.iload_n 3, 1) := by decide +kernel
theorem dX1_choose_51 : decode cX1_choose 51 = .ok (.invokevirtual 47, 3) := by decide +kernel
theorem dX1_choose_54 : decode cX1_choose 54 = .ok (.ifCond .eq 8, 3) := by decide +kernel
theorem dX1_choose_57 : decode cX1_choose 57 = .ok (.aload_n 0, 1) := by decide +kernel
theorem dX1_choose_58 : decode cX1_choose 58 = .ok (.iload_n 3, 1) := by decide +kernel
theorem dX1_choose_59 : decode cX1_choose 59 = .ok (.invokevirtual 50, 3) := by decide +kernel
theorem dX1_choose_62 : decode cX1_choose 62 = .ok (.iinc 3 1, 3) := by decide +kernel
theorem dX1_choose_65 : decode cX1_choose 65 = .ok (.goto (-40), 3) := by decide +kernel
theorem dX1_choose_68 : decode cX1_choose 68 = .ok (.return_, 1) := by decide +kernel
theorem dX1_writeTo_0 : decode cX1_writeTo 0 = .ok (.aload_n 1, 1) := by decide +kernel
theorem dX1_writeTo_1 : decode cX1_writeTo 1 = .ok (.iconst 0, 1) := by decide +kernel
theorem dX1_writeTo_2 : decode cX1_writeTo 2 = .ok (.invokevirtual 54, 3) := by decide +kernel
theorem dX1_writeTo_5 : decode cX1_writeTo 5 = .ok (.iconst 0, 1) := by decide +kernel
theorem dX1_writeTo_6 : decode cX1_writeTo 6 = .ok (.istore_n 2, 1) := by decide +kernel
theorem dX1_writeTo_7 : decode cX1_writeTo 7 = .ok (.iload_n 2, 1) := by decide +kernel
theorem dX1_writeTo_8 : decode cX1_writeTo 8 = .ok (.aload_n 0, 1) := by decide +kernel
theorem dX1_writeTo_9 : decode cX1_writeTo 9 = .ok (.getfield 39, 3) := by decide +kernel
theorem dX1_writeTo_12 : decode cX1_writeTo 12 = .ok (.if_icmp .ge 22, 3) := by decide +kernel
theorem dX1_writeTo_15 : decode cX1_writeTo 15 = .ok (.aload_n 0, 1) := by decide +kernel
theorem dX1_writeTo_16 : decode cX1_writeTo 16 = .ok (.getfield 12, 3) := by decide +kernel
theorem dX1_writeTo_19 : decode cX1_writeTo 19 = .ok (.aload_n 1, 1) := by decide +kernel
theorem dX1_writeTo_20 : decode cX1_writeTo 20 = .ok (.aload_n 0, 1) := by decide +kernel
theorem dX1_writeTo_21 : decode cX1_writeTo 21 = .ok (.iload_n 2, 1) := by decide +kernel
theorem dX1_writeTo_22 : decode cX1_writeTo 22 = .ok (.invokevirtual 57, 3) := by decide +kernel
theorem dX1_writeTo_25 : decode cX1_writeTo 25 = .ok (.invokevirtual 61, 3) := by decide +kernel
theorem dX1_writeTo_28 : decode cX1_writeTo 28 = .ok (.iinc 2 1, 3) := by decide +kernel
theorem dX1_writeTo_31 : decode cX1_writeTo 31 = .ok (.goto (-24), 3) := by decide +kernel
theorem dX1_writeTo_34 : decode cX1_writeTo 34 = .ok (.return_, 1) := by decide +kernel
theorem dX1_hasSameFields_0 : decode cX1_hasSameFields 0 = .ok (.aload_n 0, 1) := by decide +kernel
theorem dX1_hasSameFields_1 : decode cX1_hasSameFields 1 = .ok (.getfield 39, 3) := by decide +kernel
theorem dX1_hasSameFields_4 : decode cX1_hasSameFields 4 = .ok (.aload_n 1, 1) := by decide +kernel
theorem dX1_hasSameFields_5 : decode cX1_hasSameFields 5 = .ok (.getfield 39, 3) := by decide +kernel
theorem dX1_hasSameFields_8 : decode cX1_hasSameFields 8 = .ok (.if_icmp .eq 5, 3) := by decide +kernel
theorem dX1_hasSameFields_11 : decode cX1_hasSameFields 11 = .ok (.iconst 0, 1) := by decide +kernel
theorem dX1_hasSameFields_12 : decode cX1_hasSameFields 12 = .ok (.ireturn, 1) := by decide +kernel
theorem dX1_hasSameFields_13 : decode cX1_hasSameFields 13 = .ok (.iconst 0, 1) := by decide +kernel
theorem dX1_hasSameFields_14 : decode cX1_hasSameFields 14 = .ok (.istore_n 2, 1) := by decide +kernel
theorem dX1_hasSameFields_15 : decode cX1_hasSameFields 15 = .ok (.iload_n 2, 1) := by decide +kernel
theorem dX1_hasSameFields_16 : decode cX1_hasSameFields 16 = .ok (.aload_n 0, 1) := by decide +kernel
theorem dX1_hasSameFields_17 : decode cX1_hasSameFields 17 = .ok (.getfield 39, 3) := by decide +kernel
theorem dX1_hasSameFields_20 : decode cX1_hasSameFields 20 = .ok (.if_icmp .ge 35, 3) := by decide +kernel
theorem dX1_hasSameFields_23 : decode cX1_hasSameFields 23 = .ok (.aload_n 0, 1) := by decide +kernel
theorem dX1_hasSameFields_24 : decode cX1_hasSameFields 24 = .ok (.getfield 12, 3) := by decide +kernel
theorem dX1_hasSameFields_27 : decode cX1_hasSameFields 27 = .ok (.aload_n 0, 1) := by decide +kernel
theorem dX1_hasSameFields_28 : decode cX1_hasSameFields 28 = .ok (.iload_n 2, 1) := by decide +kernel
theorem dX1_hasSameFields_29 : decode cX1_hasSameFields 29 = .ok (.invokevirtual 57, 3) := by decide +kernel
theorem dX1_hasSameFields_32 : decode cX1_hasSameFields 32 = .ok (.aload_n 1, 1) := by decide +kernel
theorem dX1_hasSameFields_33 : decode cX1_hasSameFields 33 = .ok (.getfield 12, 3) := by decide +kernel
theorem dX1_hasSameFields_36 : decode cX1_hasSameFields 36 = .ok (.aload_n 1, 1) := by decide +kernel
theorem dX1_hasSameFields_37 : decode cX1_hasSameFields 37 = .ok (.iload_n 2, 1) := by decide +kernel
theorem dX1_hasSameFields_38 : decode cX1_hasSameFields 38 = .ok (.invokevirtual 57, 3) := by decide +kernel
theorem dX1_hasSameFields_41 : decode cX1_hasSameFields 41 = .ok (.invokevirtual 65, 3) := by decide +kernel
theorem dX1_hasSameFields_44 : decode cX1_hasSameFields 44 = .ok (.ifCond .ne 5, 3) := by decide +kernel
theorem dX1_hasSameFields_47 : decode cX1_hasSameFields 47 = .ok (.iconst 0, 1) := by decide +kernel
theorem dX1_hasSameFields_48 : decode cX1_hasSameFields 48 = .ok (.ireturn, 1) := by decide +kernel
theorem dX1_hasSameFields_49 : decode cX1_hasSameFields 49 = .ok (.iinc 2 1, 3) := by decide +kernel
theorem dX1_hasSameFields_52 : decode cX1_hasSameFields 52 = .ok (.goto (-37), 3) := by decide +kernel
theorem dX1_hasSameFields_55 : decode cX1_hasSameFields 55 = .ok (.iconst 1, 1) := by decide +kernel
theorem dX1_hasSameFields_56 : decode cX1_hasSameFields 56 = .ok (.ireturn, 1) := by decide +kernel
theorem dX1_placeAt_0 : decode cX1_placeAt 0 = .ok (.iload_n 1, 1) := by decide +kernel
theorem dX1_placeAt_1 : decode cX1_placeAt 1 = .ok (.ifCond .lt 26, 3) := by decide +kernel
theorem dX1_placeAt_4 : decode cX1_placeAt 4 = .ok (.iload_n 1, 1) := by decide +kernel
theorem dX1_placeAt_5 : decode cX1_placeAt 5 = .ok (.aload_n 0, 1) := by decide +kernel
theorem dX1_placeAt_6 : decode cX1_placeAt 6 = .ok (.getfield 39, 3) := by decide +kernel
theorem dX1_placeAt_9 : decode cX1_placeAt 9 = .ok (.if_icmp .ge 18, 3) := by decide +kernel
theorem dX1_placeAt_12 : decode cX1_placeAt 12 = .ok (.iload_n 1, 1) := by decide +kernel
theorem dX1_placeAt_13 : decode cX1_placeAt 13 = .ok (.bipush 60, 2) := by decide +kernel
theorem dX1_placeAt_15 : decode cX1_placeAt 15 = .ok (.if_icmp .ge 12, 3) := by decide +kernel
theorem dX1_placeAt_18 : decode cX1_placeAt 18 = .ok (.aload_n 0, 1) := by decide +kernel
theorem dX1_placeAt_19 : decode cX1_placeAt 19 = .ok (.getfield 18, 3) := by decide +kernel
theorem dX1_placeAt_22 : decode cX1_placeAt 22 = .ok (.iload_n 1, 1) := by decide +kernel
theorem dX1_placeAt_23 : decode cX1_placeAt 23 = .ok (.iaload, 1) := by decide +kernel
theorem dX1_placeAt_24 : decode cX1_placeAt 24 = .ok (.goto 4, 3) := by decide +kernel
theorem dX1_placeAt_27 : decode cX1_placeAt 27 = .ok (.iconst (-1), 1) := by decide +kernel
theorem dX1_placeAt_28 : decode cX1_placeAt 28 = .ok (.ireturn, 1) := by decide +kernel
theorem dX1_noteLasts_0 : decode cX1_noteLasts 0 = .ok (.aload_n 0, 1) := by decide +kernel
theorem dX1_noteLasts_1 : decode cX1_noteLasts 1 = .ok (.getfield 22, 3) := by decide +kernel
theorem dX1_noteLasts_4 : decode cX1_noteLasts 4 = .ok (.iconst (-1), 1) := by decide +kernel
theorem dX1_noteLasts_5 : decode cX1_noteLasts 5 = .ok (.invokestatic 69, 3) := by decide +kernel
theorem dX1_noteLasts_8 : decode cX1_noteLasts 8 = .ok (.iconst 0, 1) := by decide +kernel
theorem dX1_noteLasts_9 : decode cX1_noteLasts 9 = .ok (.istore_n 2, 1) := by decide +kernel
theorem dX1_noteLasts_10 : decode cX1_noteLasts 10 = .ok (.iload_n 2, 1) := by decide +kernel
theorem dX1_noteLasts_11 : decode cX1_noteLasts 11 = .ok (.aload_n 0, 1) := by decide +kernel
theorem dX1_noteLasts_12 : decode cX1_noteLasts 12 = .ok (.getfield 12, 3) := by decide +kernel
theorem dX1_noteLasts_15 : decode cX1_noteLasts 15 = .ok (.invokevirtual 42, 3) := by decide +kernel
theorem dX1_noteLasts_18 : decode cX1_noteLasts 18 = .ok (.if_icmp .ge 44, 3) := by decide +kernel
theorem dX1_noteLasts_21 : decode cX1_noteLasts 21 = .ok (.aload_n 0, 1) := by decide +kernel
theorem dX1_noteLasts_22 : decode cX1_noteLasts 22 = .ok (.getfield 12, 3) := by decide +kernel
theorem dX1_noteLasts_25 : decode cX1_noteLasts 25 = .ok (.iload_n 2, 1) := by decide +kernel
theorem dX1_noteLasts_26 : decode cX1_noteLasts 26 = .ok (.invokevirtual 75, 3) := by decide +kernel
theorem dX1_noteLasts_29 : decode cX1_noteLasts 29 = .ok (.istore_n 3, 1) := by decide +kernel
theorem dX1_noteLasts_30 : decode cX1_noteLasts 30 = .ok (.iload_n 3, 1) := by decide +kernel
theorem dX1_noteLasts_31 : decode cX1_noteLasts 31 = .ok (.invokestatic 78, 3) := by decide +kernel
theorem dX1_noteLasts_34 : decode cX1_noteLasts 34 = .ok (.ifCond .eq 22, 3) := by decide +kernel
theorem dX1_noteLasts_37 : decode cX1_noteLasts 37 = .ok (.aload_n 0, 1) := by decide +kernel
theorem dX1_noteLasts_38 : decode cX1_noteLasts 38 = .ok (.getfield 12, 3) := by decide +kernel
theorem dX1_noteLasts_41 : decode cX1_noteLasts 41 = .ok (.aload_n 1, 1) := by decide +kernel
theorem dX1_noteLasts_42 : decode cX1_noteLasts 42 = .ok (.iload_n 2, 1) := by decide +kernel
theorem dX1_noteLasts_43 : decode cX1_noteLasts 43 = .ok (.invokevirtual 43, 3) := by decide +kernel
theorem dX1_noteLasts_46 : decode cX1_noteLasts 46 = .ok (.ifCond .eq 10, 3) := by decide +kernel
theorem dX1_noteLasts_49 : decode cX1_noteLasts 49 = .ok (.aload_n 0, 1) := by decide +kernel
theorem dX1_noteLasts_50 : decode cX1_noteLasts 50 = .ok (.getfield 22, 3) := by decide +kernel
theorem dX1_noteLasts_53 : decode cX1_noteLasts 53 = .ok (.iload_n 3, 1) := by decide +kernel
theorem dX1_noteLasts_54 : decode cX1_noteLasts 54 = .ok (.iload_n 2, 1) := by decide +kernel
theorem dX1_noteLasts_55 : decode cX1_noteLasts 55 = .ok (.iastore, 1) := by decide +kernel
theorem dX1_noteLasts_56 : decode cX1_noteLasts 56 = .ok (.iinc 2 1, 3) := by decide +kernel
theorem dX1_noteLasts_59 : decode cX1_noteLasts 59 = .ok (.goto (-49), 3) := by decide +kernel
theorem dX1_noteLasts_62 : decode cX1_noteLasts 62 = .ok (.return_, 1) := by decide +kernel
theorem dX1_isToldBy_0 : decode cX1_isToldBy 0 = .ok (.aload_n 0, 1) := by decide +kernel
theorem dX1_isToldBy_1 : decode cX1_isToldBy 1 = .ok (.getfield 12, 3) := by decide +kernel
theorem dX1_isToldBy_4 : decode cX1_isToldBy 4 = .ok (.iload_n 2, 1) := by decide +kernel
theorem dX1_isToldBy_5 : decode cX1_isToldBy 5 = .ok (.invokevirtual 75, 3) := by decide +kernel
theorem dX1_isToldBy_8 : decode cX1_isToldBy 8 = .ok (.istore_n 3, 1) := by decide +kernel
theorem dX1_isToldBy_9 : decode cX1_isToldBy 9 = .ok (.iload_n 3, 1) := by decide +kernel
theorem dX1_isToldBy_10 : decode cX1_isToldBy 10 = .ok (.invokestatic 78, 3) := by decide +kernel
theorem dX1_isToldBy_13 : decode cX1_isToldBy 13 = .ok (.ifCond .eq 33, 3) := by decide +kernel
theorem dX1_isToldBy_16 : decode cX1_isToldBy 16 = .ok (.aload_n 0, 1) := by decide +kernel
theorem dX1_isToldBy_17 : decode cX1_isToldBy 17 = .ok (.getfield 22, 3) := by decide +kernel
theorem dX1_isToldBy_20 : decode cX1_isToldBy 20 = .ok (.iload_n 3, 1) := by decide +kernel
theorem dX1_isToldBy_21 : decode cX1_isToldBy 21 = .ok (.iaload, 1) := by decide +kernel
theorem dX1_isToldBy_22 : decode cX1_isToldBy 22 = .ok (.iload_n 2, 1) := by decide +kernel
theorem dX1_isToldBy_23 : decode cX1_isToldBy 23 = .ok (.if_icmp .ne 23, 3) := by decide +kernel
theorem dX1_isToldBy_26 : decode cX1_isToldBy 26 = .ok (.aload_n 1, 1) := by decide +kernel
theorem dX1_isToldBy_27 : decode cX1_isToldBy 27 = .ok (.iload_n 3, 1) := by decide +kernel
theorem dX1_isToldBy_28 : decode cX1_isToldBy 28 = .ok (.aload_n 0, 1) := by decide +kernel
theorem dX1_isToldBy_29 : decode cX1_isToldBy 29 = .ok (.getfield 12, 3) := by decide +kernel
theorem dX1_isToldBy_32 : decode cX1_isToldBy 32 = .ok (.iload_n 2, 1) := by decide +kernel
theorem dX1_isToldBy_33 : decode cX1_isToldBy 33 = .ok (.invokevirtual 82, 3) := by decide +kernel
theorem dX1_isToldBy_36 : decode cX1_isToldBy 36 = .ok (.invokevirtual 85, 3) := by decide +kernel
theorem dX1_isToldBy_39 : decode cX1_isToldBy 39 = .ok (.ifCond .ne 7, 3) := by decide +kernel
theorem dX1_isToldBy_42 : decode cX1_isToldBy 42 = .ok (.iconst 1, 1) := by decide +kernel
theorem dX1_isToldBy_43 : decode cX1_isToldBy 43 = .ok (.goto 4, 3) := by decide +kernel
theorem dX1_isToldBy_46 : decode cX1_isToldBy 46 = .ok (.iconst 0, 1) := by decide +kernel
theorem dX1_isToldBy_47 : decode cX1_isToldBy 47 = .ok (.ireturn, 1) := by decide +kernel
theorem dX1_insert_0 : decode cX1_insert 0 = .ok (.aload_n 0, 1) := by decide +kernel
theorem dX1_insert_1 : decode cX1_insert 1 = .ok (.getfield 39, 3) := by decide +kernel
theorem dX1_insert_4 : decode cX1_insert 4 = .ok (.ifCond .lt 12, 3) := by decide +kernel
theorem dX1_insert_7 : decode cX1_insert 7 = .ok (.aload_n 0, 1) := by decide +kernel
theorem dX1_insert_8 : decode cX1_insert 8 = .ok (.getfield 39, 3) := by decide +kernel
theorem dX1_insert_11 : decode cX1_insert 11 = .ok (.bipush 60, 2) := by decide +kernel
theorem dX1_insert_13 : decode cX1_insert 13 = .ok (.if_icmp .lt 4, 3) := by decide +kernel
theorem dX1_insert_16 : decode cX1_insert 16 = .ok (.return_, 1) := by decide +kernel
theorem dX1_insert_17 : decode cX1_insert 17 = .ok (.aload_n 0, 1) := by decide +kernel
theorem dX1_insert_18 : decode cX1_insert 18 = .ok (.getfield 39, 3) := by decide +kernel
theorem dX1_insert_21 : decode cX1_insert 21 = .ok (.istore_n 2, 1) := by decide +kernel
theorem dX1_insert_22 : decode cX1_insert 22 = .ok (.iload_n 2, 1) := by decide +kernel
theorem dX1_insert_23 : decode cX1_insert 23 = .ok (.ifCond .le 49, 3) := by decide +kernel
theorem dX1_insert_26 : decode cX1_insert 26 = .ok (.aload_n 0, 1) := by decide +kernel
theorem dX1_insert_27 : decode cX1_insert 27 = .ok (.getfield 12, 3) := by decide +kernel
theorem dX1_insert_30 : decode cX1_insert 30 = .ok (.aload_n 0, 1) := by decide +kernel
theorem dX1_insert_31 : decode cX1_insert 31 = .ok (.getfield 18, 3) := by decide +kernel
theorem dX1_insert_34 : decode cX1_insert 34 = .ok (.iload_n 2, 1) := by decide +kernel
theorem dX1_insert_35 : decode cX1_insert 35 = .ok (.iconst 1, 1) := by decide +kernel
theorem dX1_insert_36 : decode cX1_insert 36 = .ok (.isub, 1) := by decide +kernel
theorem dX1_insert_37 : decode cX1_insert 37 = .ok (.iaload, 1) := by decide +kernel
theorem dX1_insert_38 : decode cX1_insert 38 = .ok (.invokevirtual 75, 3) := by decide +kernel
theorem dX1_insert_41 : decode cX1_insert 41 = .ok (.aload_n 0, 1) := by decide +kernel
theorem dX1_insert_42 : decode cX1_insert 42 = .ok (.getfield 12, 3) := by decide +kernel
theorem dX1_insert_45 : decode cX1_insert 45 = .ok (.iload_n 1, 1) := by decide +kernel
theorem dX1_insert_46 : decode cX1_insert 46 = .ok (.invokevirtual 75, 3) := by decide +kernel
theorem dX1_insert_49 : decode cX1_insert 49 = .ok (.if_icmp .le 23, 3) := by decide +kernel
theorem dX1_insert_52 : decode cX1_insert 52 = .ok (.aload_n 0, 1) := by decide +kernel
theorem dX1_insert_53 : decode cX1_insert 53 = .ok (.getfield 18, 3) := by decide +kernel
theorem dX1_insert_56 : decode cX1_insert 56 = .ok (.iload_n 2, 1) := by decide +kernel
theorem dX1_insert_57 : decode cX1_insert 57 = .ok (.aload_n 0, 1) := by decide +kernel
theorem dX1_insert_58 : decode cX1_insert 58 = .ok (.getfield 18, 3) := by decide +kernel
theorem dX1_insert_61 : decode cX1_insert 61 = .ok (.iload_n 2, 1) := by decide +kernel
theorem dX1_insert_62 : decode cX1_insert 62 = .ok (.iconst 1, 1) := by decide +kernel
theorem dX1_insert_63 : decode cX1_insert 63 = .ok (.isub, 1) := by decide +kernel
theorem dX1_insert_64 : decode cX1_insert 64 = .ok (.iaload, 1) := by decide +kernel
theorem dX1_insert_65 : decode cX1_insert 65 = .ok (.iastore, 1) := by decide +kernel
theorem dX1_insert_66 : decode cX1_insert 66 = .ok (.iinc 2 (-1), 3) := by decide +kernel
theorem dX1_insert_69 : decode cX1_insert 69 = .ok (.goto (-47), 3) := by decide +kernel
theorem dX1_insert_72 : decode cX1_insert 72 = .ok (.aload_n 0, 1) := by decide +kernel
theorem dX1_insert_73 : decode cX1_insert 73 = .ok (.getfield 18, 3) := by decide +kernel
theorem dX1_insert_76 : decode cX1_insert 76 = .ok (.iload_n 2, 1) := by decide +kernel
theorem dX1_insert_77 : decode cX1_insert 77 = .ok (.iload_n 1, 1) := by decide +kernel
theorem dX1_insert_78 : decode cX1_insert 78 = .ok (.iastore, 1) := by decide +kernel
theorem dX1_insert_79 : decode cX1_insert 79 = .ok (.aload_n 0, 1) := by decide +kernel
theorem dX1_insert_80 : decode cX1_insert 80 = .ok (.dup, 1) := by decide +kernel
theorem dX1_insert_81 : decode cX1_insert 81 = .ok (.getfield 39, 3) := by decide +kernel
theorem dX1_insert_84 : decode cX1_insert 84 = .ok (.iconst 1, 1) := by decide +kernel
theorem dX1_insert_85 : decode cX1_insert 85 = .ok (.iadd, 1) := by decide +kernel
theorem dX1_insert_86 : decode cX1_insert 86 = .ok (.putfield 39, 3) := by decide +kernel
theorem dX1_insert_89 : decode cX1_insert 89 = .ok (.return_, 1) := by decide +kernel
theorem dX2_init_0 : decode cX2_init 0 = .ok (.aload_n 0, 1) := by decide +kernel
theorem dX2_init_1 : decode cX2_init 1 = .ok (.invokespecial 3, 3) := by decide +kernel
theorem dX2_init_4 : decode cX2_init 4 = .ok (.aload_n 0, 1) := by decide +kernel
theorem dX2_init_5 : decode cX2_init 5 = .ok (.bipush 60, 2) := by decide +kernel
theorem dX2_init_7 : decode cX2_init 7 = .ok (.newarray .int, 2) := by decide +kernel
theorem dX2_init_9 : decode cX2_init 9 = .ok (.putfield 9, 3) := by decide +kernel
theorem dX2_init_12 : decode cX2_init 12 = .ok (.aload_n 0, 1) := by decide +kernel
theorem dX2_init_13 : decode cX2_init 13 = .ok (.bipush 60, 2) := by decide +kernel
theorem dX2_init_15 : decode cX2_init 15 = .ok (.newarray .int, 2) := by decide +kernel
theorem dX2_init_17 : decode cX2_init 17 = .ok (.putfield 15, 3) := by decide +kernel
theorem dX2_init_20 : decode cX2_init 20 = .ok (.aload_n 0, 1) := by decide +kernel
theorem dX2_init_21 : decode cX2_init 21 = .ok (.bipush 60, 2) := by decide +kernel
theorem dX2_init_23 : decode cX2_init 23 = .ok (.newarray .int, 2) := by decide +kernel
theorem dX2_init_25 : decode cX2_init 25 = .ok (.putfield 18, 3) := by decide +kernel
theorem dX2_init_28 : decode cX2_init 28 = .ok (.aload_n 0, 1) := by decide +kernel
theorem dX2_init_29 : decode cX2_init 29 = .ok (.bipush 60, 2) := by decide +kernel
theorem dX2_init_31 : decode cX2_init 31 = .ok (.newarray .int, 2) := by decide +kernel
theorem dX2_init_33 : decode cX2_init 33 = .ok (.putfield 21, 3) := by decide +kernel
theorem dX2_init_36 : decode cX2_init 36 = .ok (.aload_n 0, 1) := by decide +kernel
theorem dX2_init_37 : decode cX2_init 37 = .ok (.new 24, 3) := by decide +kernel
theorem dX2_init_40 : decode cX2_init 40 = .ok (.dup, 1) := by decide +kernel
theorem dX2_init_41 : decode cX2_init 41 = .ok (.invokespecial 26, 3) := by decide +kernel
theorem dX2_init_44 : decode cX2_init 44 = .ok (.putfield 27, 3) := by decide +kernel
theorem dX2_init_47 : decode cX2_init 47 = .ok (.aload_n 0, 1) := by decide +kernel
theorem dX2_init_48 : decode cX2_init 48 = .ok (.iconst (-1), 1) := by decide +kernel
theorem dX2_init_49 : decode cX2_init 49 = .ok (.putfield 31, 3) := by decide +kernel
theorem dX2_init_52 : decode cX2_init 52 = .ok (.return_, 1) := by decide +kernel
theorem dX2_scan_0 : decode cX2_scan 0 = .ok (.aload_n 0, 1) := by decide +kernel
theorem dX2_scan_1 : decode cX2_scan 1 = .ok (.aload_n 1, 1) := by decide +kernel
theorem dX2_scan_2 : decode cX2_scan 2 = .ok (.putfield 27, 3) := by decide +kernel
theorem dX2_scan_5 : decode cX2_scan 5 = .ok (.aload_n 0, 1) := by decide +kernel
theorem dX2_scan_6 : decode cX2_scan 6 = .ok (.iload_n 2, 1) := by decide +kernel
theorem dX2_scan_7 : decode cX2_scan 7 = .ok (.putfield 35, 3) := by decide +kernel
theorem dX2_scan_10 : decode cX2_scan 10 = .ok (.aload_n 0, 1) := by decide +kernel
theorem dX2_scan_11 : decode cX2_scan 11 = .ok (.iload_n 3, 1) := by decide +kernel
theorem dX2_scan_12 : decode cX2_scan 12 = .ok (.putfield 38, 3) := by decide +kernel
theorem dX2_scan_15 : decode cX2_scan 15 = .ok (.aload_n 0, 1) := by decide +kernel
theorem dX2_scan_16 : decode cX2_scan 16 = .ok (.iconst 0, 1) := by decide +kernel
theorem dX2_scan_17 : decode cX2_scan 17 = .ok (.putfield 41, 3) := by decide +kernel
theorem dX2_scan_20 : decode cX2_scan 20 = .ok (.aload_n 0, 1) := by decide +kernel
theorem dX2_scan_21 : decode cX2_scan 21 = .ok (.iconst 0, 1) := by decide +kernel
theorem dX2_scan_22 : decode cX2_scan 22 = .ok (.putfield 44, 3) := by decide +kernel
theorem dX2_scan_25 : decode cX2_scan 25 = .ok (.aload_n 0, 1) := by decide +kernel
theorem dX2_scan_26 : decode cX2_scan 26 = .ok (.iconst (-1), 1) := by decide +kernel
theorem dX2_scan_27 : decode cX2_scan 27 = .ok (.putfield 31, 3) := by decide +kernel
theorem dX2_scan_30 : decode cX2_scan 30 = .ok (.iconst 0, 1) := by decide +kernel
theorem dX2_scan_31 : decode cX2_scan 31 = .ok (.istore 4, 2) := by decide +kernel
theorem dX2_scan_33 : decode cX2_scan 33 = .ok (.iload 4, 2) := by decide +kernel
theorem dX2_scan_35 : decode cX2_scan 35 = .ok (.bipush 60, 2) := by decide +kernel
theorem dX2_scan_37 : decode cX2_scan 37 = .ok (.if_icmp .ge 54, 3) := by decide +kernel
theorem dX2_scan_40 : decode cX2_scan 40 = .ok (.aload_n 0, 1) := by decide +kernel
theorem dX2_scan_41 : decode cX2_scan 41 = .ok (.getfield 35, 3) := by decide +kernel
theorem dX2_scan_44 : decode cX2_scan 44 = .ok (.aload_n 0, 1) := by decide +kernel
theorem dX2_scan_45 : decode cX2_scan 45 = .ok (.getfield 38, 3) := by decide +kernel
theorem dX2_scan_48 : decode cX2_scan 48 = .ok (.if_icmp .ge 43, 3) := by decide +kernel
theorem dX2_scan_51 : decode cX2_scan 51 = .ok (.aload_n 0, 1) := by decide +kernel
theorem dX2_scan_52 : decode cX2_scan 52 = .ok (.getfield 44, 3) := by decide +kernel
theorem dX2_scan_55 : decode cX2_scan 55 = .ok (.ifCond .ne 36, 3) := by decide +kernel
theorem dX2_scan_58 : decode cX2_scan 58 = .ok (.aload_n 0, 1) := by decide +kernel
theorem dX2_scan_59 : decode cX2_scan 59 = .ok (.getfield 35, 3) := by decide +kernel
theorem dX2_scan_62 : decode cX2_scan 62 = .ok (.istore 5, 2) := by decide +kernel
theorem dX2_scan_64 : decode cX2_scan 64 = .ok (.aload_n 0, 1) := by decide +kernel
theorem dX2_scan_65 : decode cX2_scan 65 = .ok (.invokevirtual 47, 3) := by decide +kernel
theorem dX2_scan_68 : decode cX2_scan 68 = .ok (.aload_n 0, 1) := by decide +kernel
theorem dX2_scan_69 : decode cX2_scan 69 = .ok (.aload_n 0, 1) := by decide +kernel
theorem dX2_scan_70 : decode cX2_scan 70 = .ok (.getfield 44, 3) := by decide +kernel
theorem dX2_scan_73 : decode cX2_scan 73 = .ok (.ifCond .ne 7, 3) := by decide +kernel
theorem dX2_scan_76 : decode cX2_scan 76 = .ok (.iconst (-1), 1) := by decide +kernel
theorem dX2_scan_77 : decode cX2_scan 77 = .ok (.goto 5, 3) := by decide +kernel
theorem dX2_scan_80 : decode cX2_scan 80 = .ok (.iload 5, 2) := by decide +kernel
theorem dX2_scan_82 : decode cX2_scan 82 = .ok (.putfield 31, 3) := by decide +kernel
theorem dX2_scan_85 : decode cX2_scan 85 = .ok (.iinc 4 1, 3) := by decide +kernel
theorem dX2_scan_88 : decode cX2_scan 88 = .ok (.goto (-55), 3) := by decide +kernel
theorem dX2_scan_91 : decode cX2_scan 91 = .ok (.return_, 1) := by decide +kernel
theorem dX2_count_0 : decode cX2_count 0 = .ok (.aload_n 0, 1) := by decide +kernel
theorem dX2_count_1 : decode cX2_count 1 = .ok (.getfield 41, 3) := by decide +kernel
theorem dX2_count_4 : decode cX2_count 4 = .ok (.ireturn, 1) := by decide +kernel
theorem dX2_problem_0 : decode cX2_problem 0 = .ok (.aload_n 0, 1) := by decide +kernel
theorem dX2_problem_1 : decode cX2_problem 1 = .ok (.getfield 44, 3) := by decide +kernel
theorem dX2_problem_4 : decode cX2_problem 4 = .ok (.ireturn, 1) := by decide +kernel
theorem dX2_problemAt_0 : decode cX2_problemAt 0 = .ok (.aload_n 0, 1) := by decide +kernel
theorem dX2_problemAt_1 : decode cX2_problemAt 1 = .ok (.getfield 31, 3) := by decide +kernel
theorem dX2_problemAt_4 : decode cX2_problemAt 4 = .ok (.ireturn, 1) := by decide +kernel
theorem dX2_tagAt_0 : decode cX2_tagAt 0 = .ok (.aload_n 0, 1) := by decide +kernel
theorem dX2_tagAt_1 : decode cX2_tagAt 1 = .ok (.iload_n 1, 1) := by decide +kernel
theorem dX2_tagAt_2 : decode cX2_tagAt 2 = .ok (.invokevirtual 50, 3) := by decide +kernel
theorem dX2_tagAt_5 : decode cX2_tagAt 5 = .ok (.ifCond .eq 12, 3) := by decide +kernel
theorem dX2_tagAt_8 : decode cX2_tagAt 8 = .ok (.aload_n 0, 1) := by decide +kernel
theorem dX2_tagAt_9 : decode cX2_tagAt 9 = .ok (.getfield 9, 3) := by decide +kernel
theorem dX2_tagAt_12 : decode cX2_tagAt 12 = .ok (.iload_n 1, 1) := by decide +kernel
theorem dX2_tagAt_13 : decode cX2_tagAt 13 = .ok (.iaload, 1) := by decide +kernel
theorem dX2_tagAt_14 : decode cX2_tagAt 14 = .ok (.goto 4, 3) := by decide +kernel
theorem dX2_tagAt_17 : decode cX2_tagAt 17 = .ok (.iconst 0, 1) := by decide +kernel
theorem dX2_tagAt_18 : decode cX2_tagAt 18 = .ok (.ireturn, 1) := by decide +kernel
theorem dX2_typeAt_0 : decode cX2_typeAt 0 = .ok (.aload_n 0, 1) := by decide +kernel
theorem dX2_typeAt_1 : decode cX2_typeAt 1 = .ok (.iload_n 1, 1) := by decide +kernel
theorem dX2_typeAt_2 : decode cX2_typeAt 2 = .ok (.invokevirtual 50, 3) := by decide +kernel
theorem dX2_typeAt_5 : decode cX2_typeAt 5 = .ok (.ifCond .eq 12, 3) := by decide +kernel
theorem dX2_typeAt_8 : decode cX2_typeAt 8 = .ok (.aload_n 0, 1) := by decide +kernel
theorem dX2_typeAt_9 : decode cX2_typeAt 9 = .ok (.getfield 15, 3) := by decide +kernel
theorem dX2_typeAt_12 : decode cX2_typeAt 12 = .ok (.iload_n 1, 1) := by decide +kernel
theorem dX2_typeAt_13 : decode cX2_typeAt 13 = .ok (.iaload, 1) := by decide +kernel
theorem dX2_typeAt_14 : decode cX2_typeAt 14 = .ok (.goto 4, 3) := by decide +kernel
theorem dX2_typeAt_17 : decode cX2_typeAt 17 = .ok (.iconst (-1), 1) := by decide +kernel
theorem dX2_typeAt_18 : decode cX2_typeAt 18 = .ok (.ireturn, 1) := by decide +kernel
theorem dX2_numberAt_0 : decode cX2_numberAt 0 = .ok (.aload_n 0, 1) := by decide +kernel
theorem dX2_numberAt_1 : decode cX2_numberAt 1 = .ok (.iload_n 1, 1) := by decide +kernel
theorem dX2_numberAt_2 : decode cX2_numberAt 2 = .ok (.invokevirtual 50, 3) := by decide +kernel
theorem dX2_numberAt_5 : decode cX2_numberAt 5 = .ok (.ifCond .eq 12, 3) := by decide +kernel
theorem dX2_numberAt_8 : decode cX2_numberAt 8 = .ok (.aload_n 0, 1) := by decide +kernel
theorem dX2_numberAt_9 : decode cX2_numberAt 9 = .ok (.getfield 18, 3) := by decide +kernel
theorem dX2_numberAt_12 : decode cX2_numberAt 12 = .ok (.iload_n 1, 1) := by decide +kernel
theorem dX2_numberAt_13 : decode cX2_numberAt 13 = .ok (.iaload, 1) := by decide +kernel
theorem dX2_numberAt_14 : decode cX2_numberAt 14 = .ok (.goto 4, 3) := by decide +kernel
theorem dX2_numberAt_17 : decode cX2_numberAt 17 = .ok (.iconst 0, 1) := by decide +kernel
theorem dX2_numberAt_18 : decode cX2_numberAt 18 = .ok (.ireturn, 1) := by decide +kernel
theorem dX2_endAt_0 : decode cX2_endAt 0 = .ok (.aload_n 0, 1) := by decide +kernel
theorem dX2_endAt_1 : decode cX2_endAt 1 = .ok (.iload_n 1, 1) := by decide +kernel
theorem dX2_endAt_2 : decode cX2_endAt 2 = .ok (.invokevirtual 50, 3) := by decide +kernel
theorem dX2_endAt_5 : decode cX2_endAt 5 = .ok (.ifCond .eq 12, 3) := by decide +kernel
theorem dX2_endAt_8 : decode cX2_endAt 8 = .ok (.aload_n 0, 1) := by decide +kernel
theorem dX2_endAt_9 : decode cX2_endAt 9 = .ok (.getfield 21, 3) := by decide +kernel
theorem dX2_endAt_12 : decode cX2_endAt 12 = .ok (.iload_n 1, 1) := by decide +kernel
theorem dX2_endAt_13 : decode cX2_endAt 13 = .ok (.iaload, 1) := by decide +kernel
theorem dX2_endAt_14 : decode cX2_endAt 14 = .ok (.goto 4, 3) := by decide +kernel
theorem dX2_endAt_17 : decode cX2_endAt 17 = .ok (.iconst 0, 1) := by decide +kernel
theorem dX2_endAt_18 : decode cX2_endAt 18 = .ok (.ireturn, 1) := by decide +kernel
theorem dX2_bytesAt_0 : decode cX2_bytesAt 0 = .ok (.aload_n 0, 1) := by decide +kernel
theorem dX2_bytesAt_1 : decode cX2_bytesAt 1 = .ok (.iload_n 1, 1) := by decide +kernel
theorem dX2_bytesAt_2 : decode cX2_bytesAt 2 = .ok (.invokevirtual 54, 3) := by decide +kernel
theorem dX2_bytesAt_5 : decode cX2_bytesAt 5 = .ok (.iconst 2, 1) := by decide +kernel
theorem dX2_bytesAt_6 : decode cX2_bytesAt 6 = .ok (.if_icmp .ne 11, 3) := by decide +kernel
theorem dX2_bytesAt_9 : decode cX2_bytesAt 9 = .ok (.aload_n 0, 1) := by decide +kernel
theorem dX2_bytesAt_10 : decode cX2_bytesAt 10 = .ok (.iload_n 1, 1) := by decide +kernel
theorem dX2_bytesAt_11 : decode cX2_bytesAt 11 = .ok (.invokevirtual 58, 3) := by decide +kernel
theorem dX2_bytesAt_14 : decode cX2_bytesAt 14 = .ok (.goto 4, 3) := by decide +kernel
theorem dX2_bytesAt_17 : decode cX2_bytesAt 17 = .ok (.iconst 0, 1) := by decide +kernel
theorem dX2_bytesAt_18 : decode cX2_bytesAt 18 = .ok (.ireturn, 1) := by decide +kernel
theorem dX2_bytesBeginAt_0 : decode cX2_bytesBeginAt 0 = .ok (.aload_n 0, 1) := by decide +kernel
theorem dX2_bytesBeginAt_1 : decode cX2_bytesBeginAt 1 = .ok (.iload_n 1, 1) := by decide +kernel
theorem dX2_bytesBeginAt_2 : decode cX2_bytesBeginAt 2 = .ok (.invokevirtual 61, 3) := by decide +kernel
theorem dX2_bytesBeginAt_5 : decode cX2_bytesBeginAt 5 = .ok (.aload_n 0, 1) := by decide +kernel
theorem dX2_bytesBeginAt_6 : decode cX2_bytesBeginAt 6 = .ok (.iload_n 1, 1) := by decide +kernel
theorem dX2_bytesBeginAt_7 : decode cX2_bytesBeginAt 7 = .ok (.invokevirtual 64, 3) := by decide +kernel
theorem dX2_bytesBeginAt_10 : decode cX2_bytesBeginAt 10 = .ok (.isub, 1) := by decide +kernel
theorem dX2_bytesBeginAt_11 : decode cX2_bytesBeginAt 11 = .ok (.ireturn, 1) := by decide +kernel
theorem dX2_isKnown_0 : decode cX2_isKnown 0 = .ok (.aload_n 0, 1) := by decide +kernel
theorem dX2_isKnown_1 : decode cX2_isKnown 1 = .ok (.iload_n 2, 1) := by decide +kernel
theorem dX2_isKnown_2 : decode cX2_isKnown 2 = .ok (.invokevirtual 50, 3) := by decide +kernel
theorem dX2_isKnown_5 : decode cX2_isKnown 5 = .ok (.ifCond .eq 26, 3) := by decide +kernel
theorem dX2_isKnown_8 : decode cX2_isKnown 8 = .ok (.aload_n 1, 1) := by decide +kernel
theorem dX2_isKnown_9 : decode cX2_isKnown 9 = .ok (.aload_n 0, 1) := by decide +kernel
theorem dX2_isKnown_10 : decode cX2_isKnown 10 = .ok (.getfield 9, 3) := by decide +kernel
theorem dX2_isKnown_13 : decode cX2_isKnown 13 = .ok (.iload_n 2, 1) := by decide +kernel
theorem dX2_isKnown_14 : decode cX2_isKnown 14 = .ok (.iaload, 1) := by decide +kernel
theorem dX2_isKnown_15 : decode cX2_isKnown 15 = .ok (.invokevirtual 67, 3) := by decide +kernel
theorem dX2_isKnown_18 : decode cX2_isKnown 18 = .ok (.aload_n 0, 1) := by decide +kernel
theorem dX2_isKnown_19 : decode cX2_isKnown 19 = .ok (.getfield 15, 3) := by decide +kernel
theorem dX2_isKnown_22 : decode cX2_isKnown 22 = .ok (.iload_n 2, 1) := by decide +kernel
theorem dX2_isKnown_23 : decode cX2_isKnown 23 = .ok (.iaload, 1) := by decide +kernel
theorem dX2_isKnown_24 : decode cX2_isKnown 24 = .ok (.if_icmp .ne 7, 3) := by decide +kernel
theorem dX2_isKnown_27 : decode cX2_isKnown 27 = .ok (.iconst 1, 1) := by decide +kernel
theorem dX2_isKnown_28 : decode cX2_isKnown 28 = .ok (.goto 4, 3) := by decide +kernel
theorem dX2_isKnown_31 : decode cX2_isKnown 31 = .ok (.iconst 0, 1) := by decide +kernel
theorem dX2_isKnown_32 : decode cX2_isKnown 32 = .ok (.ireturn, 1) := by decide +kernel
theorem dX2_lastKnown_0 : decode cX2_lastKnown 0 = .ok (.aload_n 0, 1) := by decide +kernel
theorem dX2_lastKnown_1 : decode cX2_lastKnown 1 = .ok (.getfield 41, 3) := by decide +kernel
theorem dX2_lastKnown_4 : decode cX2_lastKnown 4 = .ok (.iconst 1, 1) := by decide +kernel
theorem dX2_lastKnown_5 : decode cX2_lastKnown 5 = .ok (.isub, 1) := by decide +kernel
theorem dX2_lastKnown_6 : decode cX2_lastKnown 6 = .ok (.istore_n 3, 1) := by decide +kernel
theorem dX2_lastKnown_7 : decode cX2_lastKnown 7 = .ok (.iload_n 3, 1) := by decide +kernel
theorem dX2_lastKnown_8 : decode cX2_lastKnown 8 = .ok (.ifCond .lt 29, 3) := by decide +kernel
theorem dX2_lastKnown_11 : decode cX2_lastKnown 11 = .ok (.aload_n 0, 1) := by decide +kernel
theorem dX2_lastKnown_12 : decode cX2_lastKnown 12 = .ok (.iload_n 3, 1) := by decide +kernel
theorem dX2_lastKnown_13 : decode cX2_lastKnown 13 = .ok (.invokevirtual 70, 3) := by decide +kernel
theorem dX2_lastKnown_16 : decode cX2_lastKnown 16 = .ok (.iload_n 2, 1) := by decide +kernel
theorem dX2_lastKnown_17 : decode cX2_lastKnown 17 = .ok (.if_icmp .ne 14, 3) := by decide +kernel
theorem dX2_lastKnown_20 : decode cX2_lastKnown 20 = .ok (.aload_n 0, 1) := by decide +kernel
theorem dX2_lastKnown_21 : decode cX2_lastKnown 21 = .ok (.aload_n 1, 1) := by decide +kernel
theorem dX2_lastKnown_22 : decode cX2_lastKnown 22 = .ok (.iload_n 3, 1) := by decide +kernel
theorem dX2_lastKnown_23 : decode cX2_lastKnown 23 = .ok (.invokevirtual 73, 3) := by decide +kernel
theorem dX2_lastKnown_26 : decode cX2_lastKnown 26 = .ok (.ifCond .eq 5, 3) := by decide +kernel
theorem dX2_lastKnown_29 : decode cX2_lastKnown 29 = .ok (.iload_n 3, 1) := by decide +kernel
theorem dX2_lastKnown_30 : decode cX2_lastKnown 30 = .ok (.ireturn, 1) := by decide +kernel
theorem dX2_lastKnown_31 : decode cX2_lastKnown 31 = .ok (.iinc 3 (-1), 3) := by decide +kernel
theorem dX2_lastKnown_34 : decode cX2_lastKnown 34 = .ok (.goto (-27), 3) := by decide +kernel
theorem dX2_lastKnown_37 : decode cX2_lastKnown 37 = .ok (.iconst (-1), 1) := by decide +kernel
theorem dX2_lastKnown_38 : decode cX2_lastKnown 38 = .ok (.ireturn, 1) := by decide +kernel
theorem dX2_writeTo_0 : decode cX2_writeTo 0 = .ok (.aload_n 0, 1) := by decide +kernel
theorem dX2_writeTo_1 : decode cX2_writeTo 1 = .ok (.iload_n 2, 1) := by decide +kernel
theorem dX2_writeTo_2 : decode cX2_writeTo 2 = .ok (.invokevirtual 54, 3) := by decide +kernel
theorem dX2_writeTo_5 : decode cX2_writeTo 5 = .ok (.iconst 2, 1) := by decide +kernel
theorem dX2_writeTo_6 : decode cX2_writeTo 6 = .ok (.if_icmp .ne 38, 3) := by decide +kernel
theorem dX2_writeTo_9 : decode cX2_writeTo 9 = .ok (.aload_n 1, 1) := by decide +kernel
theorem dX2_writeTo_10 : decode cX2_writeTo 10 = .ok (.aload_n 0, 1) := by decide +kernel
theorem dX2_writeTo_11 : decode cX2_writeTo 11 = .ok (.iload_n 2, 1) := by decide +kernel
theorem dX2_writeTo_12 : decode cX2_writeTo 12 = .ok (.invokevirtual 70, 3) := by decide +kernel
theorem dX2_writeTo_15 : decode cX2_writeTo 15 = .ok (.aload_n 0, 1) := by decide +kernel
theorem dX2_writeTo_16 : decode cX2_writeTo 16 = .ok (.iload_n 2, 1) := by decide +kernel
theorem dX2_writeTo_17 : decode cX2_writeTo 17 = .ok (.invokevirtual 64, 3) := by decide +kernel
theorem dX2_writeTo_20 : decode cX2_writeTo 20 = .ok (.invokevirtual 77, 3) := by decide +kernel
theorem dX2_writeTo_23 : decode cX2_writeTo 23 = .ok (.aload_n 1, 1) := by decide +kernel
theorem dX2_writeTo_24 : decode cX2_writeTo 24 = .ok (.aload_n 0, 1) := by decide +kernel
theorem dX2_writeTo_25 : decode cX2_writeTo 25 = .ok (.getfield 27, 3) := by decide +kernel
theorem dX2_writeTo_28 : decode cX2_writeTo 28 = .ok (.aload_n 0, 1) := by decide +kernel
theorem dX2_writeTo_29 : decode cX2_writeTo 29 = .ok (.iload_n 2, 1) := by decide +kernel
theorem dX2_writeTo_30 : decode cX2_writeTo 30 = .ok (.invokevirtual 81, 3) := by decide +kernel
theorem dX2_writeTo_33 : decode cX2_writeTo 33 = .ok (.aload_n 0, 1) := by decide +kernel
theorem dX2_writeTo_34 : decode cX2_writeTo 34 = .ok (.iload_n 2, 1) := by decide +kernel
theorem dX2_writeTo_35 : decode cX2_writeTo 35 = .ok (.invokevirtual 61, 3) := by decide +kernel
theorem dX2_writeTo_38 : decode cX2_writeTo 38 = .ok (.invokevirtual 84, 3) := by decide +kernel
theorem dX2_writeTo_41 : decode cX2_writeTo 41 = .ok (.goto 22, 3) := by decide +kernel
theorem dX2_writeTo_44 : decode cX2_writeTo 44 = .ok (.aload_n 1, 1) := by decide +kernel
theorem dX2_writeTo_45 : decode cX2_writeTo 45 = .ok (.aload_n 0, 1) := by decide +kernel
theorem dX2_writeTo_46 : decode cX2_writeTo 46 = .ok (.iload_n 2, 1) := by decide +kernel
theorem dX2_writeTo_47 : decode cX2_writeTo 47 = .ok (.invokevirtual 70, 3) := by decide +kernel
theorem dX2_writeTo_50 : decode cX2_writeTo 50 = .ok (.aload_n 0, 1) := by decide +kernel
theorem dX2_writeTo_51 : decode cX2_writeTo 51 = .ok (.iload_n 2, 1) := by decide +kernel
theorem dX2_writeTo_52 : decode cX2_writeTo 52 = .ok (.invokevirtual 54, 3) := by decide +kernel
theorem dX2_writeTo_55 : decode cX2_writeTo 55 = .ok (.aload_n 0, 1) := by decide +kernel
theorem dX2_writeTo_56 : decode cX2_writeTo 56 = .ok (.iload_n 2, 1) := by decide +kernel
theorem dX2_writeTo_57 : decode cX2_writeTo 57 = .ok (.invokevirtual 58, 3) := by decide +kernel
theorem dX2_writeTo_60 : decode cX2_writeTo 60 = .ok (.invokevirtual 88, 3) := by decide +kernel
theorem dX2_writeTo_63 : decode cX2_writeTo 63 = .ok (.return_, 1) := by decide +kernel
theorem dX2_isSameAt_0 : decode cX2_isSameAt 0 = .ok (.aload_n 0, 1) := by decide +kernel
theorem dX2_isSameAt_1 : decode cX2_isSameAt 1 = .ok (.iload_n 1, 1) := by decide +kernel
theorem dX2_isSameAt_2 : decode cX2_isSameAt 2 = .ok (.invokevirtual 70, 3) := by decide +kernel
theorem dX2_isSameAt_5 : decode cX2_isSameAt 5 = .ok (.aload_n 2, 1) := by decide +kernel
theorem dX2_isSameAt_6 : decode cX2_isSameAt 6 = .ok (.iload_n 3, 1) := by decide +kernel
theorem dX2_isSameAt_7 : decode cX2_isSameAt 7 = .ok (.invokevirtual 70, 3) := by decide +kernel
theorem dX2_isSameAt_10 : decode cX2_isSameAt 10 = .ok (.if_icmp .ne 62, 3) := by decide +kernel
theorem dX2_isSameAt_13 : decode cX2_isSameAt 13 = .ok (.aload_n 0, 1) := by decide +kernel
theorem dX2_isSameAt_14 : decode cX2_isSameAt 14 = .ok (.iload_n 1, 1) := by decide +kernel
theorem dX2_isSameAt_15 : decode cX2_isSameAt 15 = .ok (.invokevirtual 54, 3) := by decide +kernel
theorem dX2_isSameAt_18 : decode cX2_isSameAt 18 = .ok (.aload_n 2, 1) := by decide +kernel
theorem dX2_isSameAt_19 : decode cX2_isSameAt 19 = .ok (.iload_n 3, 1) := by decide +kernel
theorem dX2_isSameAt_20 : decode cX2_isSameAt 20 = .ok (.invokevirtual 54, 3) := by decide +kernel
theorem dX2_isSameAt_23 : decode cX2_isSameAt 23 = .ok (.if_icmp .ne 49, 3) := by decide +kernel
theorem dX2_isSameAt_26 : decode cX2_isSameAt 26 = .ok (.aload_n 0, 1) := by decide +kernel
theorem dX2_isSameAt_27 : decode cX2_isSameAt 27 = .ok (.iload_n 1, 1) := by decide +kernel
theorem dX2_isSameAt_28 : decode cX2_isSameAt 28 = .ok (.invokevirtual 58, 3) := by decide +kernel
theorem dX2_isSameAt_31 : decode cX2_isSameAt 31 = .ok (.aload_n 2, 1) := by decide +kernel
theorem dX2_isSameAt_32 : decode cX2_isSameAt 32 = .ok (.iload_n 3, 1) := by decide +kernel
theorem dX2_isSameAt_33 : decode cX2_isSameAt 33 = .ok (.invokevirtual 58, 3) := by decide +kernel
theorem dX2_isSameAt_36 : decode cX2_isSameAt 36 = .ok (.if_icmp .ne 36, 3) := by decide +kernel
theorem dX2_isSameAt_39 : decode cX2_isSameAt 39 = .ok (.aload_n 0, 1) := by decide +kernel
theorem dX2_isSameAt_40 : decode cX2_isSameAt 40 = .ok (.getfield 27, 3) := by decide +kernel
theorem dX2_isSameAt_43 : decode cX2_isSameAt 43 = .ok (.aload_n 0, 1) := by decide +kernel
theorem dX2_isSameAt_44 : decode cX2_isSameAt 44 = .ok (.iload_n 1, 1) := by decide +kernel
theorem dX2_isSameAt_45 : decode cX2_isSameAt 45 = .ok (.invokevirtual 81, 3) := by decide +kernel
theorem dX2_isSameAt_48 : decode cX2_isSameAt 48 = .ok (.aload_n 2, 1) := by decide +kernel
theorem dX2_isSameAt_49 : decode cX2_isSameAt 49 = .ok (.getfield 27, 3) := by decide +kernel
theorem dX2_isSameAt_52 : decode cX2_isSameAt 52 = .ok (.aload_n 2, 1) := by decide +kernel
theorem dX2_isSameAt_53 : decode cX2_isSameAt 53 = .ok (.iload_n 3, 1) := by decide +kernel
theorem dX2_isSameAt_54 : decode cX2_isSameAt 54 = .ok (.invokevirtual 81, 3) := by decide +kernel
theorem dX2_isSameAt_57 : decode cX2_isSameAt 57 = .ok (.aload_n 0, 1) := by decide +kernel
theorem dX2_isSameAt_58 : decode cX2_isSameAt 58 = .ok (.iload_n 1, 1) := by decide +kernel
theorem dX2_isSameAt_59 : decode cX2_isSameAt 59 = .ok (.invokevirtual 64, 3) := by decide +kernel
theorem dX2_isSameAt_62 : decode cX2_isSameAt 62 = .ok (.invokevirtual 92, 3) := by decide +kernel
theorem dX2_isSameAt_65 : decode cX2_isSameAt 65 = .ok (.ifCond .eq 7, 3) := by decide +kernel
theorem dX2_isSameAt_68 : decode cX2_isSameAt 68 = .ok (.iconst 1, 1) := by decide +kernel
theorem dX2_isSameAt_69 : decode cX2_isSameAt 69 = .ok (.goto 4, 3) := by decide +kernel
theorem dX2_isSameAt_72 : decode cX2_isSameAt 72 = .ok (.iconst 0, 1) := by decide +kernel
theorem dX2_isSameAt_73 : decode cX2_isSameAt 73 = .ok (.ireturn, 1) := by decide +kernel
theorem dX2_isPlace_0 : decode cX2_isPlace 0 = .ok (.iload_n 1, 1) := by decide +kernel
theorem dX2_isPlace_1 : decode cX2_isPlace 1 = .ok (.ifCond .lt 21, 3) := by decide +kernel
theorem dX2_isPlace_4 : decode cX2_isPlace 4 = .ok (.iload_n 1, 1) := by decide +kernel
theorem dX2_isPlace_5 : decode cX2_isPlace 5 = .ok (.aload_n 0, 1) := by decide +kernel
theorem dX2_isPlace_6 : decode cX2_isPlace 6 = .ok (.getfield 41, 3) := by decide +kernel
theorem dX2_isPlace_9 : decode cX2_isPlace 9 = .ok (.if_icmp .ge 13, 3) := by decide +kernel
theorem dX2_isPlace_12 : decode cX2_isPlace 12 = .ok (.iload_n 1, 1) := by decide +kernel
theorem dX2_isPlace_13 : decode cX2_isPlace 13 = .ok (.bipush 60, 2) := by decide +kernel
theorem dX2_isPlace_15 : decode cX2_isPlace 15 = .ok (.if_icmp .ge 7, 3) := by decide +kernel
theorem dX2_isPlace_18 : decode cX2_isPlace 18 = .ok (.iconst 1, 1) := by decide +kernel
theorem dX2_isPlace_19 : decode cX2_isPlace 19 = .ok (.goto 4, 3) := by decide +kernel
theorem dX2_isPlace_22 : decode cX2_isPlace 22 = .ok (.iconst 0, 1) := by decide +kernel
theorem dX2_isPlace_23 : decode cX2_isPlace 23 = .ok (.ireturn, 1) := by decide +kernel
theorem dX2_scanField_0 : decode cX2_scanField 0 = .ok (.aload_n 0, 1) := by decide +kernel
theorem dX2_scanField_1 : decode cX2_scanField 1 = .ok (.invokevirtual 96, 3) := by decide +kernel
theorem dX2_scanField_4 : decode cX2_scanField 4 = .ok (.istore_n 1, 1) := by decide +kernel
theorem dX2_scanField_5 : decode cX2_scanField 5 = .ok (.iload_n 1, 1) := by decide +kernel
theorem dX2_scanField_6 : decode cX2_scanField 6 = .ok (.iconst 3, 1) := by decide +kernel
theorem dX2_scanField_7 : decode cX2_scanField 7 = .ok (.iushr, 1) := by decide +kernel
theorem dX2_scanField_8 : decode cX2_scanField 8 = .ok (.istore_n 2, 1) := by decide +kernel
theorem dX2_scanField_9 : decode cX2_scanField 9 = .ok (.iload_n 1, 1) := by decide +kernel
theorem dX2_scanField_10 : decode cX2_scanField 10 = .ok (.bipush 7, 2) := by decide +kernel
theorem dX2_scanField_12 : decode cX2_scanField 12 = .ok (.iand, 1) := by decide +kernel
theorem dX2_scanField_13 : decode cX2_scanField 13 = .ok (.istore_n 3, 1) := by decide +kernel
theorem dX2_scanField_14 : decode cX2_scanField 14 = .ok (.aload_n 0, 1) := by decide +kernel
theorem dX2_scanField_15 : decode cX2_scanField 15 = .ok (.getfield 44, 3) := by decide +kernel
theorem dX2_scanField_18 : decode cX2_scanField 18 = .ok (.ifCond .ne 12, 3) := by decide +kernel
theorem dX2_scanField_21 : decode cX2_scanField 21 = .ok (.aload_n 0, 1) := by decide +kernel
theorem dX2_scanField_22 : decode cX2_scanField 22 = .ok (.iload_n 2, 1) := by decide +kernel
theorem dX2_scanField_23 : decode cX2_scanField 23 = .ok (.iload_n 3, 1) := by decide +kernel
theorem dX2_scanField_24 : decode cX2_scanField 24 = .ok (.invokestatic 100, 3) := by decide +kernel
theorem dX2_scanField_27 : decode cX2_scanField 27 = .ok (.putfield 44, 3) := by decide +kernel
theorem dX2_scanField_30 : decode cX2_scanField 30 = .ok (.aload_n 0, 1) := by decide +kernel
theorem dX2_scanField_31 : decode cX2_scanField 31 = .ok (.getfield 44, 3) := by decide +kernel
theorem dX2_scanField_34 : decode cX2_scanField 34 = .ok (.ifCond .eq 4, 3) := by decide +kernel
theorem dX2_scanField_37 : decode cX2_scanField 37 = .ok (.return_, 1) := by decide +kernel
theorem dX2_scanField_38 : decode cX2_scanField 38 = .ok (.iload_n 3, 1) := by decide +kernel
theorem dX2_scanField_39 : decode cX2_scanField 39 = .ok (.iconst 5, 1) := by decide +kernel
theorem dX2_scanField_40 : decode cX2_scanField 40 = .ok (.if_icmp .ne 10, 3) := by decide +kernel
theorem dX2_scanField_43 : decode cX2_scanField 43 = .ok (.aload_n 0, 1) := by decide +kernel
theorem dX2_scanField_44 : decode cX2_scanField 44 = .ok (.invokevirtual 104, 3) := by decide +kernel
theorem dX2_scanField_47 : decode cX2_scanField 47 = .ok (.goto 7, 3) := by decide +kernel
theorem dX2_scanField_50 : decode cX2_scanField 50 = .ok (.aload_n 0, 1) := by decide +kernel
theorem dX2_scanField_51 : decode cX2_scanField 51 = .ok (.invokevirtual 96, 3) := by decide +kernel
theorem dX2_scanField_54 : decode cX2_scanField 54 = .ok (.istore 4, 2) := by decide +kernel
theorem dX2_scanField_56 : decode cX2_scanField 56 = .ok (.aload_n 0, 1) := by decide +kernel
theorem dX2_scanField_57 : decode cX2_scanField 57 = .ok (.getfield 44, 3) := by decide +kernel
theorem dX2_scanField_60 : decode cX2_scanField 60 = .ok (.ifCond .ne 14, 3) := by decide +kernel
theorem dX2_scanField_63 : decode cX2_scanField 63 = .ok (.iload_n 3, 1) := by decide +kernel
theorem dX2_scanField_64 : decode cX2_scanField 64 = .ok (.iconst 2, 1) := by decide +kernel
theorem dX2_scanField_65 : decode cX2_scanField 65 = .ok (.if_icmp .ne 9, 3) := by decide +kernel
theorem dX2_scanField_68 : decode cX2_scanField 68 = .ok (.aload_n 0, 1) := by decide +kernel
theorem dX2_scanField_69 : decode cX2_scanField 69 = .ok (.iload 4, 2) := by decide +kernel
theorem dX2_scanField_71 : decode cX2_scanField 71 = .ok (.invokevirtual 107, 3) := by decide +kernel
theorem dX2_scanField_74 : decode cX2_scanField 74 = .ok (.aload_n 0, 1) := by decide +kernel
theorem dX2_scanField_75 : decode cX2_scanField 75 = .ok (.getfield 44, 3) := by decide +kernel
theorem dX2_scanField_78 : decode cX2_scanField 78 = .ok (.ifCond .ne 11, 3) := by decide +kernel
theorem dX2_scanField_81 : decode cX2_scanField 81 = .ok (.aload_n 0, 1) := by decide +kernel
theorem dX2_scanField_82 : decode cX2_scanField 82 = .ok (.iload_n 2, 1) := by decide +kernel
theorem dX2_scanField_83 : decode cX2_scanField 83 = .ok (.iload_n 3, 1) := by decide +kernel
theorem dX2_scanField_84 : decode cX2_scanField 84 = .ok (.iload 4, 2) := by decide +kernel
theorem dX2_scanField_86 : decode cX2_scanField 86 = .ok (.invokevirtual 111, 3) := by decide +kernel
theorem dX2_scanField_89 : decode cX2_scanField 89 = .ok (.return_, 1) := by decide +kernel
theorem dX2_keyProblem_0 : decode cX2_keyProblem 0 = .ok (.iload_n 0, 1) := by decide +kernel
theorem dX2_keyProblem_1 : decode cX2_keyProblem 1 = .ok (.invokestatic 114, 3) := by decide +kernel
theorem dX2_keyProblem_4 : decode cX2_keyProblem 4 = .ok (.ifCond .ne 5, 3) := by decide +kernel
theorem dX2_keyProblem_7 : decode cX2_keyProblem 7 = .ok (.iconst 3, 1) := by decide +kernel
theorem dX2_keyProblem_8 : decode cX2_keyProblem 8 = .ok (.ireturn, 1) := by decide +kernel
theorem dX2_keyProblem_9 : decode cX2_keyProblem 9 = .ok (.iload_n 1, 1) := by decide +kernel
theorem dX2_keyProblem_10 : decode cX2_keyProblem 10 = .ok (.ifCond .eq 13, 3) := by decide +kernel
theorem dX2_keyProblem_13 : decode cX2_keyProblem 13 = .ok (.iload_n 1, 1) := by decide +kernel
theorem dX2_keyProblem_14 : decode cX2_keyProblem 14 = .ok (.iconst 2, 1) := by decide +kernel
theorem dX2_keyProblem_15 : decode cX2_keyProblem 15 = .ok (.if_icmp .eq 8, 3) := by decide +kernel
theorem dX2_keyProblem_18 : decode cX2_keyProblem 18 = .ok (.iload_n 1, 1) := by decide +kernel
theorem dX2_keyProblem_19 : decode cX2_keyProblem 19 = .ok (.iconst 5, 1) := by decide +kernel
theorem dX2_keyProblem_20 : decode cX2_keyProblem 20 = .ok (.if_icmp .ne 7, 3) := by decide +kernel
theorem dX2_keyProblem_23 : decode cX2_keyProblem 23 = .ok (.iconst 0, 1) := by decide +kernel
theorem dX2_keyProblem_24 : decode cX2_keyProblem 24 = .ok (.goto 4, 3) := by decide +kernel
theorem dX2_keyProblem_27 : decode cX2_keyProblem 27 = .ok (.iconst 4, 1) := by decide +kernel
theorem dX2_keyProblem_28 : decode cX2_keyProblem 28 = .ok (.ireturn, 1) := by decide +kernel
theorem dX2_scanGroups_0 : decode cX2_scanGroups 0 = .ok (.iconst 0, 1) := by decide +kernel
theorem dX2_scanGroups_1 : decode cX2_scanGroups 1 = .ok (.istore_n 1, 1) := by decide +kernel
theorem dX2_scanGroups_2 : decode cX2_scanGroups 2 = .ok (.iconst 0, 1) := by decide +kernel
theorem dX2_scanGroups_3 : decode cX2_scanGroups 3 = .ok (.istore_n 2, 1) := by decide +kernel
theorem dX2_scanGroups_4 : decode cX2_scanGroups 4 = .ok (.iload_n 2, 1) := by decide +kernel
theorem dX2_scanGroups_5 : decode cX2_scanGroups 5 = .ok (.bipush 28, 2) := by decide +kernel
theorem dX2_scanGroups_7 : decode cX2_scanGroups 7 = .ok (.if_icmp .gt 91, 3) := by decide +kernel
theorem dX2_scanGroups_10 : decode cX2_scanGroups 10 = .ok (.aload_n 0, 1) := by decide +kernel
theorem dX2_scanGroups_11 : decode cX2_scanGroups 11 = .ok (.getfield 35, 3) := by decide +kernel
theorem dX2_scanGroups_14 : decode cX2_scanGroups 14 = .ok (.aload_n 0, 1) := by decide +kernel
theorem dX2_scanGroups_15 : decode cX2_scanGroups 15 = .ok (.getfield 38, 3) := by decide +kernel
theorem dX2_scanGroups_18 : decode cX2_scanGroups 18 = .ok (.if_icmp .lt 10, 3) := by decide +kernel
theorem dX2_scanGroups_21 : decode cX2_scanGroups 21 = .ok (.aload_n 0, 1) := by decide +kernel
theorem dX2_scanGroups_22 : decode cX2_scanGroups 22 = .ok (.iconst 1, 1) := by decide +kernel
theorem dX2_scanGroups_23 : decode cX2_scanGroups 23 = .ok (.putfield 44, 3) := by decide +kernel
theorem dX2_scanGroups_26 : decode cX2_scanGroups 26 = .ok (.iconst 0, 1) := by decide +kernel
theorem dX2_scanGroups_27 : decode cX2_scanGroups 27 = .ok (.ireturn, 1) := by decide +kernel
theorem dX2_scanGroups_28 : decode cX2_scanGroups 28 = .ok (.aload_n 0, 1) := by decide +kernel
theorem dX2_scanGroups_29 : decode cX2_scanGroups 29 = .ok (.getfield 27, 3) := by decide +kernel
theorem dX2_scanGroups_32 : decode cX2_scanGroups 32 = .ok (.aload_n 0, 1) := by decide +kernel
theorem dX2_scanGroups_33 : decode cX2_scanGroups 33 = .ok (.getfield 35, 3) := by decide +kernel
theorem dX2_scanGroups_36 : decode cX2_scanGroups 36 = .ok (.invokevirtual 117, 3) := by decide +kernel
theorem dX2_scanGroups_39 : decode cX2_scanGroups 39 = .ok (.sipush 255, 3) := by decide +kernel
theorem dX2_scanGroups_42 : decode cX2_scanGroups 42 = .ok (.iand, 1) := by decide +kernel
theorem dX2_scanGroups_43 : decode cX2_scanGroups 43 = .ok (.istore_n 3, 1) := by decide +kernel
theorem dX2_scanGroups_44 : decode cX2_scanGroups 44 = .ok (.aload_n 0, 1) := by decide +kernel
theorem dX2_scanGroups_45 : decode cX2_scanGroups 45 = .ok (.dup, 1) := by decide +kernel
theorem dX2_scanGroups_46 : decode cX2_scanGroups 46 = .ok (.getfield 35, 3) := by decide +kernel
theorem dX2_scanGroups_49 : decode cX2_scanGroups 49 = .ok (.iconst 1, 1) := by decide +kernel
theorem dX2_scanGroups_50 : decode cX2_scanGroups 50 = .ok (.iadd, 1) := by decide +kernel
theorem dX2_scanGroups_51 : decode cX2_scanGroups 51 = .ok (.putfield 35, 3) := by decide +kernel
theorem dX2_scanGroups_54 : decode cX2_scanGroups 54 = .ok (.iload_n 2, 1) := by decide +kernel
theorem dX2_scanGroups_55 : decode cX2_scanGroups 55 = .ok (.bipush 28, 2) := by decide +kernel
theorem dX2_scanGroups_57 : decode cX2_scanGroups 57 = .ok (.if_icmp .ne 16, 3) := by decide +kernel
theorem dX2_scanGroups_60 : decode cX2_scanGroups 60 = .ok (.iload_n 3, 1) := by decide +kernel
theorem dX2_scanGroups_61 : decode cX2_scanGroups 61 = .ok (.bipush 15, 2) := by decide +kernel
theorem dX2_scanGroups_63 : decode cX2_scanGroups 63 = .ok (.if_icmp .le 10, 3) := by decide +kernel
theorem dX2_scanGroups_66 : decode cX2_scanGroups 66 = .ok (.aload_n 0, 1) := by decide +kernel
theorem dX2_scanGroups_67 : decode cX2_scanGroups 67 = .ok (.iconst 2, 1) := by decide +kernel
theorem dX2_scanGroups_68 : decode cX2_scanGroups 68 = .ok (.putfield 44, 3) := by decide +kernel
theorem dX2_scanGroups_71 : decode cX2_scanGroups 71 = .ok (.iconst 0, 1) := by decide +kernel
theorem dX2_scanGroups_72 : decode cX2_scanGroups 72 = .ok (.ireturn, 1) := by decide +kernel
theorem dX2_scanGroups_73 : decode cX2_scanGroups 73 = .ok (.iload_n 1, 1) := by decide +kernel
theorem dX2_scanGroups_74 : decode cX2_scanGroups 74 = .ok (.iload_n 3, 1) := by decide +kernel
theorem dX2_scanGroups_75 : decode cX2_scanGroups 75 = .ok (.bipush 127, 2) := by decide +kernel
theorem dX2_scanGroups_77 : decode cX2_scanGroups 77 = .ok (.iand, 1) := by decide +kernel
theorem dX2_scanGroups_78 : decode cX2_scanGroups 78 = .ok (.iload_n 2, 1) := by decide +kernel
theorem dX2_scanGroups_79 : decode cX2_scanGroups 79 = .ok (.ishl, 1) := by decide +kernel
theorem dX2_scanGroups_80 : decode cX2_scanGroups 80 = .ok (.ior, 1) := by decide +kernel
theorem dX2_scanGroups_81 : decode cX2_scanGroups 81 = .ok (.istore_n 1, 1) := by decide +kernel
theorem dX2_scanGroups_82 : decode cX2_scanGroups 82 = .ok (.iload_n 3, 1) := by decide +kernel
theorem dX2_scanGroups_83 : decode cX2_scanGroups 83 = .ok (.sipush 128, 3) := by decide +kernel
theorem dX2_scanGroups_86 : decode cX2_scanGroups 86 = .ok (.if_icmp .ge 6, 3) := by decide +kernel
theorem dX2_scanGroups_89 : decode cX2_scanGroups 89 = .ok (.goto 9, 3) := by decide +kernel
theorem dX2_scanGroups_92 : decode cX2_scanGroups 92 = .ok (.iinc 2 7, 3) := by decide +kernel
theorem dX2_scanGroups_95 : decode cX2_scanGroups 95 = .ok (.goto (-91), 3) := by decide +kernel
theorem dX2_scanGroups_98 : decode cX2_scanGroups 98 = .ok (.iload_n 1, 1) := by decide +kernel
theorem dX2_scanGroups_99 : decode cX2_scanGroups 99 = .ok (.ireturn, 1) := by decide +kernel
theorem dX2_scanFour_0 : decode cX2_scanFour 0 = .ok (.aload_n 0, 1) := by decide +kernel
theorem dX2_scanFour_1 : decode cX2_scanFour 1 = .ok (.getfield 38, 3) := by decide +kernel
theorem dX2_scanFour_4 : decode cX2_scanFour 4 = .ok (.aload_n 0, 1) := by decide +kernel
theorem dX2_scanFour_5 : decode cX2_scanFour 5 = .ok (.getfield 35, 3) := by decide +kernel
theorem dX2_scanFour_8 : decode cX2_scanFour 8 = .ok (.isub, 1) := by decide +kernel
theorem dX2_scanFour_9 : decode cX2_scanFour 9 = .ok (.iconst 4, 1) := by decide +kernel
theorem dX2_scanFour_10 : decode cX2_scanFour 10 = .ok (.if_icmp .ge 10, 3) := by decide +kernel
theorem dX2_scanFour_13 : decode cX2_scanFour 13 = .ok (.aload_n 0, 1) := by decide +kernel
theorem dX2_scanFour_14 : decode cX2_scanFour 14 = .ok (.iconst 1, 1) := by decide +kernel
theorem dX2_scanFour_15 : decode cX2_scanFour 15 = .ok (.putfield 44, 3) := by decide +kernel
theorem dX2_scanFour_18 : decode cX2_scanFour 18 = .ok (.iconst 0, 1) := by decide +kernel
theorem dX2_scanFour_19 : decode cX2_scanFour 19 = .ok (.ireturn, 1) := by decide +kernel
theorem dX2_scanFour_20 : decode cX2_scanFour 20 = .ok (.iconst 0, 1) := by decide +kernel
theorem dX2_scanFour_21 : decode cX2_scanFour 21 = .ok (.istore_n 1, 1) := by decide +kernel
theorem dX2_scanFour_22 : decode cX2_scanFour 22 = .ok (.iconst 0, 1) := by decide +kernel
theorem dX2_scanFour_23 : decode cX2_scanFour 23 = .ok (.istore_n 2, 1) := by decide +kernel
theorem dX2_scanFour_24 : decode cX2_scanFour 24 = .ok (.iload_n 2, 1) := by decide +kernel
theorem dX2_scanFour_25 : decode cX2_scanFour 25 = .ok (.bipush 32, 2) := by decide +kernel
theorem dX2_scanFour_27 : decode cX2_scanFour 27 = .ok (.if_icmp .ge 39, 3) := by decide +kernel
theorem dX2_scanFour_30 : decode cX2_scanFour 30 = .ok (.iload_n 1, 1) := by decide +kernel
theorem dX2_scanFour_31 : decode cX2_scanFour 31 = .ok (.aload_n 0, 1) := by decide +kernel
theorem dX2_scanFour_32 : decode cX2_scanFour 32 = .ok (.getfield 27, 3) := by decide +kernel
theorem dX2_scanFour_35 : decode cX2_scanFour 35 = .ok (.aload_n 0, 1) := by decide +kernel
theorem dX2_scanFour_36 : decode cX2_scanFour 36 = .ok (.getfield 35, 3) := by decide +kernel
theorem dX2_scanFour_39 : decode cX2_scanFour 39 = .ok (.invokevirtual 117, 3) := by decide +kernel
theorem dX2_scanFour_42 : decode cX2_scanFour 42 = .ok (.sipush 255, 3) := by decide +kernel
theorem dX2_scanFour_45 : decode cX2_scanFour 45 = .ok (.iand, 1) := by decide +kernel
theorem dX2_scanFour_46 : decode cX2_scanFour 46 = .ok (.iload_n 2, 1) := by decide +kernel
theorem dX2_scanFour_47 : decode cX2_scanFour 47 = .ok (.ishl, 1) := by decide +kernel
theorem dX2_scanFour_48 : decode cX2_scanFour 48 = .ok (.ior, 1) := by decide +kernel
theorem dX2_scanFour_49 : decode cX2_scanFour 49 = .ok (.istore_n 1, 1) := by decide +kernel
theorem dX2_scanFour_50 : decode cX2_scanFour 50 = .ok (.aload_n 0, 1) := by decide +kernel
theorem dX2_scanFour_51 : decode cX2_scanFour 51 = .ok (.dup, 1) := by decide +kernel
theorem dX2_scanFour_52 : decode cX2_scanFour 52 = .ok (.getfield 35, 3) := by decide +kernel
theorem dX2_scanFour_55 : decode cX2_scanFour 55 = .ok (.iconst 1, 1) := by decide +kernel
theorem dX2_scanFour_56 : decode cX2_scanFour 56 = .ok (.iadd, 1) := by decide +kernel
theorem dX2_scanFour_57 : decode cX2_scanFour 57 = .ok (.putfield 35, 3) := by decide +kernel
theorem dX2_scanFour_60 : decode cX2_scanFour 60 = .ok (.iinc 2 8, 3) := by decide +kernel
theorem dX2_scanFour_63 : decode cX2_scanFour 63 = .ok (.goto (-39), 3) := by decide +kernel
theorem dX2_scanFour_66 : decode cX2_scanFour 66 = .ok (.iload_n 1, 1) := by decide +kernel
theorem dX2_scanFour_67 : decode cX2_scanFour 67 = .ok (.ireturn, 1) := by decide +kernel
theorem dX2_skipBytes_0 : decode cX2_skipBytes 0 = .ok (.iload_n 1, 1) := by decide +kernel
theorem dX2_skipBytes_1 : decode cX2_skipBytes 1 = .ok (.ifCond .lt 16, 3) := by decide +kernel
theorem dX2_skipBytes_4 : decode cX2_skipBytes 4 = .ok (.iload_n 1, 1) := by decide +kernel
theorem dX2_skipBytes_5 : decode cX2_skipBytes 5 = .ok (.aload_n 0, 1) := by decide +kernel
theorem dX2_skipBytes_6 : decode cX2_skipBytes 6 = .ok (.getfield 38, 3) := by decide +kernel
theorem dX2_skipBytes_9 : decode cX2_skipBytes 9 = .ok (.aload_n 0, 1) := by decide +kernel
theorem dX2_skipBytes_10 : decode cX2_skipBytes 10 = .ok (.getfield 35, 3) := by decide +kernel
theorem dX2_skipBytes_13 : decode cX2_skipBytes 13 = .ok (.isub, 1) := by decide +kernel
theorem dX2_skipBytes_14 : decode cX2_skipBytes 14 = .ok (.if_icmp .le 11, 3) := by decide +kernel
theorem dX2_skipBytes_17 : decode cX2_skipBytes 17 = .ok (.aload_n 0, 1) := by decide +kernel
theorem dX2_skipBytes_18 : decode cX2_skipBytes 18 = .ok (.iconst 1, 1) := by decide +kernel
theorem dX2_skipBytes_19 : decode cX2_skipBytes 19 = .ok (.putfield 44, 3) := by decide +kernel
theorem dX2_skipBytes_22 : decode cX2_skipBytes 22 = .ok (.goto 13, 3) := by decide +kernel
theorem dX2_skipBytes_25 : decode cX2_skipBytes 25 = .ok (.aload_n 0, 1) := by decide +kernel
theorem dX2_skipBytes_26 : decode cX2_skipBytes 26 = .ok (.dup, 1) := by decide +kernel
theorem dX2_skipBytes_27 : decode cX2_skipBytes 27 = .ok (.getfield 35, 3) := by decide +kernel
theorem dX2_skipBytes_30 : decode cX2_skipBytes 30 = .ok (.iload_n 1, 1) := by decide +kernel
theorem dX2_skipBytes_31 : decode cX2_skipBytes 31 = .ok (.iadd, 1) := by decide +kernel
theorem dX2_skipBytes_32 : decode cX2_skipBytes 32 = .ok (.putfield 35, 3) := by decide +kernel
theorem dX2_skipBytes_35 : decode cX2_skipBytes 35 = .ok (.return_, 1) := by decide +kernel
theorem dX2_keepField_0 : decode cX2_keepField 0 = .ok (.aload_n 0, 1) := by decide +kernel
theorem dX2_keepField_1 : decode cX2_keepField 1 = .ok (.getfield 41, 3) := by decide +kernel
theorem dX2_keepField_4 : decode cX2_keepField 4 = .ok (.ifCond .lt 65, 3) := by decide +kernel
theorem dX2_keepField_7 : decode cX2_keepField 7 = .ok (.aload_n 0, 1) := by decide +kernel
theorem dX2_keepField_8 : decode cX2_keepField 8 = .ok (.getfield 41, 3) := by decide +kernel
theorem dX2_keepField_11 : decode cX2_keepField 11 = .ok (.bipush 60, 2) := by decide +kernel
theorem dX2_keepField_13 : decode cX2_keepField 13 = .ok (.if_icmp .ge 56, 3) := by decide +kernel
theorem dX2_keepField_16 : decode cX2_keepField 16 = .ok (.aload_n 0, 1) := by decide +kernel
theorem dX2_keepField_17 : decode cX2_keepField 17 = .ok (.getfield 9, 3) := by decide +kernel
theorem dX2_keepField_20 : decode cX2_keepField 20 = .ok (.aload_n 0, 1) := by decide +kernel
theorem dX2_keepField_21 : decode cX2_keepField 21 = .ok (.getfield 41, 3) := by decide +kernel
theorem dX2_keepField_24 : decode cX2_keepField 24 = .ok (.iload_n 1, 1) := by decide +kernel
theorem dX2_keepField_25 : decode cX2_keepField 25 = .ok (.iastore, 1) := by decide +kernel
theorem dX2_keepField_26 : decode cX2_keepField 26 = .ok (.aload_n 0, 1) := by decide +kernel
theorem dX2_keepField_27 : decode cX2_keepField 27 = .ok (.getfield 15, 3) := by decide +kernel
theorem dX2_keepField_30 : decode cX2_keepField 30 = .ok (.aload_n 0, 1) := by decide +kernel
theorem dX2_keepField_31 : decode cX2_keepField 31 = .ok (.getfield 41, 3) := by decide +kernel
theorem dX2_keepField_34 : decode cX2_keepField 34 = .ok (.iload_n 2, 1) := by decide +kernel
theorem dX2_keepField_35 : decode cX2_keepField 35 = .ok (.iastore, 1) := by decide +kernel
theorem dX2_keepField_36 : decode cX2_keepField 36 = .ok (.aload_n 0, 1) := by decide +kernel
theorem dX2_keepField_37 : decode cX2_keepField 37 = .ok (.getfield 18, 3) := by decide +kernel
theorem dX2_keepField_40 : decode cX2_keepField 40 = .ok (.aload_n 0, 1) := by decide +kernel
theorem dX2_keepField_41 : decode cX2_keepField 41 = .ok (.getfield 41, 3) := by decide +kernel
theorem dX2_keepField_44 : decode cX2_keepField 44 = .ok (.iload_n 3, 1) := by decide +kernel
theorem dX2_keepField_45 : decode cX2_keepField 45 = .ok (.iastore, 1) := by decide +kernel
theorem dX2_keepField_46 : decode cX2_keepField 46 = .ok (.aload_n 0, 1) := by decide +kernel
theorem dX2_keepField_47 : decode cX2_keepField 47 = .ok (.getfield 21, 3) := by decide +kernel
theorem dX2_keepField_50 : decode cX2_keepField 50 = .ok (.aload_n 0, 1) := by decide +kernel
theorem dX2_keepField_51 : decode cX2_keepField 51 = .ok (.getfield 41, 3) := by decide +kernel
theorem dX2_keepField_54 : decode cX2_keepField 54 = .ok (.aload_n 0, 1) := by decide +kernel
theorem dX2_keepField_55 : decode cX2_keepField 55 = .ok (.getfield 35, 3) := by decide +kernel
theorem dX2_keepField_58 : decode cX2_keepField 58 = .ok (.iastore, 1) := by decide +kernel
theorem dX2_keepField_59 : decode cX2_keepField 59 = .ok (.aload_n 0, 1) := by decide +kernel
theorem dX2_keepField_60 : decode cX2_keepField 60 = .ok (.dup, 1) := by decide +kernel
theorem dX2_keepField_61 : decode cX2_keepField 61 = .ok (.getfield 41, 3) := by decide +kernel
theorem dX2_keepField_64 : decode cX2_keepField 64 = .ok (.iconst 1, 1) := by decide +kernel
theorem dX2_keepField_65 : decode cX2_keepField 65 = .ok (.iadd, 1) := by decide +kernel
theorem dX2_keepField_66 : decode cX2_keepField 66 = .ok (.putfield 41, 3) := by decide +kernel
theorem dX2_keepField_69 : decode cX2_keepField 69 = .ok (.return_, 1) := by decide +kernel
theorem dX3_init_0 : decode cX3_init 0 = .ok (.aload_n 0, 1) := by decide +kernel
theorem dX3_init_1 : decode cX3_init 1 = .ok (.invokespecial 1, 3) := by decide +kernel
theorem dX3_init_4 : decode cX3_init 4 = .ok (.aload_n 0, 1) := by decide +kernel
theorem dX3_init_5 : decode cX3_init 5 = .ok (.new 7, 3) := by decide +kernel
theorem dX3_init_8 : decode cX3_init 8 = .ok (.dup, 1) := by decide +kernel
theorem dX3_init_9 : decode cX3_init 9 = .ok (.invokespecial 9, 3) := by decide +kernel
theorem dX3_init_12 : decode cX3_init 12 = .ok (.putfield 10, 3) := by decide +kernel
theorem dX3_init_15 : decode cX3_init 15 = .ok (.aload_n 0, 1) := by decide +kernel
theorem dX3_init_16 : decode cX3_init 16 = .ok (.aload_n 1, 1) := by decide +kernel
theorem dX3_init_17 : decode cX3_init 17 = .ok (.putfield 16, 3) := by decide +kernel
theorem dX3_init_20 : decode cX3_init 20 = .ok (.return_, 1) := by decide +kernel
theorem dX4_init_0 : decode cX4_init 0 = .ok (.aload_n 0, 1) := by decide +kernel
theorem dX4_init_1 : decode cX4_init 1 = .ok (.invokespecial 3, 3) := by decide +kernel
theorem dX4_init_4 : decode cX4_init 4 = .ok (.aload_n 0, 1) := by decide +kernel
theorem dX4_init_5 : decode cX4_init 5 = .ok (.bipush 36, 2) := by decide +kernel
theorem dX4_init_7 : decode cX4_init 7 = .ok (.anewarray 9, 3) := by decide +kernel
theorem dX4_init_10 : decode cX4_init 10 = .ok (.putfield 11, 3) := by decide +kernel
theorem dX4_init_13 : decode cX4_init 13 = .ok (.aload_n 0, 1) := by decide +kernel
theorem dX4_init_14 : decode cX4_init 14 = .ok (.bipush 36, 2) := by decide +kernel
theorem dX4_init_16 : decode cX4_init 16 = .ok (.anewarray 9, 3) := by decide +kernel
theorem dX4_init_19 : decode cX4_init 19 = .ok (.putfield 17, 3) := by decide +kernel
theorem dX4_init_22 : decode cX4_init 22 = .ok (.aload_n 0, 1) := by decide +kernel
theorem dX4_init_23 : decode cX4_init 23 = .ok (.bipush 36, 2) := by decide +kernel
theorem dX4_init_25 : decode cX4_init 25 = .ok (.newarray .boolean, 2) := by decide +kernel
theorem dX4_init_27 : decode cX4_init 27 = .ok (.putfield 20, 3) := by decide +kernel
theorem dX4_init_30 : decode cX4_init 30 = .ok (.return_, 1) := by decide +kernel
theorem dX4_leastReason_0 : decode cX4_leastReason 0 = .ok (.aload_n 0, 1) := by decide +kernel
theorem dX4_leastReason_1 : decode cX4_leastReason 1 = .ok (.invokevirtual 24, 3) := by decide +kernel
theorem dX4_leastReason_4 : decode cX4_leastReason 4 = .ok (.aload_n 0, 1) := by decide +kernel
theorem dX4_leastReason_5 : decode cX4_leastReason 5 = .ok (.aload_n 1, 1) := by decide +kernel
theorem dX4_leastReason_6 : decode cX4_leastReason 6 = .ok (.aload_n 2, 1) := by decide +kernel
theorem dX4_leastReason_7 : decode cX4_leastReason 7 = .ok (.invokevirtual 27, 3) := by decide +kernel
theorem dX4_leastReason_10 : decode cX4_leastReason 10 = .ok (.iconst 1, 1) := by decide +kernel
theorem dX4_leastReason_11 : decode cX4_leastReason 11 = .ok (.istore_n 3, 1) := by decide +kernel
theorem dX4_leastReason_12 : decode cX4_leastReason 12 = .ok (.iload_n 3, 1) := by decide +kernel
theorem dX4_leastReason_13 : decode cX4_leastReason 13 = .ok (.bipush 31, 2) := by decide +kernel
theorem dX4_leastReason_15 : decode cX4_leastReason 15 = .ok (.if_icmp .gt 30, 3) := by decide +kernel
theorem dX4_leastReason_18 : decode cX4_leastReason 18 = .ok (.aload_n 1, 1) := by decide +kernel
theorem dX4_leastReason_19 : decode cX4_leastReason 19 = .ok (.aload_n 2, 1) := by decide +kernel
theorem dX4_leastReason_20 : decode cX4_leastReason 20 = .ok (.iload_n 3, 1) := by decide +kernel
theorem dX4_leastReason_21 : decode cX4_leastReason 21 = .ok (.invokevirtual 31, 3) := by decide +kernel
theorem dX4_leastReason_24 : decode cX4_leastReason 24 = .ok (.ifCond .ne 13, 3) := by decide +kernel
theorem dX4_leastReason_27 : decode cX4_leastReason 27 = .ok (.aload_n 0, 1) := by decide +kernel
theorem dX4_leastReason_28 : decode cX4_leastReason 28 = .ok (.aload_n 1, 1) := by decide +kernel
theorem dX4_leastReason_29 : decode cX4_leastReason 29 = .ok (.aload_n 2, 1) := by decide +kernel
theorem dX4_leastReason_30 : decode cX4_leastReason 30 = .ok (.iload_n 3, 1) := by decide +kernel
theorem dX4_leastReason_31 : decode cX4_leastReason 31 = .ok (.invokevirtual 35, 3) := by decide +kernel
theorem dX4_leastReason_34 : decode cX4_leastReason 34 = .ok (.ifCond .eq 5, 3) := by decide +kernel
theorem dX4_leastReason_37 : decode cX4_leastReason 37 = .ok (.iload_n 3, 1) := by decide +kernel
theorem dX4_leastReason_38 : decode cX4_leastReason 38 = .ok (.ireturn, 1) := by decide +kernel
theorem dX4_leastReason_39 : decode cX4_leastReason 39 = .ok (.iinc 3 1, 3) := by decide +kernel
theorem dX4_leastReason_42 : decode cX4_leastReason 42 = .ok (.goto (-30), 3) := by decide +kernel
theorem dX4_leastReason_45 : decode cX4_leastReason 45 = .ok (.iconst (-1), 1) := by decide +kernel
theorem dX4_leastReason_46 : decode cX4_leastReason 46 = .ok (.ireturn, 1) := by decide +kernel
theorem dX4_leadsToDifference_0 : decode cX4_leadsToDifference 0 = .ok (.aload_n 0, 1) := by decide +kernel
theorem dX4_leadsToDifference_1 : decode cX4_leadsToDifference 1 = .ok (.getfield 39, 3) := by decide +kernel
theorem dX4_leadsToDifference_4 : decode cX4_leadsToDifference 4 = .ok (.istore 4, 2) := by decide +kernel
theorem dX4_leadsToDifference_6 : decode cX4_leadsToDifference 6 = .ok (.aload_n 0, 1) := by decide +kernel
theorem dX4_leadsToDifference_7 : decode cX4_leadsToDifference 7 = .ok (.aload_n 1, 1) := by decide +kernel
theorem dX4_leadsToDifference_8 : decode cX4_leadsToDifference 8 = .ok (.aload_n 2, 1) := by decide +kernel
theorem dX4_leadsToDifference_9 : decode cX4_leadsToDifference 9 = .ok (.iload_n 3, 1) := by decide +kernel
theorem dX4_leadsToDifference_10 : decode cX4_leadsToDifference 10 = .ok (.invokevirtual 43, 3) := by decide +kernel
theorem dX4_leadsToDifference_13 : decode cX4_leadsToDifference 13 = .ok (.iload 4, 2) := by decide +kernel
theorem dX4_leadsToDifference_15 : decode cX4_leadsToDifference 15 = .ok (.ifCond .lt 66, 3) := by decide +kernel
theorem dX4_leadsToDifference_18 : decode cX4_leadsToDifference 18 = .ok (.iload 4, 2) := by decide +kernel
theorem dX4_leadsToDifference_20 : decode cX4_leadsToDifference 20 = .ok (.aload_n 0, 1) := by decide +kernel
theorem dX4_leadsToDifference_21 : decode cX4_leadsToDifference 21 = .ok (.getfield 39, 3) := by decide +kernel
theorem dX4_leadsToDifference_24 : decode cX4_leadsToDifference 24 = .ok (.if_icmp .ge 57, 3) := by decide +kernel
theorem dX4_leadsToDifference_27 : decode cX4_leadsToDifference 27 = .ok (.iload 4, 2) := by decide +kernel
theorem dX4_leadsToDifference_29 : decode cX4_leadsToDifference 29 = .ok (.bipush 36, 2) := by decide +kernel
theorem dX4_leadsToDifference_31 : decode cX4_leadsToDifference 31 = .ok (.if_icmp .ge 50, 3) := by decide +kernel
theorem dX4_leadsToDifference_34 : decode cX4_leadsToDifference 34 = .ok (.aload_n 0, 1) := by decide +kernel
theorem dX4_leadsToDifference_35 : decode cX4_leadsToDifference 35 = .ok (.getfield 11, 3) := by decide +kernel
theorem dX4_leadsToDifference_38 : decode cX4_leadsToDifference 38 = .ok (.iload 4, 2) := by decide +kernel
theorem dX4_leadsToDifference_40 : decode cX4_leadsToDifference 40 = .ok (.aaload, 1) := by decide +kernel
theorem dX4_leadsToDifference_41 : decode cX4_leadsToDifference 41 = .ok (.astore 5, 2) := by decide +kernel
theorem dX4_leadsToDifference_43 : decode cX4_leadsToDifference 43 = .ok (.aload_n 0, 1) := by decide +kernel
theorem dX4_leadsToDifference_44 : decode cX4_leadsToDifference 44 = .ok (.getfield 17, 3) := by decide +kernel
theorem dX4_leadsToDifference_47 : decode cX4_leadsToDifference 47 = .ok (.iload 4, 2) := by decide +kernel
theorem dX4_leadsToDifference_49 : decode cX4_leadsToDifference 49 = .ok (.aaload, 1) := by decide +kernel
theorem dX4_leadsToDifference_50 : decode cX4_leadsToDifference 50 = .ok (.astore 6, 2) := by decide +kernel
theorem dX4_leadsToDifference_52 : decode cX4_leadsToDifference 52 = .ok (.aload 5, 2) := by decide +kernel
theorem dX4_leadsToDifference_54 : decode cX4_leadsToDifference 54 = .ok (.ifnull 21, 3) := by decide +kernel
theorem dX4_leadsToDifference_57 : decode cX4_leadsToDifference 57 = .ok (.aload 6, 2) := by decide +kernel
theorem dX4_leadsToDifference_59 : decode cX4_leadsToDifference 59 = .ok (.ifnull 16, 3) := by decide +kernel
theorem dX4_leadsToDifference_62 : decode cX4_leadsToDifference 62 = .ok (.aload_n 0, 1) := by decide +kernel
theorem dX4_leadsToDifference_63 : decode cX4_leadsToDifference 63 = .ok (.aload 5, 2) := by decide +kernel
theorem dX4_leadsToDifference_65 : decode cX4_leadsToDifference 65 = .ok (.aload 6, 2) := by decide +kernel
theorem dX4_leadsToDifference_67 : decode cX4_leadsToDifference 67 = .ok (.invokevirtual 47, 3) := by decide +kernel
theorem dX4_leadsToDifference_70 : decode cX4_leadsToDifference 70 = .ok (.ifCond .eq 5, 3) := by decide +kernel
theorem dX4_leadsToDifference_73 : decode cX4_leadsToDifference 73 = .ok (.iconst 1, 1) := by decide +kernel
theorem dX4_leadsToDifference_74 : decode cX4_leadsToDifference 74 = .ok (.ireturn, 1) := by decide +kernel
theorem dX4_leadsToDifference_75 : decode cX4_leadsToDifference 75 = .ok (.iinc 4 1, 3) := by decide +kernel
theorem dX4_leadsToDifference_78 : decode cX4_leadsToDifference 78 = .ok (.goto (-65), 3) := by decide +kernel
theorem dX4_leadsToDifference_81 : decode cX4_leadsToDifference 81 = .ok (.iconst 0, 1) := by decide +kernel
theorem dX4_leadsToDifference_82 : decode cX4_leadsToDifference 82 = .ok (.ireturn, 1) := by decide +kernel
theorem dX4_differsSomewhere_0 : decode cX4_differsSomewhere 0 = .ok (.iconst 1, 1) := by decide +kernel
theorem dX4_differsSomewhere_1 : decode cX4_differsSomewhere 1 = .ok (.istore_n 3, 1) := by decide +kernel
theorem dX4_differsSomewhere_2 : decode cX4_differsSomewhere 2 = .ok (.iload_n 3, 1) := by decide +kernel
theorem dX4_differsSomewhere_3 : decode cX4_differsSomewhere 3 = .ok (.bipush 31, 2) := by decide +kernel
theorem dX4_differsSomewhere_5 : decode cX4_differsSomewhere 5 = .ok (.if_icmp .gt 27, 3) := by decide +kernel
theorem dX4_differsSomewhere_8 : decode cX4_differsSomewhere 8 = .ok (.aload_n 1, 1) := by decide +kernel
theorem dX4_differsSomewhere_9 : decode cX4_differsSomewhere 9 = .ok (.aload_n 2, 1) := by decide +kernel
theorem dX4_differsSomewhere_10 : decode cX4_differsSomewhere 10 = .ok (.iload_n 3, 1) := by decide +kernel
theorem dX4_differsSomewhere_11 : decode cX4_differsSomewhere 11 = .ok (.invokevirtual 31, 3) := by decide +kernel
theorem dX4_differsSomewhere_14 : decode cX4_differsSomewhere 14 = .ok (.ifCond .eq 5, 3) := by decide +kernel
theorem dX4_differsSomewhere_17 : decode cX4_differsSomewhere 17 = .ok (.iconst 1, 1) := by decide +kernel
theorem dX4_differsSomewhere_18 : decode cX4_differsSomewhere 18 = .ok (.ireturn, 1) := by decide +kernel
theorem dX4_differsSomewhere_19 : decode cX4_differsSomewhere 19 = .ok (.aload_n 0, 1) := by decide +kernel
theorem dX4_differsSomewhere_20 : decode cX4_differsSomewhere 20 = .ok (.aload_n 1, 1) := by decide +kernel
theorem dX4_differsSomewhere_21 : decode cX4_differsSomewhere 21 = .ok (.aload_n 2, 1) := by decide +kernel
theorem dX4_differsSomewhere_22 : decode cX4_differsSomewhere 22 = .ok (.iload_n 3, 1) := by decide +kernel
theorem dX4_differsSomewhere_23 : decode cX4_differsSomewhere 23 = .ok (.invokevirtual 43, 3) := by decide +kernel
theorem dX4_differsSomewhere_26 : decode cX4_differsSomewhere 26 = .ok (.iinc 3 1, 3) := by decide +kernel
theorem dX4_differsSomewhere_29 : decode cX4_differsSomewhere 29 = .ok (.goto (-27), 3) := by decide +kernel
theorem dX4_differsSomewhere_32 : decode cX4_differsSomewhere 32 = .ok (.iconst 0, 1) := by decide +kernel
theorem dX4_differsSomewhere_33 : decode cX4_differsSomewhere 33 = .ok (.ireturn, 1) := by decide +kernel
theorem dX4_notePartsAt_0 : decode cX4_notePartsAt 0 = .ok (.aload_n 1, 1) := by decide +kernel
theorem dX4_notePartsAt_1 : decode cX4_notePartsAt 1 = .ok (.iload_n 3, 1) := by decide +kernel
theorem dX4_notePartsAt_2 : decode cX4_notePartsAt 2 = .ok (.invokevirtual 51, 3) := by decide +kernel
theorem dX4_notePartsAt_5 : decode cX4_notePartsAt 5 = .ok (.astore 4, 2) := by decide +kernel
theorem dX4_notePartsAt_7 : decode cX4_notePartsAt 7 = .ok (.aload_n 2, 1) := by decide +kernel
theorem dX4_notePartsAt_8 : decode cX4_notePartsAt 8 = .ok (.iload_n 3, 1) := by decide +kernel
theorem dX4_notePartsAt_9 : decode cX4_notePartsAt 9 = .ok (.invokevirtual 51, 3) := by decide +kernel
theorem dX4_notePartsAt_12 : decode cX4_notePartsAt 12 = .ok (.astore 5, 2) := by decide +kernel
theorem dX4_notePartsAt_14 : decode cX4_notePartsAt 14 = .ok (.aload 4, 2) := by decide +kernel
theorem dX4_notePartsAt_16 : decode cX4_notePartsAt 16 = .ok (.ifnull 16, 3) := by decide +kernel
theorem dX4_notePartsAt_19 : decode cX4_notePartsAt 19 = .ok (.aload 5, 2) := by decide +kernel
theorem dX4_notePartsAt_21 : decode cX4_notePartsAt 21 = .ok (.ifnull 11, 3) := by decide +kernel
theorem dX4_notePartsAt_24 : decode cX4_notePartsAt 24 = .ok (.aload_n 0, 1) := by decide +kernel
theorem dX4_notePartsAt_25 : decode cX4_notePartsAt 25 = .ok (.aload 4, 2) := by decide +kernel
theorem dX4_notePartsAt_27 : decode cX4_notePartsAt 27 = .ok (.aload 5, 2) := by decide +kernel
theorem dX4_notePartsAt_29 : decode cX4_notePartsAt 29 = .ok (.invokevirtual 27, 3) := by decide +kernel
theorem dX4_notePartsAt_32 : decode cX4_notePartsAt 32 = .ok (.return_, 1) := by decide +kernel
theorem dX4_notePair_0 : decode cX4_notePair 0 = .ok (.aload_n 1, 1) := by decide +kernel
theorem dX4_notePair_1 : decode cX4_notePair 1 = .ok (.getfield 55, 3) := by decide +kernel
theorem dX4_notePair_4 : decode cX4_notePair 4 = .ok (.bipush 6, 2) := by decide +kernel
theorem dX4_notePair_6 : decode cX4_notePair 6 = .ok (.imul, 1) := by decide +kernel
theorem dX4_notePair_7 : decode cX4_notePair 7 = .ok (.aload_n 2, 1) := by decide +kernel
theorem dX4_notePair_8 : decode cX4_notePair 8 = .ok (.getfield 55, 3) := by decide +kernel
theorem dX4_notePair_11 : decode cX4_notePair 11 = .ok (.iadd, 1) := by decide +kernel
theorem dX4_notePair_12 : decode cX4_notePair 12 = .ok (.istore_n 3, 1) := by decide +kernel
theorem dX4_notePair_13 : decode cX4_notePair 13 = .ok (.iload_n 3, 1) := by decide +kernel
theorem dX4_notePair_14 : decode cX4_notePair 14 = .ok (.ifCond .lt 71, 3) := by decide +kernel
theorem dX4_notePair_17 : decode cX4_notePair 17 = .ok (.iload_n 3, 1) := by decide +kernel
theorem dX4_notePair_18 : decode cX4_notePair 18 = .ok (.bipush 36, 2) := by decide +kernel
theorem dX4_notePair_20 : decode cX4_notePair 20 = .ok (.if_icmp .ge 65, 3) := by decide +kernel
theorem dX4_notePair_23 : decode cX4_notePair 23 = .ok (.aload_n 0, 1) := by decide +kernel
theorem dX4_notePair_24 : decode cX4_notePair 24 = .ok (.getfield 39, 3) := by decide +kernel
theorem dX4_notePair_27 : decode cX4_notePair 27 = .ok (.ifCond .lt 58, 3) := by decide +kernel
theorem dX4_notePair_30 : decode cX4_notePair 30 = .ok (.aload_n 0, 1) := by decide +kernel
theorem dX4_notePair_31 : decode cX4_notePair 31 = .ok (.getfield 39, 3) := by decide +kernel
theorem dX4_notePair_34 : decode cX4_notePair 34 = .ok (.bipush 36, 2) := by decide +kernel
theorem dX4_notePair_36 : decode cX4_notePair 36 = .ok (.if_icmp .ge 49, 3) := by decide +kernel
theorem dX4_notePair_39 : decode cX4_notePair 39 = .ok (.aload_n 0, 1) := by decide +kernel
theorem dX4_notePair_40 : decode cX4_notePair 40 = .ok (.getfield 20, 3) := by decide +kernel
theorem dX4_notePair_43 : decode cX4_notePair 43 = .ok (.iload_n 3, 1) := by decide +kernel
theorem dX4_notePair_44 : decode cX4_notePair 44 = .ok (.baload, 1) := by decide +kernel
theorem dX4_notePair_45 : decode cX4_notePair 45 = .ok (.ifCond .ne 40, 3) := by decide +kernel
theorem dX4_notePair_48 : decode cX4_notePair 48 = .ok (.aload_n 0, 1) := by decide +kernel
theorem dX4_notePair_49 : decode cX4_notePair 49 = .ok (.getfield 20, 3) := by decide +kernel
theorem dX4_notePair_52 : decode cX4_notePair 52 = .ok (.iload_n 3, 1) := by decide +kernel
theorem dX4_notePair_53 : decode cX4_notePair 53 = .ok (.iconst 1, 1) := by decide +kernel
theorem dX4_notePair_54 : decode cX4_notePair 54 = .ok (.bastore, 1) := by decide +kernel
theorem dX4_notePair_55 : decode cX4_notePair 55 = .ok (.aload_n 0, 1) := by decide +kernel
theorem dX4_notePair_56 : decode cX4_notePair 56 = .ok (.getfield 11, 3) := by decide +kernel
theorem dX4_notePair_59 : decode cX4_notePair 59 = .ok (.aload_n 0, 1) := by decide +kernel
theorem dX4_notePair_60 : decode cX4_notePair 60 = .ok (.getfield 39, 3) := by decide +kernel
theorem dX4_notePair_63 : decode cX4_notePair 63 = .ok (.aload_n 1, 1) := by decide +kernel
theorem dX4_notePair_64 : decode cX4_notePair 64 = .ok (.aastore, 1) := by decide +kernel
theorem dX4_notePair_65 : decode cX4_notePair 65 = .ok (.aload_n 0, 1) := by decide +kernel
theorem dX4_notePair_66 : decode cX4_notePair 66 = .ok (.getfield 17, 3) := by decide +kernel
theorem dX4_notePair_69 : decode cX4_notePair 69 = .ok (.aload_n 0, 1) := by decide +kernel
theorem dX4_notePair_70 : decode cX4_notePair 70 = .ok (.getfield 39, 3) := by decide +kernel
theorem dX4_notePair_73 : decode cX4_notePair 73 = .ok (.aload_n 2, 1) := by decide +kernel
theorem dX4_notePair_74 : decode cX4_notePair 74 = .ok (.aastore, 1) := by decide +kernel
theorem dX4_notePair_75 : decode cX4_notePair 75 = .ok (.aload_n 0, 1) := by decide +kernel
theorem dX4_notePair_76 : decode cX4_notePair 76 = .ok (.dup, 1) := by decide +kernel
theorem dX4_notePair_77 : decode cX4_notePair 77 = .ok (.getfield 39, 3) := by decide +kernel
theorem dX4_notePair_80 : decode cX4_notePair 80 = .ok (.iconst 1, 1) := by decide +kernel
theorem dX4_notePair_81 : decode cX4_notePair 81 = .ok (.iadd, 1) := by decide +kernel
theorem dX4_notePair_82 : decode cX4_notePair 82 = .ok (.putfield 39, 3) := by decide +kernel
theorem dX4_notePair_85 : decode cX4_notePair 85 = .ok (.return_, 1) := by decide +kernel
theorem dX4_forgetPairs_0 : decode cX4_forgetPairs 0 = .ok (.iconst 0, 1) := by decide +kernel
theorem dX4_forgetPairs_1 : decode cX4_forgetPairs 1 = .ok (.istore_n 1, 1) := by decide +kernel
theorem dX4_forgetPairs_2 : decode cX4_forgetPairs 2 = .ok (.iload_n 1, 1) := by decide +kernel
theorem dX4_forgetPairs_3 : decode cX4_forgetPairs 3 = .ok (.bipush 36, 2) := by decide +kernel
theorem dX4_forgetPairs_5 : decode cX4_forgetPairs 5 = .ok (.if_icmp .ge 16, 3) := by decide +kernel
theorem dX4_forgetPairs_8 : decode cX4_forgetPairs 8 = .ok (.aload_n 0, 1) := by decide +kernel
theorem dX4_forgetPairs_9 : decode cX4_forgetPairs 9 = .ok (.getfield 20, 3) := by decide +kernel
theorem dX4_forgetPairs_12 : decode cX4_forgetPairs 12 = .ok (.iload_n 1, 1) := by decide +kernel
theorem dX4_forgetPairs_13 : decode cX4_forgetPairs 13 = .ok (.iconst 0, 1) := by decide +kernel
theorem dX4_forgetPairs_14 : decode cX4_forgetPairs 14 = .ok (.bastore, 1) := by decide +kernel
theorem dX4_forgetPairs_15 : decode cX4_forgetPairs 15 = .ok (.iinc 1 1, 3) := by decide +kernel
theorem dX4_forgetPairs_18 : decode cX4_forgetPairs 18 = .ok (.goto (-16), 3) := by decide +kernel
theorem dX4_forgetPairs_21 : decode cX4_forgetPairs 21 = .ok (.aload_n 0, 1) := by decide +kernel
theorem dX4_forgetPairs_22 : decode cX4_forgetPairs 22 = .ok (.iconst 0, 1) := by decide +kernel
theorem dX4_forgetPairs_23 : decode cX4_forgetPairs 23 = .ok (.putfield 39, 3) := by decide +kernel
theorem dX4_forgetPairs_26 : decode cX4_forgetPairs 26 = .ok (.return_, 1) := by decide +kernel
theorem dX5_init_0 : decode cX5_init 0 = .ok (.aload_n 0, 1) := by decide +kernel
theorem dX5_init_1 : decode cX5_init 1 = .ok (.invokespecial 3, 3) := by decide +kernel
theorem dX5_init_4 : decode cX5_init 4 = .ok (.aload_n 0, 1) := by decide +kernel
theorem dX5_init_5 : decode cX5_init 5 = .ok (.bipush 32, 2) := by decide +kernel
theorem dX5_init_7 : decode cX5_init 7 = .ok (.newarray .int, 2) := by decide +kernel
theorem dX5_init_9 : decode cX5_init 9 = .ok (.putfield 9, 3) := by decide +kernel
theorem dX5_init_12 : decode cX5_init 12 = .ok (.aload_n 0, 1) := by decide +kernel
theorem dX5_init_13 : decode cX5_init 13 = .ok (.bipush 32, 2) := by decide +kernel
theorem dX5_init_15 : decode cX5_init 15 = .ok (.newarray .int, 2) := by decide +kernel
theorem dX5_init_17 : decode cX5_init 17 = .ok (.putfield 15, 3) := by decide +kernel
theorem dX5_init_20 : decode cX5_init 20 = .ok (.aload_n 0, 1) := by decide +kernel
theorem dX5_init_21 : decode cX5_init 21 = .ok (.bipush 32, 2) := by decide +kernel
theorem dX5_init_23 : decode cX5_init 23 = .ok (.newarray .int, 2) := by decide +kernel
theorem dX5_init_25 : decode cX5_init 25 = .ok (.putfield 18, 3) := by decide +kernel
theorem dX5_init_28 : decode cX5_init 28 = .ok (.aload_n 0, 1) := by decide +kernel
theorem dX5_init_29 : decode cX5_init 29 = .ok (.bipush 32, 2) := by decide +kernel
theorem dX5_init_31 : decode cX5_init 31 = .ok (.anewarray 10, 3) := by decide +kernel
theorem dX5_init_34 : decode cX5_init 34 = .ok (.putfield 21, 3) := by decide +kernel
theorem dX5_init_37 : decode cX5_init 37 = .ok (.aload_n 0, 1) := by decide +kernel
theorem dX5_init_38 : decode cX5_init 38 = .ok (.iload_n 1, 1) := by decide +kernel
theorem dX5_init_39 : decode cX5_init 39 = .ok (.putfield 25, 3) := by decide +kernel
theorem dX5_init_42 : decode cX5_init 42 = .ok (.aload_n 0, 1) := by decide +kernel
theorem dX5_init_43 : decode cX5_init 43 = .ok (.getfield 9, 3) := by decide +kernel
theorem dX5_init_46 : decode cX5_init 46 = .ok (.iconst (-1), 1) := by decide +kernel
theorem dX5_init_47 : decode cX5_init 47 = .ok (.invokestatic 29, 3) := by decide +kernel
theorem dX5_init_50 : decode cX5_init 50 = .ok (.aload_n 0, 1) := by decide +kernel
theorem dX5_init_51 : decode cX5_init 51 = .ok (.getfield 15, 3) := by decide +kernel
theorem dX5_init_54 : decode cX5_init 54 = .ok (.iconst (-1), 1) := by decide +kernel
theorem dX5_init_55 : decode cX5_init 55 = .ok (.invokestatic 29, 3) := by decide +kernel
theorem dX5_init_58 : decode cX5_init 58 = .ok (.return_, 1) := by decide +kernel
theorem dX5_kindAt_0 : decode cX5_kindAt 0 = .ok (.iload_n 1, 1) := by decide +kernel
theorem dX5_kindAt_1 : decode cX5_kindAt 1 = .ok (.invokestatic 35, 3) := by decide +kernel
theorem dX5_kindAt_4 : decode cX5_kindAt 4 = .ok (.ifCond .eq 12, 3) := by decide +kernel
theorem dX5_kindAt_7 : decode cX5_kindAt 7 = .ok (.aload_n 0, 1) := by decide +kernel
theorem dX5_kindAt_8 : decode cX5_kindAt 8 = .ok (.getfield 9, 3) := by decide +kernel
theorem dX5_kindAt_11 : decode cX5_kindAt 11 = .ok (.iload_n 1, 1) := by decide +kernel
theorem dX5_kindAt_12 : decode cX5_kindAt 12 = .ok (.iaload, 1) := by decide +kernel
theorem dX5_kindAt_13 : decode cX5_kindAt 13 = .ok (.goto 4, 3) := by decide +kernel
theorem dX5_kindAt_16 : decode cX5_kindAt 16 = .ok (.iconst (-1), 1) := by decide +kernel
theorem dX5_kindAt_17 : decode cX5_kindAt 17 = .ok (.ireturn, 1) := by decide +kernel
theorem dX5_defaultAt_0 : decode cX5_defaultAt 0 = .ok (.iload_n 1, 1) := by decide +kernel
theorem dX5_defaultAt_1 : decode cX5_defaultAt 1 = .ok (.invokestatic 35, 3) := by decide +kernel
theorem dX5_defaultAt_4 : decode cX5_defaultAt 4 = .ok (.ifCond .eq 12, 3) := by decide +kernel
theorem dX5_defaultAt_7 : decode cX5_defaultAt 7 = .ok (.aload_n 0, 1) := by decide +kernel
theorem dX5_defaultAt_8 : decode cX5_defaultAt 8 = .ok (.getfield 18, 3) := by decide +kernel
theorem dX5_defaultAt_11 : decode cX5_defaultAt 11 = .ok (.iload_n 1, 1) := by decide +kernel
theorem dX5_defaultAt_12 : decode cX5_defaultAt 12 = .ok (.iaload, 1) := by decide +kernel
theorem dX5_defaultAt_13 : decode cX5_defaultAt 13 = .ok (.goto 4, 3) := by decide +kernel
theorem dX5_defaultAt_16 : decode cX5_defaultAt 16 = .ok (.iconst 0, 1) := by decide +kernel
theorem dX5_defaultAt_17 : decode cX5_defaultAt 17 = .ok (.ireturn, 1) := by decide +kernel
theorem dX5_partOf_0 : decode cX5_partOf 0 = .ok (.iload_n 1, 1) := by decide +kernel
theorem dX5_partOf_1 : decode cX5_partOf 1 = .ok (.invokestatic 35, 3) := by decide +kernel
theorem dX5_partOf_4 : decode cX5_partOf 4 = .ok (.ifCond .eq 12, 3) := by decide +kernel
theorem dX5_partOf_7 : decode cX5_partOf 7 = .ok (.aload_n 0, 1) := by decide +kernel
theorem dX5_partOf_8 : decode cX5_partOf 8 = .ok (.getfield 21, 3) := by decide +kernel
theorem dX5_partOf_11 : decode cX5_partOf 11 = .ok (.iload_n 1, 1) := by decide +kernel
theorem dX5_partOf_12 : decode cX5_partOf 12 = .ok (.aaload, 1) := by decide +kernel
theorem dX5_partOf_13 : decode cX5_partOf 13 = .ok (.goto 4, 3) := by decide +kernel
theorem dX5_partOf_16 : decode cX5_partOf 16 = .ok (.aconst_null, 1) := by decide +kernel
theorem dX5_partOf_17 : decode cX5_partOf 17 = .ok (.areturn, 1) := by decide +kernel
theorem dX5_giveKind_0 : decode cX5_giveKind 0 = .ok (.iload_n 1, 1) := by decide +kernel
theorem dX5_giveKind_1 : decode cX5_giveKind 1 = .ok (.invokestatic 35, 3) := by decide +kernel
theorem dX5_giveKind_4 : decode cX5_giveKind 4 = .ok (.ifCond .eq 34, 3) := by decide +kernel
theorem dX5_giveKind_7 : decode cX5_giveKind 7 = .ok (.aload_n 0, 1) := by decide +kernel
theorem dX5_giveKind_8 : decode cX5_giveKind 8 = .ok (.getfield 9, 3) := by decide +kernel
theorem dX5_giveKind_11 : decode cX5_giveKind 11 = .ok (.iload_n 1, 1) := by decide +kernel
theorem dX5_giveKind_12 : decode cX5_giveKind 12 = .ok (.iload_n 2, 1) := by decide +kernel
theorem dX5_giveKind_13 : decode cX5_giveKind 13 = .ok (.iastore, 1) := by decide +kernel
theorem dX5_giveKind_14 : decode cX5_giveKind 14 = .ok (.aload_n 0, 1) := by decide +kernel
theorem dX5_giveKind_15 : decode cX5_giveKind 15 = .ok (.getfield 15, 3) := by decide +kernel
theorem dX5_giveKind_18 : decode cX5_giveKind 18 = .ok (.iload_n 1, 1) := by decide +kernel
theorem dX5_giveKind_19 : decode cX5_giveKind 19 = .ok (.iload_n 2, 1) := by decide +kernel
theorem dX5_giveKind_20 : decode cX5_giveKind 20 = .ok (.invokestatic 39, 3) := by decide +kernel
theorem dX5_giveKind_23 : decode cX5_giveKind 23 = .ok (.iastore, 1) := by decide +kernel
theorem dX5_giveKind_24 : decode cX5_giveKind 24 = .ok (.aload_n 0, 1) := by decide +kernel
theorem dX5_giveKind_25 : decode cX5_giveKind 25 = .ok (.getfield 18, 3) := by decide +kernel
theorem dX5_giveKind_28 : decode cX5_giveKind 28 = .ok (.iload_n 1, 1) := by decide +kernel
theorem dX5_giveKind_29 : decode cX5_giveKind 29 = .ok (.iconst 0, 1) := by decide +kernel
theorem dX5_giveKind_30 : decode cX5_giveKind 30 = .ok (.iastore, 1) := by decide +kernel
theorem dX5_giveKind_31 : decode cX5_giveKind 31 = .ok (.aload_n 0, 1) := by decide +kernel
theorem dX5_giveKind_32 : decode cX5_giveKind 32 = .ok (.getfield 21, 3) := by decide +kernel
theorem dX5_giveKind_35 : decode cX5_giveKind 35 = .ok (.iload_n 1, 1) := by decide +kernel
theorem dX5_giveKind_36 : decode cX5_giveKind 36 = .ok (.aload_n 3, 1) := by decide +kernel
theorem dX5_giveKind_37 : decode cX5_giveKind 37 = .ok (.aastore, 1) := by decide +kernel
theorem dX5_giveKind_38 : decode cX5_giveKind 38 = .ok (.return_, 1) := by decide +kernel
theorem dX5_giveDefault_0 : decode cX5_giveDefault 0 = .ok (.iload_n 1, 1) := by decide +kernel
theorem dX5_giveDefault_1 : decode cX5_giveDefault 1 = .ok (.invokestatic 35, 3) := by decide +kernel
theorem dX5_giveDefault_4 : decode cX5_giveDefault 4 = .ok (.ifCond .eq 10, 3) := by decide +kernel
theorem dX5_giveDefault_7 : decode cX5_giveDefault 7 = .ok (.aload_n 0, 1) := by decide +kernel
theorem dX5_giveDefault_8 : decode cX5_giveDefault 8 = .ok (.getfield 18, 3) := by decide +kernel
theorem dX5_giveDefault_11 : decode cX5_giveDefault 11 = .ok (.iload_n 1, 1) := by decide +kernel
theorem dX5_giveDefault_12 : decode cX5_giveDefault 12 = .ok (.iload_n 2, 1) := by decide +kernel
theorem dX5_giveDefault_13 : decode cX5_giveDefault 13 = .ok (.iastore, 1) := by decide +kernel
theorem dX5_giveDefault_14 : decode cX5_giveDefault 14 = .ok (.return_, 1) := by decide +kernel
theorem dX5_hasInt_0 : decode cX5_hasInt 0 = .ok (.aload_n 0, 1) := by decide +kernel
theorem dX5_hasInt_1 : decode cX5_hasInt 1 = .ok (.iload_n 1, 1) := by decide +kernel
theorem dX5_hasInt_2 : decode cX5_hasInt 2 = .ok (.invokevirtual 43, 3) := by decide +kernel
theorem dX5_hasInt_5 : decode cX5_hasInt 5 = .ok (.invokestatic 46, 3) := by decide +kernel
theorem dX5_hasInt_8 : decode cX5_hasInt 8 = .ok (.ireturn, 1) := by decide +kernel
theorem dX5_hasBytes_0 : decode cX5_hasBytes 0 = .ok (.aload_n 0, 1) := by decide +kernel
theorem dX5_hasBytes_1 : decode cX5_hasBytes 1 = .ok (.iload_n 1, 1) := by decide +kernel
theorem dX5_hasBytes_2 : decode cX5_hasBytes 2 = .ok (.invokevirtual 49, 3) := by decide +kernel
theorem dX5_hasBytes_5 : decode cX5_hasBytes 5 = .ok (.iconst 2, 1) := by decide +kernel
theorem dX5_hasBytes_6 : decode cX5_hasBytes 6 = .ok (.if_icmp .ne 7, 3) := by decide +kernel
theorem dX5_hasBytes_9 : decode cX5_hasBytes 9 = .ok (.iconst 1, 1) := by decide +kernel
theorem dX5_hasBytes_10 : decode cX5_hasBytes 10 = .ok (.goto 4, 3) := by decide +kernel
theorem dX5_hasBytes_13 : decode cX5_hasBytes 13 = .ok (.iconst 0, 1) := by decide +kernel
theorem dX5_hasBytes_14 : decode cX5_hasBytes 14 = .ok (.ireturn, 1) := by decide +kernel
theorem dX5_typeAt_0 : decode cX5_typeAt 0 = .ok (.iload_n 1, 1) := by decide +kernel
theorem dX5_typeAt_1 : decode cX5_typeAt 1 = .ok (.invokestatic 35, 3) := by decide +kernel
theorem dX5_typeAt_4 : decode cX5_typeAt 4 = .ok (.ifCond .eq 12, 3) := by decide +kernel
theorem dX5_typeAt_7 : decode cX5_typeAt 7 = .ok (.aload_n 0, 1) := by decide +kernel
theorem dX5_typeAt_8 : decode cX5_typeAt 8 = .ok (.getfield 15, 3) := by decide +kernel
theorem dX5_typeAt_11 : decode cX5_typeAt 11 = .ok (.iload_n 1, 1) := by decide +kernel
theorem dX5_typeAt_12 : decode cX5_typeAt 12 = .ok (.iaload, 1) := by decide +kernel
theorem dX5_typeAt_13 : decode cX5_typeAt 13 = .ok (.goto 4, 3) := by decide +kernel
theorem dX5_typeAt_16 : decode cX5_typeAt 16 = .ok (.iconst (-1), 1) := by decide +kernel
theorem dX5_typeAt_17 : decode cX5_typeAt 17 = .ok (.ireturn, 1) := by decide +kernel
theorem dX5_numberOf_0 : decode cX5_numberOf 0 = .ok (.aload_n 0, 1) := by decide +kernel
theorem dX5_numberOf_1 : decode cX5_numberOf 1 = .ok (.iload_n 1, 1) := by decide +kernel
theorem dX5_numberOf_2 : decode cX5_numberOf 2 = .ok (.invokevirtual 43, 3) := by decide +kernel
theorem dX5_numberOf_5 : decode cX5_numberOf 5 = .ok (.iconst 1, 1) := by decide +kernel
theorem dX5_numberOf_6 : decode cX5_numberOf 6 = .ok (.if_icmp .ne 14, 3) := by decide +kernel
theorem dX5_numberOf_9 : decode cX5_numberOf 9 = .ok (.iload_n 2, 1) := by decide +kernel
theorem dX5_numberOf_10 : decode cX5_numberOf 10 = .ok (.iconst 1, 1) := by decide +kernel
theorem dX5_numberOf_11 : decode cX5_numberOf 11 = .ok (.ishl, 1) := by decide +kernel
theorem dX5_numberOf_12 : decode cX5_numberOf 12 = .ok (.iload_n 2, 1) := by decide +kernel
theorem dX5_numberOf_13 : decode cX5_numberOf 13 = .ok (.bipush 31, 2) := by decide +kernel
theorem dX5_numberOf_15 : decode cX5_numberOf 15 = .ok (.ishr, 1) := by decide +kernel
theorem dX5_numberOf_16 : decode cX5_numberOf 16 = .ok (.ixor, 1) := by decide +kernel
theorem dX5_numberOf_17 : decode cX5_numberOf 17 = .ok (.goto 4, 3) := by decide +kernel
theorem dX5_numberOf_20 : decode cX5_numberOf 20 = .ok (.iload_n 2, 1) := by decide +kernel
theorem dX5_numberOf_21 : decode cX5_numberOf 21 = .ok (.ireturn, 1) := by decide +kernel
theorem dX5_valueOf_0 : decode cX5_valueOf 0 = .ok (.aload_n 0, 1) := by decide +kernel
theorem dX5_valueOf_1 : decode cX5_valueOf 1 = .ok (.iload_n 1, 1) := by decide +kernel
theorem dX5_valueOf_2 : decode cX5_valueOf 2 = .ok (.invokevirtual 43, 3) := by decide +kernel
theorem dX5_valueOf_5 : decode cX5_valueOf 5 = .ok (.iconst 1, 1) := by decide +kernel
theorem dX5_valueOf_6 : decode cX5_valueOf 6 = .ok (.if_icmp .ne 14, 3) := by decide +kernel
theorem dX5_valueOf_9 : decode cX5_valueOf 9 = .ok (.iload_n 2, 1) := by decide +kernel
theorem dX5_valueOf_10 : decode cX5_valueOf 10 = .ok (.iconst 1, 1) := by decide +kernel
theorem dX5_valueOf_11 : decode cX5_valueOf 11 = .ok (.iushr, 1) := by decide +kernel
theorem dX5_valueOf_12 : decode cX5_valueOf 12 = .ok (.iload_n 2, 1) := by decide +kernel
theorem dX5_valueOf_13 : decode cX5_valueOf 13 = .ok (.iconst 1, 1) := by decide +kernel
theorem dX5_valueOf_14 : decode cX5_valueOf 14 = .ok (.iand, 1) := by decide +kernel
theorem dX5_valueOf_15 : decode cX5_valueOf 15 = .ok (.ineg, 1) := by decide +kernel
theorem dX5_valueOf_16 : decode cX5_valueOf 16 = .ok (.ixor, 1) := by decide +kernel
theorem dX5_valueOf_17 : decode cX5_valueOf 17 = .ok (.goto 4, 3) := by decide +kernel
theorem dX5_valueOf_20 : decode cX5_valueOf 20 = .ok (.iload_n 2, 1) := by decide +kernel
theorem dX5_valueOf_21 : decode cX5_valueOf 21 = .ok (.ireturn, 1) := by decide +kernel
theorem dX5_isDefault_0 : decode cX5_isDefault 0 = .ok (.aload_n 0, 1) := by decide +kernel
theorem dX5_isDefault_1 : decode cX5_isDefault 1 = .ok (.iload_n 1, 1) := by decide +kernel
theorem dX5_isDefault_2 : decode cX5_isDefault 2 = .ok (.invokevirtual 52, 3) := by decide +kernel
theorem dX5_isDefault_5 : decode cX5_isDefault 5 = .ok (.ifCond .eq 21, 3) := by decide +kernel
theorem dX5_isDefault_8 : decode cX5_isDefault 8 = .ok (.aload_n 0, 1) := by decide +kernel
theorem dX5_isDefault_9 : decode cX5_isDefault 9 = .ok (.iload_n 1, 1) := by decide +kernel
theorem dX5_isDefault_10 : decode cX5_isDefault 10 = .ok (.iload_n 2, 1) := by decide +kernel
theorem dX5_isDefault_11 : decode cX5_isDefault 11 = .ok (.invokevirtual 55, 3) := by decide +kernel
theorem dX5_isDefault_14 : decode cX5_isDefault 14 = .ok (.aload_n 0, 1) := by decide +kernel
theorem dX5_isDefault_15 : decode cX5_isDefault 15 = .ok (.iload_n 1, 1) := by decide +kernel
theorem dX5_isDefault_16 : decode cX5_isDefault 16 = .ok (.invokevirtual 59, 3) := by decide +kernel
theorem dX5_isDefault_19 : decode cX5_isDefault 19 = .ok (.if_icmp .ne 7, 3) := by decide +kernel
theorem dX5_isDefault_22 : decode cX5_isDefault 22 = .ok (.iconst 1, 1) := by decide +kernel
theorem dX5_isDefault_23 : decode cX5_isDefault 23 = .ok (.goto 4, 3) := by decide +kernel
theorem dX5_isDefault_26 : decode cX5_isDefault 26 = .ok (.iconst 0, 1) := by decide +kernel
theorem dX5_isDefault_27 : decode cX5_isDefault 27 = .ok (.ireturn, 1) := by decide +kernel
theorem dX5_differsAt_0 : decode cX5_differsAt 0 = .ok (.aload_n 0, 1) := by decide +kernel
theorem dX5_differsAt_1 : decode cX5_differsAt 1 = .ok (.iload_n 2, 1) := by decide +kernel
theorem dX5_differsAt_2 : decode cX5_differsAt 2 = .ok (.invokevirtual 43, 3) := by decide +kernel
theorem dX5_differsAt_5 : decode cX5_differsAt 5 = .ok (.istore_n 3, 1) := by decide +kernel
theorem dX5_differsAt_6 : decode cX5_differsAt 6 = .ok (.aload_n 1, 1) := by decide +kernel
theorem dX5_differsAt_7 : decode cX5_differsAt 7 = .ok (.iload_n 2, 1) := by decide +kernel
theorem dX5_differsAt_8 : decode cX5_differsAt 8 = .ok (.invokevirtual 43, 3) := by decide +kernel
theorem dX5_differsAt_11 : decode cX5_differsAt 11 = .ok (.istore 4, 2) := by decide +kernel
theorem dX5_differsAt_13 : decode cX5_differsAt 13 = .ok (.iload_n 3, 1) := by decide +kernel
theorem dX5_differsAt_14 : decode cX5_differsAt 14 = .ok (.iconst (-1), 1) := by decide +kernel
theorem dX5_differsAt_15 : decode cX5_differsAt 15 = .ok (.if_icmp .eq 13, 3) := by decide +kernel
theorem dX5_differsAt_18 : decode cX5_differsAt 18 = .ok (.iload 4, 2) := by decide +kernel
theorem dX5_differsAt_20 : decode cX5_differsAt 20 = .ok (.iconst (-1), 1) := by decide +kernel
theorem dX5_differsAt_21 : decode cX5_differsAt 21 = .ok (.if_icmp .eq 7, 3) := by decide +kernel
theorem dX5_differsAt_24 : decode cX5_differsAt 24 = .ok (.iconst 1, 1) := by decide +kernel
theorem dX5_differsAt_25 : decode cX5_differsAt 25 = .ok (.goto 4, 3) := by decide +kernel
theorem dX5_differsAt_28 : decode cX5_differsAt 28 = .ok (.iconst 0, 1) := by decide +kernel
theorem dX5_differsAt_29 : decode cX5_differsAt 29 = .ok (.istore 5, 2) := by decide +kernel
theorem dX5_differsAt_31 : decode cX5_differsAt 31 = .ok (.iload 5, 2) := by decide +kernel
theorem dX5_differsAt_33 : decode cX5_differsAt 33 = .ok (.ifCond .eq 28, 3) := by decide +kernel
theorem dX5_differsAt_36 : decode cX5_differsAt 36 = .ok (.iload_n 3, 1) := by decide +kernel
theorem dX5_differsAt_37 : decode cX5_differsAt 37 = .ok (.iload 4, 2) := by decide +kernel
theorem dX5_differsAt_39 : decode cX5_differsAt 39 = .ok (.if_icmp .eq 22, 3) := by decide +kernel
theorem dX5_differsAt_42 : decode cX5_differsAt 42 = .ok (.iload_n 3, 1) := by decide +kernel
theorem dX5_differsAt_43 : decode cX5_differsAt 43 = .ok (.invokestatic 46, 3) := by decide +kernel
theorem dX5_differsAt_46 : decode cX5_differsAt 46 = .ok (.ifCond .ne 11, 3) := by decide +kernel
theorem dX5_differsAt_49 : decode cX5_differsAt 49 = .ok (.iload 4, 2) := by decide +kernel
theorem dX5_differsAt_51 : decode cX5_differsAt 51 = .ok (.invokestatic 46, 3) := by decide +kernel
theorem dX5_differsAt_54 : decode cX5_differsAt 54 = .ok (.ifCond .eq 7, 3) := by decide +kernel
theorem dX5_differsAt_57 : decode cX5_differsAt 57 = .ok (.iconst 1, 1) := by decide +kernel
theorem dX5_differsAt_58 : decode cX5_differsAt 58 = .ok (.goto 4, 3) := by decide +kernel
theorem dX5_differsAt_61 : decode cX5_differsAt 61 = .ok (.iconst 0, 1) := by decide +kernel
theorem dX5_differsAt_62 : decode cX5_differsAt 62 = .ok (.ireturn, 1) := by decide +kernel
theorem dX5_typeOfKind_0 : decode cX5_typeOfKind 0 = .ok (.iload_n 0, 1) := by decide +kernel
theorem dX5_typeOfKind_1 : decode cX5_typeOfKind 1 = .ok (.iconst 3, 1) := by decide +kernel
theorem dX5_typeOfKind_2 : decode cX5_typeOfKind 2 = .ok (.if_icmp .eq 8, 3) := by decide +kernel
theorem dX5_typeOfKind_5 : decode cX5_typeOfKind 5 = .ok (.iload_n 0, 1) := by decide +kernel
theorem dX5_typeOfKind_6 : decode cX5_typeOfKind 6 = .ok (.iconst 4, 1) := by decide +kernel
theorem dX5_typeOfKind_7 : decode cX5_typeOfKind 7 = .ok (.if_icmp .ne 5, 3) := by decide +kernel
theorem dX5_typeOfKind_10 : decode cX5_typeOfKind 10 = .ok (.iconst 2, 1) := by decide +kernel
theorem dX5_typeOfKind_11 : decode cX5_typeOfKind 11 = .ok (.ireturn, 1) := by decide +kernel
theorem dX5_typeOfKind_12 : decode cX5_typeOfKind 12 = .ok (.iload_n 0, 1) := by decide +kernel
theorem dX5_typeOfKind_13 : decode cX5_typeOfKind 13 = .ok (.ifCond .eq 8, 3) := by decide +kernel
theorem dX5_typeOfKind_16 : decode cX5_typeOfKind 16 = .ok (.iload_n 0, 1) := by decide +kernel
theorem dX5_typeOfKind_17 : decode cX5_typeOfKind 17 = .ok (.iconst 1, 1) := by decide +kernel
theorem dX5_typeOfKind_18 : decode cX5_typeOfKind 18 = .ok (.if_icmp .ne 5, 3) := by decide +kernel
theorem dX5_typeOfKind_21 : decode cX5_typeOfKind 21 = .ok (.iconst 0, 1) := by decide +kernel
theorem dX5_typeOfKind_22 : decode cX5_typeOfKind 22 = .ok (.ireturn, 1) := by decide +kernel
theorem dX5_typeOfKind_23 : decode cX5_typeOfKind 23 = .ok (.iload_n 0, 1) := by decide +kernel
theorem dX5_typeOfKind_24 : decode cX5_typeOfKind 24 = .ok (.iconst 2, 1) := by decide +kernel
theorem dX5_typeOfKind_25 : decode cX5_typeOfKind 25 = .ok (.if_icmp .ne 7, 3) := by decide +kernel
theorem dX5_typeOfKind_28 : decode cX5_typeOfKind 28 = .ok (.iconst 5, 1) := by decide +kernel
theorem dX5_typeOfKind_29 : decode cX5_typeOfKind 29 = .ok (.goto 4, 3) := by decide +kernel
theorem dX5_typeOfKind_32 : decode cX5_typeOfKind 32 = .ok (.iconst (-1), 1) := by decide +kernel
theorem dX5_typeOfKind_33 : decode cX5_typeOfKind 33 = .ok (.ireturn, 1) := by decide +kernel
theorem dX5_isIntKind_0 : decode cX5_isIntKind 0 = .ok (.iload_n 0, 1) := by decide +kernel
theorem dX5_isIntKind_1 : decode cX5_isIntKind 1 = .ok (.ifCond .eq 13, 3) := by decide +kernel
theorem dX5_isIntKind_4 : decode cX5_isIntKind 4 = .ok (.iload_n 0, 1) := by decide +kernel
theorem dX5_isIntKind_5 : decode cX5_isIntKind 5 = .ok (.iconst 1, 1) := by decide +kernel
theorem dX5_isIntKind_6 : decode cX5_isIntKind 6 = .ok (.if_icmp .eq 8, 3) := by decide +kernel
theorem dX5_isIntKind_9 : decode cX5_isIntKind 9 = .ok (.iload_n 0, 1) := by decide +kernel
theorem dX5_isIntKind_10 : decode cX5_isIntKind 10 = .ok (.iconst 2, 1) := by decide +kernel
theorem dX5_isIntKind_11 : decode cX5_isIntKind 11 = .ok (.if_icmp .ne 7, 3) := by decide +kernel
theorem dX5_isIntKind_14 : decode cX5_isIntKind 14 = .ok (.iconst 1, 1) := by decide +kernel
theorem dX5_isIntKind_15 : decode cX5_isIntKind 15 = .ok (.goto 4, 3) := by decide +kernel
theorem dX5_isIntKind_18 : decode cX5_isIntKind 18 = .ok (.iconst 0, 1) := by decide +kernel
theorem dX5_isIntKind_19 : decode cX5_isIntKind 19 = .ok (.ireturn, 1) := by decide +kernel
theorem dX6_init_0 : decode cX6_init 0 = .ok (.aload_n 0, 1) := by decide +kernel
theorem dX6_init_1 : decode cX6_init 1 = .ok (.invokespecial 1, 3) := by decide +kernel
theorem dX6_init_4 : decode cX6_init 4 = .ok (.aload_n 0, 1) := by decide +kernel
theorem dX6_init_5 : decode cX6_init 5 = .ok (.bipush 6, 2) := by decide +kernel
theorem dX6_init_7 : decode cX6_init 7 = .ok (.anewarray 9, 3) := by decide +kernel
theorem dX6_init_10 : decode cX6_init 10 = .ok (.putfield 11, 3) := by decide +kernel
theorem dX6_init_13 : decode cX6_init 13 = .ok (.aload_n 0, 1) := by decide +kernel
theorem dX6_init_14 : decode cX6_init 14 = .ok (.bipush 12, 2) := by decide +kernel
theorem dX6_init_16 : decode cX6_init 16 = .ok (.anewarray 15, 3) := by decide +kernel
theorem dX6_init_19 : decode cX6_init 19 = .ok (.putfield 17, 3) := by decide +kernel
theorem dX6_init_22 : decode cX6_init 22 = .ok (.aload_n 0, 1) := by decide +kernel
theorem dX6_init_23 : decode cX6_init 23 = .ok (.new 21, 3) := by decide +kernel
theorem dX6_init_26 : decode cX6_init 26 = .ok (.dup, 1) := by decide +kernel
theorem dX6_init_27 : decode cX6_init 27 = .ok (.invokespecial 23, 3) := by decide +kernel
theorem dX6_init_30 : decode cX6_init 30 = .ok (.putfield 24, 3) := by decide +kernel
theorem dX6_init_33 : decode cX6_init 33 = .ok (.aload_n 0, 1) := by decide +kernel
theorem dX6_init_34 : decode cX6_init 34 = .ok (.new 28, 3) := by decide +kernel
theorem dX6_init_37 : decode cX6_init 37 = .ok (.dup, 1) := by decide +kernel
theorem dX6_init_38 : decode cX6_init 38 = .ok (.invokespecial 30, 3) := by decide +kernel
theorem dX6_init_41 : decode cX6_init 41 = .ok (.putfield 31, 3) := by decide +kernel
theorem dX6_init_44 : decode cX6_init 44 = .ok (.aload_n 0, 1) := by decide +kernel
theorem dX6_init_45 : decode cX6_init 45 = .ok (.new 35, 3) := by decide +kernel
theorem dX6_init_48 : decode cX6_init 48 = .ok (.dup, 1) := by decide +kernel
theorem dX6_init_49 : decode cX6_init 49 = .ok (.invokespecial 37, 3) := by decide +kernel
theorem dX6_init_52 : decode cX6_init 52 = .ok (.putfield 38, 3) := by decide +kernel
theorem dX6_init_55 : decode cX6_init 55 = .ok (.aload_n 0, 1) := by decide +kernel
theorem dX6_init_56 : decode cX6_init 56 = .ok (.new 42, 3) := by decide +kernel
theorem dX6_init_59 : decode cX6_init 59 = .ok (.dup, 1) := by decide +kernel
theorem dX6_init_60 : decode cX6_init 60 = .ok (.invokespecial 44, 3) := by decide +kernel
theorem dX6_init_63 : decode cX6_init 63 = .ok (.putfield 45, 3) := by decide +kernel
theorem dX6_init_66 : decode cX6_init 66 = .ok (.aload_n 0, 1) := by decide +kernel
theorem dX6_init_67 : decode cX6_init 67 = .ok (.new 42, 3) := by decide +kernel
theorem dX6_init_70 : decode cX6_init 70 = .ok (.dup, 1) := by decide +kernel
theorem dX6_init_71 : decode cX6_init 71 = .ok (.invokespecial 44, 3) := by decide +kernel
theorem dX6_init_74 : decode cX6_init 74 = .ok (.putfield 49, 3) := by decide +kernel
theorem dX6_init_77 : decode cX6_init 77 = .ok (.aload_n 0, 1) := by decide +kernel
theorem dX6_init_78 : decode cX6_init 78 = .ok (.new 21, 3) := by decide +kernel
theorem dX6_init_81 : decode cX6_init 81 = .ok (.dup, 1) := by decide +kernel
theorem dX6_init_82 : decode cX6_init 82 = .ok (.invokespecial 23, 3) := by decide +kernel
theorem dX6_init_85 : decode cX6_init 85 = .ok (.putfield 52, 3) := by decide +kernel
theorem dX6_init_88 : decode cX6_init 88 = .ok (.aload_n 0, 1) := by decide +kernel
theorem dX6_init_89 : decode cX6_init 89 = .ok (.new 21, 3) := by decide +kernel
theorem dX6_init_92 : decode cX6_init 92 = .ok (.dup, 1) := by decide +kernel
theorem dX6_init_93 : decode cX6_init 93 = .ok (.invokespecial 23, 3) := by decide +kernel
theorem dX6_init_96 : decode cX6_init 96 = .ok (.putfield 55, 3) := by decide +kernel
theorem dX6_init_99 : decode cX6_init 99 = .ok (.aload_n 0, 1) := by decide +kernel
theorem dX6_init_100 : decode cX6_init 100 = .ok (.new 21, 3) := by decide +kernel
theorem dX6_init_103 : decode cX6_init 103 = .ok (.dup, 1) := by decide +kernel
theorem dX6_init_104 : decode cX6_init 104 = .ok (.invokespecial 23, 3) := by decide +kernel
theorem dX6_init_107 : decode cX6_init 107 = .ok (.putfield 58, 3) := by decide +kernel
theorem dX6_init_110 : decode cX6_init 110 = .ok (.return_, 1) := by decide +kernel
theorem dX6_addSchema_0 : decode cX6_addSchema 0 = .ok (.aload_n 0, 1) := by decide +kernel
theorem dX6_addSchema_1 : decode cX6_addSchema 1 = .ok (.getfield 61, 3) := by decide +kernel
theorem dX6_addSchema_4 : decode cX6_addSchema 4 = .ok (.istore_n 1, 1) := by decide +kernel
theorem dX6_addSchema_5 : decode cX6_addSchema 5 = .ok (.iload_n 1, 1) := by decide +kernel
theorem dX6_addSchema_6 : decode cX6_addSchema 6 = .ok (.ifCond .lt 12, 3) := by decide +kernel
theorem dX6_addSchema_9 : decode cX6_addSchema 9 = .ok (.iload_n 1, 1) := by decide +kernel
theorem dX6_addSchema_10 : decode cX6_addSchema 10 = .ok (.aload_n 0, 1) := by decide +kernel
theorem dX6_addSchema_11 : decode cX6_addSchema 11 = .ok (.getfield 11, 3) := by decide +kernel
theorem dX6_addSchema_14 : decode cX6_addSchema 14 = .ok (.arraylength, 1) := by decide +kernel
theorem dX6_addSchema_15 : decode cX6_addSchema 15 = .ok (.if_icmp .lt 13, 3) := by decide +kernel
theorem dX6_addSchema_18 : decode cX6_addSchema 18 = .ok (.new 65, 3) := by decide +kernel
theorem dX6_addSchema_21 : decode cX6_addSchema 21 = .ok (.dup, 1) := by decide +kernel
theorem dX6_addSchema_22 : decode cX6_addSchema 22 = .ok (.ldc 67, 2) := by decide +kernel
theorem dX6_addSchema_24 : decode cX6_addSchema 24 = .ok (.invokespecial 69, 3) := by decide +kernel
theorem dX6_addSchema_27 : decode cX6_addSchema 27 = .ok (.athrow, 1) := by decide +kernel
theorem dX6_addSchema_28 : decode cX6_addSchema 28 = .ok (.aload_n 0, 1) := by decide +kernel
theorem dX6_addSchema_29 : decode cX6_addSchema 29 = .ok (.getfield 11, 3) := by decide +kernel
theorem dX6_addSchema_32 : decode cX6_addSchema 32 = .ok (.iload_n 1, 1) := by decide +kernel
theorem dX6_addSchema_33 : decode cX6_addSchema 33 = .ok (.new 9, 3) := by decide +kernel
theorem dX6_addSchema_36 : decode cX6_addSchema 36 = .ok (.dup, 1) := by decide +kernel
theorem dX6_addSchema_37 : decode cX6_addSchema 37 = .ok (.iload_n 1, 1) := by decide +kernel
theorem dX6_addSchema_38 : decode cX6_addSchema 38 = .ok (.invokespecial 72, 3) := by decide +kernel
theorem dX6_addSchema_41 : decode cX6_addSchema 41 = .ok (.aastore, 1) := by decide +kernel
theorem dX6_addSchema_42 : decode cX6_addSchema 42 = .ok (.aload_n 0, 1) := by decide +kernel
theorem dX6_addSchema_43 : decode cX6_addSchema 43 = .ok (.dup, 1) := by decide +kernel
theorem dX6_addSchema_44 : decode cX6_addSchema 44 = .ok (.getfield 61, 3) := by decide +kernel
theorem dX6_addSchema_47 : decode cX6_addSchema 47 = .ok (.iconst 1, 1) := by decide +kernel
theorem dX6_addSchema_48 : decode cX6_addSchema 48 = .ok (.iadd, 1) := by decide +kernel
theorem dX6_addSchema_49 : decode cX6_addSchema 49 = .ok (.putfield 61, 3) := by decide +kernel
theorem dX6_addSchema_52 : decode cX6_addSchema 52 = .ok (.iload_n 1, 1) := by decide +kernel
theorem dX6_addSchema_53 : decode cX6_addSchema 53 = .ok (.ireturn, 1) := by decide +kernel
theorem dX6_setKind_0 : decode cX6_setKind 0 = .ok (.aload_n 0, 1) := by decide +kernel
theorem dX6_setKind_1 : decode cX6_setKind 1 = .ok (.iload_n 1, 1) := by decide +kernel
theorem dX6_setKind_2 : decode cX6_setKind 2 = .ok (.invokevirtual 75, 3) := by decide +kernel
theorem dX6_setKind_5 : decode cX6_setKind 5 = .ok (.astore 5, 2) := by decide +kernel
theorem dX6_setKind_7 : decode cX6_setKind 7 = .ok (.iload_n 3, 1) := by decide +kernel
theorem dX6_setKind_8 : decode cX6_setKind 8 = .ok (.iconst 4, 1) := by decide +kernel
theorem dX6_setKind_9 : decode cX6_setKind 9 = .ok (.if_icmp .ne 12, 3) := by decide +kernel
theorem dX6_setKind_12 : decode cX6_setKind 12 = .ok (.aload_n 0, 1) := by decide +kernel
theorem dX6_setKind_13 : decode cX6_setKind 13 = .ok (.iload 4, 2) := by decide +kernel
theorem dX6_setKind_15 : decode cX6_setKind 15 = .ok (.invokevirtual 75, 3) := by decide +kernel
theorem dX6_setKind_18 : decode cX6_setKind 18 = .ok (.goto 4, 3) := by decide +kernel
theorem dX6_setKind_21 : decode cX6_setKind 21 = .ok (.aconst_null, 1) := by decide +kernel
theorem dX6_setKind_22 : decode cX6_setKind 22 = .ok (.astore 6, 2) := by decide +kernel
theorem dX6_setKind_24 : decode cX6_setKind 24 = .ok (.iload_n 2, 1) := by decide +kernel
theorem dX6_setKind_25 : decode cX6_setKind 25 = .ok (.invokestatic 79, 3) := by decide +kernel
theorem dX6_setKind_28 : decode cX6_setKind 28 = .ok (.iload_n 3, 1) := by decide +kernel
theorem dX6_setKind_29 : decode cX6_setKind 29 = .ok (.ifCond .lt 8, 3) := by decide +kernel
theorem dX6_setKind_32 : decode cX6_setKind 32 = .ok (.iload_n 3, 1) := by decide +kernel
theorem dX6_setKind_33 : decode cX6_setKind 33 = .ok (.iconst 4, 1) := by decide +kernel
theorem dX6_setKind_34 : decode cX6_setKind 34 = .ok (.if_icmp .le 13, 3) := by decide +kernel
theorem dX6_setKind_37 : decode cX6_setKind 37 = .ok (.new 82, 3) := by decide +kernel
theorem dX6_setKind_40 : decode cX6_setKind 40 = .ok (.dup, 1) := by decide +kernel
theorem dX6_setKind_41 : decode cX6_setKind 41 = .ok (.ldc 84, 2) := by decide +kernel
theorem dX6_setKind_43 : decode cX6_setKind 43 = .ok (.invokespecial 86, 3) := by decide +kernel
theorem dX6_setKind_46 : decode cX6_setKind 46 = .ok (.athrow, 1) := by decide +kernel
theorem dX6_setKind_47 : decode cX6_setKind 47 = .ok (.aload 5, 2) := by decide +kernel
theorem dX6_setKind_49 : decode cX6_setKind 49 = .ok (.iload_n 2, 1) := by decide +kernel
theorem dX6_setKind_50 : decode cX6_setKind 50 = .ok (.invokevirtual 87, 3) := by decide +kernel
theorem dX6_setKind_53 : decode cX6_setKind 53 = .ok (.istore 7, 2) := by decide +kernel
theorem dX6_setKind_55 : decode cX6_setKind 55 = .ok (.aload 5, 2) := by decide +kernel
theorem dX6_setKind_57 : decode cX6_setKind 57 = .ok (.iload_n 2, 1) := by decide +kernel
theorem dX6_setKind_58 : decode cX6_setKind 58 = .ok (.iload_n 3, 1) := by decide +kernel
theorem dX6_setKind_59 : decode cX6_setKind 59 = .ok (.aload 6, 2) := by decide +kernel
theorem dX6_setKind_61 : decode cX6_setKind 61 = .ok (.invokevirtual 91, 3) := by decide +kernel
theorem dX6_setKind_64 : decode cX6_setKind 64 = .ok (.iload 7, 2) := by decide +kernel
theorem dX6_setKind_66 : decode cX6_setKind 66 = .ok (.ireturn, 1) := by decide +kernel
theorem dX6_dropKind_0 : decode cX6_dropKind 0 = .ok (.aload_n 0, 1) := by decide +kernel
theorem dX6_dropKind_1 : decode cX6_dropKind 1 = .ok (.iload_n 1, 1) := by decide +kernel
theorem dX6_dropKind_2 : decode cX6_dropKind 2 = .ok (.invokevirtual 75, 3) := by decide +kernel
theorem dX6_dropKind_5 : decode cX6_dropKind 5 = .ok (.astore_n 3, 1) := by decide +kernel
theorem dX6_dropKind_6 : decode cX6_dropKind 6 = .ok (.iload_n 2, 1) := by decide +kernel
theorem dX6_dropKind_7 : decode cX6_dropKind 7 = .ok (.invokestatic 79, 3) := by decide +kernel
theorem dX6_dropKind_10 : decode cX6_dropKind 10 = .ok (.aload_n 3, 1) := by decide +kernel
theorem dX6_dropKind_11 : decode cX6_dropKind 11 = .ok (.iload_n 2, 1) := by decide +kernel
theorem dX6_dropKind_12 : decode cX6_dropKind 12 = .ok (.invokevirtual 87, 3) := by decide +kernel
theorem dX6_dropKind_15 : decode cX6_dropKind 15 = .ok (.istore 4, 2) := by decide +kernel
theorem dX6_dropKind_17 : decode cX6_dropKind 17 = .ok (.aload_n 3, 1) := by decide +kernel
theorem dX6_dropKind_18 : decode cX6_dropKind 18 = .ok (.iload_n 2, 1) := by decide +kernel
theorem dX6_dropKind_19 : decode cX6_dropKind 19 = .ok (.iconst (-1), 1) := by decide +kernel
theorem dX6_dropKind_20 : decode cX6_dropKind 20 = .ok (.aconst_null, 1) := by decide +kernel
theorem dX6_dropKind_21 : decode cX6_dropKind 21 = .ok (.invokevirtual 91, 3) := by decide +kernel
theorem dX6_dropKind_24 : decode cX6_dropKind 24 = .ok (.iload 4, 2) := by decide +kernel
theorem dX6_dropKind_26 : decode cX6_dropKind 26 = .ok (.ireturn, 1) := by decide +kernel
theorem dX6_setDefault_0 : decode cX6_setDefault 0 = .ok (.aload_n 0, 1) := by decide +kernel
theorem dX6_setDefault_1 : decode cX6_setDefault 1 = .ok (.iload_n 1, 1) := by decide +kernel
theorem dX6_setDefault_2 : decode cX6_setDefault 2 = .ok (.invokevirtual 75, 3) := by decide +kernel
theorem dX6_setDefault_5 : decode cX6_setDefault 5 = .ok (.astore 4, 2) := by decide +kernel
theorem dX6_setDefault_7 : decode cX6_setDefault 7 = .ok (.iload_n 2, 1) := by decide +kernel
theorem dX6_setDefault_8 : decode cX6_setDefault 8 = .ok (.invokestatic 79, 3) := by decide +kernel
theorem dX6_setDefault_11 : decode cX6_setDefault 11 = .ok (.aload 4, 2) := by decide +kernel
theorem dX6_setDefault_13 : decode cX6_setDefault 13 = .ok (.iload_n 2, 1) := by decide +kernel
theorem dX6_setDefault_14 : decode cX6_setDefault 14 = .ok (.invokevirtual 95, 3) := by decide +kernel
theorem dX6_setDefault_17 : decode cX6_setDefault 17 = .ok (.ifCond .ne 13, 3) := by decide +kernel
theorem dX6_setDefault_20 : decode cX6_setDefault 20 = .ok (.new 65, 3) := by decide +kernel
theorem dX6_setDefault_23 : decode cX6_setDefault 23 = .ok (.dup, 1) := by decide +kernel
theorem dX6_setDefault_24 : decode cX6_setDefault 24 = .ok (.ldc 99, 2) := by decide +kernel
theorem dX6_setDefault_26 : decode cX6_setDefault 26 = .ok (.invokespecial 69, 3) := by decide +kernel
theorem dX6_setDefault_29 : decode cX6_setDefault 29 = .ok (.athrow, 1) := by decide +kernel
theorem dX6_setDefault_30 : decode cX6_setDefault 30 = .ok (.aload 4, 2) := by decide +kernel
theorem dX6_setDefault_32 : decode cX6_setDefault 32 = .ok (.iload_n 2, 1) := by decide +kernel
theorem dX6_setDefault_33 : decode cX6_setDefault 33 = .ok (.invokevirtual 101, 3) := by decide +kernel
theorem dX6_setDefault_36 : decode cX6_setDefault 36 = .ok (.istore 5, 2) := by decide +kernel
theorem dX6_setDefault_38 : decode cX6_setDefault 38 = .ok (.aload 4, 2) := by decide +kernel
theorem dX6_setDefault_40 : decode cX6_setDefault 40 = .ok (.iload_n 2, 1) := by decide +kernel
theorem dX6_setDefault_41 : decode cX6_setDefault 41 = .ok (.iload_n 3, 1) := by decide +kernel
theorem dX6_setDefault_42 : decode cX6_setDefault 42 = .ok (.invokevirtual 104, 3) := by decide +kernel
theorem dX6_setDefault_45 : decode cX6_setDefault 45 = .ok (.iload 5, 2) := by decide +kernel
theorem dX6_setDefault_47 : decode cX6_setDefault 47 = .ok (.ireturn, 1) := by decide +kernel
theorem dX6_kindOf_0 : decode cX6_kindOf 0 = .ok (.aload_n 0, 1) := by decide +kernel
theorem dX6_kindOf_1 : decode cX6_kindOf 1 = .ok (.iload_n 1, 1) := by decide +kernel
theorem dX6_kindOf_2 : decode cX6_kindOf 2 = .ok (.invokevirtual 75, 3) := by decide +kernel
theorem dX6_kindOf_5 : decode cX6_kindOf 5 = .ok (.astore_n 3, 1) := by decide +kernel
theorem dX6_kindOf_6 : decode cX6_kindOf 6 = .ok (.iload_n 2, 1) := by decide +kernel
theorem dX6_kindOf_7 : decode cX6_kindOf 7 = .ok (.invokestatic 79, 3) := by decide +kernel
theorem dX6_kindOf_10 : decode cX6_kindOf 10 = .ok (.aload_n 3, 1) := by decide +kernel
theorem dX6_kindOf_11 : decode cX6_kindOf 11 = .ok (.iload_n 2, 1) := by decide +kernel
theorem dX6_kindOf_12 : decode cX6_kindOf 12 = .ok (.invokevirtual 87, 3) := by decide +kernel
theorem dX6_kindOf_15 : decode cX6_kindOf 15 = .ok (.ireturn, 1) := by decide +kernel
theorem dX6_conflict_0 : decode cX6_conflict 0 = .ok (.aload_n 0, 1) := by decide +kernel
theorem dX6_conflict_1 : decode cX6_conflict 1 = .ok (.getfield 31, 3) := by decide +kernel
theorem dX6_conflict_4 : decode cX6_conflict 4 = .ok (.aload_n 0, 1) := by decide +kernel
theorem dX6_conflict_5 : decode cX6_conflict 5 = .ok (.iload_n 1, 1) := by decide +kernel
theorem dX6_conflict_6 : decode cX6_conflict 6 = .ok (.invokevirtual 75, 3) := by decide +kernel
theorem dX6_conflict_9 : decode cX6_conflict 9 = .ok (.aload_n 0, 1) := by decide +kernel
theorem dX6_conflict_10 : decode cX6_conflict 10 = .ok (.iload_n 2, 1) := by decide +kernel
theorem dX6_conflict_11 : decode cX6_conflict 11 = .ok (.invokevirtual 75, 3) := by decide +kernel
theorem dX6_conflict_14 : decode cX6_conflict 14 = .ok (.invokevirtual 108, 3) := by decide +kernel
theorem dX6_conflict_17 : decode cX6_conflict 17 = .ok (.ireturn, 1) := by decide +kernel
theorem dX6_create_0 : decode cX6_create 0 = .ok (.aload_n 0, 1) := by decide +kernel
theorem dX6_create_1 : decode cX6_create 1 = .ok (.new 15, 3) := by decide +kernel
theorem dX6_create_4 : decode cX6_create 4 = .ok (.dup, 1) := by decide +kernel
theorem dX6_create_5 : decode cX6_create 5 = .ok (.aload_n 0, 1) := by decide +kernel
theorem dX6_create_6 : decode cX6_create 6 = .ok (.iload_n 1, 1) := by decide +kernel
theorem dX6_create_7 : decode cX6_create 7 = .ok (.invokevirtual 75, 3) := by decide +kernel
theorem dX6_create_10 : decode cX6_create 10 = .ok (.invokespecial 112, 3) := by decide +kernel
theorem dX6_create_13 : decode cX6_create 13 = .ok (.invokevirtual 115, 3) := by decide +kernel
theorem dX6_create_16 : decode cX6_create 16 = .ok (.ireturn, 1) := by decide +kernel
theorem dX6_copy_0 : decode cX6_copy 0 = .ok (.aload_n 0, 1) := by decide +kernel
theorem dX6_copy_1 : decode cX6_copy 1 = .ok (.iload_n 1, 1) := by decide +kernel
theorem dX6_copy_2 : decode cX6_copy 2 = .ok (.invokevirtual 119, 3) := by decide +kernel
theorem dX6_copy_5 : decode cX6_copy 5 = .ok (.astore_n 3, 1) := by decide +kernel
theorem dX6_copy_6 : decode cX6_copy 6 = .ok (.new 15, 3) := by decide +kernel
theorem dX6_copy_9 : decode cX6_copy 9 = .ok (.dup, 1) := by decide +kernel
theorem dX6_copy_10 : decode cX6_copy 10 = .ok (.aload_n 0, 1) := by decide +kernel
theorem dX6_copy_11 : decode cX6_copy 11 = .ok (.iload_n 2, 1) := by decide +kernel
theorem dX6_copy_12 : decode cX6_copy 12 = .ok (.invokevirtual 75, 3) := by decide +kernel
theorem dX6_copy_15 : decode cX6_copy 15 = .ok (.invokespecial 112, 3) := by decide +kernel
theorem dX6_copy_18 : decode cX6_copy 18 = .ok (.astore 4, 2) := by decide +kernel
theorem dX6_copy_20 : decode cX6_copy 20 = .ok (.aload 4, 2) := by decide +kernel
theorem dX6_copy_22 : decode cX6_copy 22 = .ok (.getfield 123, 3) := by decide +kernel
theorem dX6_copy_25 : decode cX6_copy 25 = .ok (.aload_n 3, 1) := by decide +kernel
theorem dX6_copy_26 : decode cX6_copy 26 = .ok (.getfield 123, 3) := by decide +kernel
theorem dX6_copy_29 : decode cX6_copy 29 = .ok (.invokevirtual 126, 3) := by decide +kernel
theorem dX6_copy_32 : decode cX6_copy 32 = .ok (.aload_n 0, 1) := by decide +kernel
theorem dX6_copy_33 : decode cX6_copy 33 = .ok (.aload 4, 2) := by decide +kernel
theorem dX6_copy_35 : decode cX6_copy 35 = .ok (.invokevirtual 115, 3) := by decide +kernel
theorem dX6_copy_38 : decode cX6_copy 38 = .ok (.ireturn, 1) := by decide +kernel
theorem dX6_discard_0 : decode cX6_discard 0 = .ok (.aload_n 0, 1) := by decide +kernel
theorem dX6_discard_1 : decode cX6_discard 1 = .ok (.aload_n 0, 1) := by decide +kernel
theorem dX6_discard_2 : decode cX6_discard 2 = .ok (.iload_n 1, 1) := by decide +kernel
theorem dX6_discard_3 : decode cX6_discard 3 = .ok (.invokevirtual 119, 3) := by decide +kernel
theorem dX6_discard_6 : decode cX6_discard 6 = .ok (.invokevirtual 130, 3) := by decide +kernel
theorem dX6_discard_9 : decode cX6_discard 9 = .ok (.invokevirtual 134, 3) := by decide +kernel
theorem dX6_discard_12 : decode cX6_discard 12 = .ok (.istore_n 2, 1) := by decide +kernel
theorem dX6_discard_13 : decode cX6_discard 13 = .ok (.aload_n 0, 1) := by decide +kernel
theorem dX6_discard_14 : decode cX6_discard 14 = .ok (.iload_n 1, 1) := by decide +kernel
theorem dX6_discard_15 : decode cX6_discard 15 = .ok (.invokevirtual 138, 3) := by decide +kernel
theorem dX6_discard_18 : decode cX6_discard 18 = .ok (.iload_n 2, 1) := by decide +kernel
theorem dX6_discard_19 : decode cX6_discard 19 = .ok (.ireturn, 1) := by decide +kernel
theorem dX6_set_0 : decode cX6_set 0 = .ok (.aload_n 0, 1) := by decide +kernel
theorem dX6_set_1 : decode cX6_set 1 = .ok (.iload_n 1, 1) := by decide +kernel
theorem dX6_set_2 : decode cX6_set 2 = .ok (.invokevirtual 119, 3) := by decide +kernel
theorem dX6_set_5 : decode cX6_set 5 = .ok (.astore 4, 2) := by decide +kernel
theorem dX6_set_7 : decode cX6_set 7 = .ok (.aload 4, 2) := by decide +kernel
theorem dX6_set_9 : decode cX6_set 9 = .ok (.getfield 141, 3) := by decide +kernel
theorem dX6_set_12 : decode cX6_set 12 = .ok (.iload_n 2, 1) := by decide +kernel
theorem dX6_set_13 : decode cX6_set 13 = .ok (.invokestatic 145, 3) := by decide +kernel
theorem dX6_set_16 : decode cX6_set 16 = .ok (.aload_n 0, 1) := by decide +kernel
theorem dX6_set_17 : decode cX6_set 17 = .ok (.aload_n 0, 1) := by decide +kernel
theorem dX6_set_18 : decode cX6_set 18 = .ok (.aload 4, 2) := by decide +kernel
theorem dX6_set_20 : decode cX6_set 20 = .ok (.invokevirtual 130, 3) := by decide +kernel
theorem dX6_set_23 : decode cX6_set 23 = .ok (.aload 4, 2) := by decide +kernel
theorem dX6_set_25 : decode cX6_set 25 = .ok (.getfield 141, 3) := by decide +kernel
theorem dX6_set_28 : decode cX6_set 28 = .ok (.iload_n 2, 1) := by decide +kernel
theorem dX6_set_29 : decode cX6_set 29 = .ok (.invokevirtual 149, 3) := by decide +kernel
theorem dX6_set_32 : decode cX6_set 32 = .ok (.aload_n 0, 1) := by decide +kernel
theorem dX6_set_33 : decode cX6_set 33 = .ok (.getfield 58, 3) := by decide +kernel
theorem dX6_set_36 : decode cX6_set 36 = .ok (.iload_n 2, 1) := by decide +kernel
theorem dX6_set_37 : decode cX6_set 37 = .ok (.aload 4, 2) := by decide +kernel
theorem dX6_set_39 : decode cX6_set 39 = .ok (.getfield 141, 3) := by decide +kernel
theorem dX6_set_42 : decode cX6_set 42 = .ok (.iload_n 2, 1) := by decide +kernel
theorem dX6_set_43 : decode cX6_set 43 = .ok (.invokevirtual 153, 3) := by decide +kernel
theorem dX6_set_46 : decode cX6_set 46 = .ok (.aload 4, 2) := by decide +kernel
theorem dX6_set_48 : decode cX6_set 48 = .ok (.getfield 141, 3) := by decide +kernel
theorem dX6_set_51 : decode cX6_set 51 = .ok (.iload_n 2, 1) := by decide +kernel
theorem dX6_set_52 : decode cX6_set 52 = .ok (.iload_n 3, 1) := by decide +kernel
theorem dX6_set_53 : decode cX6_set 53 = .ok (.invokevirtual 156, 3) := by decide +kernel
theorem dX6_set_56 : decode cX6_set 56 = .ok (.invokevirtual 160, 3) := by decide +kernel
theorem dX6_set_59 : decode cX6_set 59 = .ok (.aload_n 0, 1) := by decide +kernel
theorem dX6_set_60 : decode cX6_set 60 = .ok (.aload 4, 2) := by decide +kernel
theorem dX6_set_62 : decode cX6_set 62 = .ok (.invokevirtual 164, 3) := by decide +kernel
theorem dX6_set_65 : decode cX6_set 65 = .ok (.return_, 1) := by decide +kernel
theorem dX6_append_0 : decode cX6_append 0 = .ok (.aload_n 0, 1) := by decide +kernel
theorem dX6_append_1 : decode cX6_append 1 = .ok (.iload_n 1, 1) := by decide +kernel
theorem dX6_append_2 : decode cX6_append 2 = .ok (.invokevirtual 119, 3) := by decide +kernel
theorem dX6_append_5 : decode cX6_append 5 = .ok (.astore 4, 2) := by decide +kernel
theorem dX6_append_7 : decode cX6_append 7 = .ok (.aload 4, 2) := by decide +kernel
theorem dX6_append_9 : decode cX6_append 9 = .ok (.getfield 141, 3) := by decide +kernel
theorem dX6_append_12 : decode cX6_append 12 = .ok (.iload_n 2, 1) := by decide +kernel
theorem dX6_append_13 : decode cX6_append 13 = .ok (.invokestatic 168, 3) := by decide +kernel
theorem dX6_append_16 : decode cX6_append 16 = .ok (.aload_n 0, 1) := by decide +kernel
theorem dX6_append_17 : decode cX6_append 17 = .ok (.aload 4, 2) := by decide +kernel
theorem dX6_append_19 : decode cX6_append 19 = .ok (.invokevirtual 130, 3) := by decide +kernel
theorem dX6_append_22 : decode cX6_append 22 = .ok (.astore 5, 2) := by decide +kernel
theorem dX6_append_24 : decode cX6_append 24 = .ok (.aload 5, 2) := by decide +kernel
theorem dX6_append_26 : decode cX6_append 26 = .ok (.aload 4, 2) := by decide +kernel
theorem dX6_append_28 : decode cX6_append 28 = .ok (.getfield 141, 3) := by decide +kernel
theorem dX6_append_31 : decode cX6_append 31 = .ok (.iload_n 2, 1) := by decide +kernel
theorem dX6_append_32 : decode cX6_append 32 = .ok (.invokevirtual 171, 3) := by decide +kernel
theorem dX6_append_35 : decode cX6_append 35 = .ok (.istore 6, 2) := by decide +kernel
theorem dX6_append_37 : decode cX6_append 37 = .ok (.aload 5, 2) := by decide +kernel
theorem dX6_append_39 : decode cX6_append 39 = .ok (.iload 6, 2) := by decide +kernel
theorem dX6_append_41 : decode cX6_append 41 = .ok (.invokevirtual 175, 3) := by decide +kernel
theorem dX6_append_44 : decode cX6_append 44 = .ok (.iconst 1, 1) := by decide +kernel
theorem dX6_append_45 : decode cX6_append 45 = .ok (.iadd, 1) := by decide +kernel
theorem dX6_append_46 : decode cX6_append 46 = .ok (.istore 7, 2) := by decide +kernel
theorem dX6_append_48 : decode cX6_append 48 = .ok (.aload_n 0, 1) := by decide +kernel
theorem dX6_append_49 : decode cX6_append 49 = .ok (.aload 5, 2) := by decide +kernel
theorem dX6_append_51 : decode cX6_append 51 = .ok (.aload 4, 2) := by decide +kernel
theorem dX6_append_53 : decode cX6_append 53 = .ok (.getfield 141, 3) := by decide +kernel
theorem dX6_append_56 : decode cX6_append 56 = .ok (.iload_n 2, 1) := by decide +kernel
theorem dX6_append_57 : decode cX6_append 57 = .ok (.invokevirtual 149, 3) := by decide +kernel
theorem dX6_append_60 : decode cX6_append 60 = .ok (.aload_n 0, 1) := by decide +kernel
theorem dX6_append_61 : decode cX6_append 61 = .ok (.getfield 58, 3) := by decide +kernel
theorem dX6_append_64 : decode cX6_append 64 = .ok (.iload_n 2, 1) := by decide +kernel
theorem dX6_append_65 : decode cX6_append 65 = .ok (.iload 7, 2) := by decide +kernel
theorem dX6_append_67 : decode cX6_append 67 = .ok (.invokevirtual 178, 3) := by decide +kernel
theorem dX6_append_70 : decode cX6_append 70 = .ok (.aload_n 0, 1) := by decide +kernel
theorem dX6_append_71 : decode cX6_append 71 = .ok (.getfield 58, 3) := by decide +kernel
theorem dX6_append_74 : decode cX6_append 74 = .ok (.aload 4, 2) := by decide +kernel
theorem dX6_append_76 : decode cX6_append 76 = .ok (.getfield 123, 3) := by decide +kernel
theorem dX6_append_79 : decode cX6_append 79 = .ok (.aload 5, 2) := by decide +kernel
theorem dX6_append_81 : decode cX6_append 81 = .ok (.iload 6, 2) := by decide +kernel
theorem dX6_append_83 : decode cX6_append 83 = .ok (.invokevirtual 181, 3) := by decide +kernel
theorem dX6_append_86 : decode cX6_append 86 = .ok (.aload 5, 2) := by decide +kernel
theorem dX6_append_88 : decode cX6_append 88 = .ok (.iload 6, 2) := by decide +kernel
theorem dX6_append_90 : decode cX6_append 90 = .ok (.invokevirtual 184, 3) := by decide +kernel
theorem dX6_append_93 : decode cX6_append 93 = .ok (.invokevirtual 187, 3) := by decide +kernel
theorem dX6_append_96 : decode cX6_append 96 = .ok (.aload_n 0, 1) := by decide +kernel
theorem dX6_append_97 : decode cX6_append 97 = .ok (.getfield 58, 3) := by decide +kernel
theorem dX6_append_100 : decode cX6_append 100 = .ok (.iload_n 3, 1) := by decide +kernel
theorem dX6_append_101 : decode cX6_append 101 = .ok (.invokevirtual 191, 3) := by decide +kernel
theorem dX6_append_104 : decode cX6_append 104 = .ok (.aload_n 0, 1) := by decide +kernel
theorem dX6_append_105 : decode cX6_append 105 = .ok (.aload 4, 2) := by decide +kernel
theorem dX6_append_107 : decode cX6_append 107 = .ok (.invokevirtual 164, 3) := by decide +kernel
theorem dX6_append_110 : decode cX6_append 110 = .ok (.iload 7, 2) := by decide +kernel
theorem dX6_append_112 : decode cX6_append 112 = .ok (.ireturn, 1) := by decide +kernel
theorem dX6_setPart_0 : decode cX6_setPart 0 = .ok (.aload_n 0, 1) := by decide +kernel
theorem dX6_setPart_1 : decode cX6_setPart 1 = .ok (.iload_n 1, 1) := by decide +kernel
theorem dX6_setPart_2 : decode cX6_setPart 2 = .ok (.invokevirtual 119, 3) := by decide +kernel
theorem dX6_setPart_5 : decode cX6_setPart 5 = .ok (.astore 4, 2) := by decide +kernel
theorem dX6_setPart_7 : decode cX6_setPart 7 = .ok (.aload_n 0, 1) := by decide +kernel
theorem dX6_setPart_8 : decode cX6_setPart 8 = .ok (.iload_n 3, 1) := by decide +kernel
theorem dX6_setPart_9 : decode cX6_setPart 9 = .ok (.invokevirtual 119, 3) := by decide +kernel
theorem dX6_setPart_12 : decode cX6_setPart 12 = .ok (.astore 5, 2) := by decide +kernel
theorem dX6_setPart_14 : decode cX6_setPart 14 = .ok (.aload 4, 2) := by decide +kernel
theorem dX6_setPart_16 : decode cX6_setPart 16 = .ok (.getfield 141, 3) := by decide +kernel
theorem dX6_setPart_19 : decode cX6_setPart 19 = .ok (.iload_n 2, 1) := by decide +kernel
theorem dX6_setPart_20 : decode cX6_setPart 20 = .ok (.invokestatic 195, 3) := by decide +kernel
theorem dX6_setPart_23 : decode cX6_setPart 23 = .ok (.aload 5, 2) := by decide +kernel
theorem dX6_setPart_25 : decode cX6_setPart 25 = .ok (.getfield 141, 3) := by decide +kernel
theorem dX6_setPart_28 : decode cX6_setPart 28 = .ok (.if_acmp .eq 13, 3) := by decide +kernel
theorem dX6_setPart_31 : decode cX6_setPart 31 = .ok (.new 82, 3) := by decide +kernel
theorem dX6_setPart_34 : decode cX6_setPart 34 = .ok (.dup, 1) := by decide +kernel
theorem dX6_setPart_35 : decode cX6_setPart 35 = .ok (.ldc 199, 2) := by decide +kernel
theorem dX6_setPart_37 : decode cX6_setPart 37 = .ok (.invokespecial 86, 3) := by decide +kernel
theorem dX6_setPart_40 : decode cX6_setPart 40 = .ok (.athrow, 1) := by decide +kernel
theorem dX6_setPart_41 : decode cX6_setPart 41 = .ok (.aload_n 0, 1) := by decide +kernel
theorem dX6_setPart_42 : decode cX6_setPart 42 = .ok (.getfield 45, 3) := by decide +kernel
theorem dX6_setPart_45 : decode cX6_setPart 45 = .ok (.aload 5, 2) := by decide +kernel
theorem dX6_setPart_47 : decode cX6_setPart 47 = .ok (.getfield 123, 3) := by decide +kernel
theorem dX6_setPart_50 : decode cX6_setPart 50 = .ok (.aload 5, 2) := by decide +kernel
theorem dX6_setPart_52 : decode cX6_setPart 52 = .ok (.getfield 141, 3) := by decide +kernel
theorem dX6_setPart_55 : decode cX6_setPart 55 = .ok (.invokevirtual 201, 3) := by decide +kernel
theorem dX6_setPart_58 : decode cX6_setPart 58 = .ok (.aload_n 0, 1) := by decide +kernel
theorem dX6_setPart_59 : decode cX6_setPart 59 = .ok (.getfield 45, 3) := by decide +kernel
theorem dX6_setPart_62 : decode cX6_setPart 62 = .ok (.aload_n 0, 1) := by decide +kernel
theorem dX6_setPart_63 : decode cX6_setPart 63 = .ok (.getfield 52, 3) := by decide +kernel
theorem dX6_setPart_66 : decode cX6_setPart 66 = .ok (.invokevirtual 205, 3) := by decide +kernel
theorem dX6_setPart_69 : decode cX6_setPart 69 = .ok (.aload_n 0, 1) := by decide +kernel
theorem dX6_setPart_70 : decode cX6_setPart 70 = .ok (.aload_n 0, 1) := by decide +kernel
theorem dX6_setPart_71 : decode cX6_setPart 71 = .ok (.aload 4, 2) := by decide +kernel
theorem dX6_setPart_73 : decode cX6_setPart 73 = .ok (.invokevirtual 130, 3) := by decide +kernel
theorem dX6_setPart_76 : decode cX6_setPart 76 = .ok (.aload 4, 2) := by decide +kernel
theorem dX6_setPart_78 : decode cX6_setPart 78 = .ok (.getfield 141, 3) := by decide +kernel
theorem dX6_setPart_81 : decode cX6_setPart 81 = .ok (.iload_n 2, 1) := by decide +kernel
theorem dX6_setPart_82 : decode cX6_setPart 82 = .ok (.invokevirtual 149, 3) := by decide +kernel
theorem dX6_setPart_85 : decode cX6_setPart 85 = .ok (.aload_n 0, 1) := by decide +kernel
theorem dX6_setPart_86 : decode cX6_setPart 86 = .ok (.getfield 58, 3) := by decide +kernel
theorem dX6_setPart_89 : decode cX6_setPart 89 = .ok (.iload_n 2, 1) := by decide +kernel
theorem dX6_setPart_90 : decode cX6_setPart 90 = .ok (.aload_n 0, 1) := by decide +kernel
theorem dX6_setPart_91 : decode cX6_setPart 91 = .ok (.getfield 52, 3) := by decide +kernel
theorem dX6_setPart_94 : decode cX6_setPart 94 = .ok (.invokevirtual 208, 3) := by decide +kernel
theorem dX6_setPart_97 : decode cX6_setPart 97 = .ok (.invokevirtual 178, 3) := by decide +kernel
theorem dX6_setPart_100 : decode cX6_setPart 100 = .ok (.aload_n 0, 1) := by decide +kernel
theorem dX6_setPart_101 : decode cX6_setPart 101 = .ok (.getfield 58, 3) := by decide +kernel
theorem dX6_setPart_104 : decode cX6_setPart 104 = .ok (.aload_n 0, 1) := by decide +kernel
theorem dX6_setPart_105 : decode cX6_setPart 105 = .ok (.getfield 52, 3) := by decide +kernel
theorem dX6_setPart_108 : decode cX6_setPart 108 = .ok (.iconst 0, 1) := by decide +kernel
theorem dX6_setPart_109 : decode cX6_setPart 109 = .ok (.aload_n 0, 1) := by decide +kernel
theorem dX6_setPart_110 : decode cX6_setPart 110 = .ok (.getfield 52, 3) := by decide +kernel
theorem dX6_setPart_113 : decode cX6_setPart 113 = .ok (.invokevirtual 208, 3) := by decide +kernel
theorem dX6_setPart_116 : decode cX6_setPart 116 = .ok (.invokevirtual 187, 3) := by decide +kernel
theorem dX6_setPart_119 : decode cX6_setPart 119 = .ok (.aload_n 0, 1) := by decide +kernel
theorem dX6_setPart_120 : decode cX6_setPart 120 = .ok (.aload 4, 2) := by decide +kernel
theorem dX6_setPart_122 : decode cX6_setPart 122 = .ok (.invokevirtual 164, 3) := by decide +kernel
theorem dX6_setPart_125 : decode cX6_setPart 125 = .ok (.aload_n 0, 1) := by decide +kernel
theorem dX6_setPart_126 : decode cX6_setPart 126 = .ok (.getfield 52, 3) := by decide +kernel
theorem dX6_setPart_129 : decode cX6_setPart 129 = .ok (.invokevirtual 208, 3) := by decide +kernel
theorem dX6_setPart_132 : decode cX6_setPart 132 = .ok (.ireturn, 1) := by decide +kernel
theorem dX6_clear_0 : decode cX6_clear 0 = .ok (.aload_n 0, 1) := by decide +kernel
theorem dX6_clear_1 : decode cX6_clear 1 = .ok (.iload_n 1, 1) := by decide +kernel
theorem dX6_clear_2 : decode cX6_clear 2 = .ok (.invokevirtual 119, 3) := by decide +kernel
theorem dX6_clear_5 : decode cX6_clear 5 = .ok (.astore_n 3, 1) := by decide +kernel
theorem dX6_clear_6 : decode cX6_clear 6 = .ok (.iload_n 2, 1) := by decide +kernel
theorem dX6_clear_7 : decode cX6_clear 7 = .ok (.invokestatic 79, 3) := by decide +kernel
theorem dX6_clear_10 : decode cX6_clear 10 = .ok (.aload_n 0, 1) := by decide +kernel
theorem dX6_clear_11 : decode cX6_clear 11 = .ok (.aload_n 3, 1) := by decide +kernel
theorem dX6_clear_12 : decode cX6_clear 12 = .ok (.invokevirtual 130, 3) := by decide +kernel
theorem dX6_clear_15 : decode cX6_clear 15 = .ok (.astore 4, 2) := by decide +kernel
theorem dX6_clear_17 : decode cX6_clear 17 = .ok (.aload_n 0, 1) := by decide +kernel
theorem dX6_clear_18 : decode cX6_clear 18 = .ok (.getfield 58, 3) := by decide +kernel
theorem dX6_clear_21 : decode cX6_clear 21 = .ok (.iconst 0, 1) := by decide +kernel
theorem dX6_clear_22 : decode cX6_clear 22 = .ok (.invokevirtual 209, 3) := by decide +kernel
theorem dX6_clear_25 : decode cX6_clear 25 = .ok (.iconst 0, 1) := by decide +kernel
theorem dX6_clear_26 : decode cX6_clear 26 = .ok (.istore 5, 2) := by decide +kernel
theorem dX6_clear_28 : decode cX6_clear 28 = .ok (.iconst 0, 1) := by decide +kernel
theorem dX6_clear_29 : decode cX6_clear 29 = .ok (.istore 6, 2) := by decide +kernel
theorem dX6_clear_31 : decode cX6_clear 31 = .ok (.iload 6, 2) := by decide +kernel
theorem dX6_clear_33 : decode cX6_clear 33 = .ok (.aload 4, 2) := by decide +kernel
theorem dX6_clear_35 : decode cX6_clear 35 = .ok (.invokevirtual 134, 3) := by decide +kernel
theorem dX6_clear_38 : decode cX6_clear 38 = .ok (.if_icmp .ge 37, 3) := by decide +kernel
theorem dX6_clear_41 : decode cX6_clear 41 = .ok (.aload 4, 2) := by decide +kernel
theorem dX6_clear_43 : decode cX6_clear 43 = .ok (.iload 6, 2) := by decide +kernel
theorem dX6_clear_45 : decode cX6_clear 45 = .ok (.invokevirtual 212, 3) := by decide +kernel
theorem dX6_clear_48 : decode cX6_clear 48 = .ok (.iload_n 2, 1) := by decide +kernel
theorem dX6_clear_49 : decode cX6_clear 49 = .ok (.if_icmp .ne 9, 3) := by decide +kernel
theorem dX6_clear_52 : decode cX6_clear 52 = .ok (.iinc 5 1, 3) := by decide +kernel
theorem dX6_clear_55 : decode cX6_clear 55 = .ok (.goto 14, 3) := by decide +kernel
theorem dX6_clear_58 : decode cX6_clear 58 = .ok (.aload 4, 2) := by decide +kernel
theorem dX6_clear_60 : decode cX6_clear 60 = .ok (.aload_n 0, 1) := by decide +kernel
theorem dX6_clear_61 : decode cX6_clear 61 = .ok (.getfield 58, 3) := by decide +kernel
theorem dX6_clear_64 : decode cX6_clear 64 = .ok (.iload 6, 2) := by decide +kernel
theorem dX6_clear_66 : decode cX6_clear 66 = .ok (.invokevirtual 215, 3) := by decide +kernel
theorem dX6_clear_69 : decode cX6_clear 69 = .ok (.iinc 6 1, 3) := by decide +kernel
theorem dX6_clear_72 : decode cX6_clear 72 = .ok (.goto (-41), 3) := by decide +kernel
theorem dX6_clear_75 : decode cX6_clear 75 = .ok (.aload_n 3, 1) := by decide +kernel
theorem dX6_clear_76 : decode cX6_clear 76 = .ok (.getfield 123, 3) := by decide +kernel
theorem dX6_clear_79 : decode cX6_clear 79 = .ok (.aload_n 0, 1) := by decide +kernel
theorem dX6_clear_80 : decode cX6_clear 80 = .ok (.getfield 58, 3) := by decide +kernel
theorem dX6_clear_83 : decode cX6_clear 83 = .ok (.invokevirtual 126, 3) := by decide +kernel
theorem dX6_clear_86 : decode cX6_clear 86 = .ok (.iload 5, 2) := by decide +kernel
theorem dX6_clear_88 : decode cX6_clear 88 = .ok (.ireturn, 1) := by decide +kernel
theorem dX6_schemaOf_0 : decode cX6_schemaOf 0 = .ok (.aload_n 0, 1) := by decide +kernel
theorem dX6_schemaOf_1 : decode cX6_schemaOf 1 = .ok (.iload_n 1, 1) := by decide +kernel
theorem dX6_schemaOf_2 : decode cX6_schemaOf 2 = .ok (.invokevirtual 119, 3) := by decide +kernel
theorem dX6_schemaOf_5 : decode cX6_schemaOf 5 = .ok (.getfield 141, 3) := by decide +kernel
theorem dX6_schemaOf_8 : decode cX6_schemaOf 8 = .ok (.getfield 218, 3) := by decide +kernel
theorem dX6_schemaOf_11 : decode cX6_schemaOf 11 = .ok (.ireturn, 1) := by decide +kernel
theorem dX6_has_0 : decode cX6_has 0 = .ok (.aload_n 0, 1) := by decide +kernel
theorem dX6_has_1 : decode cX6_has 1 = .ok (.iload_n 1, 1) := by decide +kernel
theorem dX6_has_2 : decode cX6_has 2 = .ok (.invokevirtual 119, 3) := by decide +kernel
theorem dX6_has_5 : decode cX6_has 5 = .ok (.astore_n 3, 1) := by decide +kernel
theorem dX6_has_6 : decode cX6_has 6 = .ok (.iload_n 2, 1) := by decide +kernel
theorem dX6_has_7 : decode cX6_has 7 = .ok (.invokestatic 79, 3) := by decide +kernel
theorem dX6_has_10 : decode cX6_has 10 = .ok (.aload_n 0, 1) := by decide +kernel
theorem dX6_has_11 : decode cX6_has 11 = .ok (.aload_n 3, 1) := by decide +kernel
theorem dX6_has_12 : decode cX6_has 12 = .ok (.invokevirtual 130, 3) := by decide +kernel
theorem dX6_has_15 : decode cX6_has 15 = .ok (.aload_n 3, 1) := by decide +kernel
theorem dX6_has_16 : decode cX6_has 16 = .ok (.getfield 141, 3) := by decide +kernel
theorem dX6_has_19 : decode cX6_has 19 = .ok (.iload_n 2, 1) := by decide +kernel
theorem dX6_has_20 : decode cX6_has 20 = .ok (.invokevirtual 171, 3) := by decide +kernel
theorem dX6_has_23 : decode cX6_has 23 = .ok (.iconst (-1), 1) := by decide +kernel
theorem dX6_has_24 : decode cX6_has 24 = .ok (.if_icmp .eq 7, 3) := by decide +kernel
theorem dX6_has_27 : decode cX6_has 27 = .ok (.iconst 1, 1) := by decide +kernel
theorem dX6_has_28 : decode cX6_has 28 = .ok (.goto 4, 3) := by decide +kernel
theorem dX6_has_31 : decode cX6_has 31 = .ok (.iconst 0, 1) := by decide +kernel
theorem dX6_has_32 : decode cX6_has 32 = .ok (.ireturn, 1) := by decide +kernel
theorem dX6_get_0 : decode cX6_get 0 = .ok (.aload_n 0, 1) := by decide +kernel
theorem dX6_get_1 : decode cX6_get 1 = .ok (.iload_n 1, 1) := by decide +kernel
theorem dX6_get_2 : decode cX6_get 2 = .ok (.invokevirtual 119, 3) := by decide +kernel
theorem dX6_get_5 : decode cX6_get 5 = .ok (.astore_n 3, 1) := by decide +kernel
theorem dX6_get_6 : decode cX6_get 6 = .ok (.aload_n 3, 1) := by decide +kernel
theorem dX6_get_7 : decode cX6_get 7 = .ok (.getfield 141, 3) := by decide +kernel
theorem dX6_get_10 : decode cX6_get 10 = .ok (.iload_n 2, 1) := by decide +kernel
theorem dX6_get_11 : decode cX6_get 11 = .ok (.invokestatic 145, 3) := by decide +kernel
theorem dX6_get_14 : decode cX6_get 14 = .ok (.aload_n 0, 1) := by decide +kernel
theorem dX6_get_15 : decode cX6_get 15 = .ok (.aload_n 3, 1) := by decide +kernel
theorem dX6_get_16 : decode cX6_get 16 = .ok (.invokevirtual 130, 3) := by decide +kernel
theorem dX6_get_19 : decode cX6_get 19 = .ok (.astore 4, 2) := by decide +kernel
theorem dX6_get_21 : decode cX6_get 21 = .ok (.aload 4, 2) := by decide +kernel
theorem dX6_get_23 : decode cX6_get 23 = .ok (.aload_n 3, 1) := by decide +kernel
theorem dX6_get_24 : decode cX6_get 24 = .ok (.getfield 141, 3) := by decide +kernel
theorem dX6_get_27 : decode cX6_get 27 = .ok (.iload_n 2, 1) := by decide +kernel
theorem dX6_get_28 : decode cX6_get 28 = .ok (.invokevirtual 171, 3) := by decide +kernel
theorem dX6_get_31 : decode cX6_get 31 = .ok (.istore 5, 2) := by decide +kernel
theorem dX6_get_33 : decode cX6_get 33 = .ok (.iload 5, 2) := by decide +kernel
theorem dX6_get_35 : decode cX6_get 35 = .ok (.iconst (-1), 1) := by decide +kernel
theorem dX6_get_36 : decode cX6_get 36 = .ok (.if_icmp .ne 14, 3) := by decide +kernel
theorem dX6_get_39 : decode cX6_get 39 = .ok (.aload_n 3, 1) := by decide +kernel
theorem dX6_get_40 : decode cX6_get 40 = .ok (.getfield 141, 3) := by decide +kernel
theorem dX6_get_43 : decode cX6_get 43 = .ok (.iload_n 2, 1) := by decide +kernel
theorem dX6_get_44 : decode cX6_get 44 = .ok (.invokevirtual 101, 3) := by decide +kernel
theorem dX6_get_47 : decode cX6_get 47 = .ok (.goto 18, 3) := by decide +kernel
theorem dX6_get_50 : decode cX6_get 50 = .ok (.aload_n 3, 1) := by decide +kernel
theorem dX6_get_51 : decode cX6_get 51 = .ok (.getfield 141, 3) := by decide +kernel
theorem dX6_get_54 : decode cX6_get 54 = .ok (.iload_n 2, 1) := by decide +kernel
theorem dX6_get_55 : decode cX6_get 55 = .ok (.aload 4, 2) := by decide +kernel
theorem dX6_get_57 : decode cX6_get 57 = .ok (.iload 5, 2) := by decide +kernel
theorem dX6_get_59 : decode cX6_get 59 = .ok (.invokevirtual 221, 3) := by decide +kernel
theorem dX6_get_62 : decode cX6_get 62 = .ok (.invokevirtual 224, 3) := by decide +kernel
theorem dX6_get_65 : decode cX6_get 65 = .ok (.ireturn, 1) := by decide +kernel
theorem dX6_byteOf_0 : decode cX6_byteOf 0 = .ok (.aload_n 0, 1) := by decide +kernel
theorem dX6_byteOf_1 : decode cX6_byteOf 1 = .ok (.iload_n 1, 1) := by decide +kernel
theorem dX6_byteOf_2 : decode cX6_byteOf 2 = .ok (.invokevirtual 119, 3) := by decide +kernel
theorem dX6_byteOf_5 : decode cX6_byteOf 5 = .ok (.astore 4, 2) := by decide +kernel
theorem dX6_byteOf_7 : decode cX6_byteOf 7 = .ok (.aload 4, 2) := by decide +kernel
theorem dX6_byteOf_9 : decode cX6_byteOf 9 = .ok (.getfield 141, 3) := by decide +kernel
theorem dX6_byteOf_12 : decode cX6_byteOf 12 = .ok (.iload_n 2, 1) := by decide +kernel
theorem dX6_byteOf_13 : decode cX6_byteOf 13 = .ok (.invokestatic 168, 3) := by decide +kernel
theorem dX6_byteOf_16 : decode cX6_byteOf 16 = .ok (.aload_n 0, 1) := by decide +kernel
theorem dX6_byteOf_17 : decode cX6_byteOf 17 = .ok (.aload 4, 2) := by decide +kernel
theorem dX6_byteOf_19 : decode cX6_byteOf 19 = .ok (.invokevirtual 130, 3) := by decide +kernel
theorem dX6_byteOf_22 : decode cX6_byteOf 22 = .ok (.astore 5, 2) := by decide +kernel
theorem dX6_byteOf_24 : decode cX6_byteOf 24 = .ok (.aload 5, 2) := by decide +kernel
theorem dX6_byteOf_26 : decode cX6_byteOf 26 = .ok (.aload 4, 2) := by decide +kernel
theorem dX6_byteOf_28 : decode cX6_byteOf 28 = .ok (.getfield 141, 3) := by decide +kernel
theorem dX6_byteOf_31 : decode cX6_byteOf 31 = .ok (.iload_n 2, 1) := by decide +kernel
theorem dX6_byteOf_32 : decode cX6_byteOf 32 = .ok (.invokestatic 227, 3) := by decide +kernel
theorem dX6_byteOf_35 : decode cX6_byteOf 35 = .ok (.istore 6, 2) := by decide +kernel
theorem dX6_byteOf_37 : decode cX6_byteOf 37 = .ok (.iload_n 3, 1) := by decide +kernel
theorem dX6_byteOf_38 : decode cX6_byteOf 38 = .ok (.ifCond .lt 14, 3) := by decide +kernel
theorem dX6_byteOf_41 : decode cX6_byteOf 41 = .ok (.iload_n 3, 1) := by decide +kernel
theorem dX6_byteOf_42 : decode cX6_byteOf 42 = .ok (.aload 5, 2) := by decide +kernel
theorem dX6_byteOf_44 : decode cX6_byteOf 44 = .ok (.iload 6, 2) := by decide +kernel
theorem dX6_byteOf_46 : decode cX6_byteOf 46 = .ok (.invokevirtual 175, 3) := by decide +kernel
theorem dX6_byteOf_49 : decode cX6_byteOf 49 = .ok (.if_icmp .lt 13, 3) := by decide +kernel
theorem dX6_byteOf_52 : decode cX6_byteOf 52 = .ok (.new 231, 3) := by decide +kernel
theorem dX6_byteOf_55 : decode cX6_byteOf 55 = .ok (.dup, 1) := by decide +kernel
theorem dX6_byteOf_56 : decode cX6_byteOf 56 = .ok (.ldc 233, 2) := by decide +kernel
theorem dX6_byteOf_58 : decode cX6_byteOf 58 = .ok (.invokespecial 235, 3) := by decide +kernel
theorem dX6_byteOf_61 : decode cX6_byteOf 61 = .ok (.athrow, 1) := by decide +kernel
theorem dX6_byteOf_62 : decode cX6_byteOf 62 = .ok (.aload 4, 2) := by decide +kernel
theorem dX6_byteOf_64 : decode cX6_byteOf 64 = .ok (.getfield 123, 3) := by decide +kernel
theorem dX6_byteOf_67 : decode cX6_byteOf 67 = .ok (.aload 5, 2) := by decide +kernel
theorem dX6_byteOf_69 : decode cX6_byteOf 69 = .ok (.iload 6, 2) := by decide +kernel
theorem dX6_byteOf_71 : decode cX6_byteOf 71 = .ok (.invokevirtual 181, 3) := by decide +kernel
theorem dX6_byteOf_74 : decode cX6_byteOf 74 = .ok (.iload_n 3, 1) := by decide +kernel
theorem dX6_byteOf_75 : decode cX6_byteOf 75 = .ok (.iadd, 1) := by decide +kernel
theorem dX6_byteOf_76 : decode cX6_byteOf 76 = .ok (.invokevirtual 236, 3) := by decide +kernel
theorem dX6_byteOf_79 : decode cX6_byteOf 79 = .ok (.ireturn, 1) := by decide +kernel
theorem dX6_open_0 : decode cX6_open 0 = .ok (.aload_n 0, 1) := by decide +kernel
theorem dX6_open_1 : decode cX6_open 1 = .ok (.iload_n 1, 1) := by decide +kernel
theorem dX6_open_2 : decode cX6_open 2 = .ok (.invokevirtual 119, 3) := by decide +kernel
theorem dX6_open_5 : decode cX6_open 5 = .ok (.astore_n 3, 1) := by decide +kernel
theorem dX6_open_6 : decode cX6_open 6 = .ok (.aload_n 3, 1) := by decide +kernel
theorem dX6_open_7 : decode cX6_open 7 = .ok (.getfield 141, 3) := by decide +kernel
theorem dX6_open_10 : decode cX6_open 10 = .ok (.iload_n 2, 1) := by decide +kernel
theorem dX6_open_11 : decode cX6_open 11 = .ok (.invokestatic 195, 3) := by decide +kernel
theorem dX6_open_14 : decode cX6_open 14 = .ok (.astore 4, 2) := by decide +kernel
theorem dX6_open_16 : decode cX6_open 16 = .ok (.aload_n 0, 1) := by decide +kernel
theorem dX6_open_17 : decode cX6_open 17 = .ok (.aload_n 3, 1) := by decide +kernel
theorem dX6_open_18 : decode cX6_open 18 = .ok (.invokevirtual 130, 3) := by decide +kernel
theorem dX6_open_21 : decode cX6_open 21 = .ok (.astore 5, 2) := by decide +kernel
theorem dX6_open_23 : decode cX6_open 23 = .ok (.aload 5, 2) := by decide +kernel
theorem dX6_open_25 : decode cX6_open 25 = .ok (.aload_n 3, 1) := by decide +kernel
theorem dX6_open_26 : decode cX6_open 26 = .ok (.getfield 141, 3) := by decide +kernel
theorem dX6_open_29 : decode cX6_open 29 = .ok (.iload_n 2, 1) := by decide +kernel
theorem dX6_open_30 : decode cX6_open 30 = .ok (.invokestatic 227, 3) := by decide +kernel
theorem dX6_open_33 : decode cX6_open 33 = .ok (.istore 6, 2) := by decide +kernel
theorem dX6_open_35 : decode cX6_open 35 = .ok (.aload_n 0, 1) := by decide +kernel
theorem dX6_open_36 : decode cX6_open 36 = .ok (.aload_n 3, 1) := by decide +kernel
theorem dX6_open_37 : decode cX6_open 37 = .ok (.getfield 123, 3) := by decide +kernel
theorem dX6_open_40 : decode cX6_open 40 = .ok (.aload 5, 2) := by decide +kernel
theorem dX6_open_42 : decode cX6_open 42 = .ok (.iload 6, 2) := by decide +kernel
theorem dX6_open_44 : decode cX6_open 44 = .ok (.invokevirtual 181, 3) := by decide +kernel
theorem dX6_open_47 : decode cX6_open 47 = .ok (.aload 5, 2) := by decide +kernel
theorem dX6_open_49 : decode cX6_open 49 = .ok (.iload 6, 2) := by decide +kernel
theorem dX6_open_51 : decode cX6_open 51 = .ok (.invokevirtual 184, 3) := by decide +kernel
theorem dX6_open_54 : decode cX6_open 54 = .ok (.invokevirtual 240, 3) := by decide +kernel
theorem dX6_open_57 : decode cX6_open 57 = .ok (.astore 7, 2) := by decide +kernel
theorem dX6_open_59 : decode cX6_open 59 = .ok (.aload 7, 2) := by decide +kernel
theorem dX6_open_61 : decode cX6_open 61 = .ok (.invokevirtual 244, 3) := by decide +kernel
theorem dX6_open_64 : decode cX6_open 64 = .ok (.ifCond .eq 13, 3) := by decide +kernel
theorem dX6_open_67 : decode cX6_open 67 = .ok (.new 65, 3) := by decide +kernel
theorem dX6_open_70 : decode cX6_open 70 = .ok (.dup, 1) := by decide +kernel
theorem dX6_open_71 : decode cX6_open 71 = .ok (.ldc 247, 2) := by decide +kernel
theorem dX6_open_73 : decode cX6_open 73 = .ok (.invokespecial 69, 3) := by decide +kernel
theorem dX6_open_76 : decode cX6_open 76 = .ok (.athrow, 1) := by decide +kernel
theorem dX6_open_77 : decode cX6_open 77 = .ok (.aload_n 0, 1) := by decide +kernel
theorem dX6_open_78 : decode cX6_open 78 = .ok (.aload 7, 2) := by decide +kernel
theorem dX6_open_80 : decode cX6_open 80 = .ok (.aload 4, 2) := by decide +kernel
theorem dX6_open_82 : decode cX6_open 82 = .ok (.invokestatic 249, 3) := by decide +kernel
theorem dX6_open_85 : decode cX6_open 85 = .ok (.invokevirtual 115, 3) := by decide +kernel
theorem dX6_open_88 : decode cX6_open 88 = .ok (.ireturn, 1) := by decide +kernel
theorem dX6_unknowns_0 : decode cX6_unknowns 0 = .ok (.aload_n 0, 1) := by decide +kernel
theorem dX6_unknowns_1 : decode cX6_unknowns 1 = .ok (.iload_n 1, 1) := by decide +kernel
theorem dX6_unknowns_2 : decode cX6_unknowns 2 = .ok (.invokevirtual 119, 3) := by decide +kernel
theorem dX6_unknowns_5 : decode cX6_unknowns 5 = .ok (.astore_n 2, 1) := by decide +kernel
theorem dX6_unknowns_6 : decode cX6_unknowns 6 = .ok (.aload_n 0, 1) := by decide +kernel
theorem dX6_unknowns_7 : decode cX6_unknowns 7 = .ok (.aload_n 2, 1) := by decide +kernel
theorem dX6_unknowns_8 : decode cX6_unknowns 8 = .ok (.invokevirtual 130, 3) := by decide +kernel
theorem dX6_unknowns_11 : decode cX6_unknowns 11 = .ok (.astore_n 3, 1) := by decide +kernel
theorem dX6_unknowns_12 : decode cX6_unknowns 12 = .ok (.iconst 0, 1) := by decide +kernel
theorem dX6_unknowns_13 : decode cX6_unknowns 13 = .ok (.istore 4, 2) := by decide +kernel
theorem dX6_unknowns_15 : decode cX6_unknowns 15 = .ok (.iconst 0, 1) := by decide +kernel
theorem dX6_unknowns_16 : decode cX6_unknowns 16 = .ok (.istore 5, 2) := by decide +kernel
theorem dX6_unknowns_18 : decode cX6_unknowns 18 = .ok (.iload 5, 2) := by decide +kernel
theorem dX6_unknowns_20 : decode cX6_unknowns 20 = .ok (.aload_n 3, 1) := by decide +kernel
theorem dX6_unknowns_21 : decode cX6_unknowns 21 = .ok (.invokevirtual 134, 3) := by decide +kernel
theorem dX6_unknowns_24 : decode cX6_unknowns 24 = .ok (.if_icmp .ge 25, 3) := by decide +kernel
theorem dX6_unknowns_27 : decode cX6_unknowns 27 = .ok (.aload_n 3, 1) := by decide +kernel
theorem dX6_unknowns_28 : decode cX6_unknowns 28 = .ok (.aload_n 2, 1) := by decide +kernel
theorem dX6_unknowns_29 : decode cX6_unknowns 29 = .ok (.getfield 141, 3) := by decide +kernel
theorem dX6_unknowns_32 : decode cX6_unknowns 32 = .ok (.iload 5, 2) := by decide +kernel
theorem dX6_unknowns_34 : decode cX6_unknowns 34 = .ok (.invokevirtual 253, 3) := by decide +kernel
theorem dX6_unknowns_37 : decode cX6_unknowns 37 = .ok (.ifCond .ne 6, 3) := by decide +kernel
theorem dX6_unknowns_40 : decode cX6_unknowns 40 = .ok (.iinc 4 1, 3) := by decide +kernel
theorem dX6_unknowns_43 : decode cX6_unknowns 43 = .ok (.iinc 5 1, 3) := by decide +kernel
theorem dX6_unknowns_46 : decode cX6_unknowns 46 = .ok (.goto (-28), 3) := by decide +kernel
theorem dX6_unknowns_49 : decode cX6_unknowns 49 = .ok (.iload 4, 2) := by decide +kernel
theorem dX6_unknowns_51 : decode cX6_unknowns 51 = .ok (.ireturn, 1) := by decide +kernel
theorem dX6_unknownTag_0 : decode cX6_unknownTag 0 = .ok (.aload_n 0, 1) := by decide +kernel
theorem dX6_unknownTag_1 : decode cX6_unknownTag 1 = .ok (.iload_n 1, 1) := by decide +kernel
theorem dX6_unknownTag_2 : decode cX6_unknownTag 2 = .ok (.invokevirtual 119, 3) := by decide +kernel
theorem dX6_unknownTag_5 : decode cX6_unknownTag 5 = .ok (.astore_n 3, 1) := by decide +kernel
theorem dX6_unknownTag_6 : decode cX6_unknownTag 6 = .ok (.aload_n 0, 1) := by decide +kernel
theorem dX6_unknownTag_7 : decode cX6_unknownTag 7 = .ok (.aload_n 3, 1) := by decide +kernel
theorem dX6_unknownTag_8 : decode cX6_unknownTag 8 = .ok (.invokevirtual 130, 3) := by decide +kernel
theorem dX6_unknownTag_11 : decode cX6_unknownTag 11 = .ok (.astore 4, 2) := by decide +kernel
theorem dX6_unknownTag_13 : decode cX6_unknownTag 13 = .ok (.iconst 0, 1) := by decide +kernel
theorem dX6_unknownTag_14 : decode cX6_unknownTag 14 = .ok (.istore 5, 2) := by decide +kernel
theorem dX6_unknownTag_16 : decode cX6_unknownTag 16 = .ok (.iconst 0, 1) := by decide +kernel
theorem dX6_unknownTag_17 : decode cX6_unknownTag 17 = .ok (.istore 6, 2) := by decide +kernel
theorem dX6_unknownTag_19 : decode cX6_unknownTag 19 = .ok (.iload 6, 2) := by decide +kernel
theorem dX6_unknownTag_21 : decode cX6_unknownTag 21 = .ok (.aload 4, 2) := by decide +kernel
theorem dX6_unknownTag_23 : decode cX6_unknownTag 23 = .ok (.invokevirtual 134, 3) := by decide +kernel
theorem dX6_unknownTag_26 : decode cX6_unknownTag 26 = .ok (.if_icmp .ge 40, 3) := by decide +kernel
theorem dX6_unknownTag_29 : decode cX6_unknownTag 29 = .ok (.aload 4, 2) := by decide +kernel
theorem dX6_unknownTag_31 : decode cX6_unknownTag 31 = .ok (.aload_n 3, 1) := by decide +kernel
theorem dX6_unknownTag_32 : decode cX6_unknownTag 32 = .ok (.getfield 141, 3) := by decide +kernel
theorem dX6_unknownTag_35 : decode cX6_unknownTag 35 = .ok (.iload 6, 2) := by decide +kernel
theorem dX6_unknownTag_37 : decode cX6_unknownTag 37 = .ok (.invokevirtual 253, 3) := by decide +kernel
theorem dX6_unknownTag_40 : decode cX6_unknownTag 40 = .ok (.ifCond .ne 20, 3) := by decide +kernel
theorem dX6_unknownTag_43 : decode cX6_unknownTag 43 = .ok (.iload 5, 2) := by decide +kernel
theorem dX6_unknownTag_45 : decode cX6_unknownTag 45 = .ok (.iload_n 2, 1) := by decide +kernel
theorem dX6_unknownTag_46 : decode cX6_unknownTag 46 = .ok (.if_icmp .ne 11, 3) := by decide +kernel
theorem dX6_unknownTag_49 : decode cX6_unknownTag 49 = .ok (.aload 4, 2) := by decide +kernel
theorem dX6_unknownTag_51 : decode cX6_unknownTag 51 = .ok (.iload 6, 2) := by decide +kernel
theorem dX6_unknownTag_53 : decode cX6_unknownTag 53 = .ok (.invokevirtual 212, 3) := by decide +kernel
theorem dX6_unknownTag_56 : decode cX6_unknownTag 56 = .ok (.ireturn, 1) := by decide +kernel
theorem dX6_unknownTag_57 : decode cX6_unknownTag 57 = .ok (.iinc 5 1, 3) := by decide +kernel
theorem dX6_unknownTag_60 : decode cX6_unknownTag 60 = .ok (.iinc 6 1, 3) := by decide +kernel
theorem dX6_unknownTag_63 : decode cX6_unknownTag 63 = .ok (.goto (-44), 3) := by decide +kernel
theorem dX6_unknownTag_66 : decode cX6_unknownTag 66 = .ok (.new 257, 3) := by decide +kernel
theorem dX6_unknownTag_69 : decode cX6_unknownTag 69 = .ok (.dup, 1) := by decide +kernel
theorem dX6_unknownTag_70 : decode cX6_unknownTag 70 = .ok (.ldc_w 259, 3) := by decide +kernel
theorem dX6_unknownTag_73 : decode cX6_unknownTag 73 = .ok (.invokespecial 261, 3) := by decide +kernel
theorem dX6_unknownTag_76 : decode cX6_unknownTag 76 = .ok (.athrow, 1) := by decide +kernel
theorem dX6_weight_0 : decode cX6_weight 0 = .ok (.aload_n 0, 1) := by decide +kernel
theorem dX6_weight_1 : decode cX6_weight 1 = .ok (.iload_n 1, 1) := by decide +kernel
theorem dX6_weight_2 : decode cX6_weight 2 = .ok (.invokevirtual 119, 3) := by decide +kernel
theorem dX6_weight_5 : decode cX6_weight 5 = .ok (.getfield 123, 3) := by decide +kernel
theorem dX6_weight_8 : decode cX6_weight 8 = .ok (.invokevirtual 208, 3) := by decide +kernel
theorem dX6_weight_11 : decode cX6_weight 11 = .ok (.ireturn, 1) := by decide +kernel
theorem dX6_areSame_0 : decode cX6_areSame 0 = .ok (.aload_n 0, 1) := by decide +kernel
theorem dX6_areSame_1 : decode cX6_areSame 1 = .ok (.aload_n 0, 1) := by decide +kernel
theorem dX6_areSame_2 : decode cX6_areSame 2 = .ok (.iload_n 1, 1) := by decide +kernel
theorem dX6_areSame_3 : decode cX6_areSame 3 = .ok (.invokevirtual 119, 3) := by decide +kernel
theorem dX6_areSame_6 : decode cX6_areSame 6 = .ok (.aload_n 0, 1) := by decide +kernel
theorem dX6_areSame_7 : decode cX6_areSame 7 = .ok (.iload_n 2, 1) := by decide +kernel
theorem dX6_areSame_8 : decode cX6_areSame 8 = .ok (.invokevirtual 119, 3) := by decide +kernel
theorem dX6_areSame_11 : decode cX6_areSame 11 = .ok (.invokevirtual 262, 3) := by decide +kernel
theorem dX6_areSame_14 : decode cX6_areSame 14 = .ok (.aload_n 0, 1) := by decide +kernel
theorem dX6_areSame_15 : decode cX6_areSame 15 = .ok (.getfield 45, 3) := by decide +kernel
theorem dX6_areSame_18 : decode cX6_areSame 18 = .ok (.aload_n 0, 1) := by decide +kernel
theorem dX6_areSame_19 : decode cX6_areSame 19 = .ok (.getfield 49, 3) := by decide +kernel
theorem dX6_areSame_22 : decode cX6_areSame 22 = .ok (.invokevirtual 266, 3) := by decide +kernel
theorem dX6_areSame_25 : decode cX6_areSame 25 = .ok (.ireturn, 1) := by decide +kernel
theorem dX6_areSameByBytes_0 : decode cX6_areSameByBytes 0 = .ok (.aload_n 0, 1) := by decide +kernel
theorem dX6_areSameByBytes_1 : decode cX6_areSameByBytes 1 = .ok (.aload_n 0, 1) := by decide +kernel
theorem dX6_areSameByBytes_2 : decode cX6_areSameByBytes 2 = .ok (.iload_n 1, 1) := by decide +kernel
theorem dX6_areSameByBytes_3 : decode cX6_areSameByBytes 3 = .ok (.invokevirtual 119, 3) := by decide +kernel
theorem dX6_areSameByBytes_6 : decode cX6_areSameByBytes 6 = .ok (.aload_n 0, 1) := by decide +kernel
theorem dX6_areSameByBytes_7 : decode cX6_areSameByBytes 7 = .ok (.iload_n 2, 1) := by decide +kernel
theorem dX6_areSameByBytes_8 : decode cX6_areSameByBytes 8 = .ok (.invokevirtual 119, 3) := by decide +kernel
theorem dX6_areSameByBytes_11 : decode cX6_areSameByBytes 11 = .ok (.invokevirtual 262, 3) := by decide +kernel
theorem dX6_areSameByBytes_14 : decode cX6_areSameByBytes 14 = .ok (.aload_n 0, 1) := by decide +kernel
theorem dX6_areSameByBytes_15 : decode cX6_areSameByBytes 15 = .ok (.getfield 45, 3) := by decide +kernel
theorem dX6_areSameByBytes_18 : decode cX6_areSameByBytes 18 = .ok (.aload_n 0, 1) := by decide +kernel
theorem dX6_areSameByBytes_19 : decode cX6_areSameByBytes 19 = .ok (.getfield 52, 3) := by decide +kernel
theorem dX6_areSameByBytes_22 : decode cX6_areSameByBytes 22 = .ok (.invokevirtual 205, 3) := by decide +kernel
theorem dX6_areSameByBytes_25 : decode cX6_areSameByBytes 25 = .ok (.aload_n 0, 1) := by decide +kernel
theorem dX6_areSameByBytes_26 : decode cX6_areSameByBytes 26 = .ok (.getfield 49, 3) := by decide +kernel
theorem dX6_areSameByBytes_29 : decode cX6_areSameByBytes 29 = .ok (.aload_n 0, 1) := by decide +kernel
theorem dX6_areSameByBytes_30 : decode cX6_areSameByBytes 30 = .ok (.getfield 55, 3) := by decide +kernel
theorem dX6_areSameByBytes_33 : decode cX6_areSameByBytes 33 = .ok (.invokevirtual 205, 3) := by decide +kernel
theorem dX6_areSameByBytes_36 : decode cX6_areSameByBytes 36 = .ok (.aload_n 0, 1) := by decide +kernel
theorem dX6_areSameByBytes_37 : decode cX6_areSameByBytes 37 = .ok (.getfield 52, 3) := by decide +kernel
theorem dX6_areSameByBytes_40 : decode cX6_areSameByBytes 40 = .ok (.aload_n 0, 1) := by decide +kernel
theorem dX6_areSameByBytes_41 : decode cX6_areSameByBytes 41 = .ok (.getfield 55, 3) := by decide +kernel
theorem dX6_areSameByBytes_44 : decode cX6_areSameByBytes 44 = .ok (.invokevirtual 270, 3) := by decide +kernel
theorem dX6_areSameByBytes_47 : decode cX6_areSameByBytes 47 = .ok (.ireturn, 1) := by decide +kernel
theorem dX6_write_0 : decode cX6_write 0 = .ok (.aload_n 0, 1) := by decide +kernel
theorem dX6_write_1 : decode cX6_write 1 = .ok (.iload_n 1, 1) := by decide +kernel
theorem dX6_write_2 : decode cX6_write 2 = .ok (.invokevirtual 119, 3) := by decide +kernel
theorem dX6_write_5 : decode cX6_write 5 = .ok (.astore_n 2, 1) := by decide +kernel
theorem dX6_write_6 : decode cX6_write 6 = .ok (.aload_n 0, 1) := by decide +kernel
theorem dX6_write_7 : decode cX6_write 7 = .ok (.getfield 45, 3) := by decide +kernel
theorem dX6_write_10 : decode cX6_write 10 = .ok (.aload_n 2, 1) := by decide +kernel
theorem dX6_write_11 : decode cX6_write 11 = .ok (.getfield 123, 3) := by decide +kernel
theorem dX6_write_14 : decode cX6_write 14 = .ok (.aload_n 2, 1) := by decide +kernel
theorem dX6_write_15 : decode cX6_write 15 = .ok (.getfield 141, 3) := by decide +kernel
theorem dX6_write_18 : decode cX6_write 18 = .ok (.invokevirtual 201, 3) := by decide +kernel
theorem dX6_write_21 : decode cX6_write 21 = .ok (.aload_n 0, 1) := by decide +kernel
theorem dX6_write_22 : decode cX6_write 22 = .ok (.getfield 45, 3) := by decide +kernel
theorem dX6_write_25 : decode cX6_write 25 = .ok (.aload_n 0, 1) := by decide +kernel
theorem dX6_write_26 : decode cX6_write 26 = .ok (.getfield 24, 3) := by decide +kernel
theorem dX6_write_29 : decode cX6_write 29 = .ok (.invokevirtual 205, 3) := by decide +kernel
theorem dX6_write_32 : decode cX6_write 32 = .ok (.aload_n 0, 1) := by decide +kernel
theorem dX6_write_33 : decode cX6_write 33 = .ok (.getfield 24, 3) := by decide +kernel
theorem dX6_write_36 : decode cX6_write 36 = .ok (.invokevirtual 208, 3) := by decide +kernel
theorem dX6_write_39 : decode cX6_write 39 = .ok (.ireturn, 1) := by decide +kernel
theorem dX6_put_0 : decode cX6_put 0 = .ok (.aload_n 0, 1) := by decide +kernel
theorem dX6_put_1 : decode cX6_put 1 = .ok (.getfield 24, 3) := by decide +kernel
theorem dX6_put_4 : decode cX6_put 4 = .ok (.invokevirtual 208, 3) := by decide +kernel
theorem dX6_put_7 : decode cX6_put 7 = .ok (.bipush 120, 2) := by decide +kernel
theorem dX6_put_9 : decode cX6_put 9 = .ok (.if_icmp .lt 14, 3) := by decide +kernel
theorem dX6_put_12 : decode cX6_put 12 = .ok (.new 65, 3) := by decide +kernel
theorem dX6_put_15 : decode cX6_put 15 = .ok (.dup, 1) := by decide +kernel
theorem dX6_put_16 : decode cX6_put 16 = .ok (.ldc_w 274, 3) := by decide +kernel
theorem dX6_put_19 : decode cX6_put 19 = .ok (.invokespecial 69, 3) := by decide +kernel
theorem dX6_put_22 : decode cX6_put 22 = .ok (.athrow, 1) := by decide +kernel
theorem dX6_put_23 : decode cX6_put 23 = .ok (.aload_n 0, 1) := by decide +kernel
theorem dX6_put_24 : decode cX6_put 24 = .ok (.getfield 24, 3) := by decide +kernel
theorem dX6_put_27 : decode cX6_put 27 = .ok (.iload_n 1, 1) := by decide +kernel
theorem dX6_put_28 : decode cX6_put 28 = .ok (.invokevirtual 191, 3) := by decide +kernel
theorem dX6_put_31 : decode cX6_put 31 = .ok (.aload_n 0, 1) := by decide +kernel
theorem dX6_put_32 : decode cX6_put 32 = .ok (.getfield 24, 3) := by decide +kernel
theorem dX6_put_35 : decode cX6_put 35 = .ok (.invokevirtual 208, 3) := by decide +kernel
theorem dX6_put_38 : decode cX6_put 38 = .ok (.ireturn, 1) := by decide +kernel
theorem dX6_cut_0 : decode cX6_cut 0 = .ok (.aload_n 0, 1) := by decide +kernel
theorem dX6_cut_1 : decode cX6_cut 1 = .ok (.getfield 24, 3) := by decide +kernel
theorem dX6_cut_4 : decode cX6_cut 4 = .ok (.invokevirtual 208, 3) := by decide +kernel
theorem dX6_cut_7 : decode cX6_cut 7 = .ok (.istore_n 2, 1) := by decide +kernel
theorem dX6_cut_8 : decode cX6_cut 8 = .ok (.iload_n 1, 1) := by decide +kernel
theorem dX6_cut_9 : decode cX6_cut 9 = .ok (.ifCond .lt 8, 3) := by decide +kernel
theorem dX6_cut_12 : decode cX6_cut 12 = .ok (.iload_n 1, 1) := by decide +kernel
theorem dX6_cut_13 : decode cX6_cut 13 = .ok (.iload_n 2, 1) := by decide +kernel
theorem dX6_cut_14 : decode cX6_cut 14 = .ok (.if_icmp .le 14, 3) := by decide +kernel
theorem dX6_cut_17 : decode cX6_cut 17 = .ok (.new 257, 3) := by decide +kernel
theorem dX6_cut_20 : decode cX6_cut 20 = .ok (.dup, 1) := by decide +kernel
theorem dX6_cut_21 : decode cX6_cut 21 = .ok (.ldc_w 276, 3) := by decide +kernel
theorem dX6_cut_24 : decode cX6_cut 24 = .ok (.invokespecial 261, 3) := by decide +kernel
theorem dX6_cut_27 : decode cX6_cut 27 = .ok (.athrow, 1) := by decide +kernel
theorem dX6_cut_28 : decode cX6_cut 28 = .ok (.aload_n 0, 1) := by decide +kernel
theorem dX6_cut_29 : decode cX6_cut 29 = .ok (.getfield 24, 3) := by decide +kernel
theorem dX6_cut_32 : decode cX6_cut 32 = .ok (.iload_n 1, 1) := by decide +kernel
theorem dX6_cut_33 : decode cX6_cut 33 = .ok (.invokevirtual 209, 3) := by decide +kernel
theorem dX6_cut_36 : decode cX6_cut 36 = .ok (.iload_n 2, 1) := by decide +kernel
theorem dX6_cut_37 : decode cX6_cut 37 = .ok (.iload_n 1, 1) := by decide +kernel
theorem dX6_cut_38 : decode cX6_cut 38 = .ok (.isub, 1) := by decide +kernel
theorem dX6_cut_39 : decode cX6_cut 39 = .ok (.ireturn, 1) := by decide +kernel
theorem dX6_length_0 : decode cX6_length 0 = .ok (.aload_n 0, 1) := by decide +kernel
theorem dX6_length_1 : decode cX6_length 1 = .ok (.getfield 24, 3) := by decide +kernel
theorem dX6_length_4 : decode cX6_length 4 = .ok (.invokevirtual 208, 3) := by decide +kernel
theorem dX6_length_7 : decode cX6_length 7 = .ok (.ireturn, 1) := by decide +kernel
theorem dX6_byteAt_0 : decode cX6_byteAt 0 = .ok (.iload_n 1, 1) := by decide +kernel
theorem dX6_byteAt_1 : decode cX6_byteAt 1 = .ok (.ifCond .lt 14, 3) := by decide +kernel
theorem dX6_byteAt_4 : decode cX6_byteAt 4 = .ok (.iload_n 1, 1) := by decide +kernel
theorem dX6_byteAt_5 : decode cX6_byteAt 5 = .ok (.aload_n 0, 1) := by decide +kernel
theorem dX6_byteAt_6 : decode cX6_byteAt 6 = .ok (.getfield 24, 3) := by decide +kernel
theorem dX6_byteAt_9 : decode cX6_byteAt 9 = .ok (.invokevirtual 208, 3) := by decide +kernel
theorem dX6_byteAt_12 : decode cX6_byteAt 12 = .ok (.if_icmp .lt 13, 3) := by decide +kernel
theorem dX6_byteAt_15 : decode cX6_byteAt 15 = .ok (.new 257, 3) := by decide +kernel
theorem dX6_byteAt_18 : decode cX6_byteAt 18 = .ok (.dup, 1) := by decide +kernel
theorem dX6_byteAt_19 : decode cX6_byteAt 19 = .ok (.ldc 233, 2) := by decide +kernel
theorem dX6_byteAt_21 : decode cX6_byteAt 21 = .ok (.invokespecial 261, 3) := by decide +kernel
theorem dX6_byteAt_24 : decode cX6_byteAt 24 = .ok (.athrow, 1) := by decide +kernel
theorem dX6_byteAt_25 : decode cX6_byteAt 25 = .ok (.aload_n 0, 1) := by decide +kernel
theorem dX6_byteAt_26 : decode cX6_byteAt 26 = .ok (.getfield 24, 3) := by decide +kernel
theorem dX6_byteAt_29 : decode cX6_byteAt 29 = .ok (.iload_n 1, 1) := by decide +kernel
theorem dX6_byteAt_30 : decode cX6_byteAt 30 = .ok (.invokevirtual 236, 3) := by decide +kernel
theorem dX6_byteAt_33 : decode cX6_byteAt 33 = .ok (.ireturn, 1) := by decide +kernel
theorem dX6_fault_0 : decode cX6_fault 0 = .ok (.aload_n 0, 1) := by decide +kernel
theorem dX6_fault_1 : decode cX6_fault 1 = .ok (.invokevirtual 278, 3) := by decide +kernel
theorem dX6_fault_4 : decode cX6_fault 4 = .ok (.invokevirtual 244, 3) := by decide +kernel
theorem dX6_fault_7 : decode cX6_fault 7 = .ok (.ireturn, 1) := by decide +kernel
theorem dX6_faultAt_0 : decode cX6_faultAt 0 = .ok (.aload_n 0, 1) := by decide +kernel
theorem dX6_faultAt_1 : decode cX6_faultAt 1 = .ok (.invokevirtual 278, 3) := by decide +kernel
theorem dX6_faultAt_4 : decode cX6_faultAt 4 = .ok (.invokevirtual 282, 3) := by decide +kernel
theorem dX6_faultAt_7 : decode cX6_faultAt 7 = .ok (.ireturn, 1) := by decide +kernel
theorem dX6_read_0 : decode cX6_read 0 = .ok (.aload_n 0, 1) := by decide +kernel
theorem dX6_read_1 : decode cX6_read 1 = .ok (.iload_n 1, 1) := by decide +kernel
theorem dX6_read_2 : decode cX6_read 2 = .ok (.invokevirtual 75, 3) := by decide +kernel
theorem dX6_read_5 : decode cX6_read 5 = .ok (.astore_n 2, 1) := by decide +kernel
theorem dX6_read_6 : decode cX6_read 6 = .ok (.aload_n 0, 1) := by decide +kernel
theorem dX6_read_7 : decode cX6_read 7 = .ok (.invokevirtual 278, 3) := by decide +kernel
theorem dX6_read_10 : decode cX6_read 10 = .ok (.astore_n 3, 1) := by decide +kernel
theorem dX6_read_11 : decode cX6_read 11 = .ok (.aload_n 3, 1) := by decide +kernel
theorem dX6_read_12 : decode cX6_read 12 = .ok (.invokevirtual 244, 3) := by decide +kernel
theorem dX6_read_15 : decode cX6_read 15 = .ok (.ifCond .eq 14, 3) := by decide +kernel
theorem dX6_read_18 : decode cX6_read 18 = .ok (.new 82, 3) := by decide +kernel
theorem dX6_read_21 : decode cX6_read 21 = .ok (.dup, 1) := by decide +kernel
theorem dX6_read_22 : decode cX6_read 22 = .ok (.ldc_w 285, 3) := by decide +kernel
theorem dX6_read_25 : decode cX6_read 25 = .ok (.invokespecial 86, 3) := by decide +kernel
theorem dX6_read_28 : decode cX6_read 28 = .ok (.athrow, 1) := by decide +kernel
theorem dX6_read_29 : decode cX6_read 29 = .ok (.aload_n 0, 1) := by decide +kernel
theorem dX6_read_30 : decode cX6_read 30 = .ok (.aload_n 3, 1) := by decide +kernel
theorem dX6_read_31 : decode cX6_read 31 = .ok (.aload_n 2, 1) := by decide +kernel
theorem dX6_read_32 : decode cX6_read 32 = .ok (.invokestatic 249, 3) := by decide +kernel
theorem dX6_read_35 : decode cX6_read 35 = .ok (.invokevirtual 115, 3) := by decide +kernel
theorem dX6_read_38 : decode cX6_read 38 = .ok (.ireturn, 1) := by decide +kernel
theorem dX6_isCanonical_0 : decode cX6_isCanonical 0 = .ok (.aload_n 0, 1) := by decide +kernel
theorem dX6_isCanonical_1 : decode cX6_isCanonical 1 = .ok (.iload_n 1, 1) := by decide +kernel
theorem dX6_isCanonical_2 : decode cX6_isCanonical 2 = .ok (.invokevirtual 75, 3) := by decide +kernel
theorem dX6_isCanonical_5 : decode cX6_isCanonical 5 = .ok (.astore_n 2, 1) := by decide +kernel
theorem dX6_isCanonical_6 : decode cX6_isCanonical 6 = .ok (.aload_n 0, 1) := by decide +kernel
theorem dX6_isCanonical_7 : decode cX6_isCanonical 7 = .ok (.invokevirtual 278, 3) := by decide +kernel
theorem dX6_isCanonical_10 : decode cX6_isCanonical 10 = .ok (.invokevirtual 244, 3) := by decide +kernel
theorem dX6_isCanonical_13 : decode cX6_isCanonical 13 = .ok (.ifCond .eq 5, 3) := by decide +kernel
theorem dX6_isCanonical_16 : decode cX6_isCanonical 16 = .ok (.iconst 0, 1) := by decide +kernel
theorem dX6_isCanonical_17 : decode cX6_isCanonical 17 = .ok (.ireturn, 1) := by decide +kernel
theorem dX6_isCanonical_18 : decode cX6_isCanonical 18 = .ok (.aload_n 0, 1) := by decide +kernel
theorem dX6_isCanonical_19 : decode cX6_isCanonical 19 = .ok (.getfield 45, 3) := by decide +kernel
theorem dX6_isCanonical_22 : decode cX6_isCanonical 22 = .ok (.aload_n 0, 1) := by decide +kernel
theorem dX6_isCanonical_23 : decode cX6_isCanonical 23 = .ok (.getfield 24, 3) := by decide +kernel
theorem dX6_isCanonical_26 : decode cX6_isCanonical 26 = .ok (.aload_n 2, 1) := by decide +kernel
theorem dX6_isCanonical_27 : decode cX6_isCanonical 27 = .ok (.invokevirtual 201, 3) := by decide +kernel
theorem dX6_isCanonical_30 : decode cX6_isCanonical 30 = .ok (.aload_n 0, 1) := by decide +kernel
theorem dX6_isCanonical_31 : decode cX6_isCanonical 31 = .ok (.getfield 45, 3) := by decide +kernel
theorem dX6_isCanonical_34 : decode cX6_isCanonical 34 = .ok (.aload_n 0, 1) := by decide +kernel
theorem dX6_isCanonical_35 : decode cX6_isCanonical 35 = .ok (.getfield 52, 3) := by decide +kernel
theorem dX6_isCanonical_38 : decode cX6_isCanonical 38 = .ok (.invokevirtual 205, 3) := by decide +kernel
theorem dX6_isCanonical_41 : decode cX6_isCanonical 41 = .ok (.aload_n 0, 1) := by decide +kernel
theorem dX6_isCanonical_42 : decode cX6_isCanonical 42 = .ok (.getfield 52, 3) := by decide +kernel
theorem dX6_isCanonical_45 : decode cX6_isCanonical 45 = .ok (.aload_n 0, 1) := by decide +kernel
theorem dX6_isCanonical_46 : decode cX6_isCanonical 46 = .ok (.getfield 24, 3) := by decide +kernel
theorem dX6_isCanonical_49 : decode cX6_isCanonical 49 = .ok (.invokevirtual 270, 3) := by decide +kernel
theorem dX6_isCanonical_52 : decode cX6_isCanonical 52 = .ok (.ireturn, 1) := by decide +kernel
theorem dX6_schemaAt_0 : decode cX6_schemaAt 0 = .ok (.iload_n 1, 1) := by decide +kernel
theorem dX6_schemaAt_1 : decode cX6_schemaAt 1 = .ok (.ifCond .lt 21, 3) := by decide +kernel
theorem dX6_schemaAt_4 : decode cX6_schemaAt 4 = .ok (.iload_n 1, 1) := by decide +kernel
theorem dX6_schemaAt_5 : decode cX6_schemaAt 5 = .ok (.aload_n 0, 1) := by decide +kernel
theorem dX6_schemaAt_6 : decode cX6_schemaAt 6 = .ok (.getfield 11, 3) := by decide +kernel
theorem dX6_schemaAt_9 : decode cX6_schemaAt 9 = .ok (.arraylength, 1) := by decide +kernel
theorem dX6_schemaAt_10 : decode cX6_schemaAt 10 = .ok (.if_icmp .ge 12, 3) := by decide +kernel
theorem dX6_schemaAt_13 : decode cX6_schemaAt 13 = .ok (.aload_n 0, 1) := by decide +kernel
theorem dX6_schemaAt_14 : decode cX6_schemaAt 14 = .ok (.getfield 11, 3) := by decide +kernel
theorem dX6_schemaAt_17 : decode cX6_schemaAt 17 = .ok (.iload_n 1, 1) := by decide +kernel
theorem dX6_schemaAt_18 : decode cX6_schemaAt 18 = .ok (.aaload, 1) := by decide +kernel
theorem dX6_schemaAt_19 : decode cX6_schemaAt 19 = .ok (.ifnonnull 14, 3) := by decide +kernel
theorem dX6_schemaAt_22 : decode cX6_schemaAt 22 = .ok (.new 257, 3) := by decide +kernel
theorem dX6_schemaAt_25 : decode cX6_schemaAt 25 = .ok (.dup, 1) := by decide +kernel
theorem dX6_schemaAt_26 : decode cX6_schemaAt 26 = .ok (.ldc_w 287, 3) := by decide +kernel
theorem dX6_schemaAt_29 : decode cX6_schemaAt 29 = .ok (.invokespecial 261, 3) := by decide +kernel
theorem dX6_schemaAt_32 : decode cX6_schemaAt 32 = .ok (.athrow, 1) := by decide +kernel
theorem dX6_schemaAt_33 : decode cX6_schemaAt 33 = .ok (.aload_n 0, 1) := by decide +kernel
theorem dX6_schemaAt_34 : decode cX6_schemaAt 34 = .ok (.getfield 11, 3) := by decide +kernel
theorem dX6_schemaAt_37 : decode cX6_schemaAt 37 = .ok (.iload_n 1, 1) := by decide +kernel
theorem dX6_schemaAt_38 : decode cX6_schemaAt 38 = .ok (.aaload, 1) := by decide +kernel
theorem dX6_schemaAt_39 : decode cX6_schemaAt 39 = .ok (.areturn, 1) := by decide +kernel
theorem dX6_messageAt_0 : decode cX6_messageAt 0 = .ok (.iload_n 1, 1) := by decide +kernel
theorem dX6_messageAt_1 : decode cX6_messageAt 1 = .ok (.ifCond .lt 21, 3) := by decide +kernel
theorem dX6_messageAt_4 : decode cX6_messageAt 4 = .ok (.iload_n 1, 1) := by decide +kernel
theorem dX6_messageAt_5 : decode cX6_messageAt 5 = .ok (.aload_n 0, 1) := by decide +kernel
theorem dX6_messageAt_6 : decode cX6_messageAt 6 = .ok (.getfield 17, 3) := by decide +kernel
theorem dX6_messageAt_9 : decode cX6_messageAt 9 = .ok (.arraylength, 1) := by decide +kernel
theorem dX6_messageAt_10 : decode cX6_messageAt 10 = .ok (.if_icmp .ge 12, 3) := by decide +kernel
theorem dX6_messageAt_13 : decode cX6_messageAt 13 = .ok (.aload_n 0, 1) := by decide +kernel
theorem dX6_messageAt_14 : decode cX6_messageAt 14 = .ok (.getfield 17, 3) := by decide +kernel
theorem dX6_messageAt_17 : decode cX6_messageAt 17 = .ok (.iload_n 1, 1) := by decide +kernel
theorem dX6_messageAt_18 : decode cX6_messageAt 18 = .ok (.aaload, 1) := by decide +kernel
theorem dX6_messageAt_19 : decode cX6_messageAt 19 = .ok (.ifnonnull 14, 3) := by decide +kernel
theorem dX6_messageAt_22 : decode cX6_messageAt 22 = .ok (.new 257, 3) := by decide +kernel
theorem dX6_messageAt_25 : decode cX6_messageAt 25 = .ok (.dup, 1) := by decide +kernel
theorem dX6_messageAt_26 : decode cX6_messageAt 26 = .ok (.ldc_w 289, 3) := by decide +kernel
theorem dX6_messageAt_29 : decode cX6_messageAt 29 = .ok (.invokespecial 261, 3) := by decide +kernel
theorem dX6_messageAt_32 : decode cX6_messageAt 32 = .ok (.athrow, 1) := by decide +kernel
theorem dX6_messageAt_33 : decode cX6_messageAt 33 = .ok (.aload_n 0, 1) := by decide +kernel
theorem dX6_messageAt_34 : decode cX6_messageAt 34 = .ok (.getfield 17, 3) := by decide +kernel
theorem dX6_messageAt_37 : decode cX6_messageAt 37 = .ok (.iload_n 1, 1) := by decide +kernel
theorem dX6_messageAt_38 : decode cX6_messageAt 38 = .ok (.aaload, 1) := by decide +kernel
theorem dX6_messageAt_39 : decode cX6_messageAt 39 = .ok (.areturn, 1) := by decide +kernel
theorem dX6_isTag_0 : decode cX6_isTag 0 = .ok (.iload_n 0, 1) := by decide +kernel
theorem dX6_isTag_1 : decode cX6_isTag 1 = .ok (.iconst 1, 1) := by decide +kernel
theorem dX6_isTag_2 : decode cX6_isTag 2 = .ok (.if_icmp .lt 13, 3) := by decide +kernel
theorem dX6_isTag_5 : decode cX6_isTag 5 = .ok (.iload_n 0, 1) := by decide +kernel
theorem dX6_isTag_6 : decode cX6_isTag 6 = .ok (.bipush 31, 2) := by decide +kernel
theorem dX6_isTag_8 : decode cX6_isTag 8 = .ok (.if_icmp .gt 7, 3) := by decide +kernel
theorem dX6_isTag_11 : decode cX6_isTag 11 = .ok (.iconst 1, 1) := by decide +kernel
theorem dX6_isTag_12 : decode cX6_isTag 12 = .ok (.goto 4, 3) := by decide +kernel
theorem dX6_isTag_15 : decode cX6_isTag 15 = .ok (.iconst 0, 1) := by decide +kernel
theorem dX6_isTag_16 : decode cX6_isTag 16 = .ok (.ireturn, 1) := by decide +kernel
theorem dX6_checkTag_0 : decode cX6_checkTag 0 = .ok (.iload_n 0, 1) := by decide +kernel
theorem dX6_checkTag_1 : decode cX6_checkTag 1 = .ok (.invokestatic 291, 3) := by decide +kernel
theorem dX6_checkTag_4 : decode cX6_checkTag 4 = .ok (.ifCond .ne 14, 3) := by decide +kernel
theorem dX6_checkTag_7 : decode cX6_checkTag 7 = .ok (.new 82, 3) := by decide +kernel
theorem dX6_checkTag_10 : decode cX6_checkTag 10 = .ok (.dup, 1) := by decide +kernel
theorem dX6_checkTag_11 : decode cX6_checkTag 11 = .ok (.ldc_w 294, 3) := by decide +kernel
theorem dX6_checkTag_14 : decode cX6_checkTag 14 = .ok (.invokespecial 86, 3) := by decide +kernel
theorem dX6_checkTag_17 : decode cX6_checkTag 17 = .ok (.athrow, 1) := by decide +kernel
theorem dX6_checkTag_18 : decode cX6_checkTag 18 = .ok (.return_, 1) := by decide +kernel
theorem dX6_checkHasInt_0 : decode cX6_checkHasInt 0 = .ok (.aload_n 0, 1) := by decide +kernel
theorem dX6_checkHasInt_1 : decode cX6_checkHasInt 1 = .ok (.iload_n 1, 1) := by decide +kernel
theorem dX6_checkHasInt_2 : decode cX6_checkHasInt 2 = .ok (.invokevirtual 95, 3) := by decide +kernel
theorem dX6_checkHasInt_5 : decode cX6_checkHasInt 5 = .ok (.ifCond .ne 14, 3) := by decide +kernel
theorem dX6_checkHasInt_8 : decode cX6_checkHasInt 8 = .ok (.new 82, 3) := by decide +kernel
theorem dX6_checkHasInt_11 : decode cX6_checkHasInt 11 = .ok (.dup, 1) := by decide +kernel
theorem dX6_checkHasInt_12 : decode cX6_checkHasInt 12 = .ok (.ldc_w 296, 3) := by decide +kernel
theorem dX6_checkHasInt_15 : decode cX6_checkHasInt 15 = .ok (.invokespecial 86, 3) := by decide +kernel
theorem dX6_checkHasInt_18 : decode cX6_checkHasInt 18 = .ok (.athrow, 1) := by decide +kernel
theorem dX6_checkHasInt_19 : decode cX6_checkHasInt 19 = .ok (.return_, 1) := by decide +kernel
theorem dX6_checkHasBytes_0 : decode cX6_checkHasBytes 0 = .ok (.aload_n 0, 1) := by decide +kernel
theorem dX6_checkHasBytes_1 : decode cX6_checkHasBytes 1 = .ok (.iload_n 1, 1) := by decide +kernel
theorem dX6_checkHasBytes_2 : decode cX6_checkHasBytes 2 = .ok (.invokevirtual 298, 3) := by decide +kernel
theorem dX6_checkHasBytes_5 : decode cX6_checkHasBytes 5 = .ok (.ifCond .ne 14, 3) := by decide +kernel
theorem dX6_checkHasBytes_8 : decode cX6_checkHasBytes 8 = .ok (.new 82, 3) := by decide +kernel
theorem dX6_checkHasBytes_11 : decode cX6_checkHasBytes 11 = .ok (.dup, 1) := by decide +kernel
theorem dX6_checkHasBytes_12 : decode cX6_checkHasBytes 12 = .ok (.ldc_w 301, 3) := by decide +kernel
theorem dX6_checkHasBytes_15 : decode cX6_checkHasBytes 15 = .ok (.invokespecial 86, 3) := by decide +kernel
theorem dX6_checkHasBytes_18 : decode cX6_checkHasBytes 18 = .ok (.athrow, 1) := by decide +kernel
theorem dX6_checkHasBytes_19 : decode cX6_checkHasBytes 19 = .ok (.return_, 1) := by decide +kernel
theorem dX6_partAt_0 : decode cX6_partAt 0 = .ok (.aload_n 0, 1) := by decide +kernel
theorem dX6_partAt_1 : decode cX6_partAt 1 = .ok (.iload_n 1, 1) := by decide +kernel
theorem dX6_partAt_2 : decode cX6_partAt 2 = .ok (.invokevirtual 303, 3) := by decide +kernel
theorem dX6_partAt_5 : decode cX6_partAt 5 = .ok (.astore_n 2, 1) := by decide +kernel
theorem dX6_partAt_6 : decode cX6_partAt 6 = .ok (.aload_n 2, 1) := by decide +kernel
theorem dX6_partAt_7 : decode cX6_partAt 7 = .ok (.ifnonnull 14, 3) := by decide +kernel
theorem dX6_partAt_10 : decode cX6_partAt 10 = .ok (.new 82, 3) := by decide +kernel
theorem dX6_partAt_13 : decode cX6_partAt 13 = .ok (.dup, 1) := by decide +kernel
theorem dX6_partAt_14 : decode cX6_partAt 14 = .ok (.ldc_w 306, 3) := by decide +kernel
theorem dX6_partAt_17 : decode cX6_partAt 17 = .ok (.invokespecial 86, 3) := by decide +kernel
theorem dX6_partAt_20 : decode cX6_partAt 20 = .ok (.athrow, 1) := by decide +kernel
theorem dX6_partAt_21 : decode cX6_partAt 21 = .ok (.aload_n 2, 1) := by decide +kernel
theorem dX6_partAt_22 : decode cX6_partAt 22 = .ok (.areturn, 1) := by decide +kernel
theorem dX6_lastKnownOrThrow_0 : decode cX6_lastKnownOrThrow 0 = .ok (.aload_n 0, 1) := by decide +kernel
theorem dX6_lastKnownOrThrow_1 : decode cX6_lastKnownOrThrow 1 = .ok (.aload_n 1, 1) := by decide +kernel
theorem dX6_lastKnownOrThrow_2 : decode cX6_lastKnownOrThrow 2 = .ok (.iload_n 2, 1) := by decide +kernel
theorem dX6_lastKnownOrThrow_3 : decode cX6_lastKnownOrThrow 3 = .ok (.invokevirtual 171, 3) := by decide +kernel
theorem dX6_lastKnownOrThrow_6 : decode cX6_lastKnownOrThrow 6 = .ok (.istore_n 3, 1) := by decide +kernel
theorem dX6_lastKnownOrThrow_7 : decode cX6_lastKnownOrThrow 7 = .ok (.iload_n 3, 1) := by decide +kernel
theorem dX6_lastKnownOrThrow_8 : decode cX6_lastKnownOrThrow 8 = .ok (.iconst (-1), 1) := by decide +kernel
theorem dX6_lastKnownOrThrow_9 : decode cX6_lastKnownOrThrow 9 = .ok (.if_icmp .ne 14, 3) := by decide +kernel
theorem dX6_lastKnownOrThrow_12 : decode cX6_lastKnownOrThrow 12 = .ok (.new 231, 3) := by decide +kernel
theorem dX6_lastKnownOrThrow_15 : decode cX6_lastKnownOrThrow 15 = .ok (.dup, 1) := by decide +kernel
theorem dX6_lastKnownOrThrow_16 : decode cX6_lastKnownOrThrow 16 = .ok (.ldc_w 308, 3) := by decide +kernel
theorem dX6_lastKnownOrThrow_19 : decode cX6_lastKnownOrThrow 19 = .ok (.invokespecial 235, 3) := by decide +kernel
theorem dX6_lastKnownOrThrow_22 : decode cX6_lastKnownOrThrow 22 = .ok (.athrow, 1) := by decide +kernel
theorem dX6_lastKnownOrThrow_23 : decode cX6_lastKnownOrThrow 23 = .ok (.iload_n 3, 1) := by decide +kernel
theorem dX6_lastKnownOrThrow_24 : decode cX6_lastKnownOrThrow 24 = .ok (.ireturn, 1) := by decide +kernel
theorem dX6_fieldsOf_0 : decode cX6_fieldsOf 0 = .ok (.aload_n 0, 1) := by decide +kernel
theorem dX6_fieldsOf_1 : decode cX6_fieldsOf 1 = .ok (.aload_n 1, 1) := by decide +kernel
theorem dX6_fieldsOf_2 : decode cX6_fieldsOf 2 = .ok (.getfield 123, 3) := by decide +kernel
theorem dX6_fieldsOf_5 : decode cX6_fieldsOf 5 = .ok (.iconst 0, 1) := by decide +kernel
theorem dX6_fieldsOf_6 : decode cX6_fieldsOf 6 = .ok (.aload_n 1, 1) := by decide +kernel
theorem dX6_fieldsOf_7 : decode cX6_fieldsOf 7 = .ok (.getfield 123, 3) := by decide +kernel
theorem dX6_fieldsOf_10 : decode cX6_fieldsOf 10 = .ok (.invokevirtual 208, 3) := by decide +kernel
theorem dX6_fieldsOf_13 : decode cX6_fieldsOf 13 = .ok (.invokevirtual 240, 3) := by decide +kernel
theorem dX6_fieldsOf_16 : decode cX6_fieldsOf 16 = .ok (.areturn, 1) := by decide +kernel
theorem dX6_fieldsOfTape_0 : decode cX6_fieldsOfTape 0 = .ok (.aload_n 0, 1) := by decide +kernel
theorem dX6_fieldsOfTape_1 : decode cX6_fieldsOfTape 1 = .ok (.aload_n 0, 1) := by decide +kernel
theorem dX6_fieldsOfTape_2 : decode cX6_fieldsOfTape 2 = .ok (.getfield 24, 3) := by decide +kernel
theorem dX6_fieldsOfTape_5 : decode cX6_fieldsOfTape 5 = .ok (.iconst 0, 1) := by decide +kernel
theorem dX6_fieldsOfTape_6 : decode cX6_fieldsOfTape 6 = .ok (.aload_n 0, 1) := by decide +kernel
theorem dX6_fieldsOfTape_7 : decode cX6_fieldsOfTape 7 = .ok (.getfield 24, 3) := by decide +kernel
theorem dX6_fieldsOfTape_10 : decode cX6_fieldsOfTape 10 = .ok (.invokevirtual 208, 3) := by decide +kernel
theorem dX6_fieldsOfTape_13 : decode cX6_fieldsOfTape 13 = .ok (.invokevirtual 240, 3) := by decide +kernel
theorem dX6_fieldsOfTape_16 : decode cX6_fieldsOfTape 16 = .ok (.areturn, 1) := by decide +kernel
theorem dX6_fieldsIn_0 : decode cX6_fieldsIn 0 = .ok (.aload_n 0, 1) := by decide +kernel
theorem dX6_fieldsIn_1 : decode cX6_fieldsIn 1 = .ok (.getfield 38, 3) := by decide +kernel
theorem dX6_fieldsIn_4 : decode cX6_fieldsIn 4 = .ok (.aload_n 1, 1) := by decide +kernel
theorem dX6_fieldsIn_5 : decode cX6_fieldsIn 5 = .ok (.iload_n 2, 1) := by decide +kernel
theorem dX6_fieldsIn_6 : decode cX6_fieldsIn 6 = .ok (.iload_n 3, 1) := by decide +kernel
theorem dX6_fieldsIn_7 : decode cX6_fieldsIn 7 = .ok (.invokevirtual 310, 3) := by decide +kernel
theorem dX6_fieldsIn_10 : decode cX6_fieldsIn 10 = .ok (.aload_n 0, 1) := by decide +kernel
theorem dX6_fieldsIn_11 : decode cX6_fieldsIn 11 = .ok (.getfield 38, 3) := by decide +kernel
theorem dX6_fieldsIn_14 : decode cX6_fieldsIn 14 = .ok (.areturn, 1) := by decide +kernel
theorem dX6_chooseBoth_0 : decode cX6_chooseBoth 0 = .ok (.aload_n 0, 1) := by decide +kernel
theorem dX6_chooseBoth_1 : decode cX6_chooseBoth 1 = .ok (.getfield 45, 3) := by decide +kernel
theorem dX6_chooseBoth_4 : decode cX6_chooseBoth 4 = .ok (.aload_n 1, 1) := by decide +kernel
theorem dX6_chooseBoth_5 : decode cX6_chooseBoth 5 = .ok (.getfield 123, 3) := by decide +kernel
theorem dX6_chooseBoth_8 : decode cX6_chooseBoth 8 = .ok (.aload_n 1, 1) := by decide +kernel
theorem dX6_chooseBoth_9 : decode cX6_chooseBoth 9 = .ok (.getfield 141, 3) := by decide +kernel
theorem dX6_chooseBoth_12 : decode cX6_chooseBoth 12 = .ok (.invokevirtual 201, 3) := by decide +kernel
theorem dX6_chooseBoth_15 : decode cX6_chooseBoth 15 = .ok (.aload_n 0, 1) := by decide +kernel
theorem dX6_chooseBoth_16 : decode cX6_chooseBoth 16 = .ok (.getfield 49, 3) := by decide +kernel
theorem dX6_chooseBoth_19 : decode cX6_chooseBoth 19 = .ok (.aload_n 2, 1) := by decide +kernel
theorem dX6_chooseBoth_20 : decode cX6_chooseBoth 20 = .ok (.getfield 123, 3) := by decide +kernel
theorem dX6_chooseBoth_23 : decode cX6_chooseBoth 23 = .ok (.aload_n 2, 1) := by decide +kernel
theorem dX6_chooseBoth_24 : decode cX6_chooseBoth 24 = .ok (.getfield 141, 3) := by decide +kernel
theorem dX6_chooseBoth_27 : decode cX6_chooseBoth 27 = .ok (.invokevirtual 201, 3) := by decide +kernel
theorem dX6_chooseBoth_30 : decode cX6_chooseBoth 30 = .ok (.return_, 1) := by decide +kernel
theorem dX6_messageOf_0 : decode cX6_messageOf 0 = .ok (.new 15, 3) := by decide +kernel
theorem dX6_messageOf_3 : decode cX6_messageOf 3 = .ok (.dup, 1) := by decide +kernel
theorem dX6_messageOf_4 : decode cX6_messageOf 4 = .ok (.aload_n 1, 1) := by decide +kernel
theorem dX6_messageOf_5 : decode cX6_messageOf 5 = .ok (.invokespecial 112, 3) := by decide +kernel
theorem dX6_messageOf_8 : decode cX6_messageOf 8 = .ok (.astore_n 2, 1) := by decide +kernel
theorem dX6_messageOf_9 : decode cX6_messageOf 9 = .ok (.iconst 0, 1) := by decide +kernel
theorem dX6_messageOf_10 : decode cX6_messageOf 10 = .ok (.istore_n 3, 1) := by decide +kernel
theorem dX6_messageOf_11 : decode cX6_messageOf 11 = .ok (.iload_n 3, 1) := by decide +kernel
theorem dX6_messageOf_12 : decode cX6_messageOf 12 = .ok (.aload_n 0, 1) := by decide +kernel
theorem dX6_messageOf_13 : decode cX6_messageOf 13 = .ok (.invokevirtual 134, 3) := by decide +kernel
theorem dX6_messageOf_16 : decode cX6_messageOf 16 = .ok (.if_icmp .ge 18, 3) := by decide +kernel
theorem dX6_messageOf_19 : decode cX6_messageOf 19 = .ok (.aload_n 0, 1) := by decide +kernel
theorem dX6_messageOf_20 : decode cX6_messageOf 20 = .ok (.aload_n 2, 1) := by decide +kernel
theorem dX6_messageOf_21 : decode cX6_messageOf 21 = .ok (.getfield 123, 3) := by decide +kernel
theorem dX6_messageOf_24 : decode cX6_messageOf 24 = .ok (.iload_n 3, 1) := by decide +kernel
theorem dX6_messageOf_25 : decode cX6_messageOf 25 = .ok (.invokevirtual 215, 3) := by decide +kernel
theorem dX6_messageOf_28 : decode cX6_messageOf 28 = .ok (.iinc 3 1, 3) := by decide +kernel
theorem dX6_messageOf_31 : decode cX6_messageOf 31 = .ok (.goto (-20), 3) := by decide +kernel
theorem dX6_messageOf_34 : decode cX6_messageOf 34 = .ok (.aload_n 2, 1) := by decide +kernel
theorem dX6_messageOf_35 : decode cX6_messageOf 35 = .ok (.areturn, 1) := by decide +kernel
theorem dX6_addMessage_0 : decode cX6_addMessage 0 = .ok (.iconst 0, 1) := by decide +kernel
theorem dX6_addMessage_1 : decode cX6_addMessage 1 = .ok (.istore_n 2, 1) := by decide +kernel
theorem dX6_addMessage_2 : decode cX6_addMessage 2 = .ok (.iload_n 2, 1) := by decide +kernel
theorem dX6_addMessage_3 : decode cX6_addMessage 3 = .ok (.aload_n 0, 1) := by decide +kernel
theorem dX6_addMessage_4 : decode cX6_addMessage 4 = .ok (.getfield 17, 3) := by decide +kernel
theorem dX6_addMessage_7 : decode cX6_addMessage 7 = .ok (.arraylength, 1) := by decide +kernel
theorem dX6_addMessage_8 : decode cX6_addMessage 8 = .ok (.if_icmp .ge 27, 3) := by decide +kernel
theorem dX6_addMessage_11 : decode cX6_addMessage 11 = .ok (.aload_n 0, 1) := by decide +kernel
theorem dX6_addMessage_12 : decode cX6_addMessage 12 = .ok (.getfield 17, 3) := by decide +kernel
theorem dX6_addMessage_15 : decode cX6_addMessage 15 = .ok (.iload_n 2, 1) := by decide +kernel
theorem dX6_addMessage_16 : decode cX6_addMessage 16 = .ok (.aaload, 1) := by decide +kernel
theorem dX6_addMessage_17 : decode cX6_addMessage 17 = .ok (.ifnonnull 12, 3) := by decide +kernel
theorem dX6_addMessage_20 : decode cX6_addMessage 20 = .ok (.aload_n 0, 1) := by decide +kernel
theorem dX6_addMessage_21 : decode cX6_addMessage 21 = .ok (.getfield 17, 3) := by decide +kernel
theorem dX6_addMessage_24 : decode cX6_addMessage 24 = .ok (.iload_n 2, 1) := by decide +kernel
theorem dX6_addMessage_25 : decode cX6_addMessage 25 = .ok (.aload_n 1, 1) := by decide +kernel
theorem dX6_addMessage_26 : decode cX6_addMessage 26 = .ok (.aastore, 1) := by decide +kernel
theorem dX6_addMessage_27 : decode cX6_addMessage 27 = .ok (.iload_n 2, 1) := by decide +kernel
theorem dX6_addMessage_28 : decode cX6_addMessage 28 = .ok (.ireturn, 1) := by decide +kernel
theorem dX6_addMessage_29 : decode cX6_addMessage 29 = .ok (.iinc 2 1, 3) := by decide +kernel
theorem dX6_addMessage_32 : decode cX6_addMessage 32 = .ok (.goto (-30), 3) := by decide +kernel
theorem dX6_addMessage_35 : decode cX6_addMessage 35 = .ok (.new 65, 3) := by decide +kernel
theorem dX6_addMessage_38 : decode cX6_addMessage 38 = .ok (.dup, 1) := by decide +kernel
theorem dX6_addMessage_39 : decode cX6_addMessage 39 = .ok (.ldc_w 313, 3) := by decide +kernel
theorem dX6_addMessage_42 : decode cX6_addMessage 42 = .ok (.invokespecial 69, 3) := by decide +kernel
theorem dX6_addMessage_45 : decode cX6_addMessage 45 = .ok (.athrow, 1) := by decide +kernel
theorem dX6_removeMessage_0 : decode cX6_removeMessage 0 = .ok (.iload_n 1, 1) := by decide +kernel
theorem dX6_removeMessage_1 : decode cX6_removeMessage 1 = .ok (.ifCond .lt 19, 3) := by decide +kernel
theorem dX6_removeMessage_4 : decode cX6_removeMessage 4 = .ok (.iload_n 1, 1) := by decide +kernel
theorem dX6_removeMessage_5 : decode cX6_removeMessage 5 = .ok (.aload_n 0, 1) := by decide +kernel
theorem dX6_removeMessage_6 : decode cX6_removeMessage 6 = .ok (.getfield 17, 3) := by decide +kernel
theorem dX6_removeMessage_9 : decode cX6_removeMessage 9 = .ok (.arraylength, 1) := by decide +kernel
theorem dX6_removeMessage_10 : decode cX6_removeMessage 10 = .ok (.if_icmp .ge 10, 3) := by decide +kernel
theorem dX6_removeMessage_13 : decode cX6_removeMessage 13 = .ok (.aload_n 0, 1) := by decide +kernel
theorem dX6_removeMessage_14 : decode cX6_removeMessage 14 = .ok (.getfield 17, 3) := by decide +kernel
theorem dX6_removeMessage_17 : decode cX6_removeMessage 17 = .ok (.iload_n 1, 1) := by decide +kernel
theorem dX6_removeMessage_18 : decode cX6_removeMessage 18 = .ok (.aconst_null, 1) := by decide +kernel
theorem dX6_removeMessage_19 : decode cX6_removeMessage 19 = .ok (.aastore, 1) := by decide +kernel
theorem dX6_removeMessage_20 : decode cX6_removeMessage 20 = .ok (.return_, 1) := by decide +kernel
theorem dX6_draftWithoutKnown_0 : decode cX6_draftWithoutKnown 0 = .ok (.aload_n 0, 1) := by decide +kernel
theorem dX6_draftWithoutKnown_1 : decode cX6_draftWithoutKnown 1 = .ok (.getfield 58, 3) := by decide +kernel
theorem dX6_draftWithoutKnown_4 : decode cX6_draftWithoutKnown 4 = .ok (.iconst 0, 1) := by decide +kernel
theorem dX6_draftWithoutKnown_5 : decode cX6_draftWithoutKnown 5 = .ok (.invokevirtual 209, 3) := by decide +kernel
theorem dX6_draftWithoutKnown_8 : decode cX6_draftWithoutKnown 8 = .ok (.iconst 0, 1) := by decide +kernel
theorem dX6_draftWithoutKnown_9 : decode cX6_draftWithoutKnown 9 = .ok (.istore 4, 2) := by decide +kernel
theorem dX6_draftWithoutKnown_11 : decode cX6_draftWithoutKnown 11 = .ok (.iload 4, 2) := by decide +kernel
theorem dX6_draftWithoutKnown_13 : decode cX6_draftWithoutKnown 13 = .ok (.aload_n 1, 1) := by decide +kernel
theorem dX6_draftWithoutKnown_14 : decode cX6_draftWithoutKnown 14 = .ok (.invokevirtual 134, 3) := by decide +kernel
theorem dX6_draftWithoutKnown_17 : decode cX6_draftWithoutKnown 17 = .ok (.if_icmp .ge 39, 3) := by decide +kernel
theorem dX6_draftWithoutKnown_20 : decode cX6_draftWithoutKnown 20 = .ok (.aload_n 1, 1) := by decide +kernel
theorem dX6_draftWithoutKnown_21 : decode cX6_draftWithoutKnown 21 = .ok (.iload 4, 2) := by decide +kernel
theorem dX6_draftWithoutKnown_23 : decode cX6_draftWithoutKnown 23 = .ok (.invokevirtual 212, 3) := by decide +kernel
theorem dX6_draftWithoutKnown_26 : decode cX6_draftWithoutKnown 26 = .ok (.iload_n 3, 1) := by decide +kernel
theorem dX6_draftWithoutKnown_27 : decode cX6_draftWithoutKnown 27 = .ok (.if_icmp .ne 13, 3) := by decide +kernel
theorem dX6_draftWithoutKnown_30 : decode cX6_draftWithoutKnown 30 = .ok (.aload_n 1, 1) := by decide +kernel
theorem dX6_draftWithoutKnown_31 : decode cX6_draftWithoutKnown 31 = .ok (.aload_n 2, 1) := by decide +kernel
theorem dX6_draftWithoutKnown_32 : decode cX6_draftWithoutKnown 32 = .ok (.iload 4, 2) := by decide +kernel
theorem dX6_draftWithoutKnown_34 : decode cX6_draftWithoutKnown 34 = .ok (.invokevirtual 253, 3) := by decide +kernel
theorem dX6_draftWithoutKnown_37 : decode cX6_draftWithoutKnown 37 = .ok (.ifCond .ne 13, 3) := by decide +kernel
theorem dX6_draftWithoutKnown_40 : decode cX6_draftWithoutKnown 40 = .ok (.aload_n 1, 1) := by decide +kernel
theorem dX6_draftWithoutKnown_41 : decode cX6_draftWithoutKnown 41 = .ok (.aload_n 0, 1) := by decide +kernel
theorem dX6_draftWithoutKnown_42 : decode cX6_draftWithoutKnown 42 = .ok (.getfield 58, 3) := by decide +kernel
theorem dX6_draftWithoutKnown_45 : decode cX6_draftWithoutKnown 45 = .ok (.iload 4, 2) := by decide +kernel
theorem dX6_draftWithoutKnown_47 : decode cX6_draftWithoutKnown 47 = .ok (.invokevirtual 215, 3) := by decide +kernel
theorem dX6_draftWithoutKnown_50 : decode cX6_draftWithoutKnown 50 = .ok (.iinc 4 1, 3) := by decide +kernel
theorem dX6_draftWithoutKnown_53 : decode cX6_draftWithoutKnown 53 = .ok (.goto (-42), 3) := by decide +kernel
theorem dX6_draftWithoutKnown_56 : decode cX6_draftWithoutKnown 56 = .ok (.return_, 1) := by decide +kernel
theorem dX6_takeDraft_0 : decode cX6_takeDraft 0 = .ok (.aload_n 0, 1) := by decide +kernel
theorem dX6_takeDraft_1 : decode cX6_takeDraft 1 = .ok (.getfield 58, 3) := by decide +kernel
theorem dX6_takeDraft_4 : decode cX6_takeDraft 4 = .ok (.invokevirtual 208, 3) := by decide +kernel
theorem dX6_takeDraft_7 : decode cX6_takeDraft 7 = .ok (.bipush 120, 2) := by decide +kernel
theorem dX6_takeDraft_9 : decode cX6_takeDraft 9 = .ok (.if_icmp .le 14, 3) := by decide +kernel
theorem dX6_takeDraft_12 : decode cX6_takeDraft 12 = .ok (.new 65, 3) := by decide +kernel
theorem dX6_takeDraft_15 : decode cX6_takeDraft 15 = .ok (.dup, 1) := by decide +kernel
theorem dX6_takeDraft_16 : decode cX6_takeDraft 16 = .ok (.ldc_w 315, 3) := by decide +kernel
theorem dX6_takeDraft_19 : decode cX6_takeDraft 19 = .ok (.invokespecial 69, 3) := by decide +kernel
theorem dX6_takeDraft_22 : decode cX6_takeDraft 22 = .ok (.athrow, 1) := by decide +kernel
theorem dX6_takeDraft_23 : decode cX6_takeDraft 23 = .ok (.aload_n 1, 1) := by decide +kernel
theorem dX6_takeDraft_24 : decode cX6_takeDraft 24 = .ok (.getfield 123, 3) := by decide +kernel
theorem dX6_takeDraft_27 : decode cX6_takeDraft 27 = .ok (.aload_n 0, 1) := by decide +kernel
theorem dX6_takeDraft_28 : decode cX6_takeDraft 28 = .ok (.getfield 58, 3) := by decide +kernel
theorem dX6_takeDraft_31 : decode cX6_takeDraft 31 = .ok (.invokevirtual 126, 3) := by decide +kernel
theorem dX6_takeDraft_34 : decode cX6_takeDraft 34 = .ok (.return_, 1) := by decide +kernel
theorem dJ7_fill_53178_0 : decode cJ7_fill_53178 0 = .ok (.iconst 0, 1) := by decide +kernel
theorem dJ7_fill_53178_1 : decode cJ7_fill_53178 1 = .ok (.istore_n 2, 1) := by decide +kernel
theorem dJ7_fill_53178_2 : decode cJ7_fill_53178 2 = .ok (.aload_n 0, 1) := by decide +kernel
theorem dJ7_fill_53178_3 : decode cJ7_fill_53178 3 = .ok (.arraylength, 1) := by decide +kernel
theorem dJ7_fill_53178_4 : decode cJ7_fill_53178 4 = .ok (.istore_n 3, 1) := by decide +kernel
theorem dJ7_fill_53178_5 : decode cJ7_fill_53178 5 = .ok (.iload_n 2, 1) := by decide +kernel
theorem dJ7_fill_53178_6 : decode cJ7_fill_53178 6 = .ok (.iload_n 3, 1) := by decide +kernel
theorem dJ7_fill_53178_7 : decode cJ7_fill_53178 7 = .ok (.if_icmp .ge 13, 3) := by decide +kernel
theorem dJ7_fill_53178_10 : decode cJ7_fill_53178 10 = .ok (.aload_n 0, 1) := by decide +kernel
theorem dJ7_fill_53178_11 : decode cJ7_fill_53178 11 = .ok (.iload_n 2, 1) := by decide +kernel
theorem dJ7_fill_53178_12 : decode cJ7_fill_53178 12 = .ok (.iload_n 1, 1) := by decide +kernel
theorem dJ7_fill_53178_13 : decode cJ7_fill_53178 13 = .ok (.iastore, 1) := by decide +kernel
theorem dJ7_fill_53178_14 : decode cJ7_fill_53178 14 = .ok (.iinc 2 1, 3) := by decide +kernel
theorem dJ7_fill_53178_17 : decode cJ7_fill_53178 17 = .ok (.goto (-12), 3) := by decide +kernel
theorem dJ7_fill_53178_20 : decode cJ7_fill_53178 20 = .ok (.return_, 1) := by decide +kernel
