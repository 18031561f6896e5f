theorem dX7_init_0 : decode cX7_init 0 = .ok (.aload_n 0, 1) := by decide +kernel
theorem dX7_init_1 : decode cX7_init 1 = .ok (.invokespecial 1, 3) := by decide +kernel
theorem dX7_init_4 : decode cX7_init 4 = .ok (.aload_n 0, 1) := by decide +kernel
theorem dX7_init_5 : decode cX7_init 5 = .ok (.sipush 192, 3) := by decide +kernel
theorem dX7_init_8 : decode cX7_init 8 = .ok (.newarray .int, 2) := by decide +kernel
theorem dX7_init_10 : decode cX7_init 10 = .ok (.putfield 7, 3) := by decide +kernel
theorem dX7_init_13 : decode cX7_init 13 = .ok (.aload_n 0, 1) := by decide +kernel
theorem dX7_init_14 : decode cX7_init 14 = .ok (.sipush 192, 3) := by decide +kernel
theorem dX7_init_17 : decode cX7_init 17 = .ok (.newarray .int, 2) := by decide +kernel
theorem dX7_init_19 : decode cX7_init 19 = .ok (.putfield 13, 3) := by decide +kernel
theorem dX7_init_22 : decode cX7_init 22 = .ok (.aload_n 0, 1) := by decide +kernel
theorem dX7_init_23 : decode cX7_init 23 = .ok (.sipush 192, 3) := by decide +kernel
theorem dX7_init_26 : decode cX7_init 26 = .ok (.newarray .int, 2) := by decide +kernel
theorem dX7_init_28 : decode cX7_init 28 = .ok (.putfield 16, 3) := by decide +kernel
theorem dX7_init_31 : decode cX7_init 31 = .ok (.aload_n 0, 1) := by decide +kernel
theorem dX7_init_32 : decode cX7_init 32 = .ok (.bipush 12, 2) := by decide +kernel
theorem dX7_init_34 : decode cX7_init 34 = .ok (.newarray .boolean, 2) := by decide +kernel
theorem dX7_init_36 : decode cX7_init 36 = .ok (.putfield 19, 3) := by decide +kernel
theorem dX7_init_39 : decode cX7_init 39 = .ok (.aload_n 0, 1) := by decide +kernel
theorem dX7_init_40 : decode cX7_init 40 = .ok (.bipush 12, 2) := by decide +kernel
theorem dX7_init_42 : decode cX7_init 42 = .ok (.newarray .int, 2) := by decide +kernel
theorem dX7_init_44 : decode cX7_init 44 = .ok (.putfield 23, 3) := by decide +kernel
theorem dX7_init_47 : decode cX7_init 47 = .ok (.aload_n 0, 1) := by decide +kernel
theorem dX7_init_48 : decode cX7_init 48 = .ok (.bipush 12, 2) := by decide +kernel
theorem dX7_init_50 : decode cX7_init 50 = .ok (.newarray .int, 2) := by decide +kernel
theorem dX7_init_52 : decode cX7_init 52 = .ok (.putfield 26, 3) := by decide +kernel
theorem dX7_init_55 : decode cX7_init 55 = .ok (.aload_n 0, 1) := by decide +kernel
theorem dX7_init_56 : decode cX7_init 56 = .ok (.sipush 1440, 3) := by decide +kernel
theorem dX7_init_59 : decode cX7_init 59 = .ok (.newarray .int, 2) := by decide +kernel
theorem dX7_init_61 : decode cX7_init 61 = .ok (.putfield 29, 3) := by decide +kernel
theorem dX7_init_64 : decode cX7_init 64 = .ok (.aload_n 0, 1) := by decide +kernel
theorem dX7_init_65 : decode cX7_init 65 = .ok (.bipush 120, 2) := by decide +kernel
theorem dX7_init_67 : decode cX7_init 67 = .ok (.newarray .int, 2) := by decide +kernel
theorem dX7_init_69 : decode cX7_init 69 = .ok (.putfield 32, 3) := by decide +kernel
theorem dX7_init_72 : decode cX7_init 72 = .ok (.aload_n 0, 1) := by decide +kernel
theorem dX7_init_73 : decode cX7_init 73 = .ok (.sipush 300, 3) := by decide +kernel
theorem dX7_init_76 : decode cX7_init 76 = .ok (.newarray .int, 2) := by decide +kernel
theorem dX7_init_78 : decode cX7_init 78 = .ok (.putfield 35, 3) := by decide +kernel
theorem dX7_init_81 : decode cX7_init 81 = .ok (.aload_n 0, 1) := by decide +kernel
theorem dX7_init_82 : decode cX7_init 82 = .ok (.sipush 300, 3) := by decide +kernel
theorem dX7_init_85 : decode cX7_init 85 = .ok (.newarray .int, 2) := by decide +kernel
theorem dX7_init_87 : decode cX7_init 87 = .ok (.putfield 38, 3) := by decide +kernel
theorem dX7_init_90 : decode cX7_init 90 = .ok (.aload_n 0, 1) := by decide +kernel
theorem dX7_init_91 : decode cX7_init 91 = .ok (.bipush 36, 2) := by decide +kernel
theorem dX7_init_93 : decode cX7_init 93 = .ok (.newarray .boolean, 2) := by decide +kernel
theorem dX7_init_95 : decode cX7_init 95 = .ok (.putfield 41, 3) := by decide +kernel
theorem dX7_init_98 : decode cX7_init 98 = .ok (.return_, 1) := by decide +kernel
theorem dX7_thrown_0 : decode cX7_thrown 0 = .ok (.aload_n 0, 1) := by decide +kernel
theorem dX7_thrown_1 : decode cX7_thrown 1 = .ok (.getfield 44, 3) := by decide +kernel
theorem dX7_thrown_4 : decode cX7_thrown 4 = .ok (.ireturn, 1) := by decide +kernel
theorem dX7_in_0 : decode cX7_in 0 = .ok (.iload_n 0, 1) := by decide +kernel
theorem dX7_in_1 : decode cX7_in 1 = .ok (.iload_n 1, 1) := by decide +kernel
theorem dX7_in_2 : decode cX7_in 2 = .ok (.if_icmp .lt 12, 3) := by decide +kernel
theorem dX7_in_5 : decode cX7_in 5 = .ok (.iload_n 0, 1) := by decide +kernel
theorem dX7_in_6 : decode cX7_in 6 = .ok (.iload_n 2, 1) := by decide +kernel
theorem dX7_in_7 : decode cX7_in 7 = .ok (.if_icmp .gt 7, 3) := by decide +kernel
theorem dX7_in_10 : decode cX7_in 10 = .ok (.iconst 1, 1) := by decide +kernel
theorem dX7_in_11 : decode cX7_in 11 = .ok (.goto 4, 3) := by decide +kernel
theorem dX7_in_14 : decode cX7_in 14 = .ok (.iconst 0, 1) := by decide +kernel
theorem dX7_in_15 : decode cX7_in 15 = .ok (.ireturn, 1) := by decide +kernel
theorem dX7_isSchema_0 : decode cX7_isSchema 0 = .ok (.iload_n 1, 1) := by decide +kernel
theorem dX7_isSchema_1 : decode cX7_isSchema 1 = .ok (.iconst 0, 1) := by decide +kernel
theorem dX7_isSchema_2 : decode cX7_isSchema 2 = .ok (.aload_n 0, 1) := by decide +kernel
theorem dX7_isSchema_3 : decode cX7_isSchema 3 = .ok (.getfield 48, 3) := by decide +kernel
theorem dX7_isSchema_6 : decode cX7_isSchema 6 = .ok (.iconst 1, 1) := by decide +kernel
theorem dX7_isSchema_7 : decode cX7_isSchema 7 = .ok (.isub, 1) := by decide +kernel
theorem dX7_isSchema_8 : decode cX7_isSchema 8 = .ok (.invokestatic 51, 3) := by decide +kernel
theorem dX7_isSchema_11 : decode cX7_isSchema 11 = .ok (.ireturn, 1) := by decide +kernel
theorem dX7_isTag_0 : decode cX7_isTag 0 = .ok (.iload_n 0, 1) := by decide +kernel
theorem dX7_isTag_1 : decode cX7_isTag 1 = .ok (.iconst 1, 1) := by decide +kernel
theorem dX7_isTag_2 : decode cX7_isTag 2 = .ok (.bipush 31, 2) := by decide +kernel
theorem dX7_isTag_4 : decode cX7_isTag 4 = .ok (.invokestatic 51, 3) := by decide +kernel
theorem dX7_isTag_7 : decode cX7_isTag 7 = .ok (.ireturn, 1) := by decide +kernel
theorem dX7_isMessage_0 : decode cX7_isMessage 0 = .ok (.iload_n 1, 1) := by decide +kernel
theorem dX7_isMessage_1 : decode cX7_isMessage 1 = .ok (.iconst 0, 1) := by decide +kernel
theorem dX7_isMessage_2 : decode cX7_isMessage 2 = .ok (.bipush 11, 2) := by decide +kernel
theorem dX7_isMessage_4 : decode cX7_isMessage 4 = .ok (.invokestatic 51, 3) := by decide +kernel
theorem dX7_isMessage_7 : decode cX7_isMessage 7 = .ok (.ifCond .eq 16, 3) := by decide +kernel
theorem dX7_isMessage_10 : decode cX7_isMessage 10 = .ok (.aload_n 0, 1) := by decide +kernel
theorem dX7_isMessage_11 : decode cX7_isMessage 11 = .ok (.getfield 19, 3) := by decide +kernel
theorem dX7_isMessage_14 : decode cX7_isMessage 14 = .ok (.iload_n 1, 1) := by decide +kernel
theorem dX7_isMessage_15 : decode cX7_isMessage 15 = .ok (.baload, 1) := by decide +kernel
theorem dX7_isMessage_16 : decode cX7_isMessage 16 = .ok (.ifCond .eq 7, 3) := by decide +kernel
theorem dX7_isMessage_19 : decode cX7_isMessage 19 = .ok (.iconst 1, 1) := by decide +kernel
theorem dX7_isMessage_20 : decode cX7_isMessage 20 = .ok (.goto 4, 3) := by decide +kernel
theorem dX7_isMessage_23 : decode cX7_isMessage 23 = .ok (.iconst 0, 1) := by decide +kernel
theorem dX7_isMessage_24 : decode cX7_isMessage 24 = .ok (.ireturn, 1) := by decide +kernel
theorem dX7_group_0 : decode cX7_group 0 = .ok (.iconst 0, 1) := by decide +kernel
theorem dX7_group_1 : decode cX7_group 1 = .ok (.istore_n 3, 1) := by decide +kernel
theorem dX7_group_2 : decode cX7_group 2 = .ok (.iconst 0, 1) := by decide +kernel
theorem dX7_group_3 : decode cX7_group 3 = .ok (.istore 4, 2) := by decide +kernel
theorem dX7_group_5 : decode cX7_group 5 = .ok (.iload 4, 2) := by decide +kernel
theorem dX7_group_7 : decode cX7_group 7 = .ok (.iconst 5, 1) := by decide +kernel
theorem dX7_group_8 : decode cX7_group 8 = .ok (.if_icmp .ge 86, 3) := by decide +kernel
theorem dX7_group_11 : decode cX7_group 11 = .ok (.aload_n 0, 1) := by decide +kernel
theorem dX7_group_12 : decode cX7_group 12 = .ok (.getfield 55, 3) := by decide +kernel
theorem dX7_group_15 : decode cX7_group 15 = .ok (.iload_n 2, 1) := by decide +kernel
theorem dX7_group_16 : decode cX7_group 16 = .ok (.if_icmp .ne 10, 3) := by decide +kernel
theorem dX7_group_19 : decode cX7_group 19 = .ok (.aload_n 0, 1) := by decide +kernel
theorem dX7_group_20 : decode cX7_group 20 = .ok (.iconst 1, 1) := by decide +kernel
theorem dX7_group_21 : decode cX7_group 21 = .ok (.putfield 58, 3) := by decide +kernel
theorem dX7_group_24 : decode cX7_group 24 = .ok (.iconst 0, 1) := by decide +kernel
theorem dX7_group_25 : decode cX7_group 25 = .ok (.ireturn, 1) := by decide +kernel
theorem dX7_group_26 : decode cX7_group 26 = .ok (.aload_n 1, 1) := by decide +kernel
theorem dX7_group_27 : decode cX7_group 27 = .ok (.aload_n 0, 1) := by decide +kernel
theorem dX7_group_28 : decode cX7_group 28 = .ok (.getfield 55, 3) := by decide +kernel
theorem dX7_group_31 : decode cX7_group 31 = .ok (.iaload, 1) := by decide +kernel
theorem dX7_group_32 : decode cX7_group 32 = .ok (.istore 5, 2) := by decide +kernel
theorem dX7_group_34 : decode cX7_group 34 = .ok (.aload_n 0, 1) := by decide +kernel
theorem dX7_group_35 : decode cX7_group 35 = .ok (.dup, 1) := by decide +kernel
theorem dX7_group_36 : decode cX7_group 36 = .ok (.getfield 55, 3) := by decide +kernel
theorem dX7_group_39 : decode cX7_group 39 = .ok (.iconst 1, 1) := by decide +kernel
theorem dX7_group_40 : decode cX7_group 40 = .ok (.iadd, 1) := by decide +kernel
theorem dX7_group_41 : decode cX7_group 41 = .ok (.putfield 55, 3) := by decide +kernel
theorem dX7_group_44 : decode cX7_group 44 = .ok (.iload 4, 2) := by decide +kernel
theorem dX7_group_46 : decode cX7_group 46 = .ok (.iconst 4, 1) := by decide +kernel
theorem dX7_group_47 : decode cX7_group 47 = .ok (.if_icmp .ne 17, 3) := by decide +kernel
theorem dX7_group_50 : decode cX7_group 50 = .ok (.iload 5, 2) := by decide +kernel
theorem dX7_group_52 : decode cX7_group 52 = .ok (.bipush 15, 2) := by decide +kernel
theorem dX7_group_54 : decode cX7_group 54 = .ok (.if_icmp .le 10, 3) := by decide +kernel
theorem dX7_group_57 : decode cX7_group 57 = .ok (.aload_n 0, 1) := by decide +kernel
theorem dX7_group_58 : decode cX7_group 58 = .ok (.iconst 2, 1) := by decide +kernel
theorem dX7_group_59 : decode cX7_group 59 = .ok (.putfield 58, 3) := by decide +kernel
theorem dX7_group_62 : decode cX7_group 62 = .ok (.iconst 0, 1) := by decide +kernel
theorem dX7_group_63 : decode cX7_group 63 = .ok (.ireturn, 1) := by decide +kernel
theorem dX7_group_64 : decode cX7_group 64 = .ok (.iload_n 3, 1) := by decide +kernel
theorem dX7_group_65 : decode cX7_group 65 = .ok (.iload 5, 2) := by decide +kernel
theorem dX7_group_67 : decode cX7_group 67 = .ok (.bipush 127, 2) := by decide +kernel
theorem dX7_group_69 : decode cX7_group 69 = .ok (.iand, 1) := by decide +kernel
theorem dX7_group_70 : decode cX7_group 70 = .ok (.bipush 7, 2) := by decide +kernel
theorem dX7_group_72 : decode cX7_group 72 = .ok (.iload 4, 2) := by decide +kernel
theorem dX7_group_74 : decode cX7_group 74 = .ok (.imul, 1) := by decide +kernel
theorem dX7_group_75 : decode cX7_group 75 = .ok (.ishl, 1) := by decide +kernel
theorem dX7_group_76 : decode cX7_group 76 = .ok (.ior, 1) := by decide +kernel
theorem dX7_group_77 : decode cX7_group 77 = .ok (.istore_n 3, 1) := by decide +kernel
theorem dX7_group_78 : decode cX7_group 78 = .ok (.iload 5, 2) := by decide +kernel
theorem dX7_group_80 : decode cX7_group 80 = .ok (.sipush 128, 3) := by decide +kernel
theorem dX7_group_83 : decode cX7_group 83 = .ok (.if_icmp .ge 5, 3) := by decide +kernel
theorem dX7_group_86 : decode cX7_group 86 = .ok (.iload_n 3, 1) := by decide +kernel
theorem dX7_group_87 : decode cX7_group 87 = .ok (.ireturn, 1) := by decide +kernel
theorem dX7_group_88 : decode cX7_group 88 = .ok (.iinc 4 1, 3) := by decide +kernel
theorem dX7_group_91 : decode cX7_group 91 = .ok (.goto (-86), 3) := by decide +kernel
theorem dX7_group_94 : decode cX7_group 94 = .ok (.iload_n 3, 1) := by decide +kernel
theorem dX7_group_95 : decode cX7_group 95 = .ok (.ireturn, 1) := by decide +kernel
theorem dX7_field_0 : decode cX7_field 0 = .ok (.aload_n 0, 1) := by decide +kernel
theorem dX7_field_1 : decode cX7_field 1 = .ok (.iconst 0, 1) := by decide +kernel
theorem dX7_field_2 : decode cX7_field 2 = .ok (.putfield 58, 3) := by decide +kernel
theorem dX7_field_5 : decode cX7_field 5 = .ok (.aload_n 0, 1) := by decide +kernel
theorem dX7_field_6 : decode cX7_field 6 = .ok (.aload_n 0, 1) := by decide +kernel
theorem dX7_field_7 : decode cX7_field 7 = .ok (.getfield 55, 3) := by decide +kernel
theorem dX7_field_10 : decode cX7_field 10 = .ok (.putfield 61, 3) := by decide +kernel
theorem dX7_field_13 : decode cX7_field 13 = .ok (.aload_n 0, 1) := by decide +kernel
theorem dX7_field_14 : decode cX7_field 14 = .ok (.aload_n 1, 1) := by decide +kernel
theorem dX7_field_15 : decode cX7_field 15 = .ok (.iload_n 2, 1) := by decide +kernel
theorem dX7_field_16 : decode cX7_field 16 = .ok (.invokevirtual 64, 3) := by decide +kernel
theorem dX7_field_19 : decode cX7_field 19 = .ok (.istore_n 3, 1) := by decide +kernel
theorem dX7_field_20 : decode cX7_field 20 = .ok (.aload_n 0, 1) := by decide +kernel
theorem dX7_field_21 : decode cX7_field 21 = .ok (.getfield 58, 3) := by decide +kernel
theorem dX7_field_24 : decode cX7_field 24 = .ok (.ifCond .le 4, 3) := by decide +kernel
theorem dX7_field_27 : decode cX7_field 27 = .ok (.return_, 1) := by decide +kernel
theorem dX7_field_28 : decode cX7_field 28 = .ok (.aload_n 0, 1) := by decide +kernel
theorem dX7_field_29 : decode cX7_field 29 = .ok (.iload_n 3, 1) := by decide +kernel
theorem dX7_field_30 : decode cX7_field 30 = .ok (.iconst 3, 1) := by decide +kernel
theorem dX7_field_31 : decode cX7_field 31 = .ok (.iushr, 1) := by decide +kernel
theorem dX7_field_32 : decode cX7_field 32 = .ok (.putfield 68, 3) := by decide +kernel
theorem dX7_field_35 : decode cX7_field 35 = .ok (.aload_n 0, 1) := by decide +kernel
theorem dX7_field_36 : decode cX7_field 36 = .ok (.iload_n 3, 1) := by decide +kernel
theorem dX7_field_37 : decode cX7_field 37 = .ok (.bipush 7, 2) := by decide +kernel
theorem dX7_field_39 : decode cX7_field 39 = .ok (.iand, 1) := by decide +kernel
theorem dX7_field_40 : decode cX7_field 40 = .ok (.putfield 71, 3) := by decide +kernel
theorem dX7_field_43 : decode cX7_field 43 = .ok (.aload_n 0, 1) := by decide +kernel
theorem dX7_field_44 : decode cX7_field 44 = .ok (.aload_n 0, 1) := by decide +kernel
theorem dX7_field_45 : decode cX7_field 45 = .ok (.getfield 68, 3) := by decide +kernel
theorem dX7_field_48 : decode cX7_field 48 = .ok (.invokestatic 74, 3) := by decide +kernel
theorem dX7_field_51 : decode cX7_field 51 = .ok (.ifCond .ne 7, 3) := by decide +kernel
theorem dX7_field_54 : decode cX7_field 54 = .ok (.iconst 3, 1) := by decide +kernel
theorem dX7_field_55 : decode cX7_field 55 = .ok (.goto 31, 3) := by decide +kernel
theorem dX7_field_58 : decode cX7_field 58 = .ok (.aload_n 0, 1) := by decide +kernel
theorem dX7_field_59 : decode cX7_field 59 = .ok (.getfield 71, 3) := by decide +kernel
theorem dX7_field_62 : decode cX7_field 62 = .ok (.ifCond .eq 19, 3) := by decide +kernel
theorem dX7_field_65 : decode cX7_field 65 = .ok (.aload_n 0, 1) := by decide +kernel
theorem dX7_field_66 : decode cX7_field 66 = .ok (.getfield 71, 3) := by decide +kernel
theorem dX7_field_69 : decode cX7_field 69 = .ok (.iconst 2, 1) := by decide +kernel
theorem dX7_field_70 : decode cX7_field 70 = .ok (.if_icmp .eq 11, 3) := by decide +kernel
theorem dX7_field_73 : decode cX7_field 73 = .ok (.aload_n 0, 1) := by decide +kernel
theorem dX7_field_74 : decode cX7_field 74 = .ok (.getfield 71, 3) := by decide +kernel
theorem dX7_field_77 : decode cX7_field 77 = .ok (.iconst 5, 1) := by decide +kernel
theorem dX7_field_78 : decode cX7_field 78 = .ok (.if_icmp .ne 7, 3) := by decide +kernel
theorem dX7_field_81 : decode cX7_field 81 = .ok (.iconst 0, 1) := by decide +kernel
theorem dX7_field_82 : decode cX7_field 82 = .ok (.goto 4, 3) := by decide +kernel
theorem dX7_field_85 : decode cX7_field 85 = .ok (.iconst 4, 1) := by decide +kernel
theorem dX7_field_86 : decode cX7_field 86 = .ok (.putfield 58, 3) := by decide +kernel
theorem dX7_field_89 : decode cX7_field 89 = .ok (.aload_n 0, 1) := by decide +kernel
theorem dX7_field_90 : decode cX7_field 90 = .ok (.getfield 58, 3) := by decide +kernel
theorem dX7_field_93 : decode cX7_field 93 = .ok (.ifCond .le 4, 3) := by decide +kernel
theorem dX7_field_96 : decode cX7_field 96 = .ok (.return_, 1) := by decide +kernel
theorem dX7_field_97 : decode cX7_field 97 = .ok (.aload_n 0, 1) := by decide +kernel
theorem dX7_field_98 : decode cX7_field 98 = .ok (.getfield 71, 3) := by decide +kernel
theorem dX7_field_101 : decode cX7_field 101 = .ok (.iconst 5, 1) := by decide +kernel
theorem dX7_field_102 : decode cX7_field 102 = .ok (.if_icmp .ne 76, 3) := by decide +kernel
theorem dX7_field_105 : decode cX7_field 105 = .ok (.iload_n 2, 1) := by decide +kernel
theorem dX7_field_106 : decode cX7_field 106 = .ok (.aload_n 0, 1) := by decide +kernel
theorem dX7_field_107 : decode cX7_field 107 = .ok (.getfield 55, 3) := by decide +kernel
theorem dX7_field_110 : decode cX7_field 110 = .ok (.isub, 1) := by decide +kernel
theorem dX7_field_111 : decode cX7_field 111 = .ok (.iconst 4, 1) := by decide +kernel
theorem dX7_field_112 : decode cX7_field 112 = .ok (.if_icmp .ge 9, 3) := by decide +kernel
theorem dX7_field_115 : decode cX7_field 115 = .ok (.aload_n 0, 1) := by decide +kernel
theorem dX7_field_116 : decode cX7_field 116 = .ok (.iconst 1, 1) := by decide +kernel
theorem dX7_field_117 : decode cX7_field 117 = .ok (.putfield 58, 3) := by decide +kernel
theorem dX7_field_120 : decode cX7_field 120 = .ok (.return_, 1) := by decide +kernel
theorem dX7_field_121 : decode cX7_field 121 = .ok (.aload_n 0, 1) := by decide +kernel
theorem dX7_field_122 : decode cX7_field 122 = .ok (.aload_n 1, 1) := by decide +kernel
theorem dX7_field_123 : decode cX7_field 123 = .ok (.aload_n 0, 1) := by decide +kernel
theorem dX7_field_124 : decode cX7_field 124 = .ok (.getfield 55, 3) := by decide +kernel
theorem dX7_field_127 : decode cX7_field 127 = .ok (.iaload, 1) := by decide +kernel
theorem dX7_field_128 : decode cX7_field 128 = .ok (.aload_n 1, 1) := by decide +kernel
theorem dX7_field_129 : decode cX7_field 129 = .ok (.aload_n 0, 1) := by decide +kernel
theorem dX7_field_130 : decode cX7_field 130 = .ok (.getfield 55, 3) := by decide +kernel
theorem dX7_field_133 : decode cX7_field 133 = .ok (.iconst 1, 1) := by decide +kernel
theorem dX7_field_134 : decode cX7_field 134 = .ok (.iadd, 1) := by decide +kernel
theorem dX7_field_135 : decode cX7_field 135 = .ok (.iaload, 1) := by decide +kernel
theorem dX7_field_136 : decode cX7_field 136 = .ok (.bipush 8, 2) := by decide +kernel
theorem dX7_field_138 : decode cX7_field 138 = .ok (.ishl, 1) := by decide +kernel
theorem dX7_field_139 : decode cX7_field 139 = .ok (.ior, 1) := by decide +kernel
theorem dX7_field_140 : decode cX7_field 140 = .ok (.aload_n 1, 1) := by decide +kernel
theorem dX7_field_141 : decode cX7_field 141 = .ok (.aload_n 0, 1) := by decide +kernel
theorem dX7_field_142 : decode cX7_field 142 = .ok (.getfield 55, 3) := by decide +kernel
theorem dX7_field_145 : decode cX7_field 145 = .ok (.iconst 2, 1) := by decide +kernel
theorem dX7_field_146 : decode cX7_field 146 = .ok (.iadd, 1) := by decide +kernel
theorem dX7_field_147 : decode cX7_field 147 = .ok (.iaload, 1) := by decide +kernel
theorem dX7_field_148 : decode cX7_field 148 = .ok (.bipush 16, 2) := by decide +kernel
theorem dX7_field_150 : decode cX7_field 150 = .ok (.ishl, 1) := by decide +kernel
theorem dX7_field_151 : decode cX7_field 151 = .ok (.ior, 1) := by decide +kernel
theorem dX7_field_152 : decode cX7_field 152 = .ok (.aload_n 1, 1) := by decide +kernel
theorem dX7_field_153 : decode cX7_field 153 = .ok (.aload_n 0, 1) := by decide +kernel
theorem dX7_field_154 : decode cX7_field 154 = .ok (.getfield 55, 3) := by decide +kernel
theorem dX7_field_157 : decode cX7_field 157 = .ok (.iconst 3, 1) := by decide +kernel
theorem dX7_field_158 : decode cX7_field 158 = .ok (.iadd, 1) := by decide +kernel
theorem dX7_field_159 : decode cX7_field 159 = .ok (.iaload, 1) := by decide +kernel
theorem dX7_field_160 : decode cX7_field 160 = .ok (.bipush 24, 2) := by decide +kernel
theorem dX7_field_162 : decode cX7_field 162 = .ok (.ishl, 1) := by decide +kernel
theorem dX7_field_163 : decode cX7_field 163 = .ok (.ior, 1) := by decide +kernel
theorem dX7_field_164 : decode cX7_field 164 = .ok (.putfield 78, 3) := by decide +kernel
theorem dX7_field_167 : decode cX7_field 167 = .ok (.aload_n 0, 1) := by decide +kernel
theorem dX7_field_168 : decode cX7_field 168 = .ok (.dup, 1) := by decide +kernel
theorem dX7_field_169 : decode cX7_field 169 = .ok (.getfield 55, 3) := by decide +kernel
theorem dX7_field_172 : decode cX7_field 172 = .ok (.iconst 4, 1) := by decide +kernel
theorem dX7_field_173 : decode cX7_field 173 = .ok (.iadd, 1) := by decide +kernel
theorem dX7_field_174 : decode cX7_field 174 = .ok (.putfield 55, 3) := by decide +kernel
theorem dX7_field_177 : decode cX7_field 177 = .ok (.return_, 1) := by decide +kernel
theorem dX7_field_178 : decode cX7_field 178 = .ok (.aload_n 0, 1) := by decide +kernel
theorem dX7_field_179 : decode cX7_field 179 = .ok (.aload_n 0, 1) := by decide +kernel
theorem dX7_field_180 : decode cX7_field 180 = .ok (.aload_n 1, 1) := by decide +kernel
theorem dX7_field_181 : decode cX7_field 181 = .ok (.iload_n 2, 1) := by decide +kernel
theorem dX7_field_182 : decode cX7_field 182 = .ok (.invokevirtual 64, 3) := by decide +kernel
theorem dX7_field_185 : decode cX7_field 185 = .ok (.putfield 78, 3) := by decide +kernel
theorem dX7_field_188 : decode cX7_field 188 = .ok (.aload_n 0, 1) := by decide +kernel
theorem dX7_field_189 : decode cX7_field 189 = .ok (.aload_n 0, 1) := by decide +kernel
theorem dX7_field_190 : decode cX7_field 190 = .ok (.getfield 55, 3) := by decide +kernel
theorem dX7_field_193 : decode cX7_field 193 = .ok (.putfield 81, 3) := by decide +kernel
theorem dX7_field_196 : decode cX7_field 196 = .ok (.aload_n 0, 1) := by decide +kernel
theorem dX7_field_197 : decode cX7_field 197 = .ok (.getfield 58, 3) := by decide +kernel
theorem dX7_field_200 : decode cX7_field 200 = .ok (.ifCond .ne 50, 3) := by decide +kernel
theorem dX7_field_203 : decode cX7_field 203 = .ok (.aload_n 0, 1) := by decide +kernel
theorem dX7_field_204 : decode cX7_field 204 = .ok (.getfield 71, 3) := by decide +kernel
theorem dX7_field_207 : decode cX7_field 207 = .ok (.iconst 2, 1) := by decide +kernel
theorem dX7_field_208 : decode cX7_field 208 = .ok (.if_icmp .ne 42, 3) := by decide +kernel
theorem dX7_field_211 : decode cX7_field 211 = .ok (.aload_n 0, 1) := by decide +kernel
theorem dX7_field_212 : decode cX7_field 212 = .ok (.getfield 78, 3) := by decide +kernel
theorem dX7_field_215 : decode cX7_field 215 = .ok (.ifCond .lt 16, 3) := by decide +kernel
theorem dX7_field_218 : decode cX7_field 218 = .ok (.aload_n 0, 1) := by decide +kernel
theorem dX7_field_219 : decode cX7_field 219 = .ok (.getfield 78, 3) := by decide +kernel
theorem dX7_field_222 : decode cX7_field 222 = .ok (.iload_n 2, 1) := by decide +kernel
theorem dX7_field_223 : decode cX7_field 223 = .ok (.aload_n 0, 1) := by decide +kernel
theorem dX7_field_224 : decode cX7_field 224 = .ok (.getfield 55, 3) := by decide +kernel
theorem dX7_field_227 : decode cX7_field 227 = .ok (.isub, 1) := by decide +kernel
theorem dX7_field_228 : decode cX7_field 228 = .ok (.if_icmp .le 9, 3) := by decide +kernel
theorem dX7_field_231 : decode cX7_field 231 = .ok (.aload_n 0, 1) := by decide +kernel
theorem dX7_field_232 : decode cX7_field 232 = .ok (.iconst 1, 1) := by decide +kernel
theorem dX7_field_233 : decode cX7_field 233 = .ok (.putfield 58, 3) := by decide +kernel
theorem dX7_field_236 : decode cX7_field 236 = .ok (.return_, 1) := by decide +kernel
theorem dX7_field_237 : decode cX7_field 237 = .ok (.aload_n 0, 1) := by decide +kernel
theorem dX7_field_238 : decode cX7_field 238 = .ok (.dup, 1) := by decide +kernel
theorem dX7_field_239 : decode cX7_field 239 = .ok (.getfield 55, 3) := by decide +kernel
theorem dX7_field_242 : decode cX7_field 242 = .ok (.aload_n 0, 1) := by decide +kernel
theorem dX7_field_243 : decode cX7_field 243 = .ok (.getfield 78, 3) := by decide +kernel
theorem dX7_field_246 : decode cX7_field 246 = .ok (.iadd, 1) := by decide +kernel
theorem dX7_field_247 : decode cX7_field 247 = .ok (.putfield 55, 3) := by decide +kernel
theorem dX7_field_250 : decode cX7_field 250 = .ok (.return_, 1) := by decide +kernel
theorem dX7_writes_0 : decode cX7_writes 0 = .ok (.aload_n 0, 1) := by decide +kernel
theorem dX7_writes_1 : decode cX7_writes 1 = .ok (.getfield 35, 3) := by decide +kernel
theorem dX7_writes_4 : decode cX7_writes 4 = .ok (.aload_n 0, 1) := by decide +kernel
theorem dX7_writes_5 : decode cX7_writes 5 = .ok (.getfield 84, 3) := by decide +kernel
theorem dX7_writes_8 : decode cX7_writes 8 = .ok (.iload_n 1, 1) := by decide +kernel
theorem dX7_writes_9 : decode cX7_writes 9 = .ok (.iastore, 1) := by decide +kernel
theorem dX7_writes_10 : decode cX7_writes 10 = .ok (.aload_n 0, 1) := by decide +kernel
theorem dX7_writes_11 : decode cX7_writes 11 = .ok (.dup, 1) := by decide +kernel
theorem dX7_writes_12 : decode cX7_writes 12 = .ok (.getfield 84, 3) := by decide +kernel
theorem dX7_writes_15 : decode cX7_writes 15 = .ok (.iconst 1, 1) := by decide +kernel
theorem dX7_writes_16 : decode cX7_writes 16 = .ok (.iadd, 1) := by decide +kernel
theorem dX7_writes_17 : decode cX7_writes 17 = .ok (.putfield 84, 3) := by decide +kernel
theorem dX7_writes_20 : decode cX7_writes 20 = .ok (.return_, 1) := by decide +kernel
theorem dX7_writesGroup_0 : decode cX7_writesGroup 0 = .ok (.iload_n 1, 1) := by decide +kernel
theorem dX7_writesGroup_1 : decode cX7_writesGroup 1 = .ok (.istore_n 2, 1) := by decide +kernel
theorem dX7_writesGroup_2 : decode cX7_writesGroup 2 = .ok (.iload_n 2, 1) := by decide +kernel
theorem dX7_writesGroup_3 : decode cX7_writesGroup 3 = .ok (.bipush 7, 2) := by decide +kernel
theorem dX7_writesGroup_5 : decode cX7_writesGroup 5 = .ok (.iushr, 1) := by decide +kernel
theorem dX7_writesGroup_6 : decode cX7_writesGroup 6 = .ok (.ifCond .eq 23, 3) := by decide +kernel
theorem dX7_writesGroup_9 : decode cX7_writesGroup 9 = .ok (.aload_n 0, 1) := by decide +kernel
theorem dX7_writesGroup_10 : decode cX7_writesGroup 10 = .ok (.iload_n 2, 1) := by decide +kernel
theorem dX7_writesGroup_11 : decode cX7_writesGroup 11 = .ok (.bipush 127, 2) := by decide +kernel
theorem dX7_writesGroup_13 : decode cX7_writesGroup 13 = .ok (.iand, 1) := by decide +kernel
theorem dX7_writesGroup_14 : decode cX7_writesGroup 14 = .ok (.sipush 128, 3) := by decide +kernel
theorem dX7_writesGroup_17 : decode cX7_writesGroup 17 = .ok (.ior, 1) := by decide +kernel
theorem dX7_writesGroup_18 : decode cX7_writesGroup 18 = .ok (.invokevirtual 87, 3) := by decide +kernel
theorem dX7_writesGroup_21 : decode cX7_writesGroup 21 = .ok (.iload_n 2, 1) := by decide +kernel
theorem dX7_writesGroup_22 : decode cX7_writesGroup 22 = .ok (.bipush 7, 2) := by decide +kernel
theorem dX7_writesGroup_24 : decode cX7_writesGroup 24 = .ok (.iushr, 1) := by decide +kernel
theorem dX7_writesGroup_25 : decode cX7_writesGroup 25 = .ok (.istore_n 2, 1) := by decide +kernel
theorem dX7_writesGroup_26 : decode cX7_writesGroup 26 = .ok (.goto (-24), 3) := by decide +kernel
theorem dX7_writesGroup_29 : decode cX7_writesGroup 29 = .ok (.aload_n 0, 1) := by decide +kernel
theorem dX7_writesGroup_30 : decode cX7_writesGroup 30 = .ok (.iload_n 2, 1) := by decide +kernel
theorem dX7_writesGroup_31 : decode cX7_writesGroup 31 = .ok (.invokevirtual 87, 3) := by decide +kernel
theorem dX7_writesGroup_34 : decode cX7_writesGroup 34 = .ok (.return_, 1) := by decide +kernel
theorem dX7_writesNumber_0 : decode cX7_writesNumber 0 = .ok (.aload_n 0, 1) := by decide +kernel
theorem dX7_writesNumber_1 : decode cX7_writesNumber 1 = .ok (.bipush 8, 2) := by decide +kernel
theorem dX7_writesNumber_3 : decode cX7_writesNumber 3 = .ok (.iload_n 1, 1) := by decide +kernel
theorem dX7_writesNumber_4 : decode cX7_writesNumber 4 = .ok (.imul, 1) := by decide +kernel
theorem dX7_writesNumber_5 : decode cX7_writesNumber 5 = .ok (.iload_n 2, 1) := by decide +kernel
theorem dX7_writesNumber_6 : decode cX7_writesNumber 6 = .ok (.iadd, 1) := by decide +kernel
theorem dX7_writesNumber_7 : decode cX7_writesNumber 7 = .ok (.invokevirtual 91, 3) := by decide +kernel
theorem dX7_writesNumber_10 : decode cX7_writesNumber 10 = .ok (.iload_n 2, 1) := by decide +kernel
theorem dX7_writesNumber_11 : decode cX7_writesNumber 11 = .ok (.iconst 5, 1) := by decide +kernel
theorem dX7_writesNumber_12 : decode cX7_writesNumber 12 = .ok (.if_icmp .ne 36, 3) := by decide +kernel
theorem dX7_writesNumber_15 : decode cX7_writesNumber 15 = .ok (.iconst 0, 1) := by decide +kernel
theorem dX7_writesNumber_16 : decode cX7_writesNumber 16 = .ok (.istore 4, 2) := by decide +kernel
theorem dX7_writesNumber_18 : decode cX7_writesNumber 18 = .ok (.iload 4, 2) := by decide +kernel
theorem dX7_writesNumber_20 : decode cX7_writesNumber 20 = .ok (.iconst 4, 1) := by decide +kernel
theorem dX7_writesNumber_21 : decode cX7_writesNumber 21 = .ok (.if_icmp .ge 24, 3) := by decide +kernel
theorem dX7_writesNumber_24 : decode cX7_writesNumber 24 = .ok (.aload_n 0, 1) := by decide +kernel
theorem dX7_writesNumber_25 : decode cX7_writesNumber 25 = .ok (.iload_n 3, 1) := by decide +kernel
theorem dX7_writesNumber_26 : decode cX7_writesNumber 26 = .ok (.bipush 8, 2) := by decide +kernel
theorem dX7_writesNumber_28 : decode cX7_writesNumber 28 = .ok (.iload 4, 2) := by decide +kernel
theorem dX7_writesNumber_30 : decode cX7_writesNumber 30 = .ok (.imul, 1) := by decide +kernel
theorem dX7_writesNumber_31 : decode cX7_writesNumber 31 = .ok (.iushr, 1) := by decide +kernel
theorem dX7_writesNumber_32 : decode cX7_writesNumber 32 = .ok (.sipush 255, 3) := by decide +kernel
theorem dX7_writesNumber_35 : decode cX7_writesNumber 35 = .ok (.iand, 1) := by decide +kernel
theorem dX7_writesNumber_36 : decode cX7_writesNumber 36 = .ok (.invokevirtual 87, 3) := by decide +kernel
theorem dX7_writesNumber_39 : decode cX7_writesNumber 39 = .ok (.iinc 4 1, 3) := by decide +kernel
theorem dX7_writesNumber_42 : decode cX7_writesNumber 42 = .ok (.goto (-24), 3) := by decide +kernel
theorem dX7_writesNumber_45 : decode cX7_writesNumber 45 = .ok (.goto 8, 3) := by decide +kernel
theorem dX7_writesNumber_48 : decode cX7_writesNumber 48 = .ok (.aload_n 0, 1) := by decide +kernel
theorem dX7_writesNumber_49 : decode cX7_writesNumber 49 = .ok (.iload_n 3, 1) := by decide +kernel
theorem dX7_writesNumber_50 : decode cX7_writesNumber 50 = .ok (.invokevirtual 91, 3) := by decide +kernel
theorem dX7_writesNumber_53 : decode cX7_writesNumber 53 = .ok (.return_, 1) := by decide +kernel
theorem dX7_writesField_0 : decode cX7_writesField 0 = .ok (.aload_n 0, 1) := by decide +kernel
theorem dX7_writesField_1 : decode cX7_writesField 1 = .ok (.aload_n 0, 1) := by decide +kernel
theorem dX7_writesField_2 : decode cX7_writesField 2 = .ok (.getfield 68, 3) := by decide +kernel
theorem dX7_writesField_5 : decode cX7_writesField 5 = .ok (.aload_n 0, 1) := by decide +kernel
theorem dX7_writesField_6 : decode cX7_writesField 6 = .ok (.getfield 71, 3) := by decide +kernel
theorem dX7_writesField_9 : decode cX7_writesField 9 = .ok (.aload_n 0, 1) := by decide +kernel
theorem dX7_writesField_10 : decode cX7_writesField 10 = .ok (.getfield 78, 3) := by decide +kernel
theorem dX7_writesField_13 : decode cX7_writesField 13 = .ok (.invokevirtual 94, 3) := by decide +kernel
theorem dX7_writesField_16 : decode cX7_writesField 16 = .ok (.iconst 0, 1) := by decide +kernel
theorem dX7_writesField_17 : decode cX7_writesField 17 = .ok (.istore_n 2, 1) := by decide +kernel
theorem dX7_writesField_18 : decode cX7_writesField 18 = .ok (.iload_n 2, 1) := by decide +kernel
theorem dX7_writesField_19 : decode cX7_writesField 19 = .ok (.aload_n 0, 1) := by decide +kernel
theorem dX7_writesField_20 : decode cX7_writesField 20 = .ok (.getfield 78, 3) := by decide +kernel
theorem dX7_writesField_23 : decode cX7_writesField 23 = .ok (.if_icmp .ge 29, 3) := by decide +kernel
theorem dX7_writesField_26 : decode cX7_writesField 26 = .ok (.aload_n 0, 1) := by decide +kernel
theorem dX7_writesField_27 : decode cX7_writesField 27 = .ok (.getfield 71, 3) := by decide +kernel
theorem dX7_writesField_30 : decode cX7_writesField 30 = .ok (.iconst 2, 1) := by decide +kernel
theorem dX7_writesField_31 : decode cX7_writesField 31 = .ok (.if_icmp .ne 21, 3) := by decide +kernel
theorem dX7_writesField_34 : decode cX7_writesField 34 = .ok (.aload_n 0, 1) := by decide +kernel
theorem dX7_writesField_35 : decode cX7_writesField 35 = .ok (.aload_n 1, 1) := by decide +kernel
theorem dX7_writesField_36 : decode cX7_writesField 36 = .ok (.aload_n 0, 1) := by decide +kernel
theorem dX7_writesField_37 : decode cX7_writesField 37 = .ok (.getfield 81, 3) := by decide +kernel
theorem dX7_writesField_40 : decode cX7_writesField 40 = .ok (.iload_n 2, 1) := by decide +kernel
theorem dX7_writesField_41 : decode cX7_writesField 41 = .ok (.iadd, 1) := by decide +kernel
theorem dX7_writesField_42 : decode cX7_writesField 42 = .ok (.iaload, 1) := by decide +kernel
theorem dX7_writesField_43 : decode cX7_writesField 43 = .ok (.invokevirtual 87, 3) := by decide +kernel
theorem dX7_writesField_46 : decode cX7_writesField 46 = .ok (.iinc 2 1, 3) := by decide +kernel
theorem dX7_writesField_49 : decode cX7_writesField 49 = .ok (.goto (-31), 3) := by decide +kernel
theorem dX7_writesField_52 : decode cX7_writesField 52 = .ok (.return_, 1) := by decide +kernel
theorem dX7_becomes_0 : decode cX7_becomes 0 = .ok (.iconst 0, 1) := by decide +kernel
theorem dX7_becomes_1 : decode cX7_becomes 1 = .ok (.istore_n 2, 1) := by decide +kernel
theorem dX7_becomes_2 : decode cX7_becomes 2 = .ok (.iload_n 2, 1) := by decide +kernel
theorem dX7_becomes_3 : decode cX7_becomes 3 = .ok (.aload_n 0, 1) := by decide +kernel
theorem dX7_becomes_4 : decode cX7_becomes 4 = .ok (.getfield 84, 3) := by decide +kernel
theorem dX7_becomes_7 : decode cX7_becomes 7 = .ok (.if_icmp .ge 26, 3) := by decide +kernel
theorem dX7_becomes_10 : decode cX7_becomes 10 = .ok (.aload_n 0, 1) := by decide +kernel
theorem dX7_becomes_11 : decode cX7_becomes 11 = .ok (.getfield 29, 3) := by decide +kernel
theorem dX7_becomes_14 : decode cX7_becomes 14 = .ok (.bipush 120, 2) := by decide +kernel
theorem dX7_becomes_16 : decode cX7_becomes 16 = .ok (.iload_n 1, 1) := by decide +kernel
theorem dX7_becomes_17 : decode cX7_becomes 17 = .ok (.imul, 1) := by decide +kernel
theorem dX7_becomes_18 : decode cX7_becomes 18 = .ok (.iload_n 2, 1) := by decide +kernel
theorem dX7_becomes_19 : decode cX7_becomes 19 = .ok (.iadd, 1) := by decide +kernel
theorem dX7_becomes_20 : decode cX7_becomes 20 = .ok (.aload_n 0, 1) := by decide +kernel
theorem dX7_becomes_21 : decode cX7_becomes 21 = .ok (.getfield 35, 3) := by decide +kernel
theorem dX7_becomes_24 : decode cX7_becomes 24 = .ok (.iload_n 2, 1) := by decide +kernel
theorem dX7_becomes_25 : decode cX7_becomes 25 = .ok (.iaload, 1) := by decide +kernel
theorem dX7_becomes_26 : decode cX7_becomes 26 = .ok (.iastore, 1) := by decide +kernel
theorem dX7_becomes_27 : decode cX7_becomes 27 = .ok (.iinc 2 1, 3) := by decide +kernel
theorem dX7_becomes_30 : decode cX7_becomes 30 = .ok (.goto (-28), 3) := by decide +kernel
theorem dX7_becomes_33 : decode cX7_becomes 33 = .ok (.aload_n 0, 1) := by decide +kernel
theorem dX7_becomes_34 : decode cX7_becomes 34 = .ok (.getfield 26, 3) := by decide +kernel
theorem dX7_becomes_37 : decode cX7_becomes 37 = .ok (.iload_n 1, 1) := by decide +kernel
theorem dX7_becomes_38 : decode cX7_becomes 38 = .ok (.aload_n 0, 1) := by decide +kernel
theorem dX7_becomes_39 : decode cX7_becomes 39 = .ok (.getfield 84, 3) := by decide +kernel
theorem dX7_becomes_42 : decode cX7_becomes 42 = .ok (.iastore, 1) := by decide +kernel
theorem dX7_becomes_43 : decode cX7_becomes 43 = .ok (.return_, 1) := by decide +kernel
theorem dX7_typeOf_0 : decode cX7_typeOf 0 = .ok (.iload_n 0, 1) := by decide +kernel
theorem dX7_typeOf_1 : decode cX7_typeOf 1 = .ok (.iconst 2, 1) := by decide +kernel
theorem dX7_typeOf_2 : decode cX7_typeOf 2 = .ok (.if_icmp .ne 7, 3) := by decide +kernel
theorem dX7_typeOf_5 : decode cX7_typeOf 5 = .ok (.iconst 5, 1) := by decide +kernel
theorem dX7_typeOf_6 : decode cX7_typeOf 6 = .ok (.goto 17, 3) := by decide +kernel
theorem dX7_typeOf_9 : decode cX7_typeOf 9 = .ok (.iload_n 0, 1) := by decide +kernel
theorem dX7_typeOf_10 : decode cX7_typeOf 10 = .ok (.ifCond .eq 8, 3) := by decide +kernel
theorem dX7_typeOf_13 : decode cX7_typeOf 13 = .ok (.iload_n 0, 1) := by decide +kernel
theorem dX7_typeOf_14 : decode cX7_typeOf 14 = .ok (.iconst 1, 1) := by decide +kernel
theorem dX7_typeOf_15 : decode cX7_typeOf 15 = .ok (.if_icmp .ne 7, 3) := by decide +kernel
theorem dX7_typeOf_18 : decode cX7_typeOf 18 = .ok (.iconst 0, 1) := by decide +kernel
theorem dX7_typeOf_19 : decode cX7_typeOf 19 = .ok (.goto 4, 3) := by decide +kernel
theorem dX7_typeOf_22 : decode cX7_typeOf 22 = .ok (.iconst 2, 1) := by decide +kernel
theorem dX7_typeOf_23 : decode cX7_typeOf 23 = .ok (.ireturn, 1) := by decide +kernel
theorem dX7_kind_0 : decode cX7_kind 0 = .ok (.iload_n 2, 1) := by decide +kernel
theorem dX7_kind_1 : decode cX7_kind 1 = .ok (.invokestatic 74, 3) := by decide +kernel
theorem dX7_kind_4 : decode cX7_kind 4 = .ok (.ifCond .eq 17, 3) := by decide +kernel
theorem dX7_kind_7 : decode cX7_kind 7 = .ok (.aload_n 0, 1) := by decide +kernel
theorem dX7_kind_8 : decode cX7_kind 8 = .ok (.getfield 7, 3) := by decide +kernel
theorem dX7_kind_11 : decode cX7_kind 11 = .ok (.bipush 32, 2) := by decide +kernel
theorem dX7_kind_13 : decode cX7_kind 13 = .ok (.iload_n 1, 1) := by decide +kernel
theorem dX7_kind_14 : decode cX7_kind 14 = .ok (.imul, 1) := by decide +kernel
theorem dX7_kind_15 : decode cX7_kind 15 = .ok (.iload_n 2, 1) := by decide +kernel
theorem dX7_kind_16 : decode cX7_kind 16 = .ok (.iadd, 1) := by decide +kernel
theorem dX7_kind_17 : decode cX7_kind 17 = .ok (.iaload, 1) := by decide +kernel
theorem dX7_kind_18 : decode cX7_kind 18 = .ok (.goto 4, 3) := by decide +kernel
theorem dX7_kind_21 : decode cX7_kind 21 = .ok (.iconst (-1), 1) := by decide +kernel
theorem dX7_kind_22 : decode cX7_kind 22 = .ok (.ireturn, 1) := by decide +kernel
theorem dX7_isInt_0 : decode cX7_isInt 0 = .ok (.iload_n 0, 1) := by decide +kernel
theorem dX7_isInt_1 : decode cX7_isInt 1 = .ok (.iconst 0, 1) := by decide +kernel
theorem dX7_isInt_2 : decode cX7_isInt 2 = .ok (.iconst 2, 1) := by decide +kernel
theorem dX7_isInt_3 : decode cX7_isInt 3 = .ok (.invokestatic 51, 3) := by decide +kernel
theorem dX7_isInt_6 : decode cX7_isInt 6 = .ok (.ireturn, 1) := by decide +kernel
theorem dX7_hasBytes_0 : decode cX7_hasBytes 0 = .ok (.iload_n 0, 1) := by decide +kernel
theorem dX7_hasBytes_1 : decode cX7_hasBytes 1 = .ok (.iconst 3, 1) := by decide +kernel
theorem dX7_hasBytes_2 : decode cX7_hasBytes 2 = .ok (.if_icmp .eq 8, 3) := by decide +kernel
theorem dX7_hasBytes_5 : decode cX7_hasBytes 5 = .ok (.iload_n 0, 1) := by decide +kernel
theorem dX7_hasBytes_6 : decode cX7_hasBytes 6 = .ok (.iconst 4, 1) := by decide +kernel
theorem dX7_hasBytes_7 : decode cX7_hasBytes 7 = .ok (.if_icmp .ne 7, 3) := by decide +kernel
theorem dX7_hasBytes_10 : decode cX7_hasBytes 10 = .ok (.iconst 1, 1) := by decide +kernel
theorem dX7_hasBytes_11 : decode cX7_hasBytes 11 = .ok (.goto 4, 3) := by decide +kernel
theorem dX7_hasBytes_14 : decode cX7_hasBytes 14 = .ok (.iconst 0, 1) := by decide +kernel
theorem dX7_hasBytes_15 : decode cX7_hasBytes 15 = .ok (.ireturn, 1) := by decide +kernel
theorem dX7_isKnown_0 : decode cX7_isKnown 0 = .ok (.aload_n 0, 1) := by decide +kernel
theorem dX7_isKnown_1 : decode cX7_isKnown 1 = .ok (.iload_n 1, 1) := by decide +kernel
theorem dX7_isKnown_2 : decode cX7_isKnown 2 = .ok (.aload_n 0, 1) := by decide +kernel
theorem dX7_isKnown_3 : decode cX7_isKnown 3 = .ok (.getfield 68, 3) := by decide +kernel
theorem dX7_isKnown_6 : decode cX7_isKnown 6 = .ok (.invokevirtual 98, 3) := by decide +kernel
theorem dX7_isKnown_9 : decode cX7_isKnown 9 = .ok (.istore_n 2, 1) := by decide +kernel
theorem dX7_isKnown_10 : decode cX7_isKnown 10 = .ok (.iload_n 2, 1) := by decide +kernel
theorem dX7_isKnown_11 : decode cX7_isKnown 11 = .ok (.iconst (-1), 1) := by decide +kernel
theorem dX7_isKnown_12 : decode cX7_isKnown 12 = .ok (.if_icmp .eq 18, 3) := by decide +kernel
theorem dX7_isKnown_15 : decode cX7_isKnown 15 = .ok (.iload_n 2, 1) := by decide +kernel
theorem dX7_isKnown_16 : decode cX7_isKnown 16 = .ok (.invokestatic 102, 3) := by decide +kernel
theorem dX7_isKnown_19 : decode cX7_isKnown 19 = .ok (.aload_n 0, 1) := by decide +kernel
theorem dX7_isKnown_20 : decode cX7_isKnown 20 = .ok (.getfield 71, 3) := by decide +kernel
theorem dX7_isKnown_23 : decode cX7_isKnown 23 = .ok (.if_icmp .ne 7, 3) := by decide +kernel
theorem dX7_isKnown_26 : decode cX7_isKnown 26 = .ok (.iconst 1, 1) := by decide +kernel
theorem dX7_isKnown_27 : decode cX7_isKnown 27 = .ok (.goto 4, 3) := by decide +kernel
theorem dX7_isKnown_30 : decode cX7_isKnown 30 = .ok (.iconst 0, 1) := by decide +kernel
theorem dX7_isKnown_31 : decode cX7_isKnown 31 = .ok (.ireturn, 1) := by decide +kernel
theorem dX7_standsFor_0 : decode cX7_standsFor 0 = .ok (.iload_n 0, 1) := by decide +kernel
theorem dX7_standsFor_1 : decode cX7_standsFor 1 = .ok (.iconst 1, 1) := by decide +kernel
theorem dX7_standsFor_2 : decode cX7_standsFor 2 = .ok (.if_icmp .ne 14, 3) := by decide +kernel
theorem dX7_standsFor_5 : decode cX7_standsFor 5 = .ok (.iload_n 1, 1) := by decide +kernel
theorem dX7_standsFor_6 : decode cX7_standsFor 6 = .ok (.iconst 1, 1) := by decide +kernel
theorem dX7_standsFor_7 : decode cX7_standsFor 7 = .ok (.iushr, 1) := by decide +kernel
theorem dX7_standsFor_8 : decode cX7_standsFor 8 = .ok (.iload_n 1, 1) := by decide +kernel
theorem dX7_standsFor_9 : decode cX7_standsFor 9 = .ok (.iconst 1, 1) := by decide +kernel
theorem dX7_standsFor_10 : decode cX7_standsFor 10 = .ok (.iand, 1) := by decide +kernel
theorem dX7_standsFor_11 : decode cX7_standsFor 11 = .ok (.ineg, 1) := by decide +kernel
theorem dX7_standsFor_12 : decode cX7_standsFor 12 = .ok (.ixor, 1) := by decide +kernel
theorem dX7_standsFor_13 : decode cX7_standsFor 13 = .ok (.goto 4, 3) := by decide +kernel
theorem dX7_standsFor_16 : decode cX7_standsFor 16 = .ok (.iload_n 1, 1) := by decide +kernel
theorem dX7_standsFor_17 : decode cX7_standsFor 17 = .ok (.ireturn, 1) := by decide +kernel
theorem dX7_standsAs_0 : decode cX7_standsAs 0 = .ok (.iload_n 0, 1) := by decide +kernel
theorem dX7_standsAs_1 : decode cX7_standsAs 1 = .ok (.iconst 1, 1) := by decide +kernel
theorem dX7_standsAs_2 : decode cX7_standsAs 2 = .ok (.if_icmp .ne 14, 3) := by decide +kernel
theorem dX7_standsAs_5 : decode cX7_standsAs 5 = .ok (.iload_n 1, 1) := by decide +kernel
theorem dX7_standsAs_6 : decode cX7_standsAs 6 = .ok (.iconst 1, 1) := by decide +kernel
theorem dX7_standsAs_7 : decode cX7_standsAs 7 = .ok (.ishl, 1) := by decide +kernel
theorem dX7_standsAs_8 : decode cX7_standsAs 8 = .ok (.iload_n 1, 1) := by decide +kernel
theorem dX7_standsAs_9 : decode cX7_standsAs 9 = .ok (.bipush 31, 2) := by decide +kernel
theorem dX7_standsAs_11 : decode cX7_standsAs 11 = .ok (.ishr, 1) := by decide +kernel
theorem dX7_standsAs_12 : decode cX7_standsAs 12 = .ok (.ixor, 1) := by decide +kernel
theorem dX7_standsAs_13 : decode cX7_standsAs 13 = .ok (.goto 4, 3) := by decide +kernel
theorem dX7_standsAs_16 : decode cX7_standsAs 16 = .ok (.iload_n 1, 1) := by decide +kernel
theorem dX7_standsAs_17 : decode cX7_standsAs 17 = .ok (.ireturn, 1) := by decide +kernel
theorem dX7_lastKnown_0 : decode cX7_lastKnown 0 = .ok (.iconst (-1), 1) := by decide +kernel
theorem dX7_lastKnown_1 : decode cX7_lastKnown 1 = .ok (.istore_n 3, 1) := by decide +kernel
theorem dX7_lastKnown_2 : decode cX7_lastKnown 2 = .ok (.aload_n 0, 1) := by decide +kernel
theorem dX7_lastKnown_3 : decode cX7_lastKnown 3 = .ok (.bipush 120, 2) := by decide +kernel
theorem dX7_lastKnown_5 : decode cX7_lastKnown 5 = .ok (.iload_n 1, 1) := by decide +kernel
theorem dX7_lastKnown_6 : decode cX7_lastKnown 6 = .ok (.imul, 1) := by decide +kernel
theorem dX7_lastKnown_7 : decode cX7_lastKnown 7 = .ok (.putfield 55, 3) := by decide +kernel
theorem dX7_lastKnown_10 : decode cX7_lastKnown 10 = .ok (.aload_n 0, 1) := by decide +kernel
theorem dX7_lastKnown_11 : decode cX7_lastKnown 11 = .ok (.getfield 55, 3) := by decide +kernel
theorem dX7_lastKnown_14 : decode cX7_lastKnown 14 = .ok (.bipush 120, 2) := by decide +kernel
theorem dX7_lastKnown_16 : decode cX7_lastKnown 16 = .ok (.iload_n 1, 1) := by decide +kernel
theorem dX7_lastKnown_17 : decode cX7_lastKnown 17 = .ok (.imul, 1) := by decide +kernel
theorem dX7_lastKnown_18 : decode cX7_lastKnown 18 = .ok (.aload_n 0, 1) := by decide +kernel
theorem dX7_lastKnown_19 : decode cX7_lastKnown 19 = .ok (.getfield 26, 3) := by decide +kernel
theorem dX7_lastKnown_22 : decode cX7_lastKnown 22 = .ok (.iload_n 1, 1) := by decide +kernel
theorem dX7_lastKnown_23 : decode cX7_lastKnown 23 = .ok (.iaload, 1) := by decide +kernel
theorem dX7_lastKnown_24 : decode cX7_lastKnown 24 = .ok (.iadd, 1) := by decide +kernel
theorem dX7_lastKnown_25 : decode cX7_lastKnown 25 = .ok (.if_icmp .ge 55, 3) := by decide +kernel
theorem dX7_lastKnown_28 : decode cX7_lastKnown 28 = .ok (.aload_n 0, 1) := by decide +kernel
theorem dX7_lastKnown_29 : decode cX7_lastKnown 29 = .ok (.aload_n 0, 1) := by decide +kernel
theorem dX7_lastKnown_30 : decode cX7_lastKnown 30 = .ok (.getfield 29, 3) := by decide +kernel
theorem dX7_lastKnown_33 : decode cX7_lastKnown 33 = .ok (.bipush 120, 2) := by decide +kernel
theorem dX7_lastKnown_35 : decode cX7_lastKnown 35 = .ok (.iload_n 1, 1) := by decide +kernel
theorem dX7_lastKnown_36 : decode cX7_lastKnown 36 = .ok (.imul, 1) := by decide +kernel
theorem dX7_lastKnown_37 : decode cX7_lastKnown 37 = .ok (.aload_n 0, 1) := by decide +kernel
theorem dX7_lastKnown_38 : decode cX7_lastKnown 38 = .ok (.getfield 26, 3) := by decide +kernel
theorem dX7_lastKnown_41 : decode cX7_lastKnown 41 = .ok (.iload_n 1, 1) := by decide +kernel
theorem dX7_lastKnown_42 : decode cX7_lastKnown 42 = .ok (.iaload, 1) := by decide +kernel
theorem dX7_lastKnown_43 : decode cX7_lastKnown 43 = .ok (.iadd, 1) := by decide +kernel
theorem dX7_lastKnown_44 : decode cX7_lastKnown 44 = .ok (.invokevirtual 106, 3) := by decide +kernel
theorem dX7_lastKnown_47 : decode cX7_lastKnown 47 = .ok (.aload_n 0, 1) := by decide +kernel
theorem dX7_lastKnown_48 : decode cX7_lastKnown 48 = .ok (.getfield 68, 3) := by decide +kernel
theorem dX7_lastKnown_51 : decode cX7_lastKnown 51 = .ok (.iload_n 2, 1) := by decide +kernel
theorem dX7_lastKnown_52 : decode cX7_lastKnown 52 = .ok (.if_icmp .ne 23, 3) := by decide +kernel
theorem dX7_lastKnown_55 : decode cX7_lastKnown 55 = .ok (.aload_n 0, 1) := by decide +kernel
theorem dX7_lastKnown_56 : decode cX7_lastKnown 56 = .ok (.aload_n 0, 1) := by decide +kernel
theorem dX7_lastKnown_57 : decode cX7_lastKnown 57 = .ok (.getfield 23, 3) := by decide +kernel
theorem dX7_lastKnown_60 : decode cX7_lastKnown 60 = .ok (.iload_n 1, 1) := by decide +kernel
theorem dX7_lastKnown_61 : decode cX7_lastKnown 61 = .ok (.iaload, 1) := by decide +kernel
theorem dX7_lastKnown_62 : decode cX7_lastKnown 62 = .ok (.invokevirtual 110, 3) := by decide +kernel
theorem dX7_lastKnown_65 : decode cX7_lastKnown 65 = .ok (.ifCond .eq 10, 3) := by decide +kernel
theorem dX7_lastKnown_68 : decode cX7_lastKnown 68 = .ok (.aload_n 0, 1) := by decide +kernel
theorem dX7_lastKnown_69 : decode cX7_lastKnown 69 = .ok (.getfield 61, 3) := by decide +kernel
theorem dX7_lastKnown_72 : decode cX7_lastKnown 72 = .ok (.goto 4, 3) := by decide +kernel
theorem dX7_lastKnown_75 : decode cX7_lastKnown 75 = .ok (.iload_n 3, 1) := by decide +kernel
theorem dX7_lastKnown_76 : decode cX7_lastKnown 76 = .ok (.istore_n 3, 1) := by decide +kernel
theorem dX7_lastKnown_77 : decode cX7_lastKnown 77 = .ok (.goto (-67), 3) := by decide +kernel
theorem dX7_lastKnown_80 : decode cX7_lastKnown 80 = .ok (.iload_n 3, 1) := by decide +kernel
theorem dX7_lastKnown_81 : decode cX7_lastKnown 81 = .ok (.ireturn, 1) := by decide +kernel
theorem dX7_finds_0 : decode cX7_finds 0 = .ok (.aload_n 0, 1) := by decide +kernel
theorem dX7_finds_1 : decode cX7_finds 1 = .ok (.iload_n 1, 1) := by decide +kernel
theorem dX7_finds_2 : decode cX7_finds 2 = .ok (.iload_n 2, 1) := by decide +kernel
theorem dX7_finds_3 : decode cX7_finds 3 = .ok (.invokevirtual 113, 3) := by decide +kernel
theorem dX7_finds_6 : decode cX7_finds 6 = .ok (.istore_n 3, 1) := by decide +kernel
theorem dX7_finds_7 : decode cX7_finds 7 = .ok (.iload_n 3, 1) := by decide +kernel
theorem dX7_finds_8 : decode cX7_finds 8 = .ok (.iconst (-1), 1) := by decide +kernel
theorem dX7_finds_9 : decode cX7_finds 9 = .ok (.if_icmp .eq 27, 3) := by decide +kernel
theorem dX7_finds_12 : decode cX7_finds 12 = .ok (.aload_n 0, 1) := by decide +kernel
theorem dX7_finds_13 : decode cX7_finds 13 = .ok (.iload_n 3, 1) := by decide +kernel
theorem dX7_finds_14 : decode cX7_finds 14 = .ok (.putfield 55, 3) := by decide +kernel
theorem dX7_finds_17 : decode cX7_finds 17 = .ok (.aload_n 0, 1) := by decide +kernel
theorem dX7_finds_18 : decode cX7_finds 18 = .ok (.aload_n 0, 1) := by decide +kernel
theorem dX7_finds_19 : decode cX7_finds 19 = .ok (.getfield 29, 3) := by decide +kernel
theorem dX7_finds_22 : decode cX7_finds 22 = .ok (.bipush 120, 2) := by decide +kernel
theorem dX7_finds_24 : decode cX7_finds 24 = .ok (.iload_n 1, 1) := by decide +kernel
theorem dX7_finds_25 : decode cX7_finds 25 = .ok (.imul, 1) := by decide +kernel
theorem dX7_finds_26 : decode cX7_finds 26 = .ok (.aload_n 0, 1) := by decide +kernel
theorem dX7_finds_27 : decode cX7_finds 27 = .ok (.getfield 26, 3) := by decide +kernel
theorem dX7_finds_30 : decode cX7_finds 30 = .ok (.iload_n 1, 1) := by decide +kernel
theorem dX7_finds_31 : decode cX7_finds 31 = .ok (.iaload, 1) := by decide +kernel
theorem dX7_finds_32 : decode cX7_finds 32 = .ok (.iadd, 1) := by decide +kernel
theorem dX7_finds_33 : decode cX7_finds 33 = .ok (.invokevirtual 106, 3) := by decide +kernel
theorem dX7_finds_36 : decode cX7_finds 36 = .ok (.iload_n 3, 1) := by decide +kernel
theorem dX7_finds_37 : decode cX7_finds 37 = .ok (.iconst (-1), 1) := by decide +kernel
theorem dX7_finds_38 : decode cX7_finds 38 = .ok (.if_icmp .eq 7, 3) := by decide +kernel
theorem dX7_finds_41 : decode cX7_finds 41 = .ok (.iconst 1, 1) := by decide +kernel
theorem dX7_finds_42 : decode cX7_finds 42 = .ok (.goto 4, 3) := by decide +kernel
theorem dX7_finds_45 : decode cX7_finds 45 = .ok (.iconst 0, 1) := by decide +kernel
theorem dX7_finds_46 : decode cX7_finds 46 = .ok (.ireturn, 1) := by decide +kernel
theorem dX7_writesOthers_0 : decode cX7_writesOthers 0 = .ok (.aload_n 0, 1) := by decide +kernel
theorem dX7_writesOthers_1 : decode cX7_writesOthers 1 = .ok (.iconst 0, 1) := by decide +kernel
theorem dX7_writesOthers_2 : decode cX7_writesOthers 2 = .ok (.putfield 84, 3) := by decide +kernel
theorem dX7_writesOthers_5 : decode cX7_writesOthers 5 = .ok (.aload_n 0, 1) := by decide +kernel
theorem dX7_writesOthers_6 : decode cX7_writesOthers 6 = .ok (.bipush 120, 2) := by decide +kernel
theorem dX7_writesOthers_8 : decode cX7_writesOthers 8 = .ok (.iload_n 1, 1) := by decide +kernel
theorem dX7_writesOthers_9 : decode cX7_writesOthers 9 = .ok (.imul, 1) := by decide +kernel
theorem dX7_writesOthers_10 : decode cX7_writesOthers 10 = .ok (.putfield 55, 3) := by decide +kernel
theorem dX7_writesOthers_13 : decode cX7_writesOthers 13 = .ok (.aload_n 0, 1) := by decide +kernel
theorem dX7_writesOthers_14 : decode cX7_writesOthers 14 = .ok (.getfield 55, 3) := by decide +kernel
theorem dX7_writesOthers_17 : decode cX7_writesOthers 17 = .ok (.bipush 120, 2) := by decide +kernel
theorem dX7_writesOthers_19 : decode cX7_writesOthers 19 = .ok (.iload_n 1, 1) := by decide +kernel
theorem dX7_writesOthers_20 : decode cX7_writesOthers 20 = .ok (.imul, 1) := by decide +kernel
theorem dX7_writesOthers_21 : decode cX7_writesOthers 21 = .ok (.aload_n 0, 1) := by decide +kernel
theorem dX7_writesOthers_22 : decode cX7_writesOthers 22 = .ok (.getfield 26, 3) := by decide +kernel
theorem dX7_writesOthers_25 : decode cX7_writesOthers 25 = .ok (.iload_n 1, 1) := by decide +kernel
theorem dX7_writesOthers_26 : decode cX7_writesOthers 26 = .ok (.iaload, 1) := by decide +kernel
theorem dX7_writesOthers_27 : decode cX7_writesOthers 27 = .ok (.iadd, 1) := by decide +kernel
theorem dX7_writesOthers_28 : decode cX7_writesOthers 28 = .ok (.if_icmp .ge 54, 3) := by decide +kernel
theorem dX7_writesOthers_31 : decode cX7_writesOthers 31 = .ok (.aload_n 0, 1) := by decide +kernel
theorem dX7_writesOthers_32 : decode cX7_writesOthers 32 = .ok (.aload_n 0, 1) := by decide +kernel
theorem dX7_writesOthers_33 : decode cX7_writesOthers 33 = .ok (.getfield 29, 3) := by decide +kernel
theorem dX7_writesOthers_36 : decode cX7_writesOthers 36 = .ok (.bipush 120, 2) := by decide +kernel
theorem dX7_writesOthers_38 : decode cX7_writesOthers 38 = .ok (.iload_n 1, 1) := by decide +kernel
theorem dX7_writesOthers_39 : decode cX7_writesOthers 39 = .ok (.imul, 1) := by decide +kernel
theorem dX7_writesOthers_40 : decode cX7_writesOthers 40 = .ok (.aload_n 0, 1) := by decide +kernel
theorem dX7_writesOthers_41 : decode cX7_writesOthers 41 = .ok (.getfield 26, 3) := by decide +kernel
theorem dX7_writesOthers_44 : decode cX7_writesOthers 44 = .ok (.iload_n 1, 1) := by decide +kernel
theorem dX7_writesOthers_45 : decode cX7_writesOthers 45 = .ok (.iaload, 1) := by decide +kernel
theorem dX7_writesOthers_46 : decode cX7_writesOthers 46 = .ok (.iadd, 1) := by decide +kernel
theorem dX7_writesOthers_47 : decode cX7_writesOthers 47 = .ok (.invokevirtual 106, 3) := by decide +kernel
theorem dX7_writesOthers_50 : decode cX7_writesOthers 50 = .ok (.aload_n 0, 1) := by decide +kernel
theorem dX7_writesOthers_51 : decode cX7_writesOthers 51 = .ok (.getfield 68, 3) := by decide +kernel
theorem dX7_writesOthers_54 : decode cX7_writesOthers 54 = .ok (.iload_n 2, 1) := by decide +kernel
theorem dX7_writesOthers_55 : decode cX7_writesOthers 55 = .ok (.if_icmp .ne 16, 3) := by decide +kernel
theorem dX7_writesOthers_58 : decode cX7_writesOthers 58 = .ok (.aload_n 0, 1) := by decide +kernel
theorem dX7_writesOthers_59 : decode cX7_writesOthers 59 = .ok (.aload_n 0, 1) := by decide +kernel
theorem dX7_writesOthers_60 : decode cX7_writesOthers 60 = .ok (.getfield 23, 3) := by decide +kernel
theorem dX7_writesOthers_63 : decode cX7_writesOthers 63 = .ok (.iload_n 1, 1) := by decide +kernel
theorem dX7_writesOthers_64 : decode cX7_writesOthers 64 = .ok (.iaload, 1) := by decide +kernel
theorem dX7_writesOthers_65 : decode cX7_writesOthers 65 = .ok (.invokevirtual 110, 3) := by decide +kernel
theorem dX7_writesOthers_68 : decode cX7_writesOthers 68 = .ok (.ifCond .ne (-55), 3) := by decide +kernel
theorem dX7_writesOthers_71 : decode cX7_writesOthers 71 = .ok (.aload_n 0, 1) := by decide +kernel
theorem dX7_writesOthers_72 : decode cX7_writesOthers 72 = .ok (.aload_n 0, 1) := by decide +kernel
theorem dX7_writesOthers_73 : decode cX7_writesOthers 73 = .ok (.getfield 29, 3) := by decide +kernel
theorem dX7_writesOthers_76 : decode cX7_writesOthers 76 = .ok (.invokevirtual 116, 3) := by decide +kernel
theorem dX7_writesOthers_79 : decode cX7_writesOthers 79 = .ok (.goto (-66), 3) := by decide +kernel
theorem dX7_writesOthers_82 : decode cX7_writesOthers 82 = .ok (.return_, 1) := by decide +kernel
theorem dX7_writesCanonical_0 : decode cX7_writesCanonical 0 = .ok (.aload_n 0, 1) := by decide +kernel
theorem dX7_writesCanonical_1 : decode cX7_writesCanonical 1 = .ok (.getfield 23, 3) := by decide +kernel
theorem dX7_writesCanonical_4 : decode cX7_writesCanonical 4 = .ok (.iload_n 1, 1) := by decide +kernel
theorem dX7_writesCanonical_5 : decode cX7_writesCanonical 5 = .ok (.iaload, 1) := by decide +kernel
theorem dX7_writesCanonical_6 : decode cX7_writesCanonical 6 = .ok (.istore_n 2, 1) := by decide +kernel
theorem dX7_writesCanonical_7 : decode cX7_writesCanonical 7 = .ok (.aload_n 0, 1) := by decide +kernel
theorem dX7_writesCanonical_8 : decode cX7_writesCanonical 8 = .ok (.iconst 0, 1) := by decide +kernel
theorem dX7_writesCanonical_9 : decode cX7_writesCanonical 9 = .ok (.putfield 84, 3) := by decide +kernel
theorem dX7_writesCanonical_12 : decode cX7_writesCanonical 12 = .ok (.iconst 1, 1) := by decide +kernel
theorem dX7_writesCanonical_13 : decode cX7_writesCanonical 13 = .ok (.istore_n 3, 1) := by decide +kernel
theorem dX7_writesCanonical_14 : decode cX7_writesCanonical 14 = .ok (.iload_n 3, 1) := by decide +kernel
theorem dX7_writesCanonical_15 : decode cX7_writesCanonical 15 = .ok (.bipush 32, 2) := by decide +kernel
theorem dX7_writesCanonical_17 : decode cX7_writesCanonical 17 = .ok (.if_icmp .ge 149, 3) := by decide +kernel
theorem dX7_writesCanonical_20 : decode cX7_writesCanonical 20 = .ok (.aload_n 0, 1) := by decide +kernel
theorem dX7_writesCanonical_21 : decode cX7_writesCanonical 21 = .ok (.iload_n 1, 1) := by decide +kernel
theorem dX7_writesCanonical_22 : decode cX7_writesCanonical 22 = .ok (.iload_n 3, 1) := by decide +kernel
theorem dX7_writesCanonical_23 : decode cX7_writesCanonical 23 = .ok (.invokevirtual 113, 3) := by decide +kernel
theorem dX7_writesCanonical_26 : decode cX7_writesCanonical 26 = .ok (.istore 4, 2) := by decide +kernel
theorem dX7_writesCanonical_28 : decode cX7_writesCanonical 28 = .ok (.aload_n 0, 1) := by decide +kernel
theorem dX7_writesCanonical_29 : decode cX7_writesCanonical 29 = .ok (.bipush 120, 2) := by decide +kernel
theorem dX7_writesCanonical_31 : decode cX7_writesCanonical 31 = .ok (.iload_n 1, 1) := by decide +kernel
theorem dX7_writesCanonical_32 : decode cX7_writesCanonical 32 = .ok (.imul, 1) := by decide +kernel
theorem dX7_writesCanonical_33 : decode cX7_writesCanonical 33 = .ok (.putfield 55, 3) := by decide +kernel
theorem dX7_writesCanonical_36 : decode cX7_writesCanonical 36 = .ok (.aload_n 0, 1) := by decide +kernel
theorem dX7_writesCanonical_37 : decode cX7_writesCanonical 37 = .ok (.getfield 55, 3) := by decide +kernel
theorem dX7_writesCanonical_40 : decode cX7_writesCanonical 40 = .ok (.bipush 120, 2) := by decide +kernel
theorem dX7_writesCanonical_42 : decode cX7_writesCanonical 42 = .ok (.iload_n 1, 1) := by decide +kernel
theorem dX7_writesCanonical_43 : decode cX7_writesCanonical 43 = .ok (.imul, 1) := by decide +kernel
theorem dX7_writesCanonical_44 : decode cX7_writesCanonical 44 = .ok (.aload_n 0, 1) := by decide +kernel
theorem dX7_writesCanonical_45 : decode cX7_writesCanonical 45 = .ok (.getfield 26, 3) := by decide +kernel
theorem dX7_writesCanonical_48 : decode cX7_writesCanonical 48 = .ok (.iload_n 1, 1) := by decide +kernel
theorem dX7_writesCanonical_49 : decode cX7_writesCanonical 49 = .ok (.iaload, 1) := by decide +kernel
theorem dX7_writesCanonical_50 : decode cX7_writesCanonical 50 = .ok (.iadd, 1) := by decide +kernel
theorem dX7_writesCanonical_51 : decode cX7_writesCanonical 51 = .ok (.if_icmp .ge 109, 3) := by decide +kernel
theorem dX7_writesCanonical_54 : decode cX7_writesCanonical 54 = .ok (.aload_n 0, 1) := by decide +kernel
theorem dX7_writesCanonical_55 : decode cX7_writesCanonical 55 = .ok (.aload_n 0, 1) := by decide +kernel
theorem dX7_writesCanonical_56 : decode cX7_writesCanonical 56 = .ok (.getfield 29, 3) := by decide +kernel
theorem dX7_writesCanonical_59 : decode cX7_writesCanonical 59 = .ok (.bipush 120, 2) := by decide +kernel
theorem dX7_writesCanonical_61 : decode cX7_writesCanonical 61 = .ok (.iload_n 1, 1) := by decide +kernel
theorem dX7_writesCanonical_62 : decode cX7_writesCanonical 62 = .ok (.imul, 1) := by decide +kernel
theorem dX7_writesCanonical_63 : decode cX7_writesCanonical 63 = .ok (.aload_n 0, 1) := by decide +kernel
theorem dX7_writesCanonical_64 : decode cX7_writesCanonical 64 = .ok (.getfield 26, 3) := by decide +kernel
theorem dX7_writesCanonical_67 : decode cX7_writesCanonical 67 = .ok (.iload_n 1, 1) := by decide +kernel
theorem dX7_writesCanonical_68 : decode cX7_writesCanonical 68 = .ok (.iaload, 1) := by decide +kernel
theorem dX7_writesCanonical_69 : decode cX7_writesCanonical 69 = .ok (.iadd, 1) := by decide +kernel
theorem dX7_writesCanonical_70 : decode cX7_writesCanonical 70 = .ok (.invokevirtual 106, 3) := by decide +kernel
theorem dX7_writesCanonical_73 : decode cX7_writesCanonical 73 = .ok (.aload_n 0, 1) := by decide +kernel
theorem dX7_writesCanonical_74 : decode cX7_writesCanonical 74 = .ok (.iload_n 2, 1) := by decide +kernel
theorem dX7_writesCanonical_75 : decode cX7_writesCanonical 75 = .ok (.iload_n 3, 1) := by decide +kernel
theorem dX7_writesCanonical_76 : decode cX7_writesCanonical 76 = .ok (.invokevirtual 98, 3) := by decide +kernel
theorem dX7_writesCanonical_79 : decode cX7_writesCanonical 79 = .ok (.invokestatic 120, 3) := by decide +kernel
theorem dX7_writesCanonical_82 : decode cX7_writesCanonical 82 = .ok (.ifCond .eq 34, 3) := by decide +kernel
theorem dX7_writesCanonical_85 : decode cX7_writesCanonical 85 = .ok (.aload_n 0, 1) := by decide +kernel
theorem dX7_writesCanonical_86 : decode cX7_writesCanonical 86 = .ok (.iload_n 2, 1) := by decide +kernel
theorem dX7_writesCanonical_87 : decode cX7_writesCanonical 87 = .ok (.iload_n 3, 1) := by decide +kernel
theorem dX7_writesCanonical_88 : decode cX7_writesCanonical 88 = .ok (.invokevirtual 98, 3) := by decide +kernel
theorem dX7_writesCanonical_91 : decode cX7_writesCanonical 91 = .ok (.aload_n 0, 1) := by decide +kernel
theorem dX7_writesCanonical_92 : decode cX7_writesCanonical 92 = .ok (.getfield 78, 3) := by decide +kernel
theorem dX7_writesCanonical_95 : decode cX7_writesCanonical 95 = .ok (.invokestatic 123, 3) := by decide +kernel
theorem dX7_writesCanonical_98 : decode cX7_writesCanonical 98 = .ok (.aload_n 0, 1) := by decide +kernel
theorem dX7_writesCanonical_99 : decode cX7_writesCanonical 99 = .ok (.getfield 16, 3) := by decide +kernel
theorem dX7_writesCanonical_102 : decode cX7_writesCanonical 102 = .ok (.bipush 32, 2) := by decide +kernel
theorem dX7_writesCanonical_104 : decode cX7_writesCanonical 104 = .ok (.iload_n 2, 1) := by decide +kernel
theorem dX7_writesCanonical_105 : decode cX7_writesCanonical 105 = .ok (.imul, 1) := by decide +kernel
theorem dX7_writesCanonical_106 : decode cX7_writesCanonical 106 = .ok (.iload_n 3, 1) := by decide +kernel
theorem dX7_writesCanonical_107 : decode cX7_writesCanonical 107 = .ok (.iadd, 1) := by decide +kernel
theorem dX7_writesCanonical_108 : decode cX7_writesCanonical 108 = .ok (.iaload, 1) := by decide +kernel
theorem dX7_writesCanonical_109 : decode cX7_writesCanonical 109 = .ok (.if_icmp .ne 7, 3) := by decide +kernel
theorem dX7_writesCanonical_112 : decode cX7_writesCanonical 112 = .ok (.iconst 1, 1) := by decide +kernel
theorem dX7_writesCanonical_113 : decode cX7_writesCanonical 113 = .ok (.goto 4, 3) := by decide +kernel
theorem dX7_writesCanonical_116 : decode cX7_writesCanonical 116 = .ok (.iconst 0, 1) := by decide +kernel
theorem dX7_writesCanonical_117 : decode cX7_writesCanonical 117 = .ok (.istore 5, 2) := by decide +kernel
theorem dX7_writesCanonical_119 : decode cX7_writesCanonical 119 = .ok (.aload_n 0, 1) := by decide +kernel
theorem dX7_writesCanonical_120 : decode cX7_writesCanonical 120 = .ok (.getfield 68, 3) := by decide +kernel
theorem dX7_writesCanonical_123 : decode cX7_writesCanonical 123 = .ok (.iload_n 3, 1) := by decide +kernel
theorem dX7_writesCanonical_124 : decode cX7_writesCanonical 124 = .ok (.if_icmp .ne 33, 3) := by decide +kernel
theorem dX7_writesCanonical_127 : decode cX7_writesCanonical 127 = .ok (.aload_n 0, 1) := by decide +kernel
theorem dX7_writesCanonical_128 : decode cX7_writesCanonical 128 = .ok (.iload_n 2, 1) := by decide +kernel
theorem dX7_writesCanonical_129 : decode cX7_writesCanonical 129 = .ok (.invokevirtual 110, 3) := by decide +kernel
theorem dX7_writesCanonical_132 : decode cX7_writesCanonical 132 = .ok (.ifCond .eq 17, 3) := by decide +kernel
theorem dX7_writesCanonical_135 : decode cX7_writesCanonical 135 = .ok (.aload_n 0, 1) := by decide +kernel
theorem dX7_writesCanonical_136 : decode cX7_writesCanonical 136 = .ok (.getfield 61, 3) := by decide +kernel
theorem dX7_writesCanonical_139 : decode cX7_writesCanonical 139 = .ok (.iload 4, 2) := by decide +kernel
theorem dX7_writesCanonical_141 : decode cX7_writesCanonical 141 = .ok (.if_icmp .ne 16, 3) := by decide +kernel
theorem dX7_writesCanonical_144 : decode cX7_writesCanonical 144 = .ok (.iload 5, 2) := by decide +kernel
theorem dX7_writesCanonical_146 : decode cX7_writesCanonical 146 = .ok (.ifCond .ne 11, 3) := by decide +kernel
theorem dX7_writesCanonical_149 : decode cX7_writesCanonical 149 = .ok (.aload_n 0, 1) := by decide +kernel
theorem dX7_writesCanonical_150 : decode cX7_writesCanonical 150 = .ok (.aload_n 0, 1) := by decide +kernel
theorem dX7_writesCanonical_151 : decode cX7_writesCanonical 151 = .ok (.getfield 29, 3) := by decide +kernel
theorem dX7_writesCanonical_154 : decode cX7_writesCanonical 154 = .ok (.invokevirtual 116, 3) := by decide +kernel
theorem dX7_writesCanonical_157 : decode cX7_writesCanonical 157 = .ok (.goto (-121), 3) := by decide +kernel
theorem dX7_writesCanonical_160 : decode cX7_writesCanonical 160 = .ok (.iinc 3 1, 3) := by decide +kernel
theorem dX7_writesCanonical_163 : decode cX7_writesCanonical 163 = .ok (.goto (-149), 3) := by decide +kernel
theorem dX7_writesCanonical_166 : decode cX7_writesCanonical 166 = .ok (.return_, 1) := by decide +kernel
theorem dX7_putsAside_0 : decode cX7_putsAside 0 = .ok (.iconst 0, 1) := by decide +kernel
theorem dX7_putsAside_1 : decode cX7_putsAside 1 = .ok (.istore_n 1, 1) := by decide +kernel
theorem dX7_putsAside_2 : decode cX7_putsAside 2 = .ok (.iload_n 1, 1) := by decide +kernel
theorem dX7_putsAside_3 : decode cX7_putsAside 3 = .ok (.aload_n 0, 1) := by decide +kernel
theorem dX7_putsAside_4 : decode cX7_putsAside 4 = .ok (.getfield 84, 3) := by decide +kernel
theorem dX7_putsAside_7 : decode cX7_putsAside 7 = .ok (.if_icmp .ge 21, 3) := by decide +kernel
theorem dX7_putsAside_10 : decode cX7_putsAside 10 = .ok (.aload_n 0, 1) := by decide +kernel
theorem dX7_putsAside_11 : decode cX7_putsAside 11 = .ok (.getfield 38, 3) := by decide +kernel
theorem dX7_putsAside_14 : decode cX7_putsAside 14 = .ok (.iload_n 1, 1) := by decide +kernel
theorem dX7_putsAside_15 : decode cX7_putsAside 15 = .ok (.aload_n 0, 1) := by decide +kernel
theorem dX7_putsAside_16 : decode cX7_putsAside 16 = .ok (.getfield 35, 3) := by decide +kernel
theorem dX7_putsAside_19 : decode cX7_putsAside 19 = .ok (.iload_n 1, 1) := by decide +kernel
theorem dX7_putsAside_20 : decode cX7_putsAside 20 = .ok (.iaload, 1) := by decide +kernel
theorem dX7_putsAside_21 : decode cX7_putsAside 21 = .ok (.iastore, 1) := by decide +kernel
theorem dX7_putsAside_22 : decode cX7_putsAside 22 = .ok (.iinc 1 1, 3) := by decide +kernel
theorem dX7_putsAside_25 : decode cX7_putsAside 25 = .ok (.goto (-23), 3) := by decide +kernel
theorem dX7_putsAside_28 : decode cX7_putsAside 28 = .ok (.aload_n 0, 1) := by decide +kernel
theorem dX7_putsAside_29 : decode cX7_putsAside 29 = .ok (.aload_n 0, 1) := by decide +kernel
theorem dX7_putsAside_30 : decode cX7_putsAside 30 = .ok (.getfield 84, 3) := by decide +kernel
theorem dX7_putsAside_33 : decode cX7_putsAside 33 = .ok (.putfield 126, 3) := by decide +kernel
theorem dX7_putsAside_36 : decode cX7_putsAside 36 = .ok (.return_, 1) := by decide +kernel
theorem dX7_isAsAside_0 : decode cX7_isAsAside 0 = .ok (.aload_n 0, 1) := by decide +kernel
theorem dX7_isAsAside_1 : decode cX7_isAsAside 1 = .ok (.getfield 84, 3) := by decide +kernel
theorem dX7_isAsAside_4 : decode cX7_isAsAside 4 = .ok (.aload_n 0, 1) := by decide +kernel
theorem dX7_isAsAside_5 : decode cX7_isAsAside 5 = .ok (.getfield 126, 3) := by decide +kernel
theorem dX7_isAsAside_8 : decode cX7_isAsAside 8 = .ok (.if_icmp .ne 7, 3) := by decide +kernel
theorem dX7_isAsAside_11 : decode cX7_isAsAside 11 = .ok (.iconst 1, 1) := by decide +kernel
theorem dX7_isAsAside_12 : decode cX7_isAsAside 12 = .ok (.goto 4, 3) := by decide +kernel
theorem dX7_isAsAside_15 : decode cX7_isAsAside 15 = .ok (.iconst 0, 1) := by decide +kernel
theorem dX7_isAsAside_16 : decode cX7_isAsAside 16 = .ok (.istore_n 1, 1) := by decide +kernel
theorem dX7_isAsAside_17 : decode cX7_isAsAside 17 = .ok (.iconst 0, 1) := by decide +kernel
theorem dX7_isAsAside_18 : decode cX7_isAsAside 18 = .ok (.istore_n 2, 1) := by decide +kernel
theorem dX7_isAsAside_19 : decode cX7_isAsAside 19 = .ok (.iload_n 2, 1) := by decide +kernel
theorem dX7_isAsAside_20 : decode cX7_isAsAside 20 = .ok (.aload_n 0, 1) := by decide +kernel
theorem dX7_isAsAside_21 : decode cX7_isAsAside 21 = .ok (.getfield 84, 3) := by decide +kernel
theorem dX7_isAsAside_24 : decode cX7_isAsAside 24 = .ok (.if_icmp .ge 34, 3) := by decide +kernel
theorem dX7_isAsAside_27 : decode cX7_isAsAside 27 = .ok (.iload_n 1, 1) := by decide +kernel
theorem dX7_isAsAside_28 : decode cX7_isAsAside 28 = .ok (.ifCond .eq 30, 3) := by decide +kernel
theorem dX7_isAsAside_31 : decode cX7_isAsAside 31 = .ok (.aload_n 0, 1) := by decide +kernel
theorem dX7_isAsAside_32 : decode cX7_isAsAside 32 = .ok (.getfield 35, 3) := by decide +kernel
theorem dX7_isAsAside_35 : decode cX7_isAsAside 35 = .ok (.iload_n 2, 1) := by decide +kernel
theorem dX7_isAsAside_36 : decode cX7_isAsAside 36 = .ok (.iaload, 1) := by decide +kernel
theorem dX7_isAsAside_37 : decode cX7_isAsAside 37 = .ok (.aload_n 0, 1) := by decide +kernel
theorem dX7_isAsAside_38 : decode cX7_isAsAside 38 = .ok (.getfield 38, 3) := by decide +kernel
theorem dX7_isAsAside_41 : decode cX7_isAsAside 41 = .ok (.iload_n 2, 1) := by decide +kernel
theorem dX7_isAsAside_42 : decode cX7_isAsAside 42 = .ok (.iaload, 1) := by decide +kernel
theorem dX7_isAsAside_43 : decode cX7_isAsAside 43 = .ok (.if_icmp .ne 7, 3) := by decide +kernel
theorem dX7_isAsAside_46 : decode cX7_isAsAside 46 = .ok (.iconst 1, 1) := by decide +kernel
theorem dX7_isAsAside_47 : decode cX7_isAsAside 47 = .ok (.goto 4, 3) := by decide +kernel
theorem dX7_isAsAside_50 : decode cX7_isAsAside 50 = .ok (.iconst 0, 1) := by decide +kernel
theorem dX7_isAsAside_51 : decode cX7_isAsAside 51 = .ok (.istore_n 1, 1) := by decide +kernel
theorem dX7_isAsAside_52 : decode cX7_isAsAside 52 = .ok (.iinc 2 1, 3) := by decide +kernel
theorem dX7_isAsAside_55 : decode cX7_isAsAside 55 = .ok (.goto (-36), 3) := by decide +kernel
theorem dX7_isAsAside_58 : decode cX7_isAsAside 58 = .ok (.iload_n 1, 1) := by decide +kernel
theorem dX7_isAsAside_59 : decode cX7_isAsAside 59 = .ok (.ireturn, 1) := by decide +kernel
theorem dX7_free_0 : decode cX7_free 0 = .ok (.iconst 0, 1) := by decide +kernel
theorem dX7_free_1 : decode cX7_free 1 = .ok (.istore_n 1, 1) := by decide +kernel
theorem dX7_free_2 : decode cX7_free 2 = .ok (.iload_n 1, 1) := by decide +kernel
theorem dX7_free_3 : decode cX7_free 3 = .ok (.bipush 12, 2) := by decide +kernel
theorem dX7_free_5 : decode cX7_free 5 = .ok (.if_icmp .ge 18, 3) := by decide +kernel
theorem dX7_free_8 : decode cX7_free 8 = .ok (.aload_n 0, 1) := by decide +kernel
theorem dX7_free_9 : decode cX7_free 9 = .ok (.getfield 19, 3) := by decide +kernel
theorem dX7_free_12 : decode cX7_free 12 = .ok (.iload_n 1, 1) := by decide +kernel
theorem dX7_free_13 : decode cX7_free 13 = .ok (.baload, 1) := by decide +kernel
theorem dX7_free_14 : decode cX7_free 14 = .ok (.ifCond .eq 9, 3) := by decide +kernel
theorem dX7_free_17 : decode cX7_free 17 = .ok (.iinc 1 1, 3) := by decide +kernel
theorem dX7_free_20 : decode cX7_free 20 = .ok (.goto (-18), 3) := by decide +kernel
theorem dX7_free_23 : decode cX7_free 23 = .ok (.iload_n 1, 1) := by decide +kernel
theorem dX7_free_24 : decode cX7_free 24 = .ok (.ireturn, 1) := by decide +kernel
theorem dX7_isFull_0 : decode cX7_isFull 0 = .ok (.aload_n 0, 1) := by decide +kernel
theorem dX7_isFull_1 : decode cX7_isFull 1 = .ok (.invokevirtual 129, 3) := by decide +kernel
theorem dX7_isFull_4 : decode cX7_isFull 4 = .ok (.bipush 12, 2) := by decide +kernel
theorem dX7_isFull_6 : decode cX7_isFull 6 = .ok (.if_icmp .ne 7, 3) := by decide +kernel
theorem dX7_isFull_9 : decode cX7_isFull 9 = .ok (.iconst 1, 1) := by decide +kernel
theorem dX7_isFull_10 : decode cX7_isFull 10 = .ok (.goto 4, 3) := by decide +kernel
theorem dX7_isFull_13 : decode cX7_isFull 13 = .ok (.iconst 0, 1) := by decide +kernel
theorem dX7_isFull_14 : decode cX7_isFull 14 = .ok (.ireturn, 1) := by decide +kernel
theorem dX7_makes_0 : decode cX7_makes 0 = .ok (.aload_n 0, 1) := by decide +kernel
theorem dX7_makes_1 : decode cX7_makes 1 = .ok (.invokevirtual 129, 3) := by decide +kernel
theorem dX7_makes_4 : decode cX7_makes 4 = .ok (.istore_n 2, 1) := by decide +kernel
theorem dX7_makes_5 : decode cX7_makes 5 = .ok (.aload_n 0, 1) := by decide +kernel
theorem dX7_makes_6 : decode cX7_makes 6 = .ok (.getfield 19, 3) := by decide +kernel
theorem dX7_makes_9 : decode cX7_makes 9 = .ok (.iload_n 2, 1) := by decide +kernel
theorem dX7_makes_10 : decode cX7_makes 10 = .ok (.iconst 1, 1) := by decide +kernel
theorem dX7_makes_11 : decode cX7_makes 11 = .ok (.bastore, 1) := by decide +kernel
theorem dX7_makes_12 : decode cX7_makes 12 = .ok (.aload_n 0, 1) := by decide +kernel
theorem dX7_makes_13 : decode cX7_makes 13 = .ok (.getfield 23, 3) := by decide +kernel
theorem dX7_makes_16 : decode cX7_makes 16 = .ok (.iload_n 2, 1) := by decide +kernel
theorem dX7_makes_17 : decode cX7_makes 17 = .ok (.iload_n 1, 1) := by decide +kernel
theorem dX7_makes_18 : decode cX7_makes 18 = .ok (.iastore, 1) := by decide +kernel
theorem dX7_makes_19 : decode cX7_makes 19 = .ok (.aload_n 0, 1) := by decide +kernel
theorem dX7_makes_20 : decode cX7_makes 20 = .ok (.iload_n 2, 1) := by decide +kernel
theorem dX7_makes_21 : decode cX7_makes 21 = .ok (.invokevirtual 133, 3) := by decide +kernel
theorem dX7_makes_24 : decode cX7_makes 24 = .ok (.iload_n 2, 1) := by decide +kernel
theorem dX7_makes_25 : decode cX7_makes 25 = .ok (.ireturn, 1) := by decide +kernel
theorem dX7_addSchema_0 : decode cX7_addSchema 0 = .ok (.aload_n 0, 1) := by decide +kernel
theorem dX7_addSchema_1 : decode cX7_addSchema 1 = .ok (.aload_n 0, 1) := by decide +kernel
theorem dX7_addSchema_2 : decode cX7_addSchema 2 = .ok (.getfield 48, 3) := by decide +kernel
theorem dX7_addSchema_5 : decode cX7_addSchema 5 = .ok (.bipush 6, 2) := by decide +kernel
theorem dX7_addSchema_7 : decode cX7_addSchema 7 = .ok (.if_icmp .ne 7, 3) := by decide +kernel
theorem dX7_addSchema_10 : decode cX7_addSchema 10 = .ok (.iconst 1, 1) := by decide +kernel
theorem dX7_addSchema_11 : decode cX7_addSchema 11 = .ok (.goto 4, 3) := by decide +kernel
theorem dX7_addSchema_14 : decode cX7_addSchema 14 = .ok (.iconst 0, 1) := by decide +kernel
theorem dX7_addSchema_15 : decode cX7_addSchema 15 = .ok (.putfield 44, 3) := by decide +kernel
theorem dX7_addSchema_18 : decode cX7_addSchema 18 = .ok (.aload_n 0, 1) := by decide +kernel
theorem dX7_addSchema_19 : decode cX7_addSchema 19 = .ok (.getfield 44, 3) := by decide +kernel
theorem dX7_addSchema_22 : decode cX7_addSchema 22 = .ok (.ifCond .le 5, 3) := by decide +kernel
theorem dX7_addSchema_25 : decode cX7_addSchema 25 = .ok (.iconst 0, 1) := by decide +kernel
theorem dX7_addSchema_26 : decode cX7_addSchema 26 = .ok (.ireturn, 1) := by decide +kernel
theorem dX7_addSchema_27 : decode cX7_addSchema 27 = .ok (.iconst 0, 1) := by decide +kernel
theorem dX7_addSchema_28 : decode cX7_addSchema 28 = .ok (.istore_n 1, 1) := by decide +kernel
theorem dX7_addSchema_29 : decode cX7_addSchema 29 = .ok (.iload_n 1, 1) := by decide +kernel
theorem dX7_addSchema_30 : decode cX7_addSchema 30 = .ok (.bipush 32, 2) := by decide +kernel
theorem dX7_addSchema_32 : decode cX7_addSchema 32 = .ok (.if_icmp .ge 24, 3) := by decide +kernel
theorem dX7_addSchema_35 : decode cX7_addSchema 35 = .ok (.aload_n 0, 1) := by decide +kernel
theorem dX7_addSchema_36 : decode cX7_addSchema 36 = .ok (.getfield 7, 3) := by decide +kernel
theorem dX7_addSchema_39 : decode cX7_addSchema 39 = .ok (.bipush 32, 2) := by decide +kernel
theorem dX7_addSchema_41 : decode cX7_addSchema 41 = .ok (.aload_n 0, 1) := by decide +kernel
theorem dX7_addSchema_42 : decode cX7_addSchema 42 = .ok (.getfield 48, 3) := by decide +kernel
theorem dX7_addSchema_45 : decode cX7_addSchema 45 = .ok (.imul, 1) := by decide +kernel
theorem dX7_addSchema_46 : decode cX7_addSchema 46 = .ok (.iload_n 1, 1) := by decide +kernel
theorem dX7_addSchema_47 : decode cX7_addSchema 47 = .ok (.iadd, 1) := by decide +kernel
theorem dX7_addSchema_48 : decode cX7_addSchema 48 = .ok (.iconst (-1), 1) := by decide +kernel
theorem dX7_addSchema_49 : decode cX7_addSchema 49 = .ok (.iastore, 1) := by decide +kernel
theorem dX7_addSchema_50 : decode cX7_addSchema 50 = .ok (.iinc 1 1, 3) := by decide +kernel
theorem dX7_addSchema_53 : decode cX7_addSchema 53 = .ok (.goto (-24), 3) := by decide +kernel
theorem dX7_addSchema_56 : decode cX7_addSchema 56 = .ok (.aload_n 0, 1) := by decide +kernel
theorem dX7_addSchema_57 : decode cX7_addSchema 57 = .ok (.dup, 1) := by decide +kernel
theorem dX7_addSchema_58 : decode cX7_addSchema 58 = .ok (.getfield 48, 3) := by decide +kernel
theorem dX7_addSchema_61 : decode cX7_addSchema 61 = .ok (.iconst 1, 1) := by decide +kernel
theorem dX7_addSchema_62 : decode cX7_addSchema 62 = .ok (.iadd, 1) := by decide +kernel
theorem dX7_addSchema_63 : decode cX7_addSchema 63 = .ok (.putfield 48, 3) := by decide +kernel
theorem dX7_addSchema_66 : decode cX7_addSchema 66 = .ok (.aload_n 0, 1) := by decide +kernel
theorem dX7_addSchema_67 : decode cX7_addSchema 67 = .ok (.getfield 48, 3) := by decide +kernel
theorem dX7_addSchema_70 : decode cX7_addSchema 70 = .ok (.iconst 1, 1) := by decide +kernel
theorem dX7_addSchema_71 : decode cX7_addSchema 71 = .ok (.isub, 1) := by decide +kernel
theorem dX7_addSchema_72 : decode cX7_addSchema 72 = .ok (.ireturn, 1) := by decide +kernel
theorem dX7_setKind_0 : decode cX7_setKind 0 = .ok (.aload_n 0, 1) := by decide +kernel
theorem dX7_setKind_1 : decode cX7_setKind 1 = .ok (.aload_n 0, 1) := by decide +kernel
theorem dX7_setKind_2 : decode cX7_setKind 2 = .ok (.iload_n 1, 1) := by decide +kernel
theorem dX7_setKind_3 : decode cX7_setKind 3 = .ok (.invokevirtual 136, 3) := by decide +kernel
theorem dX7_setKind_6 : decode cX7_setKind 6 = .ok (.ifCond .eq 17, 3) := by decide +kernel
theorem dX7_setKind_9 : decode cX7_setKind 9 = .ok (.iload_n 3, 1) := by decide +kernel
theorem dX7_setKind_10 : decode cX7_setKind 10 = .ok (.iconst 4, 1) := by decide +kernel
theorem dX7_setKind_11 : decode cX7_setKind 11 = .ok (.if_icmp .ne 16, 3) := by decide +kernel
theorem dX7_setKind_14 : decode cX7_setKind 14 = .ok (.aload_n 0, 1) := by decide +kernel
theorem dX7_setKind_15 : decode cX7_setKind 15 = .ok (.iload 4, 2) := by decide +kernel
theorem dX7_setKind_17 : decode cX7_setKind 17 = .ok (.invokevirtual 136, 3) := by decide +kernel
theorem dX7_setKind_20 : decode cX7_setKind 20 = .ok (.ifCond .ne 7, 3) := by decide +kernel
theorem dX7_setKind_23 : decode cX7_setKind 23 = .ok (.iconst 1, 1) := by decide +kernel
theorem dX7_setKind_24 : decode cX7_setKind 24 = .ok (.goto 24, 3) := by decide +kernel
theorem dX7_setKind_27 : decode cX7_setKind 27 = .ok (.iload_n 2, 1) := by decide +kernel
theorem dX7_setKind_28 : decode cX7_setKind 28 = .ok (.invokestatic 74, 3) := by decide +kernel
theorem dX7_setKind_31 : decode cX7_setKind 31 = .ok (.ifCond .eq 16, 3) := by decide +kernel
theorem dX7_setKind_34 : decode cX7_setKind 34 = .ok (.iload_n 3, 1) := by decide +kernel
theorem dX7_setKind_35 : decode cX7_setKind 35 = .ok (.iconst 0, 1) := by decide +kernel
theorem dX7_setKind_36 : decode cX7_setKind 36 = .ok (.iconst 4, 1) := by decide +kernel
theorem dX7_setKind_37 : decode cX7_setKind 37 = .ok (.invokestatic 51, 3) := by decide +kernel
theorem dX7_setKind_40 : decode cX7_setKind 40 = .ok (.ifCond .eq 7, 3) := by decide +kernel
theorem dX7_setKind_43 : decode cX7_setKind 43 = .ok (.iconst 0, 1) := by decide +kernel
theorem dX7_setKind_44 : decode cX7_setKind 44 = .ok (.goto 4, 3) := by decide +kernel
theorem dX7_setKind_47 : decode cX7_setKind 47 = .ok (.iconst 2, 1) := by decide +kernel
theorem dX7_setKind_48 : decode cX7_setKind 48 = .ok (.putfield 44, 3) := by decide +kernel
theorem dX7_setKind_51 : decode cX7_setKind 51 = .ok (.aload_n 0, 1) := by decide +kernel
theorem dX7_setKind_52 : decode cX7_setKind 52 = .ok (.getfield 44, 3) := by decide +kernel
theorem dX7_setKind_55 : decode cX7_setKind 55 = .ok (.ifCond .le 5, 3) := by decide +kernel
theorem dX7_setKind_58 : decode cX7_setKind 58 = .ok (.iconst 0, 1) := by decide +kernel
theorem dX7_setKind_59 : decode cX7_setKind 59 = .ok (.ireturn, 1) := by decide +kernel
theorem dX7_setKind_60 : decode cX7_setKind 60 = .ok (.aload_n 0, 1) := by decide +kernel
theorem dX7_setKind_61 : decode cX7_setKind 61 = .ok (.getfield 7, 3) := by decide +kernel
theorem dX7_setKind_64 : decode cX7_setKind 64 = .ok (.bipush 32, 2) := by decide +kernel
theorem dX7_setKind_66 : decode cX7_setKind 66 = .ok (.iload_n 1, 1) := by decide +kernel
theorem dX7_setKind_67 : decode cX7_setKind 67 = .ok (.imul, 1) := by decide +kernel
theorem dX7_setKind_68 : decode cX7_setKind 68 = .ok (.iload_n 2, 1) := by decide +kernel
theorem dX7_setKind_69 : decode cX7_setKind 69 = .ok (.iadd, 1) := by decide +kernel
theorem dX7_setKind_70 : decode cX7_setKind 70 = .ok (.iaload, 1) := by decide +kernel
theorem dX7_setKind_71 : decode cX7_setKind 71 = .ok (.istore 5, 2) := by decide +kernel
theorem dX7_setKind_73 : decode cX7_setKind 73 = .ok (.aload_n 0, 1) := by decide +kernel
theorem dX7_setKind_74 : decode cX7_setKind 74 = .ok (.getfield 7, 3) := by decide +kernel
theorem dX7_setKind_77 : decode cX7_setKind 77 = .ok (.bipush 32, 2) := by decide +kernel
theorem dX7_setKind_79 : decode cX7_setKind 79 = .ok (.iload_n 1, 1) := by decide +kernel
theorem dX7_setKind_80 : decode cX7_setKind 80 = .ok (.imul, 1) := by decide +kernel
theorem dX7_setKind_81 : decode cX7_setKind 81 = .ok (.iload_n 2, 1) := by decide +kernel
theorem dX7_setKind_82 : decode cX7_setKind 82 = .ok (.iadd, 1) := by decide +kernel
theorem dX7_setKind_83 : decode cX7_setKind 83 = .ok (.iload_n 3, 1) := by decide +kernel
theorem dX7_setKind_84 : decode cX7_setKind 84 = .ok (.iastore, 1) := by decide +kernel
theorem dX7_setKind_85 : decode cX7_setKind 85 = .ok (.aload_n 0, 1) := by decide +kernel
theorem dX7_setKind_86 : decode cX7_setKind 86 = .ok (.getfield 13, 3) := by decide +kernel
theorem dX7_setKind_89 : decode cX7_setKind 89 = .ok (.bipush 32, 2) := by decide +kernel
theorem dX7_setKind_91 : decode cX7_setKind 91 = .ok (.iload_n 1, 1) := by decide +kernel
theorem dX7_setKind_92 : decode cX7_setKind 92 = .ok (.imul, 1) := by decide +kernel
theorem dX7_setKind_93 : decode cX7_setKind 93 = .ok (.iload_n 2, 1) := by decide +kernel
theorem dX7_setKind_94 : decode cX7_setKind 94 = .ok (.iadd, 1) := by decide +kernel
theorem dX7_setKind_95 : decode cX7_setKind 95 = .ok (.iload 4, 2) := by decide +kernel
theorem dX7_setKind_97 : decode cX7_setKind 97 = .ok (.iastore, 1) := by decide +kernel
theorem dX7_setKind_98 : decode cX7_setKind 98 = .ok (.aload_n 0, 1) := by decide +kernel
theorem dX7_setKind_99 : decode cX7_setKind 99 = .ok (.getfield 16, 3) := by decide +kernel
theorem dX7_setKind_102 : decode cX7_setKind 102 = .ok (.bipush 32, 2) := by decide +kernel
theorem dX7_setKind_104 : decode cX7_setKind 104 = .ok (.iload_n 1, 1) := by decide +kernel
theorem dX7_setKind_105 : decode cX7_setKind 105 = .ok (.imul, 1) := by decide +kernel
theorem dX7_setKind_106 : decode cX7_setKind 106 = .ok (.iload_n 2, 1) := by decide +kernel
theorem dX7_setKind_107 : decode cX7_setKind 107 = .ok (.iadd, 1) := by decide +kernel
theorem dX7_setKind_108 : decode cX7_setKind 108 = .ok (.iconst 0, 1) := by decide +kernel
theorem dX7_setKind_109 : decode cX7_setKind 109 = .ok (.iastore, 1) := by decide +kernel
theorem dX7_setKind_110 : decode cX7_setKind 110 = .ok (.iload 5, 2) := by decide +kernel
theorem dX7_setKind_112 : decode cX7_setKind 112 = .ok (.ireturn, 1) := by decide +kernel
theorem dX7_dropKind_0 : decode cX7_dropKind 0 = .ok (.aload_n 0, 1) := by decide +kernel
theorem dX7_dropKind_1 : decode cX7_dropKind 1 = .ok (.aload_n 0, 1) := by decide +kernel
theorem dX7_dropKind_2 : decode cX7_dropKind 2 = .ok (.iload_n 1, 1) := by decide +kernel
theorem dX7_dropKind_3 : decode cX7_dropKind 3 = .ok (.invokevirtual 136, 3) := by decide +kernel
theorem dX7_dropKind_6 : decode cX7_dropKind 6 = .ok (.ifCond .ne 7, 3) := by decide +kernel
theorem dX7_dropKind_9 : decode cX7_dropKind 9 = .ok (.iconst 1, 1) := by decide +kernel
theorem dX7_dropKind_10 : decode cX7_dropKind 10 = .ok (.goto 15, 3) := by decide +kernel
theorem dX7_dropKind_13 : decode cX7_dropKind 13 = .ok (.iload_n 2, 1) := by decide +kernel
theorem dX7_dropKind_14 : decode cX7_dropKind 14 = .ok (.invokestatic 74, 3) := by decide +kernel
theorem dX7_dropKind_17 : decode cX7_dropKind 17 = .ok (.ifCond .eq 7, 3) := by decide +kernel
theorem dX7_dropKind_20 : decode cX7_dropKind 20 = .ok (.iconst 0, 1) := by decide +kernel
theorem dX7_dropKind_21 : decode cX7_dropKind 21 = .ok (.goto 4, 3) := by decide +kernel
theorem dX7_dropKind_24 : decode cX7_dropKind 24 = .ok (.iconst 2, 1) := by decide +kernel
theorem dX7_dropKind_25 : decode cX7_dropKind 25 = .ok (.putfield 44, 3) := by decide +kernel
theorem dX7_dropKind_28 : decode cX7_dropKind 28 = .ok (.aload_n 0, 1) := by decide +kernel
theorem dX7_dropKind_29 : decode cX7_dropKind 29 = .ok (.getfield 44, 3) := by decide +kernel
theorem dX7_dropKind_32 : decode cX7_dropKind 32 = .ok (.ifCond .le 5, 3) := by decide +kernel
theorem dX7_dropKind_35 : decode cX7_dropKind 35 = .ok (.iconst 0, 1) := by decide +kernel
theorem dX7_dropKind_36 : decode cX7_dropKind 36 = .ok (.ireturn, 1) := by decide +kernel
theorem dX7_dropKind_37 : decode cX7_dropKind 37 = .ok (.aload_n 0, 1) := by decide +kernel
theorem dX7_dropKind_38 : decode cX7_dropKind 38 = .ok (.getfield 7, 3) := by decide +kernel
theorem dX7_dropKind_41 : decode cX7_dropKind 41 = .ok (.bipush 32, 2) := by decide +kernel
theorem dX7_dropKind_43 : decode cX7_dropKind 43 = .ok (.iload_n 1, 1) := by decide +kernel
theorem dX7_dropKind_44 : decode cX7_dropKind 44 = .ok (.imul, 1) := by decide +kernel
theorem dX7_dropKind_45 : decode cX7_dropKind 45 = .ok (.iload_n 2, 1) := by decide +kernel
theorem dX7_dropKind_46 : decode cX7_dropKind 46 = .ok (.iadd, 1) := by decide +kernel
theorem dX7_dropKind_47 : decode cX7_dropKind 47 = .ok (.iaload, 1) := by decide +kernel
theorem dX7_dropKind_48 : decode cX7_dropKind 48 = .ok (.istore_n 3, 1) := by decide +kernel
theorem dX7_dropKind_49 : decode cX7_dropKind 49 = .ok (.aload_n 0, 1) := by decide +kernel
theorem dX7_dropKind_50 : decode cX7_dropKind 50 = .ok (.getfield 7, 3) := by decide +kernel
theorem dX7_dropKind_53 : decode cX7_dropKind 53 = .ok (.bipush 32, 2) := by decide +kernel
theorem dX7_dropKind_55 : decode cX7_dropKind 55 = .ok (.iload_n 1, 1) := by decide +kernel
theorem dX7_dropKind_56 : decode cX7_dropKind 56 = .ok (.imul, 1) := by decide +kernel
theorem dX7_dropKind_57 : decode cX7_dropKind 57 = .ok (.iload_n 2, 1) := by decide +kernel
theorem dX7_dropKind_58 : decode cX7_dropKind 58 = .ok (.iadd, 1) := by decide +kernel
theorem dX7_dropKind_59 : decode cX7_dropKind 59 = .ok (.iconst (-1), 1) := by decide +kernel
theorem dX7_dropKind_60 : decode cX7_dropKind 60 = .ok (.iastore, 1) := by decide +kernel
theorem dX7_dropKind_61 : decode cX7_dropKind 61 = .ok (.iload_n 3, 1) := by decide +kernel
theorem dX7_dropKind_62 : decode cX7_dropKind 62 = .ok (.ireturn, 1) := by decide +kernel
theorem dX7_setDefault_0 : decode cX7_setDefault 0 = .ok (.aload_n 0, 1) := by decide +kernel
theorem dX7_setDefault_1 : decode cX7_setDefault 1 = .ok (.aload_n 0, 1) := by decide +kernel
theorem dX7_setDefault_2 : decode cX7_setDefault 2 = .ok (.iload_n 1, 1) := by decide +kernel
theorem dX7_setDefault_3 : decode cX7_setDefault 3 = .ok (.invokevirtual 136, 3) := by decide +kernel
theorem dX7_setDefault_6 : decode cX7_setDefault 6 = .ok (.ifCond .ne 7, 3) := by decide +kernel
theorem dX7_setDefault_9 : decode cX7_setDefault 9 = .ok (.iconst 1, 1) := by decide +kernel
theorem dX7_setDefault_10 : decode cX7_setDefault 10 = .ok (.goto 31, 3) := by decide +kernel
theorem dX7_setDefault_13 : decode cX7_setDefault 13 = .ok (.iload_n 2, 1) := by decide +kernel
theorem dX7_setDefault_14 : decode cX7_setDefault 14 = .ok (.invokestatic 74, 3) := by decide +kernel
theorem dX7_setDefault_17 : decode cX7_setDefault 17 = .ok (.ifCond .ne 7, 3) := by decide +kernel
theorem dX7_setDefault_20 : decode cX7_setDefault 20 = .ok (.iconst 2, 1) := by decide +kernel
theorem dX7_setDefault_21 : decode cX7_setDefault 21 = .ok (.goto 20, 3) := by decide +kernel
theorem dX7_setDefault_24 : decode cX7_setDefault 24 = .ok (.aload_n 0, 1) := by decide +kernel
theorem dX7_setDefault_25 : decode cX7_setDefault 25 = .ok (.iload_n 1, 1) := by decide +kernel
theorem dX7_setDefault_26 : decode cX7_setDefault 26 = .ok (.iload_n 2, 1) := by decide +kernel
theorem dX7_setDefault_27 : decode cX7_setDefault 27 = .ok (.invokevirtual 98, 3) := by decide +kernel
theorem dX7_setDefault_30 : decode cX7_setDefault 30 = .ok (.invokestatic 120, 3) := by decide +kernel
theorem dX7_setDefault_33 : decode cX7_setDefault 33 = .ok (.ifCond .eq 7, 3) := by decide +kernel
theorem dX7_setDefault_36 : decode cX7_setDefault 36 = .ok (.iconst 0, 1) := by decide +kernel
theorem dX7_setDefault_37 : decode cX7_setDefault 37 = .ok (.goto 4, 3) := by decide +kernel
theorem dX7_setDefault_40 : decode cX7_setDefault 40 = .ok (.iconst 3, 1) := by decide +kernel
theorem dX7_setDefault_41 : decode cX7_setDefault 41 = .ok (.putfield 44, 3) := by decide +kernel
theorem dX7_setDefault_44 : decode cX7_setDefault 44 = .ok (.aload_n 0, 1) := by decide +kernel
theorem dX7_setDefault_45 : decode cX7_setDefault 45 = .ok (.getfield 44, 3) := by decide +kernel
theorem dX7_setDefault_48 : decode cX7_setDefault 48 = .ok (.ifCond .le 5, 3) := by decide +kernel
theorem dX7_setDefault_51 : decode cX7_setDefault 51 = .ok (.iconst 0, 1) := by decide +kernel
theorem dX7_setDefault_52 : decode cX7_setDefault 52 = .ok (.ireturn, 1) := by decide +kernel
theorem dX7_setDefault_53 : decode cX7_setDefault 53 = .ok (.aload_n 0, 1) := by decide +kernel
theorem dX7_setDefault_54 : decode cX7_setDefault 54 = .ok (.getfield 16, 3) := by decide +kernel
theorem dX7_setDefault_57 : decode cX7_setDefault 57 = .ok (.bipush 32, 2) := by decide +kernel
theorem dX7_setDefault_59 : decode cX7_setDefault 59 = .ok (.iload_n 1, 1) := by decide +kernel
theorem dX7_setDefault_60 : decode cX7_setDefault 60 = .ok (.imul, 1) := by decide +kernel
theorem dX7_setDefault_61 : decode cX7_setDefault 61 = .ok (.iload_n 2, 1) := by decide +kernel
theorem dX7_setDefault_62 : decode cX7_setDefault 62 = .ok (.iadd, 1) := by decide +kernel
theorem dX7_setDefault_63 : decode cX7_setDefault 63 = .ok (.iaload, 1) := by decide +kernel
theorem dX7_setDefault_64 : decode cX7_setDefault 64 = .ok (.istore 4, 2) := by decide +kernel
theorem dX7_setDefault_66 : decode cX7_setDefault 66 = .ok (.aload_n 0, 1) := by decide +kernel
theorem dX7_setDefault_67 : decode cX7_setDefault 67 = .ok (.getfield 16, 3) := by decide +kernel
theorem dX7_setDefault_70 : decode cX7_setDefault 70 = .ok (.bipush 32, 2) := by decide +kernel
theorem dX7_setDefault_72 : decode cX7_setDefault 72 = .ok (.iload_n 1, 1) := by decide +kernel
theorem dX7_setDefault_73 : decode cX7_setDefault 73 = .ok (.imul, 1) := by decide +kernel
theorem dX7_setDefault_74 : decode cX7_setDefault 74 = .ok (.iload_n 2, 1) := by decide +kernel
theorem dX7_setDefault_75 : decode cX7_setDefault 75 = .ok (.iadd, 1) := by decide +kernel
theorem dX7_setDefault_76 : decode cX7_setDefault 76 = .ok (.iload_n 3, 1) := by decide +kernel
theorem dX7_setDefault_77 : decode cX7_setDefault 77 = .ok (.iastore, 1) := by decide +kernel
theorem dX7_setDefault_78 : decode cX7_setDefault 78 = .ok (.iload 4, 2) := by decide +kernel
theorem dX7_setDefault_80 : decode cX7_setDefault 80 = .ok (.ireturn, 1) := by decide +kernel
theorem dX7_kindOf_0 : decode cX7_kindOf 0 = .ok (.aload_n 0, 1) := by decide +kernel
theorem dX7_kindOf_1 : decode cX7_kindOf 1 = .ok (.aload_n 0, 1) := by decide +kernel
theorem dX7_kindOf_2 : decode cX7_kindOf 2 = .ok (.iload_n 1, 1) := by decide +kernel
theorem dX7_kindOf_3 : decode cX7_kindOf 3 = .ok (.invokevirtual 136, 3) := by decide +kernel
theorem dX7_kindOf_6 : decode cX7_kindOf 6 = .ok (.ifCond .ne 7, 3) := by decide +kernel
theorem dX7_kindOf_9 : decode cX7_kindOf 9 = .ok (.iconst 1, 1) := by decide +kernel
theorem dX7_kindOf_10 : decode cX7_kindOf 10 = .ok (.goto 15, 3) := by decide +kernel
theorem dX7_kindOf_13 : decode cX7_kindOf 13 = .ok (.iload_n 2, 1) := by decide +kernel
theorem dX7_kindOf_14 : decode cX7_kindOf 14 = .ok (.invokestatic 74, 3) := by decide +kernel
theorem dX7_kindOf_17 : decode cX7_kindOf 17 = .ok (.ifCond .eq 7, 3) := by decide +kernel
theorem dX7_kindOf_20 : decode cX7_kindOf 20 = .ok (.iconst 0, 1) := by decide +kernel
theorem dX7_kindOf_21 : decode cX7_kindOf 21 = .ok (.goto 4, 3) := by decide +kernel
theorem dX7_kindOf_24 : decode cX7_kindOf 24 = .ok (.iconst 2, 1) := by decide +kernel
theorem dX7_kindOf_25 : decode cX7_kindOf 25 = .ok (.putfield 44, 3) := by decide +kernel
theorem dX7_kindOf_28 : decode cX7_kindOf 28 = .ok (.aload_n 0, 1) := by decide +kernel
theorem dX7_kindOf_29 : decode cX7_kindOf 29 = .ok (.getfield 44, 3) := by decide +kernel
theorem dX7_kindOf_32 : decode cX7_kindOf 32 = .ok (.ifCond .le 7, 3) := by decide +kernel
theorem dX7_kindOf_35 : decode cX7_kindOf 35 = .ok (.iconst 0, 1) := by decide +kernel
theorem dX7_kindOf_36 : decode cX7_kindOf 36 = .ok (.goto 9, 3) := by decide +kernel
theorem dX7_kindOf_39 : decode cX7_kindOf 39 = .ok (.aload_n 0, 1) := by decide +kernel
theorem dX7_kindOf_40 : decode cX7_kindOf 40 = .ok (.iload_n 1, 1) := by decide +kernel
theorem dX7_kindOf_41 : decode cX7_kindOf 41 = .ok (.iload_n 2, 1) := by decide +kernel
theorem dX7_kindOf_42 : decode cX7_kindOf 42 = .ok (.invokevirtual 98, 3) := by decide +kernel
theorem dX7_kindOf_45 : decode cX7_kindOf 45 = .ok (.ireturn, 1) := by decide +kernel
theorem dX7_differsAt_0 : decode cX7_differsAt 0 = .ok (.aload_n 0, 1) := by decide +kernel
theorem dX7_differsAt_1 : decode cX7_differsAt 1 = .ok (.iload_n 1, 1) := by decide +kernel
theorem dX7_differsAt_2 : decode cX7_differsAt 2 = .ok (.iload_n 3, 1) := by decide +kernel
theorem dX7_differsAt_3 : decode cX7_differsAt 3 = .ok (.invokevirtual 98, 3) := by decide +kernel
theorem dX7_differsAt_6 : decode cX7_differsAt 6 = .ok (.istore 4, 2) := by decide +kernel
theorem dX7_differsAt_8 : decode cX7_differsAt 8 = .ok (.aload_n 0, 1) := by decide +kernel
theorem dX7_differsAt_9 : decode cX7_differsAt 9 = .ok (.iload_n 2, 1) := by decide +kernel
theorem dX7_differsAt_10 : decode cX7_differsAt 10 = .ok (.iload_n 3, 1) := by decide +kernel
theorem dX7_differsAt_11 : decode cX7_differsAt 11 = .ok (.invokevirtual 98, 3) := by decide +kernel
theorem dX7_differsAt_14 : decode cX7_differsAt 14 = .ok (.istore 5, 2) := by decide +kernel
theorem dX7_differsAt_16 : decode cX7_differsAt 16 = .ok (.iload 4, 2) := by decide +kernel
theorem dX7_differsAt_18 : decode cX7_differsAt 18 = .ok (.iconst (-1), 1) := by decide +kernel
theorem dX7_differsAt_19 : decode cX7_differsAt 19 = .ok (.if_icmp .eq 36, 3) := by decide +kernel
theorem dX7_differsAt_22 : decode cX7_differsAt 22 = .ok (.iload 5, 2) := by decide +kernel
theorem dX7_differsAt_24 : decode cX7_differsAt 24 = .ok (.iconst (-1), 1) := by decide +kernel
theorem dX7_differsAt_25 : decode cX7_differsAt 25 = .ok (.if_icmp .eq 30, 3) := by decide +kernel
theorem dX7_differsAt_28 : decode cX7_differsAt 28 = .ok (.iload 4, 2) := by decide +kernel
theorem dX7_differsAt_30 : decode cX7_differsAt 30 = .ok (.iload 5, 2) := by decide +kernel
theorem dX7_differsAt_32 : decode cX7_differsAt 32 = .ok (.if_icmp .eq 23, 3) := by decide +kernel
theorem dX7_differsAt_35 : decode cX7_differsAt 35 = .ok (.iload 4, 2) := by decide +kernel
theorem dX7_differsAt_37 : decode cX7_differsAt 37 = .ok (.invokestatic 120, 3) := by decide +kernel
theorem dX7_differsAt_40 : decode cX7_differsAt 40 = .ok (.ifCond .ne 11, 3) := by decide +kernel
theorem dX7_differsAt_43 : decode cX7_differsAt 43 = .ok (.iload 5, 2) := by decide +kernel
theorem dX7_differsAt_45 : decode cX7_differsAt 45 = .ok (.invokestatic 120, 3) := by decide +kernel
theorem dX7_differsAt_48 : decode cX7_differsAt 48 = .ok (.ifCond .eq 7, 3) := by decide +kernel
theorem dX7_differsAt_51 : decode cX7_differsAt 51 = .ok (.iconst 1, 1) := by decide +kernel
theorem dX7_differsAt_52 : decode cX7_differsAt 52 = .ok (.goto 4, 3) := by decide +kernel
theorem dX7_differsAt_55 : decode cX7_differsAt 55 = .ok (.iconst 0, 1) := by decide +kernel
theorem dX7_differsAt_56 : decode cX7_differsAt 56 = .ok (.ireturn, 1) := by decide +kernel
theorem dX7_leadsTo_0 : decode cX7_leadsTo 0 = .ok (.aload_n 0, 1) := by decide +kernel
theorem dX7_leadsTo_1 : decode cX7_leadsTo 1 = .ok (.iload_n 1, 1) := by decide +kernel
theorem dX7_leadsTo_2 : decode cX7_leadsTo 2 = .ok (.iload_n 3, 1) := by decide +kernel
theorem dX7_leadsTo_3 : decode cX7_leadsTo 3 = .ok (.invokevirtual 98, 3) := by decide +kernel
theorem dX7_leadsTo_6 : decode cX7_leadsTo 6 = .ok (.iconst 4, 1) := by decide +kernel
theorem dX7_leadsTo_7 : decode cX7_leadsTo 7 = .ok (.if_icmp .ne 17, 3) := by decide +kernel
theorem dX7_leadsTo_10 : decode cX7_leadsTo 10 = .ok (.aload_n 0, 1) := by decide +kernel
theorem dX7_leadsTo_11 : decode cX7_leadsTo 11 = .ok (.iload_n 2, 1) := by decide +kernel
theorem dX7_leadsTo_12 : decode cX7_leadsTo 12 = .ok (.iload_n 3, 1) := by decide +kernel
theorem dX7_leadsTo_13 : decode cX7_leadsTo 13 = .ok (.invokevirtual 98, 3) := by decide +kernel
theorem dX7_leadsTo_16 : decode cX7_leadsTo 16 = .ok (.iconst 4, 1) := by decide +kernel
theorem dX7_leadsTo_17 : decode cX7_leadsTo 17 = .ok (.if_icmp .ne 7, 3) := by decide +kernel
theorem dX7_leadsTo_20 : decode cX7_leadsTo 20 = .ok (.iconst 1, 1) := by decide +kernel
theorem dX7_leadsTo_21 : decode cX7_leadsTo 21 = .ok (.goto 4, 3) := by decide +kernel
theorem dX7_leadsTo_24 : decode cX7_leadsTo 24 = .ok (.iconst 0, 1) := by decide +kernel
theorem dX7_leadsTo_25 : decode cX7_leadsTo 25 = .ok (.istore 4, 2) := by decide +kernel
theorem dX7_leadsTo_27 : decode cX7_leadsTo 27 = .ok (.iload 4, 2) := by decide +kernel
theorem dX7_leadsTo_29 : decode cX7_leadsTo 29 = .ok (.ifCond .eq 32, 3) := by decide +kernel
theorem dX7_leadsTo_32 : decode cX7_leadsTo 32 = .ok (.bipush 6, 2) := by decide +kernel
theorem dX7_leadsTo_34 : decode cX7_leadsTo 34 = .ok (.aload_n 0, 1) := by decide +kernel
theorem dX7_leadsTo_35 : decode cX7_leadsTo 35 = .ok (.getfield 13, 3) := by decide +kernel
theorem dX7_leadsTo_38 : decode cX7_leadsTo 38 = .ok (.bipush 32, 2) := by decide +kernel
theorem dX7_leadsTo_40 : decode cX7_leadsTo 40 = .ok (.iload_n 1, 1) := by decide +kernel
theorem dX7_leadsTo_41 : decode cX7_leadsTo 41 = .ok (.imul, 1) := by decide +kernel
theorem dX7_leadsTo_42 : decode cX7_leadsTo 42 = .ok (.iload_n 3, 1) := by decide +kernel
theorem dX7_leadsTo_43 : decode cX7_leadsTo 43 = .ok (.iadd, 1) := by decide +kernel
theorem dX7_leadsTo_44 : decode cX7_leadsTo 44 = .ok (.iaload, 1) := by decide +kernel
theorem dX7_leadsTo_45 : decode cX7_leadsTo 45 = .ok (.imul, 1) := by decide +kernel
theorem dX7_leadsTo_46 : decode cX7_leadsTo 46 = .ok (.aload_n 0, 1) := by decide +kernel
theorem dX7_leadsTo_47 : decode cX7_leadsTo 47 = .ok (.getfield 13, 3) := by decide +kernel
theorem dX7_leadsTo_50 : decode cX7_leadsTo 50 = .ok (.bipush 32, 2) := by decide +kernel
theorem dX7_leadsTo_52 : decode cX7_leadsTo 52 = .ok (.iload_n 2, 1) := by decide +kernel
theorem dX7_leadsTo_53 : decode cX7_leadsTo 53 = .ok (.imul, 1) := by decide +kernel
theorem dX7_leadsTo_54 : decode cX7_leadsTo 54 = .ok (.iload_n 3, 1) := by decide +kernel
theorem dX7_leadsTo_55 : decode cX7_leadsTo 55 = .ok (.iadd, 1) := by decide +kernel
theorem dX7_leadsTo_56 : decode cX7_leadsTo 56 = .ok (.iaload, 1) := by decide +kernel
theorem dX7_leadsTo_57 : decode cX7_leadsTo 57 = .ok (.iadd, 1) := by decide +kernel
theorem dX7_leadsTo_58 : decode cX7_leadsTo 58 = .ok (.goto 4, 3) := by decide +kernel
theorem dX7_leadsTo_61 : decode cX7_leadsTo 61 = .ok (.iconst (-1), 1) := by decide +kernel
theorem dX7_leadsTo_62 : decode cX7_leadsTo 62 = .ok (.ireturn, 1) := by decide +kernel
theorem dX7_isReason_0 : decode cX7_isReason 0 = .ok (.aload_n 0, 1) := by decide +kernel
theorem dX7_isReason_1 : decode cX7_isReason 1 = .ok (.iload_n 1, 1) := by decide +kernel
theorem dX7_isReason_2 : decode cX7_isReason 2 = .ok (.iload_n 2, 1) := by decide +kernel
theorem dX7_isReason_3 : decode cX7_isReason 3 = .ok (.iload_n 3, 1) := by decide +kernel
theorem dX7_isReason_4 : decode cX7_isReason 4 = .ok (.invokevirtual 139, 3) := by decide +kernel
theorem dX7_isReason_7 : decode cX7_isReason 7 = .ok (.istore 4, 2) := by decide +kernel
theorem dX7_isReason_9 : decode cX7_isReason 9 = .ok (.aload_n 0, 1) := by decide +kernel
theorem dX7_isReason_10 : decode cX7_isReason 10 = .ok (.iload_n 1, 1) := by decide +kernel
theorem dX7_isReason_11 : decode cX7_isReason 11 = .ok (.iload_n 2, 1) := by decide +kernel
theorem dX7_isReason_12 : decode cX7_isReason 12 = .ok (.iload_n 3, 1) := by decide +kernel
theorem dX7_isReason_13 : decode cX7_isReason 13 = .ok (.invokevirtual 143, 3) := by decide +kernel
theorem dX7_isReason_16 : decode cX7_isReason 16 = .ok (.ifCond .ne 19, 3) := by decide +kernel
theorem dX7_isReason_19 : decode cX7_isReason 19 = .ok (.iload 4, 2) := by decide +kernel
theorem dX7_isReason_21 : decode cX7_isReason 21 = .ok (.iconst (-1), 1) := by decide +kernel
theorem dX7_isReason_22 : decode cX7_isReason 22 = .ok (.if_icmp .eq 17, 3) := by decide +kernel
theorem dX7_isReason_25 : decode cX7_isReason 25 = .ok (.aload_n 0, 1) := by decide +kernel
theorem dX7_isReason_26 : decode cX7_isReason 26 = .ok (.getfield 41, 3) := by decide +kernel
theorem dX7_isReason_29 : decode cX7_isReason 29 = .ok (.iload 4, 2) := by decide +kernel
theorem dX7_isReason_31 : decode cX7_isReason 31 = .ok (.baload, 1) := by decide +kernel
theorem dX7_isReason_32 : decode cX7_isReason 32 = .ok (.ifCond .eq 7, 3) := by decide +kernel
theorem dX7_isReason_35 : decode cX7_isReason 35 = .ok (.iconst 1, 1) := by decide +kernel
theorem dX7_isReason_36 : decode cX7_isReason 36 = .ok (.goto 4, 3) := by decide +kernel
theorem dX7_isReason_39 : decode cX7_isReason 39 = .ok (.iconst 0, 1) := by decide +kernel
theorem dX7_isReason_40 : decode cX7_isReason 40 = .ok (.ireturn, 1) := by decide +kernel
theorem dX7_conflict_0 : decode cX7_conflict 0 = .ok (.aload_n 0, 1) := by decide +kernel
theorem dX7_conflict_1 : decode cX7_conflict 1 = .ok (.aload_n 0, 1) := by decide +kernel
theorem dX7_conflict_2 : decode cX7_conflict 2 = .ok (.iload_n 1, 1) := by decide +kernel
theorem dX7_conflict_3 : decode cX7_conflict 3 = .ok (.invokevirtual 136, 3) := by decide +kernel
theorem dX7_conflict_6 : decode cX7_conflict 6 = .ok (.ifCond .eq 15, 3) := by decide +kernel
theorem dX7_conflict_9 : decode cX7_conflict 9 = .ok (.aload_n 0, 1) := by decide +kernel
theorem dX7_conflict_10 : decode cX7_conflict 10 = .ok (.iload_n 2, 1) := by decide +kernel
theorem dX7_conflict_11 : decode cX7_conflict 11 = .ok (.invokevirtual 136, 3) := by decide +kernel
theorem dX7_conflict_14 : decode cX7_conflict 14 = .ok (.ifCond .eq 7, 3) := by decide +kernel
theorem dX7_conflict_17 : decode cX7_conflict 17 = .ok (.iconst 0, 1) := by decide +kernel
theorem dX7_conflict_18 : decode cX7_conflict 18 = .ok (.goto 4, 3) := by decide +kernel
theorem dX7_conflict_21 : decode cX7_conflict 21 = .ok (.iconst 1, 1) := by decide +kernel
theorem dX7_conflict_22 : decode cX7_conflict 22 = .ok (.putfield 44, 3) := by decide +kernel
theorem dX7_conflict_25 : decode cX7_conflict 25 = .ok (.aload_n 0, 1) := by decide +kernel
theorem dX7_conflict_26 : decode cX7_conflict 26 = .ok (.getfield 44, 3) := by decide +kernel
theorem dX7_conflict_29 : decode cX7_conflict 29 = .ok (.ifCond .le 5, 3) := by decide +kernel
theorem dX7_conflict_32 : decode cX7_conflict 32 = .ok (.iconst 0, 1) := by decide +kernel
theorem dX7_conflict_33 : decode cX7_conflict 33 = .ok (.ireturn, 1) := by decide +kernel
theorem dX7_conflict_34 : decode cX7_conflict 34 = .ok (.iconst 0, 1) := by decide +kernel
theorem dX7_conflict_35 : decode cX7_conflict 35 = .ok (.istore_n 3, 1) := by decide +kernel
theorem dX7_conflict_36 : decode cX7_conflict 36 = .ok (.iload_n 3, 1) := by decide +kernel
theorem dX7_conflict_37 : decode cX7_conflict 37 = .ok (.bipush 36, 2) := by decide +kernel
theorem dX7_conflict_39 : decode cX7_conflict 39 = .ok (.if_icmp .ge 16, 3) := by decide +kernel
theorem dX7_conflict_42 : decode cX7_conflict 42 = .ok (.aload_n 0, 1) := by decide +kernel
theorem dX7_conflict_43 : decode cX7_conflict 43 = .ok (.getfield 41, 3) := by decide +kernel
theorem dX7_conflict_46 : decode cX7_conflict 46 = .ok (.iload_n 3, 1) := by decide +kernel
theorem dX7_conflict_47 : decode cX7_conflict 47 = .ok (.iconst 0, 1) := by decide +kernel
theorem dX7_conflict_48 : decode cX7_conflict 48 = .ok (.bastore, 1) := by decide +kernel
theorem dX7_conflict_49 : decode cX7_conflict 49 = .ok (.iinc 3 1, 3) := by decide +kernel
theorem dX7_conflict_52 : decode cX7_conflict 52 = .ok (.goto (-16), 3) := by decide +kernel
theorem dX7_conflict_55 : decode cX7_conflict 55 = .ok (.iconst 1, 1) := by decide +kernel
theorem dX7_conflict_56 : decode cX7_conflict 56 = .ok (.istore_n 3, 1) := by decide +kernel
theorem dX7_conflict_57 : decode cX7_conflict 57 = .ok (.iload_n 3, 1) := by decide +kernel
theorem dX7_conflict_58 : decode cX7_conflict 58 = .ok (.ifCond .eq 129, 3) := by decide +kernel
theorem dX7_conflict_61 : decode cX7_conflict 61 = .ok (.iconst 0, 1) := by decide +kernel
theorem dX7_conflict_62 : decode cX7_conflict 62 = .ok (.istore_n 3, 1) := by decide +kernel
theorem dX7_conflict_63 : decode cX7_conflict 63 = .ok (.iconst 0, 1) := by decide +kernel
theorem dX7_conflict_64 : decode cX7_conflict 64 = .ok (.istore 4, 2) := by decide +kernel
theorem dX7_conflict_66 : decode cX7_conflict 66 = .ok (.iload 4, 2) := by decide +kernel
theorem dX7_conflict_68 : decode cX7_conflict 68 = .ok (.aload_n 0, 1) := by decide +kernel
theorem dX7_conflict_69 : decode cX7_conflict 69 = .ok (.getfield 48, 3) := by decide +kernel
theorem dX7_conflict_72 : decode cX7_conflict 72 = .ok (.if_icmp .ge 112, 3) := by decide +kernel
theorem dX7_conflict_75 : decode cX7_conflict 75 = .ok (.iconst 0, 1) := by decide +kernel
theorem dX7_conflict_76 : decode cX7_conflict 76 = .ok (.istore 5, 2) := by decide +kernel
theorem dX7_conflict_78 : decode cX7_conflict 78 = .ok (.iload 5, 2) := by decide +kernel
theorem dX7_conflict_80 : decode cX7_conflict 80 = .ok (.aload_n 0, 1) := by decide +kernel
theorem dX7_conflict_81 : decode cX7_conflict 81 = .ok (.getfield 48, 3) := by decide +kernel
theorem dX7_conflict_84 : decode cX7_conflict 84 = .ok (.if_icmp .ge 94, 3) := by decide +kernel
theorem dX7_conflict_87 : decode cX7_conflict 87 = .ok (.iload 4, 2) := by decide +kernel
theorem dX7_conflict_89 : decode cX7_conflict 89 = .ok (.iload_n 1, 1) := by decide +kernel
theorem dX7_conflict_90 : decode cX7_conflict 90 = .ok (.if_icmp .ne 13, 3) := by decide +kernel
theorem dX7_conflict_93 : decode cX7_conflict 93 = .ok (.iload 5, 2) := by decide +kernel
theorem dX7_conflict_95 : decode cX7_conflict 95 = .ok (.iload_n 2, 1) := by decide +kernel
theorem dX7_conflict_96 : decode cX7_conflict 96 = .ok (.if_icmp .ne 7, 3) := by decide +kernel
theorem dX7_conflict_99 : decode cX7_conflict 99 = .ok (.iconst 1, 1) := by decide +kernel
theorem dX7_conflict_100 : decode cX7_conflict 100 = .ok (.goto 4, 3) := by decide +kernel
theorem dX7_conflict_103 : decode cX7_conflict 103 = .ok (.iconst 0, 1) := by decide +kernel
theorem dX7_conflict_104 : decode cX7_conflict 104 = .ok (.istore 6, 2) := by decide +kernel
theorem dX7_conflict_106 : decode cX7_conflict 106 = .ok (.iconst 1, 1) := by decide +kernel
theorem dX7_conflict_107 : decode cX7_conflict 107 = .ok (.istore 7, 2) := by decide +kernel
theorem dX7_conflict_109 : decode cX7_conflict 109 = .ok (.iload 7, 2) := by decide +kernel
theorem dX7_conflict_111 : decode cX7_conflict 111 = .ok (.bipush 32, 2) := by decide +kernel
theorem dX7_conflict_113 : decode cX7_conflict 113 = .ok (.if_icmp .ge 59, 3) := by decide +kernel
theorem dX7_conflict_116 : decode cX7_conflict 116 = .ok (.iload 6, 2) := by decide +kernel
theorem dX7_conflict_118 : decode cX7_conflict 118 = .ok (.ifCond .ne 54, 3) := by decide +kernel
theorem dX7_conflict_121 : decode cX7_conflict 121 = .ok (.aload_n 0, 1) := by decide +kernel
theorem dX7_conflict_122 : decode cX7_conflict 122 = .ok (.getfield 41, 3) := by decide +kernel
theorem dX7_conflict_125 : decode cX7_conflict 125 = .ok (.bipush 6, 2) := by decide +kernel
theorem dX7_conflict_127 : decode cX7_conflict 127 = .ok (.iload 4, 2) := by decide +kernel
theorem dX7_conflict_129 : decode cX7_conflict 129 = .ok (.imul, 1) := by decide +kernel
theorem dX7_conflict_130 : decode cX7_conflict 130 = .ok (.iload 5, 2) := by decide +kernel
theorem dX7_conflict_132 : decode cX7_conflict 132 = .ok (.iadd, 1) := by decide +kernel
theorem dX7_conflict_133 : decode cX7_conflict 133 = .ok (.baload, 1) := by decide +kernel
theorem dX7_conflict_134 : decode cX7_conflict 134 = .ok (.ifCond .ne 38, 3) := by decide +kernel
theorem dX7_conflict_137 : decode cX7_conflict 137 = .ok (.aload_n 0, 1) := by decide +kernel
theorem dX7_conflict_138 : decode cX7_conflict 138 = .ok (.iload 4, 2) := by decide +kernel
theorem dX7_conflict_140 : decode cX7_conflict 140 = .ok (.iload 5, 2) := by decide +kernel
theorem dX7_conflict_142 : decode cX7_conflict 142 = .ok (.iload 7, 2) := by decide +kernel
theorem dX7_conflict_144 : decode cX7_conflict 144 = .ok (.invokevirtual 146, 3) := by decide +kernel
theorem dX7_conflict_147 : decode cX7_conflict 147 = .ok (.ifCond .eq 19, 3) := by decide +kernel
theorem dX7_conflict_150 : decode cX7_conflict 150 = .ok (.aload_n 0, 1) := by decide +kernel
theorem dX7_conflict_151 : decode cX7_conflict 151 = .ok (.getfield 41, 3) := by decide +kernel
theorem dX7_conflict_154 : decode cX7_conflict 154 = .ok (.bipush 6, 2) := by decide +kernel
theorem dX7_conflict_156 : decode cX7_conflict 156 = .ok (.iload 4, 2) := by decide +kernel
theorem dX7_conflict_158 : decode cX7_conflict 158 = .ok (.imul, 1) := by decide +kernel
theorem dX7_conflict_159 : decode cX7_conflict 159 = .ok (.iload 5, 2) := by decide +kernel
theorem dX7_conflict_161 : decode cX7_conflict 161 = .ok (.iadd, 1) := by decide +kernel
theorem dX7_conflict_162 : decode cX7_conflict 162 = .ok (.iconst 1, 1) := by decide +kernel
theorem dX7_conflict_163 : decode cX7_conflict 163 = .ok (.bastore, 1) := by decide +kernel
theorem dX7_conflict_164 : decode cX7_conflict 164 = .ok (.iconst 1, 1) := by decide +kernel
theorem dX7_conflict_165 : decode cX7_conflict 165 = .ok (.istore_n 3, 1) := by decide +kernel
theorem dX7_conflict_166 : decode cX7_conflict 166 = .ok (.iinc 7 1, 3) := by decide +kernel
theorem dX7_conflict_169 : decode cX7_conflict 169 = .ok (.goto (-60), 3) := by decide +kernel
theorem dX7_conflict_172 : decode cX7_conflict 172 = .ok (.iinc 5 1, 3) := by decide +kernel
theorem dX7_conflict_175 : decode cX7_conflict 175 = .ok (.goto (-97), 3) := by decide +kernel
theorem dX7_conflict_178 : decode cX7_conflict 178 = .ok (.iinc 4 1, 3) := by decide +kernel
theorem dX7_conflict_181 : decode cX7_conflict 181 = .ok (.goto (-115), 3) := by decide +kernel
theorem dX7_conflict_184 : decode cX7_conflict 184 = .ok (.goto (-127), 3) := by decide +kernel
theorem dX7_conflict_187 : decode cX7_conflict 187 = .ok (.iconst (-1), 1) := by decide +kernel
theorem dX7_conflict_188 : decode cX7_conflict 188 = .ok (.istore 4, 2) := by decide +kernel
theorem dX7_conflict_190 : decode cX7_conflict 190 = .ok (.bipush 31, 2) := by decide +kernel
theorem dX7_conflict_192 : decode cX7_conflict 192 = .ok (.istore 5, 2) := by decide +kernel
theorem dX7_conflict_194 : decode cX7_conflict 194 = .ok (.iload 5, 2) := by decide +kernel
theorem dX7_conflict_196 : decode cX7_conflict 196 = .ok (.ifCond .le 29, 3) := by decide +kernel
theorem dX7_conflict_199 : decode cX7_conflict 199 = .ok (.aload_n 0, 1) := by decide +kernel
theorem dX7_conflict_200 : decode cX7_conflict 200 = .ok (.iload_n 1, 1) := by decide +kernel
theorem dX7_conflict_201 : decode cX7_conflict 201 = .ok (.iload_n 2, 1) := by decide +kernel
theorem dX7_conflict_202 : decode cX7_conflict 202 = .ok (.iload 5, 2) := by decide +kernel
theorem dX7_conflict_204 : decode cX7_conflict 204 = .ok (.invokevirtual 146, 3) := by decide +kernel
theorem dX7_conflict_207 : decode cX7_conflict 207 = .ok (.ifCond .eq 8, 3) := by decide +kernel
theorem dX7_conflict_210 : decode cX7_conflict 210 = .ok (.iload 5, 2) := by decide +kernel
theorem dX7_conflict_212 : decode cX7_conflict 212 = .ok (.goto 5, 3) := by decide +kernel
theorem dX7_conflict_215 : decode cX7_conflict 215 = .ok (.iload 4, 2) := by decide +kernel
theorem dX7_conflict_217 : decode cX7_conflict 217 = .ok (.istore 4, 2) := by decide +kernel
theorem dX7_conflict_219 : decode cX7_conflict 219 = .ok (.iinc 5 (-1), 3) := by decide +kernel
theorem dX7_conflict_222 : decode cX7_conflict 222 = .ok (.goto (-28), 3) := by decide +kernel
theorem dX7_conflict_225 : decode cX7_conflict 225 = .ok (.iload 4, 2) := by decide +kernel
theorem dX7_conflict_227 : decode cX7_conflict 227 = .ok (.ireturn, 1) := by decide +kernel
theorem dX7_create_0 : decode cX7_create 0 = .ok (.aload_n 0, 1) := by decide +kernel
theorem dX7_create_1 : decode cX7_create 1 = .ok (.aload_n 0, 1) := by decide +kernel
theorem dX7_create_2 : decode cX7_create 2 = .ok (.iload_n 1, 1) := by decide +kernel
theorem dX7_create_3 : decode cX7_create 3 = .ok (.invokevirtual 136, 3) := by decide +kernel
theorem dX7_create_6 : decode cX7_create 6 = .ok (.ifCond .ne 7, 3) := by decide +kernel
theorem dX7_create_9 : decode cX7_create 9 = .ok (.iconst 1, 1) := by decide +kernel
theorem dX7_create_10 : decode cX7_create 10 = .ok (.goto 15, 3) := by decide +kernel
theorem dX7_create_13 : decode cX7_create 13 = .ok (.aload_n 0, 1) := by decide +kernel
theorem dX7_create_14 : decode cX7_create 14 = .ok (.invokevirtual 149, 3) := by decide +kernel
theorem dX7_create_17 : decode cX7_create 17 = .ok (.ifCond .eq 7, 3) := by decide +kernel
theorem dX7_create_20 : decode cX7_create 20 = .ok (.iconst 2, 1) := by decide +kernel
theorem dX7_create_21 : decode cX7_create 21 = .ok (.goto 4, 3) := by decide +kernel
theorem dX7_create_24 : decode cX7_create 24 = .ok (.iconst 0, 1) := by decide +kernel
theorem dX7_create_25 : decode cX7_create 25 = .ok (.putfield 44, 3) := by decide +kernel
theorem dX7_create_28 : decode cX7_create 28 = .ok (.aload_n 0, 1) := by decide +kernel
theorem dX7_create_29 : decode cX7_create 29 = .ok (.getfield 44, 3) := by decide +kernel
theorem dX7_create_32 : decode cX7_create 32 = .ok (.ifCond .le 5, 3) := by decide +kernel
theorem dX7_create_35 : decode cX7_create 35 = .ok (.iconst 0, 1) := by decide +kernel
theorem dX7_create_36 : decode cX7_create 36 = .ok (.ireturn, 1) := by decide +kernel
theorem dX7_create_37 : decode cX7_create 37 = .ok (.aload_n 0, 1) := by decide +kernel
theorem dX7_create_38 : decode cX7_create 38 = .ok (.iconst 0, 1) := by decide +kernel
theorem dX7_create_39 : decode cX7_create 39 = .ok (.putfield 84, 3) := by decide +kernel
theorem dX7_create_42 : decode cX7_create 42 = .ok (.aload_n 0, 1) := by decide +kernel
theorem dX7_create_43 : decode cX7_create 43 = .ok (.iload_n 1, 1) := by decide +kernel
theorem dX7_create_44 : decode cX7_create 44 = .ok (.invokevirtual 153, 3) := by decide +kernel
theorem dX7_create_47 : decode cX7_create 47 = .ok (.ireturn, 1) := by decide +kernel
theorem dX7_copy_0 : decode cX7_copy 0 = .ok (.aload_n 0, 1) := by decide +kernel
theorem dX7_copy_1 : decode cX7_copy 1 = .ok (.aload_n 0, 1) := by decide +kernel
theorem dX7_copy_2 : decode cX7_copy 2 = .ok (.iload_n 1, 1) := by decide +kernel
theorem dX7_copy_3 : decode cX7_copy 3 = .ok (.invokevirtual 156, 3) := by decide +kernel
theorem dX7_copy_6 : decode cX7_copy 6 = .ok (.ifCond .eq 11, 3) := by decide +kernel
theorem dX7_copy_9 : decode cX7_copy 9 = .ok (.aload_n 0, 1) := by decide +kernel
theorem dX7_copy_10 : decode cX7_copy 10 = .ok (.iload_n 2, 1) := by decide +kernel
theorem dX7_copy_11 : decode cX7_copy 11 = .ok (.invokevirtual 136, 3) := by decide +kernel
theorem dX7_copy_14 : decode cX7_copy 14 = .ok (.ifCond .ne 7, 3) := by decide +kernel
theorem dX7_copy_17 : decode cX7_copy 17 = .ok (.iconst 1, 1) := by decide +kernel
theorem dX7_copy_18 : decode cX7_copy 18 = .ok (.goto 15, 3) := by decide +kernel
theorem dX7_copy_21 : decode cX7_copy 21 = .ok (.aload_n 0, 1) := by decide +kernel
theorem dX7_copy_22 : decode cX7_copy 22 = .ok (.invokevirtual 149, 3) := by decide +kernel
theorem dX7_copy_25 : decode cX7_copy 25 = .ok (.ifCond .eq 7, 3) := by decide +kernel
theorem dX7_copy_28 : decode cX7_copy 28 = .ok (.iconst 2, 1) := by decide +kernel
theorem dX7_copy_29 : decode cX7_copy 29 = .ok (.goto 4, 3) := by decide +kernel
theorem dX7_copy_32 : decode cX7_copy 32 = .ok (.iconst 0, 1) := by decide +kernel
theorem dX7_copy_33 : decode cX7_copy 33 = .ok (.putfield 44, 3) := by decide +kernel
theorem dX7_copy_36 : decode cX7_copy 36 = .ok (.aload_n 0, 1) := by decide +kernel
theorem dX7_copy_37 : decode cX7_copy 37 = .ok (.getfield 44, 3) := by decide +kernel
theorem dX7_copy_40 : decode cX7_copy 40 = .ok (.ifCond .le 5, 3) := by decide +kernel
theorem dX7_copy_43 : decode cX7_copy 43 = .ok (.iconst 0, 1) := by decide +kernel
theorem dX7_copy_44 : decode cX7_copy 44 = .ok (.ireturn, 1) := by decide +kernel
theorem dX7_copy_45 : decode cX7_copy 45 = .ok (.aload_n 0, 1) := by decide +kernel
theorem dX7_copy_46 : decode cX7_copy 46 = .ok (.iload_n 1, 1) := by decide +kernel
theorem dX7_copy_47 : decode cX7_copy 47 = .ok (.iconst (-1), 1) := by decide +kernel
theorem dX7_copy_48 : decode cX7_copy 48 = .ok (.invokevirtual 159, 3) := by decide +kernel
theorem dX7_copy_51 : decode cX7_copy 51 = .ok (.aload_n 0, 1) := by decide +kernel
theorem dX7_copy_52 : decode cX7_copy 52 = .ok (.iload_n 2, 1) := by decide +kernel
theorem dX7_copy_53 : decode cX7_copy 53 = .ok (.invokevirtual 153, 3) := by decide +kernel
theorem dX7_copy_56 : decode cX7_copy 56 = .ok (.ireturn, 1) := by decide +kernel
theorem dX7_fields_0 : decode cX7_fields 0 = .ok (.iconst 0, 1) := by decide +kernel
theorem dX7_fields_1 : decode cX7_fields 1 = .ok (.istore_n 2, 1) := by decide +kernel
theorem dX7_fields_2 : decode cX7_fields 2 = .ok (.aload_n 0, 1) := by decide +kernel
theorem dX7_fields_3 : decode cX7_fields 3 = .ok (.bipush 120, 2) := by decide +kernel
theorem dX7_fields_5 : decode cX7_fields 5 = .ok (.iload_n 1, 1) := by decide +kernel
theorem dX7_fields_6 : decode cX7_fields 6 = .ok (.imul, 1) := by decide +kernel
theorem dX7_fields_7 : decode cX7_fields 7 = .ok (.putfield 55, 3) := by decide +kernel
theorem dX7_fields_10 : decode cX7_fields 10 = .ok (.aload_n 0, 1) := by decide +kernel
theorem dX7_fields_11 : decode cX7_fields 11 = .ok (.getfield 55, 3) := by decide +kernel
theorem dX7_fields_14 : decode cX7_fields 14 = .ok (.bipush 120, 2) := by decide +kernel
theorem dX7_fields_16 : decode cX7_fields 16 = .ok (.iload_n 1, 1) := by decide +kernel
theorem dX7_fields_17 : decode cX7_fields 17 = .ok (.imul, 1) := by decide +kernel
theorem dX7_fields_18 : decode cX7_fields 18 = .ok (.aload_n 0, 1) := by decide +kernel
theorem dX7_fields_19 : decode cX7_fields 19 = .ok (.getfield 26, 3) := by decide +kernel
theorem dX7_fields_22 : decode cX7_fields 22 = .ok (.iload_n 1, 1) := by decide +kernel
theorem dX7_fields_23 : decode cX7_fields 23 = .ok (.iaload, 1) := by decide +kernel
theorem dX7_fields_24 : decode cX7_fields 24 = .ok (.iadd, 1) := by decide +kernel
theorem dX7_fields_25 : decode cX7_fields 25 = .ok (.if_icmp .ge 28, 3) := by decide +kernel
theorem dX7_fields_28 : decode cX7_fields 28 = .ok (.aload_n 0, 1) := by decide +kernel
theorem dX7_fields_29 : decode cX7_fields 29 = .ok (.aload_n 0, 1) := by decide +kernel
theorem dX7_fields_30 : decode cX7_fields 30 = .ok (.getfield 29, 3) := by decide +kernel
theorem dX7_fields_33 : decode cX7_fields 33 = .ok (.bipush 120, 2) := by decide +kernel
theorem dX7_fields_35 : decode cX7_fields 35 = .ok (.iload_n 1, 1) := by decide +kernel
theorem dX7_fields_36 : decode cX7_fields 36 = .ok (.imul, 1) := by decide +kernel
theorem dX7_fields_37 : decode cX7_fields 37 = .ok (.aload_n 0, 1) := by decide +kernel
theorem dX7_fields_38 : decode cX7_fields 38 = .ok (.getfield 26, 3) := by decide +kernel
theorem dX7_fields_41 : decode cX7_fields 41 = .ok (.iload_n 1, 1) := by decide +kernel
theorem dX7_fields_42 : decode cX7_fields 42 = .ok (.iaload, 1) := by decide +kernel
theorem dX7_fields_43 : decode cX7_fields 43 = .ok (.iadd, 1) := by decide +kernel
theorem dX7_fields_44 : decode cX7_fields 44 = .ok (.invokevirtual 106, 3) := by decide +kernel
theorem dX7_fields_47 : decode cX7_fields 47 = .ok (.iinc 2 1, 3) := by decide +kernel
theorem dX7_fields_50 : decode cX7_fields 50 = .ok (.goto (-40), 3) := by decide +kernel
theorem dX7_fields_53 : decode cX7_fields 53 = .ok (.iload_n 2, 1) := by decide +kernel
theorem dX7_fields_54 : decode cX7_fields 54 = .ok (.ireturn, 1) := by decide +kernel
theorem dX7_discard_0 : decode cX7_discard 0 = .ok (.aload_n 0, 1) := by decide +kernel
theorem dX7_discard_1 : decode cX7_discard 1 = .ok (.aload_n 0, 1) := by decide +kernel
theorem dX7_discard_2 : decode cX7_discard 2 = .ok (.iload_n 1, 1) := by decide +kernel
theorem dX7_discard_3 : decode cX7_discard 3 = .ok (.invokevirtual 156, 3) := by decide +kernel
theorem dX7_discard_6 : decode cX7_discard 6 = .ok (.ifCond .eq 7, 3) := by decide +kernel
theorem dX7_discard_9 : decode cX7_discard 9 = .ok (.iconst 0, 1) := by decide +kernel
theorem dX7_discard_10 : decode cX7_discard 10 = .ok (.goto 4, 3) := by decide +kernel
theorem dX7_discard_13 : decode cX7_discard 13 = .ok (.iconst 1, 1) := by decide +kernel
theorem dX7_discard_14 : decode cX7_discard 14 = .ok (.putfield 44, 3) := by decide +kernel
theorem dX7_discard_17 : decode cX7_discard 17 = .ok (.aload_n 0, 1) := by decide +kernel
theorem dX7_discard_18 : decode cX7_discard 18 = .ok (.getfield 44, 3) := by decide +kernel
theorem dX7_discard_21 : decode cX7_discard 21 = .ok (.ifCond .le 5, 3) := by decide +kernel
theorem dX7_discard_24 : decode cX7_discard 24 = .ok (.iconst 0, 1) := by decide +kernel
theorem dX7_discard_25 : decode cX7_discard 25 = .ok (.ireturn, 1) := by decide +kernel
theorem dX7_discard_26 : decode cX7_discard 26 = .ok (.aload_n 0, 1) := by decide +kernel
theorem dX7_discard_27 : decode cX7_discard 27 = .ok (.getfield 19, 3) := by decide +kernel
theorem dX7_discard_30 : decode cX7_discard 30 = .ok (.iload_n 1, 1) := by decide +kernel
theorem dX7_discard_31 : decode cX7_discard 31 = .ok (.iconst 0, 1) := by decide +kernel
theorem dX7_discard_32 : decode cX7_discard 32 = .ok (.bastore, 1) := by decide +kernel
theorem dX7_discard_33 : decode cX7_discard 33 = .ok (.aload_n 0, 1) := by decide +kernel
theorem dX7_discard_34 : decode cX7_discard 34 = .ok (.iload_n 1, 1) := by decide +kernel
theorem dX7_discard_35 : decode cX7_discard 35 = .ok (.invokevirtual 163, 3) := by decide +kernel
theorem dX7_discard_38 : decode cX7_discard 38 = .ok (.ireturn, 1) := by decide +kernel
theorem dX7_isWritten_0 : decode cX7_isWritten 0 = .ok (.aload_n 0, 1) := by decide +kernel
theorem dX7_isWritten_1 : decode cX7_isWritten 1 = .ok (.aload_n 0, 1) := by decide +kernel
theorem dX7_isWritten_2 : decode cX7_isWritten 2 = .ok (.getfield 84, 3) := by decide +kernel
theorem dX7_isWritten_5 : decode cX7_isWritten 5 = .ok (.bipush 120, 2) := by decide +kernel
theorem dX7_isWritten_7 : decode cX7_isWritten 7 = .ok (.if_icmp .le 7, 3) := by decide +kernel
theorem dX7_isWritten_10 : decode cX7_isWritten 10 = .ok (.iconst 3, 1) := by decide +kernel
theorem dX7_isWritten_11 : decode cX7_isWritten 11 = .ok (.goto 4, 3) := by decide +kernel
theorem dX7_isWritten_14 : decode cX7_isWritten 14 = .ok (.iconst 0, 1) := by decide +kernel
theorem dX7_isWritten_15 : decode cX7_isWritten 15 = .ok (.putfield 44, 3) := by decide +kernel
theorem dX7_isWritten_18 : decode cX7_isWritten 18 = .ok (.aload_n 0, 1) := by decide +kernel
theorem dX7_isWritten_19 : decode cX7_isWritten 19 = .ok (.getfield 44, 3) := by decide +kernel
theorem dX7_isWritten_22 : decode cX7_isWritten 22 = .ok (.ifCond .ne 8, 3) := by decide +kernel
theorem dX7_isWritten_25 : decode cX7_isWritten 25 = .ok (.aload_n 0, 1) := by decide +kernel
theorem dX7_isWritten_26 : decode cX7_isWritten 26 = .ok (.iload_n 1, 1) := by decide +kernel
theorem dX7_isWritten_27 : decode cX7_isWritten 27 = .ok (.invokevirtual 133, 3) := by decide +kernel
theorem dX7_isWritten_30 : decode cX7_isWritten 30 = .ok (.return_, 1) := by decide +kernel
theorem dX7_kindIn_0 : decode cX7_kindIn 0 = .ok (.aload_n 0, 1) := by decide +kernel
theorem dX7_kindIn_1 : decode cX7_kindIn 1 = .ok (.aload_n 0, 1) := by decide +kernel
theorem dX7_kindIn_2 : decode cX7_kindIn 2 = .ok (.getfield 23, 3) := by decide +kernel
theorem dX7_kindIn_5 : decode cX7_kindIn 5 = .ok (.iload_n 1, 1) := by decide +kernel
theorem dX7_kindIn_6 : decode cX7_kindIn 6 = .ok (.iaload, 1) := by decide +kernel
theorem dX7_kindIn_7 : decode cX7_kindIn 7 = .ok (.iload_n 2, 1) := by decide +kernel
theorem dX7_kindIn_8 : decode cX7_kindIn 8 = .ok (.invokevirtual 98, 3) := by decide +kernel
theorem dX7_kindIn_11 : decode cX7_kindIn 11 = .ok (.ireturn, 1) := by decide +kernel
theorem dX7_set_0 : decode cX7_set 0 = .ok (.aload_n 0, 1) := by decide +kernel
theorem dX7_set_1 : decode cX7_set 1 = .ok (.aload_n 0, 1) := by decide +kernel
theorem dX7_set_2 : decode cX7_set 2 = .ok (.iload_n 1, 1) := by decide +kernel
theorem dX7_set_3 : decode cX7_set 3 = .ok (.invokevirtual 156, 3) := by decide +kernel
theorem dX7_set_6 : decode cX7_set 6 = .ok (.ifCond .ne 7, 3) := by decide +kernel
theorem dX7_set_9 : decode cX7_set 9 = .ok (.iconst 1, 1) := by decide +kernel
theorem dX7_set_10 : decode cX7_set 10 = .ok (.goto 20, 3) := by decide +kernel
theorem dX7_set_13 : decode cX7_set 13 = .ok (.aload_n 0, 1) := by decide +kernel
theorem dX7_set_14 : decode cX7_set 14 = .ok (.iload_n 1, 1) := by decide +kernel
theorem dX7_set_15 : decode cX7_set 15 = .ok (.iload_n 2, 1) := by decide +kernel
theorem dX7_set_16 : decode cX7_set 16 = .ok (.invokevirtual 166, 3) := by decide +kernel
theorem dX7_set_19 : decode cX7_set 19 = .ok (.invokestatic 120, 3) := by decide +kernel
theorem dX7_set_22 : decode cX7_set 22 = .ok (.ifCond .eq 7, 3) := by decide +kernel
theorem dX7_set_25 : decode cX7_set 25 = .ok (.iconst 0, 1) := by decide +kernel
theorem dX7_set_26 : decode cX7_set 26 = .ok (.goto 4, 3) := by decide +kernel
theorem dX7_set_29 : decode cX7_set 29 = .ok (.iconst 2, 1) := by decide +kernel
theorem dX7_set_30 : decode cX7_set 30 = .ok (.putfield 44, 3) := by decide +kernel
theorem dX7_set_33 : decode cX7_set 33 = .ok (.aload_n 0, 1) := by decide +kernel
theorem dX7_set_34 : decode cX7_set 34 = .ok (.getfield 44, 3) := by decide +kernel
theorem dX7_set_37 : decode cX7_set 37 = .ok (.ifCond .le 4, 3) := by decide +kernel
theorem dX7_set_40 : decode cX7_set 40 = .ok (.return_, 1) := by decide +kernel
theorem dX7_set_41 : decode cX7_set 41 = .ok (.aload_n 0, 1) := by decide +kernel
theorem dX7_set_42 : decode cX7_set 42 = .ok (.iload_n 1, 1) := by decide +kernel
theorem dX7_set_43 : decode cX7_set 43 = .ok (.iload_n 2, 1) := by decide +kernel
theorem dX7_set_44 : decode cX7_set 44 = .ok (.invokevirtual 166, 3) := by decide +kernel
theorem dX7_set_47 : decode cX7_set 47 = .ok (.istore 4, 2) := by decide +kernel
theorem dX7_set_49 : decode cX7_set 49 = .ok (.aload_n 0, 1) := by decide +kernel
theorem dX7_set_50 : decode cX7_set 50 = .ok (.iload_n 1, 1) := by decide +kernel
theorem dX7_set_51 : decode cX7_set 51 = .ok (.iload_n 2, 1) := by decide +kernel
theorem dX7_set_52 : decode cX7_set 52 = .ok (.invokevirtual 159, 3) := by decide +kernel
theorem dX7_set_55 : decode cX7_set 55 = .ok (.aload_n 0, 1) := by decide +kernel
theorem dX7_set_56 : decode cX7_set 56 = .ok (.iload_n 2, 1) := by decide +kernel
theorem dX7_set_57 : decode cX7_set 57 = .ok (.iload 4, 2) := by decide +kernel
theorem dX7_set_59 : decode cX7_set 59 = .ok (.invokestatic 102, 3) := by decide +kernel
theorem dX7_set_62 : decode cX7_set 62 = .ok (.iload 4, 2) := by decide +kernel
theorem dX7_set_64 : decode cX7_set 64 = .ok (.iload_n 3, 1) := by decide +kernel
theorem dX7_set_65 : decode cX7_set 65 = .ok (.invokestatic 169, 3) := by decide +kernel
theorem dX7_set_68 : decode cX7_set 68 = .ok (.invokevirtual 94, 3) := by decide +kernel
theorem dX7_set_71 : decode cX7_set 71 = .ok (.aload_n 0, 1) := by decide +kernel
theorem dX7_set_72 : decode cX7_set 72 = .ok (.iload_n 1, 1) := by decide +kernel
theorem dX7_set_73 : decode cX7_set 73 = .ok (.invokevirtual 172, 3) := by decide +kernel
theorem dX7_set_76 : decode cX7_set 76 = .ok (.return_, 1) := by decide +kernel
theorem dX7_append_0 : decode cX7_append 0 = .ok (.aload_n 0, 1) := by decide +kernel
theorem dX7_append_1 : decode cX7_append 1 = .ok (.aload_n 0, 1) := by decide +kernel
theorem dX7_append_2 : decode cX7_append 2 = .ok (.iload_n 1, 1) := by decide +kernel
theorem dX7_append_3 : decode cX7_append 3 = .ok (.invokevirtual 156, 3) := by decide +kernel
theorem dX7_append_6 : decode cX7_append 6 = .ok (.ifCond .ne 7, 3) := by decide +kernel
theorem dX7_append_9 : decode cX7_append 9 = .ok (.iconst 1, 1) := by decide +kernel
theorem dX7_append_10 : decode cX7_append 10 = .ok (.goto 20, 3) := by decide +kernel
theorem dX7_append_13 : decode cX7_append 13 = .ok (.aload_n 0, 1) := by decide +kernel
theorem dX7_append_14 : decode cX7_append 14 = .ok (.iload_n 1, 1) := by decide +kernel
theorem dX7_append_15 : decode cX7_append 15 = .ok (.iload_n 2, 1) := by decide +kernel
theorem dX7_append_16 : decode cX7_append 16 = .ok (.invokevirtual 166, 3) := by decide +kernel
theorem dX7_append_19 : decode cX7_append 19 = .ok (.invokestatic 175, 3) := by decide +kernel
theorem dX7_append_22 : decode cX7_append 22 = .ok (.ifCond .eq 7, 3) := by decide +kernel
theorem dX7_append_25 : decode cX7_append 25 = .ok (.iconst 0, 1) := by decide +kernel
theorem dX7_append_26 : decode cX7_append 26 = .ok (.goto 4, 3) := by decide +kernel
theorem dX7_append_29 : decode cX7_append 29 = .ok (.iconst 2, 1) := by decide +kernel
theorem dX7_append_30 : decode cX7_append 30 = .ok (.putfield 44, 3) := by decide +kernel
theorem dX7_append_33 : decode cX7_append 33 = .ok (.aload_n 0, 1) := by decide +kernel
theorem dX7_append_34 : decode cX7_append 34 = .ok (.getfield 44, 3) := by decide +kernel
theorem dX7_append_37 : decode cX7_append 37 = .ok (.ifCond .le 5, 3) := by decide +kernel
theorem dX7_append_40 : decode cX7_append 40 = .ok (.iconst 0, 1) := by decide +kernel
theorem dX7_append_41 : decode cX7_append 41 = .ok (.ireturn, 1) := by decide +kernel
theorem dX7_append_42 : decode cX7_append 42 = .ok (.aload_n 0, 1) := by decide +kernel
theorem dX7_append_43 : decode cX7_append 43 = .ok (.iconst 0, 1) := by decide +kernel
theorem dX7_append_44 : decode cX7_append 44 = .ok (.putfield 126, 3) := by decide +kernel
theorem dX7_append_47 : decode cX7_append 47 = .ok (.aload_n 0, 1) := by decide +kernel
theorem dX7_append_48 : decode cX7_append 48 = .ok (.iload_n 1, 1) := by decide +kernel
theorem dX7_append_49 : decode cX7_append 49 = .ok (.iload_n 2, 1) := by decide +kernel
theorem dX7_append_50 : decode cX7_append 50 = .ok (.invokevirtual 178, 3) := by decide +kernel
theorem dX7_append_53 : decode cX7_append 53 = .ok (.ifCond .eq 48, 3) := by decide +kernel
theorem dX7_append_56 : decode cX7_append 56 = .ok (.iconst 0, 1) := by decide +kernel
theorem dX7_append_57 : decode cX7_append 57 = .ok (.istore 4, 2) := by decide +kernel
theorem dX7_append_59 : decode cX7_append 59 = .ok (.iload 4, 2) := by decide +kernel
theorem dX7_append_61 : decode cX7_append 61 = .ok (.aload_n 0, 1) := by decide +kernel
theorem dX7_append_62 : decode cX7_append 62 = .ok (.getfield 78, 3) := by decide +kernel
theorem dX7_append_65 : decode cX7_append 65 = .ok (.if_icmp .ge 28, 3) := by decide +kernel
theorem dX7_append_68 : decode cX7_append 68 = .ok (.aload_n 0, 1) := by decide +kernel
theorem dX7_append_69 : decode cX7_append 69 = .ok (.getfield 38, 3) := by decide +kernel
theorem dX7_append_72 : decode cX7_append 72 = .ok (.iload 4, 2) := by decide +kernel
theorem dX7_append_74 : decode cX7_append 74 = .ok (.aload_n 0, 1) := by decide +kernel
theorem dX7_append_75 : decode cX7_append 75 = .ok (.getfield 29, 3) := by decide +kernel
theorem dX7_append_78 : decode cX7_append 78 = .ok (.aload_n 0, 1) := by decide +kernel
theorem dX7_append_79 : decode cX7_append 79 = .ok (.getfield 81, 3) := by decide +kernel
theorem dX7_append_82 : decode cX7_append 82 = .ok (.iload 4, 2) := by decide +kernel
theorem dX7_append_84 : decode cX7_append 84 = .ok (.iadd, 1) := by decide +kernel
theorem dX7_append_85 : decode cX7_append 85 = .ok (.iaload, 1) := by decide +kernel
theorem dX7_append_86 : decode cX7_append 86 = .ok (.iastore, 1) := by decide +kernel
theorem dX7_append_87 : decode cX7_append 87 = .ok (.iinc 4 1, 3) := by decide +kernel
theorem dX7_append_90 : decode cX7_append 90 = .ok (.goto (-31), 3) := by decide +kernel
theorem dX7_append_93 : decode cX7_append 93 = .ok (.aload_n 0, 1) := by decide +kernel
theorem dX7_append_94 : decode cX7_append 94 = .ok (.aload_n 0, 1) := by decide +kernel
theorem dX7_append_95 : decode cX7_append 95 = .ok (.getfield 78, 3) := by decide +kernel
theorem dX7_append_98 : decode cX7_append 98 = .ok (.putfield 126, 3) := by decide +kernel
theorem dX7_append_101 : decode cX7_append 101 = .ok (.aload_n 0, 1) := by decide +kernel
theorem dX7_append_102 : decode cX7_append 102 = .ok (.getfield 38, 3) := by decide +kernel
theorem dX7_append_105 : decode cX7_append 105 = .ok (.aload_n 0, 1) := by decide +kernel
theorem dX7_append_106 : decode cX7_append 106 = .ok (.getfield 126, 3) := by decide +kernel
theorem dX7_append_109 : decode cX7_append 109 = .ok (.iload_n 3, 1) := by decide +kernel
theorem dX7_append_110 : decode cX7_append 110 = .ok (.sipush 255, 3) := by decide +kernel
theorem dX7_append_113 : decode cX7_append 113 = .ok (.iand, 1) := by decide +kernel
theorem dX7_append_114 : decode cX7_append 114 = .ok (.iastore, 1) := by decide +kernel
theorem dX7_append_115 : decode cX7_append 115 = .ok (.aload_n 0, 1) := by decide +kernel
theorem dX7_append_116 : decode cX7_append 116 = .ok (.dup, 1) := by decide +kernel
theorem dX7_append_117 : decode cX7_append 117 = .ok (.getfield 126, 3) := by decide +kernel
theorem dX7_append_120 : decode cX7_append 120 = .ok (.iconst 1, 1) := by decide +kernel
theorem dX7_append_121 : decode cX7_append 121 = .ok (.iadd, 1) := by decide +kernel
theorem dX7_append_122 : decode cX7_append 122 = .ok (.putfield 126, 3) := by decide +kernel
theorem dX7_append_125 : decode cX7_append 125 = .ok (.aload_n 0, 1) := by decide +kernel
theorem dX7_append_126 : decode cX7_append 126 = .ok (.iload_n 1, 1) := by decide +kernel
theorem dX7_append_127 : decode cX7_append 127 = .ok (.iload_n 2, 1) := by decide +kernel
theorem dX7_append_128 : decode cX7_append 128 = .ok (.invokevirtual 182, 3) := by decide +kernel
theorem dX7_append_131 : decode cX7_append 131 = .ok (.ireturn, 1) := by decide +kernel
theorem dX7_setsBytes_0 : decode cX7_setsBytes 0 = .ok (.aload_n 0, 1) := by decide +kernel
theorem dX7_setsBytes_1 : decode cX7_setsBytes 1 = .ok (.iload_n 1, 1) := by decide +kernel
theorem dX7_setsBytes_2 : decode cX7_setsBytes 2 = .ok (.iload_n 2, 1) := by decide +kernel
theorem dX7_setsBytes_3 : decode cX7_setsBytes 3 = .ok (.invokevirtual 159, 3) := by decide +kernel
theorem dX7_setsBytes_6 : decode cX7_setsBytes 6 = .ok (.aload_n 0, 1) := by decide +kernel
theorem dX7_setsBytes_7 : decode cX7_setsBytes 7 = .ok (.iload_n 2, 1) := by decide +kernel
theorem dX7_setsBytes_8 : decode cX7_setsBytes 8 = .ok (.iconst 2, 1) := by decide +kernel
theorem dX7_setsBytes_9 : decode cX7_setsBytes 9 = .ok (.aload_n 0, 1) := by decide +kernel
theorem dX7_setsBytes_10 : decode cX7_setsBytes 10 = .ok (.getfield 126, 3) := by decide +kernel
theorem dX7_setsBytes_13 : decode cX7_setsBytes 13 = .ok (.invokevirtual 94, 3) := by decide +kernel
theorem dX7_setsBytes_16 : decode cX7_setsBytes 16 = .ok (.iconst 0, 1) := by decide +kernel
theorem dX7_setsBytes_17 : decode cX7_setsBytes 17 = .ok (.istore_n 3, 1) := by decide +kernel
theorem dX7_setsBytes_18 : decode cX7_setsBytes 18 = .ok (.iload_n 3, 1) := by decide +kernel
theorem dX7_setsBytes_19 : decode cX7_setsBytes 19 = .ok (.aload_n 0, 1) := by decide +kernel
theorem dX7_setsBytes_20 : decode cX7_setsBytes 20 = .ok (.getfield 126, 3) := by decide +kernel
theorem dX7_setsBytes_23 : decode cX7_setsBytes 23 = .ok (.if_icmp .ge 19, 3) := by decide +kernel
theorem dX7_setsBytes_26 : decode cX7_setsBytes 26 = .ok (.aload_n 0, 1) := by decide +kernel
theorem dX7_setsBytes_27 : decode cX7_setsBytes 27 = .ok (.aload_n 0, 1) := by decide +kernel
theorem dX7_setsBytes_28 : decode cX7_setsBytes 28 = .ok (.getfield 38, 3) := by decide +kernel
theorem dX7_setsBytes_31 : decode cX7_setsBytes 31 = .ok (.iload_n 3, 1) := by decide +kernel
theorem dX7_setsBytes_32 : decode cX7_setsBytes 32 = .ok (.iaload, 1) := by decide +kernel
theorem dX7_setsBytes_33 : decode cX7_setsBytes 33 = .ok (.invokevirtual 87, 3) := by decide +kernel
theorem dX7_setsBytes_36 : decode cX7_setsBytes 36 = .ok (.iinc 3 1, 3) := by decide +kernel
theorem dX7_setsBytes_39 : decode cX7_setsBytes 39 = .ok (.goto (-21), 3) := by decide +kernel
theorem dX7_setsBytes_42 : decode cX7_setsBytes 42 = .ok (.aload_n 0, 1) := by decide +kernel
theorem dX7_setsBytes_43 : decode cX7_setsBytes 43 = .ok (.iload_n 1, 1) := by decide +kernel
theorem dX7_setsBytes_44 : decode cX7_setsBytes 44 = .ok (.invokevirtual 172, 3) := by decide +kernel
theorem dX7_setsBytes_47 : decode cX7_setsBytes 47 = .ok (.aload_n 0, 1) := by decide +kernel
theorem dX7_setsBytes_48 : decode cX7_setsBytes 48 = .ok (.getfield 44, 3) := by decide +kernel
theorem dX7_setsBytes_51 : decode cX7_setsBytes 51 = .ok (.ifCond .le 7, 3) := by decide +kernel
theorem dX7_setsBytes_54 : decode cX7_setsBytes 54 = .ok (.iconst 0, 1) := by decide +kernel
theorem dX7_setsBytes_55 : decode cX7_setsBytes 55 = .ok (.goto 7, 3) := by decide +kernel
theorem dX7_setsBytes_58 : decode cX7_setsBytes 58 = .ok (.aload_n 0, 1) := by decide +kernel
theorem dX7_setsBytes_59 : decode cX7_setsBytes 59 = .ok (.getfield 126, 3) := by decide +kernel
theorem dX7_setsBytes_62 : decode cX7_setsBytes 62 = .ok (.ireturn, 1) := by decide +kernel
theorem dX7_setPart_0 : decode cX7_setPart 0 = .ok (.aload_n 0, 1) := by decide +kernel
theorem dX7_setPart_1 : decode cX7_setPart 1 = .ok (.iload_n 1, 1) := by decide +kernel
theorem dX7_setPart_2 : decode cX7_setPart 2 = .ok (.invokevirtual 156, 3) := by decide +kernel
theorem dX7_setPart_5 : decode cX7_setPart 5 = .ok (.ifCond .eq 15, 3) := by decide +kernel
theorem dX7_setPart_8 : decode cX7_setPart 8 = .ok (.aload_n 0, 1) := by decide +kernel
theorem dX7_setPart_9 : decode cX7_setPart 9 = .ok (.iload_n 3, 1) := by decide +kernel
theorem dX7_setPart_10 : decode cX7_setPart 10 = .ok (.invokevirtual 156, 3) := by decide +kernel
theorem dX7_setPart_13 : decode cX7_setPart 13 = .ok (.ifCond .eq 7, 3) := by decide +kernel
theorem dX7_setPart_16 : decode cX7_setPart 16 = .ok (.iconst 1, 1) := by decide +kernel
theorem dX7_setPart_17 : decode cX7_setPart 17 = .ok (.goto 4, 3) := by decide +kernel
theorem dX7_setPart_20 : decode cX7_setPart 20 = .ok (.iconst 0, 1) := by decide +kernel
theorem dX7_setPart_21 : decode cX7_setPart 21 = .ok (.istore 4, 2) := by decide +kernel
theorem dX7_setPart_23 : decode cX7_setPart 23 = .ok (.aload_n 0, 1) := by decide +kernel
theorem dX7_setPart_24 : decode cX7_setPart 24 = .ok (.iload 4, 2) := by decide +kernel
theorem dX7_setPart_26 : decode cX7_setPart 26 = .ok (.ifCond .ne 7, 3) := by decide +kernel
theorem dX7_setPart_29 : decode cX7_setPart 29 = .ok (.iconst 1, 1) := by decide +kernel
theorem dX7_setPart_30 : decode cX7_setPart 30 = .ok (.goto 43, 3) := by decide +kernel
theorem dX7_setPart_33 : decode cX7_setPart 33 = .ok (.aload_n 0, 1) := by decide +kernel
theorem dX7_setPart_34 : decode cX7_setPart 34 = .ok (.iload_n 1, 1) := by decide +kernel
theorem dX7_setPart_35 : decode cX7_setPart 35 = .ok (.iload_n 2, 1) := by decide +kernel
theorem dX7_setPart_36 : decode cX7_setPart 36 = .ok (.invokevirtual 166, 3) := by decide +kernel
theorem dX7_setPart_39 : decode cX7_setPart 39 = .ok (.iconst 4, 1) := by decide +kernel
theorem dX7_setPart_40 : decode cX7_setPart 40 = .ok (.if_icmp .ne 28, 3) := by decide +kernel
theorem dX7_setPart_43 : decode cX7_setPart 43 = .ok (.aload_n 0, 1) := by decide +kernel
theorem dX7_setPart_44 : decode cX7_setPart 44 = .ok (.getfield 13, 3) := by decide +kernel
theorem dX7_setPart_47 : decode cX7_setPart 47 = .ok (.bipush 32, 2) := by decide +kernel
theorem dX7_setPart_49 : decode cX7_setPart 49 = .ok (.aload_n 0, 1) := by decide +kernel
theorem dX7_setPart_50 : decode cX7_setPart 50 = .ok (.getfield 23, 3) := by decide +kernel
theorem dX7_setPart_53 : decode cX7_setPart 53 = .ok (.iload_n 1, 1) := by decide +kernel
theorem dX7_setPart_54 : decode cX7_setPart 54 = .ok (.iaload, 1) := by decide +kernel
theorem dX7_setPart_55 : decode cX7_setPart 55 = .ok (.imul, 1) := by decide +kernel
theorem dX7_setPart_56 : decode cX7_setPart 56 = .ok (.iload_n 2, 1) := by decide +kernel
theorem dX7_setPart_57 : decode cX7_setPart 57 = .ok (.iadd, 1) := by decide +kernel
theorem dX7_setPart_58 : decode cX7_setPart 58 = .ok (.iaload, 1) := by decide +kernel
theorem dX7_setPart_59 : decode cX7_setPart 59 = .ok (.aload_n 0, 1) := by decide +kernel
theorem dX7_setPart_60 : decode cX7_setPart 60 = .ok (.getfield 23, 3) := by decide +kernel
theorem dX7_setPart_63 : decode cX7_setPart 63 = .ok (.iload_n 3, 1) := by decide +kernel
theorem dX7_setPart_64 : decode cX7_setPart 64 = .ok (.iaload, 1) := by decide +kernel
theorem dX7_setPart_65 : decode cX7_setPart 65 = .ok (.if_icmp .eq 7, 3) := by decide +kernel
theorem dX7_setPart_68 : decode cX7_setPart 68 = .ok (.iconst 2, 1) := by decide +kernel
theorem dX7_setPart_69 : decode cX7_setPart 69 = .ok (.goto 4, 3) := by decide +kernel
theorem dX7_setPart_72 : decode cX7_setPart 72 = .ok (.iconst 0, 1) := by decide +kernel
theorem dX7_setPart_73 : decode cX7_setPart 73 = .ok (.putfield 44, 3) := by decide +kernel
theorem dX7_setPart_76 : decode cX7_setPart 76 = .ok (.aload_n 0, 1) := by decide +kernel
theorem dX7_setPart_77 : decode cX7_setPart 77 = .ok (.getfield 44, 3) := by decide +kernel
theorem dX7_setPart_80 : decode cX7_setPart 80 = .ok (.ifCond .le 5, 3) := by decide +kernel
theorem dX7_setPart_83 : decode cX7_setPart 83 = .ok (.iconst 0, 1) := by decide +kernel
theorem dX7_setPart_84 : decode cX7_setPart 84 = .ok (.ireturn, 1) := by decide +kernel
theorem dX7_setPart_85 : decode cX7_setPart 85 = .ok (.aload_n 0, 1) := by decide +kernel
theorem dX7_setPart_86 : decode cX7_setPart 86 = .ok (.iload_n 3, 1) := by decide +kernel
theorem dX7_setPart_87 : decode cX7_setPart 87 = .ok (.invokevirtual 185, 3) := by decide +kernel
theorem dX7_setPart_90 : decode cX7_setPart 90 = .ok (.aload_n 0, 1) := by decide +kernel
theorem dX7_setPart_91 : decode cX7_setPart 91 = .ok (.invokevirtual 188, 3) := by decide +kernel
theorem dX7_setPart_94 : decode cX7_setPart 94 = .ok (.aload_n 0, 1) := by decide +kernel
theorem dX7_setPart_95 : decode cX7_setPart 95 = .ok (.iload_n 1, 1) := by decide +kernel
theorem dX7_setPart_96 : decode cX7_setPart 96 = .ok (.iload_n 2, 1) := by decide +kernel
theorem dX7_setPart_97 : decode cX7_setPart 97 = .ok (.invokevirtual 182, 3) := by decide +kernel
theorem dX7_setPart_100 : decode cX7_setPart 100 = .ok (.ireturn, 1) := by decide +kernel
theorem dX7_clear_0 : decode cX7_clear 0 = .ok (.aload_n 0, 1) := by decide +kernel
theorem dX7_clear_1 : decode cX7_clear 1 = .ok (.aload_n 0, 1) := by decide +kernel
theorem dX7_clear_2 : decode cX7_clear 2 = .ok (.iload_n 1, 1) := by decide +kernel
theorem dX7_clear_3 : decode cX7_clear 3 = .ok (.invokevirtual 156, 3) := by decide +kernel
theorem dX7_clear_6 : decode cX7_clear 6 = .ok (.ifCond .ne 7, 3) := by decide +kernel
theorem dX7_clear_9 : decode cX7_clear 9 = .ok (.iconst 1, 1) := by decide +kernel
theorem dX7_clear_10 : decode cX7_clear 10 = .ok (.goto 15, 3) := by decide +kernel
theorem dX7_clear_13 : decode cX7_clear 13 = .ok (.iload_n 2, 1) := by decide +kernel
theorem dX7_clear_14 : decode cX7_clear 14 = .ok (.invokestatic 74, 3) := by decide +kernel
theorem dX7_clear_17 : decode cX7_clear 17 = .ok (.ifCond .eq 7, 3) := by decide +kernel
theorem dX7_clear_20 : decode cX7_clear 20 = .ok (.iconst 0, 1) := by decide +kernel
theorem dX7_clear_21 : decode cX7_clear 21 = .ok (.goto 4, 3) := by decide +kernel
theorem dX7_clear_24 : decode cX7_clear 24 = .ok (.iconst 2, 1) := by decide +kernel
theorem dX7_clear_25 : decode cX7_clear 25 = .ok (.putfield 44, 3) := by decide +kernel
theorem dX7_clear_28 : decode cX7_clear 28 = .ok (.aload_n 0, 1) := by decide +kernel
theorem dX7_clear_29 : decode cX7_clear 29 = .ok (.getfield 44, 3) := by decide +kernel
theorem dX7_clear_32 : decode cX7_clear 32 = .ok (.ifCond .le 5, 3) := by decide +kernel
theorem dX7_clear_35 : decode cX7_clear 35 = .ok (.iconst 0, 1) := by decide +kernel
theorem dX7_clear_36 : decode cX7_clear 36 = .ok (.ireturn, 1) := by decide +kernel
theorem dX7_clear_37 : decode cX7_clear 37 = .ok (.iconst 0, 1) := by decide +kernel
theorem dX7_clear_38 : decode cX7_clear 38 = .ok (.istore_n 3, 1) := by decide +kernel
theorem dX7_clear_39 : decode cX7_clear 39 = .ok (.aload_n 0, 1) := by decide +kernel
theorem dX7_clear_40 : decode cX7_clear 40 = .ok (.iconst 0, 1) := by decide +kernel
theorem dX7_clear_41 : decode cX7_clear 41 = .ok (.putfield 84, 3) := by decide +kernel
theorem dX7_clear_44 : decode cX7_clear 44 = .ok (.aload_n 0, 1) := by decide +kernel
theorem dX7_clear_45 : decode cX7_clear 45 = .ok (.bipush 120, 2) := by decide +kernel
theorem dX7_clear_47 : decode cX7_clear 47 = .ok (.iload_n 1, 1) := by decide +kernel
theorem dX7_clear_48 : decode cX7_clear 48 = .ok (.imul, 1) := by decide +kernel
theorem dX7_clear_49 : decode cX7_clear 49 = .ok (.putfield 55, 3) := by decide +kernel
theorem dX7_clear_52 : decode cX7_clear 52 = .ok (.aload_n 0, 1) := by decide +kernel
theorem dX7_clear_53 : decode cX7_clear 53 = .ok (.getfield 55, 3) := by decide +kernel
theorem dX7_clear_56 : decode cX7_clear 56 = .ok (.bipush 120, 2) := by decide +kernel
theorem dX7_clear_58 : decode cX7_clear 58 = .ok (.iload_n 1, 1) := by decide +kernel
theorem dX7_clear_59 : decode cX7_clear 59 = .ok (.imul, 1) := by decide +kernel
theorem dX7_clear_60 : decode cX7_clear 60 = .ok (.aload_n 0, 1) := by decide +kernel
theorem dX7_clear_61 : decode cX7_clear 61 = .ok (.getfield 26, 3) := by decide +kernel
theorem dX7_clear_64 : decode cX7_clear 64 = .ok (.iload_n 1, 1) := by decide +kernel
theorem dX7_clear_65 : decode cX7_clear 65 = .ok (.iaload, 1) := by decide +kernel
theorem dX7_clear_66 : decode cX7_clear 66 = .ok (.iadd, 1) := by decide +kernel
theorem dX7_clear_67 : decode cX7_clear 67 = .ok (.if_icmp .ge 47, 3) := by decide +kernel
theorem dX7_clear_70 : decode cX7_clear 70 = .ok (.aload_n 0, 1) := by decide +kernel
theorem dX7_clear_71 : decode cX7_clear 71 = .ok (.aload_n 0, 1) := by decide +kernel
theorem dX7_clear_72 : decode cX7_clear 72 = .ok (.getfield 29, 3) := by decide +kernel
theorem dX7_clear_75 : decode cX7_clear 75 = .ok (.bipush 120, 2) := by decide +kernel
theorem dX7_clear_77 : decode cX7_clear 77 = .ok (.iload_n 1, 1) := by decide +kernel
theorem dX7_clear_78 : decode cX7_clear 78 = .ok (.imul, 1) := by decide +kernel
theorem dX7_clear_79 : decode cX7_clear 79 = .ok (.aload_n 0, 1) := by decide +kernel
theorem dX7_clear_80 : decode cX7_clear 80 = .ok (.getfield 26, 3) := by decide +kernel
theorem dX7_clear_83 : decode cX7_clear 83 = .ok (.iload_n 1, 1) := by decide +kernel
theorem dX7_clear_84 : decode cX7_clear 84 = .ok (.iaload, 1) := by decide +kernel
theorem dX7_clear_85 : decode cX7_clear 85 = .ok (.iadd, 1) := by decide +kernel
theorem dX7_clear_86 : decode cX7_clear 86 = .ok (.invokevirtual 106, 3) := by decide +kernel
theorem dX7_clear_89 : decode cX7_clear 89 = .ok (.aload_n 0, 1) := by decide +kernel
theorem dX7_clear_90 : decode cX7_clear 90 = .ok (.getfield 68, 3) := by decide +kernel
theorem dX7_clear_93 : decode cX7_clear 93 = .ok (.iload_n 2, 1) := by decide +kernel
theorem dX7_clear_94 : decode cX7_clear 94 = .ok (.if_icmp .ne 9, 3) := by decide +kernel
theorem dX7_clear_97 : decode cX7_clear 97 = .ok (.iinc 3 1, 3) := by decide +kernel
theorem dX7_clear_100 : decode cX7_clear 100 = .ok (.goto (-48), 3) := by decide +kernel
theorem dX7_clear_103 : decode cX7_clear 103 = .ok (.aload_n 0, 1) := by decide +kernel
theorem dX7_clear_104 : decode cX7_clear 104 = .ok (.aload_n 0, 1) := by decide +kernel
theorem dX7_clear_105 : decode cX7_clear 105 = .ok (.getfield 29, 3) := by decide +kernel
theorem dX7_clear_108 : decode cX7_clear 108 = .ok (.invokevirtual 116, 3) := by decide +kernel
theorem dX7_clear_111 : decode cX7_clear 111 = .ok (.goto (-59), 3) := by decide +kernel
theorem dX7_clear_114 : decode cX7_clear 114 = .ok (.aload_n 0, 1) := by decide +kernel
theorem dX7_clear_115 : decode cX7_clear 115 = .ok (.iload_n 1, 1) := by decide +kernel
theorem dX7_clear_116 : decode cX7_clear 116 = .ok (.invokevirtual 133, 3) := by decide +kernel
theorem dX7_clear_119 : decode cX7_clear 119 = .ok (.iload_n 3, 1) := by decide +kernel
theorem dX7_clear_120 : decode cX7_clear 120 = .ok (.ireturn, 1) := by decide +kernel
theorem dX7_schemaOf_0 : decode cX7_schemaOf 0 = .ok (.aload_n 0, 1) := by decide +kernel
theorem dX7_schemaOf_1 : decode cX7_schemaOf 1 = .ok (.aload_n 0, 1) := by decide +kernel
theorem dX7_schemaOf_2 : decode cX7_schemaOf 2 = .ok (.iload_n 1, 1) := by decide +kernel
theorem dX7_schemaOf_3 : decode cX7_schemaOf 3 = .ok (.invokevirtual 156, 3) := by decide +kernel
theorem dX7_schemaOf_6 : decode cX7_schemaOf 6 = .ok (.ifCond .eq 7, 3) := by decide +kernel
theorem dX7_schemaOf_9 : decode cX7_schemaOf 9 = .ok (.iconst 0, 1) := by decide +kernel
theorem dX7_schemaOf_10 : decode cX7_schemaOf 10 = .ok (.goto 4, 3) := by decide +kernel
theorem dX7_schemaOf_13 : decode cX7_schemaOf 13 = .ok (.iconst 1, 1) := by decide +kernel
theorem dX7_schemaOf_14 : decode cX7_schemaOf 14 = .ok (.putfield 44, 3) := by decide +kernel
theorem dX7_schemaOf_17 : decode cX7_schemaOf 17 = .ok (.aload_n 0, 1) := by decide +kernel
theorem dX7_schemaOf_18 : decode cX7_schemaOf 18 = .ok (.getfield 44, 3) := by decide +kernel
theorem dX7_schemaOf_21 : decode cX7_schemaOf 21 = .ok (.ifCond .le 7, 3) := by decide +kernel
theorem dX7_schemaOf_24 : decode cX7_schemaOf 24 = .ok (.iconst 0, 1) := by decide +kernel
theorem dX7_schemaOf_25 : decode cX7_schemaOf 25 = .ok (.goto 9, 3) := by decide +kernel
theorem dX7_schemaOf_28 : decode cX7_schemaOf 28 = .ok (.aload_n 0, 1) := by decide +kernel
theorem dX7_schemaOf_29 : decode cX7_schemaOf 29 = .ok (.getfield 23, 3) := by decide +kernel
theorem dX7_schemaOf_32 : decode cX7_schemaOf 32 = .ok (.iload_n 1, 1) := by decide +kernel
theorem dX7_schemaOf_33 : decode cX7_schemaOf 33 = .ok (.iaload, 1) := by decide +kernel
theorem dX7_schemaOf_34 : decode cX7_schemaOf 34 = .ok (.ireturn, 1) := by decide +kernel
theorem dX7_has_0 : decode cX7_has 0 = .ok (.aload_n 0, 1) := by decide +kernel
theorem dX7_has_1 : decode cX7_has 1 = .ok (.aload_n 0, 1) := by decide +kernel
theorem dX7_has_2 : decode cX7_has 2 = .ok (.iload_n 1, 1) := by decide +kernel
theorem dX7_has_3 : decode cX7_has 3 = .ok (.invokevirtual 156, 3) := by decide +kernel
theorem dX7_has_6 : decode cX7_has 6 = .ok (.ifCond .ne 7, 3) := by decide +kernel
theorem dX7_has_9 : decode cX7_has 9 = .ok (.iconst 1, 1) := by decide +kernel
theorem dX7_has_10 : decode cX7_has 10 = .ok (.goto 15, 3) := by decide +kernel
theorem dX7_has_13 : decode cX7_has 13 = .ok (.iload_n 2, 1) := by decide +kernel
theorem dX7_has_14 : decode cX7_has 14 = .ok (.invokestatic 74, 3) := by decide +kernel
theorem dX7_has_17 : decode cX7_has 17 = .ok (.ifCond .eq 7, 3) := by decide +kernel
theorem dX7_has_20 : decode cX7_has 20 = .ok (.iconst 0, 1) := by decide +kernel
theorem dX7_has_21 : decode cX7_has 21 = .ok (.goto 4, 3) := by decide +kernel
theorem dX7_has_24 : decode cX7_has 24 = .ok (.iconst 2, 1) := by decide +kernel
theorem dX7_has_25 : decode cX7_has 25 = .ok (.putfield 44, 3) := by decide +kernel
theorem dX7_has_28 : decode cX7_has 28 = .ok (.aload_n 0, 1) := by decide +kernel
theorem dX7_has_29 : decode cX7_has 29 = .ok (.getfield 44, 3) := by decide +kernel
theorem dX7_has_32 : decode cX7_has 32 = .ok (.ifCond .ne 17, 3) := by decide +kernel
theorem dX7_has_35 : decode cX7_has 35 = .ok (.aload_n 0, 1) := by decide +kernel
theorem dX7_has_36 : decode cX7_has 36 = .ok (.iload_n 1, 1) := by decide +kernel
theorem dX7_has_37 : decode cX7_has 37 = .ok (.iload_n 2, 1) := by decide +kernel
theorem dX7_has_38 : decode cX7_has 38 = .ok (.invokevirtual 113, 3) := by decide +kernel
theorem dX7_has_41 : decode cX7_has 41 = .ok (.iconst (-1), 1) := by decide +kernel
theorem dX7_has_42 : decode cX7_has 42 = .ok (.if_icmp .eq 7, 3) := by decide +kernel
theorem dX7_has_45 : decode cX7_has 45 = .ok (.iconst 1, 1) := by decide +kernel
theorem dX7_has_46 : decode cX7_has 46 = .ok (.goto 4, 3) := by decide +kernel
theorem dX7_has_49 : decode cX7_has 49 = .ok (.iconst 0, 1) := by decide +kernel
theorem dX7_has_50 : decode cX7_has 50 = .ok (.ireturn, 1) := by decide +kernel
theorem dX7_get_0 : decode cX7_get 0 = .ok (.aload_n 0, 1) := by decide +kernel
theorem dX7_get_1 : decode cX7_get 1 = .ok (.aload_n 0, 1) := by decide +kernel
theorem dX7_get_2 : decode cX7_get 2 = .ok (.iload_n 1, 1) := by decide +kernel
theorem dX7_get_3 : decode cX7_get 3 = .ok (.invokevirtual 156, 3) := by decide +kernel
theorem dX7_get_6 : decode cX7_get 6 = .ok (.ifCond .ne 7, 3) := by decide +kernel
theorem dX7_get_9 : decode cX7_get 9 = .ok (.iconst 1, 1) := by decide +kernel
theorem dX7_get_10 : decode cX7_get 10 = .ok (.goto 20, 3) := by decide +kernel
theorem dX7_get_13 : decode cX7_get 13 = .ok (.aload_n 0, 1) := by decide +kernel
theorem dX7_get_14 : decode cX7_get 14 = .ok (.iload_n 1, 1) := by decide +kernel
theorem dX7_get_15 : decode cX7_get 15 = .ok (.iload_n 2, 1) := by decide +kernel
theorem dX7_get_16 : decode cX7_get 16 = .ok (.invokevirtual 166, 3) := by decide +kernel
theorem dX7_get_19 : decode cX7_get 19 = .ok (.invokestatic 120, 3) := by decide +kernel
theorem dX7_get_22 : decode cX7_get 22 = .ok (.ifCond .eq 7, 3) := by decide +kernel
theorem dX7_get_25 : decode cX7_get 25 = .ok (.iconst 0, 1) := by decide +kernel
theorem dX7_get_26 : decode cX7_get 26 = .ok (.goto 4, 3) := by decide +kernel
theorem dX7_get_29 : decode cX7_get 29 = .ok (.iconst 2, 1) := by decide +kernel
theorem dX7_get_30 : decode cX7_get 30 = .ok (.putfield 44, 3) := by decide +kernel
theorem dX7_get_33 : decode cX7_get 33 = .ok (.aload_n 0, 1) := by decide +kernel
theorem dX7_get_34 : decode cX7_get 34 = .ok (.getfield 44, 3) := by decide +kernel
theorem dX7_get_37 : decode cX7_get 37 = .ok (.ifCond .le 5, 3) := by decide +kernel
theorem dX7_get_40 : decode cX7_get 40 = .ok (.iconst 0, 1) := by decide +kernel
theorem dX7_get_41 : decode cX7_get 41 = .ok (.ireturn, 1) := by decide +kernel
theorem dX7_get_42 : decode cX7_get 42 = .ok (.aload_n 0, 1) := by decide +kernel
theorem dX7_get_43 : decode cX7_get 43 = .ok (.iload_n 1, 1) := by decide +kernel
theorem dX7_get_44 : decode cX7_get 44 = .ok (.iload_n 2, 1) := by decide +kernel
theorem dX7_get_45 : decode cX7_get 45 = .ok (.invokevirtual 178, 3) := by decide +kernel
theorem dX7_get_48 : decode cX7_get 48 = .ok (.ifCond .eq 19, 3) := by decide +kernel
theorem dX7_get_51 : decode cX7_get 51 = .ok (.aload_n 0, 1) := by decide +kernel
theorem dX7_get_52 : decode cX7_get 52 = .ok (.iload_n 1, 1) := by decide +kernel
theorem dX7_get_53 : decode cX7_get 53 = .ok (.iload_n 2, 1) := by decide +kernel
theorem dX7_get_54 : decode cX7_get 54 = .ok (.invokevirtual 166, 3) := by decide +kernel
theorem dX7_get_57 : decode cX7_get 57 = .ok (.aload_n 0, 1) := by decide +kernel
theorem dX7_get_58 : decode cX7_get 58 = .ok (.getfield 78, 3) := by decide +kernel
theorem dX7_get_61 : decode cX7_get 61 = .ok (.invokestatic 123, 3) := by decide +kernel
theorem dX7_get_64 : decode cX7_get 64 = .ok (.goto 19, 3) := by decide +kernel
theorem dX7_get_67 : decode cX7_get 67 = .ok (.aload_n 0, 1) := by decide +kernel
theorem dX7_get_68 : decode cX7_get 68 = .ok (.getfield 16, 3) := by decide +kernel
theorem dX7_get_71 : decode cX7_get 71 = .ok (.bipush 32, 2) := by decide +kernel
theorem dX7_get_73 : decode cX7_get 73 = .ok (.aload_n 0, 1) := by decide +kernel
theorem dX7_get_74 : decode cX7_get 74 = .ok (.getfield 23, 3) := by decide +kernel
theorem dX7_get_77 : decode cX7_get 77 = .ok (.iload_n 1, 1) := by decide +kernel
theorem dX7_get_78 : decode cX7_get 78 = .ok (.iaload, 1) := by decide +kernel
theorem dX7_get_79 : decode cX7_get 79 = .ok (.imul, 1) := by decide +kernel
theorem dX7_get_80 : decode cX7_get 80 = .ok (.iload_n 2, 1) := by decide +kernel
theorem dX7_get_81 : decode cX7_get 81 = .ok (.iadd, 1) := by decide +kernel
theorem dX7_get_82 : decode cX7_get 82 = .ok (.iaload, 1) := by decide +kernel
theorem dX7_get_83 : decode cX7_get 83 = .ok (.ireturn, 1) := by decide +kernel
theorem dX7_byteOf_0 : decode cX7_byteOf 0 = .ok (.aload_n 0, 1) := by decide +kernel
theorem dX7_byteOf_1 : decode cX7_byteOf 1 = .ok (.aload_n 0, 1) := by decide +kernel
theorem dX7_byteOf_2 : decode cX7_byteOf 2 = .ok (.iload_n 1, 1) := by decide +kernel
theorem dX7_byteOf_3 : decode cX7_byteOf 3 = .ok (.invokevirtual 156, 3) := by decide +kernel
theorem dX7_byteOf_6 : decode cX7_byteOf 6 = .ok (.ifCond .ne 7, 3) := by decide +kernel
theorem dX7_byteOf_9 : decode cX7_byteOf 9 = .ok (.iconst 1, 1) := by decide +kernel
theorem dX7_byteOf_10 : decode cX7_byteOf 10 = .ok (.goto 20, 3) := by decide +kernel
theorem dX7_byteOf_13 : decode cX7_byteOf 13 = .ok (.aload_n 0, 1) := by decide +kernel
theorem dX7_byteOf_14 : decode cX7_byteOf 14 = .ok (.iload_n 1, 1) := by decide +kernel
theorem dX7_byteOf_15 : decode cX7_byteOf 15 = .ok (.iload_n 2, 1) := by decide +kernel
theorem dX7_byteOf_16 : decode cX7_byteOf 16 = .ok (.invokevirtual 166, 3) := by decide +kernel
theorem dX7_byteOf_19 : decode cX7_byteOf 19 = .ok (.invokestatic 175, 3) := by decide +kernel
theorem dX7_byteOf_22 : decode cX7_byteOf 22 = .ok (.ifCond .eq 7, 3) := by decide +kernel
theorem dX7_byteOf_25 : decode cX7_byteOf 25 = .ok (.iconst 0, 1) := by decide +kernel
theorem dX7_byteOf_26 : decode cX7_byteOf 26 = .ok (.goto 4, 3) := by decide +kernel
theorem dX7_byteOf_29 : decode cX7_byteOf 29 = .ok (.iconst 2, 1) := by decide +kernel
theorem dX7_byteOf_30 : decode cX7_byteOf 30 = .ok (.putfield 44, 3) := by decide +kernel
theorem dX7_byteOf_33 : decode cX7_byteOf 33 = .ok (.aload_n 0, 1) := by decide +kernel
theorem dX7_byteOf_34 : decode cX7_byteOf 34 = .ok (.getfield 44, 3) := by decide +kernel
theorem dX7_byteOf_37 : decode cX7_byteOf 37 = .ok (.ifCond .ne 35, 3) := by decide +kernel
theorem dX7_byteOf_40 : decode cX7_byteOf 40 = .ok (.aload_n 0, 1) := by decide +kernel
theorem dX7_byteOf_41 : decode cX7_byteOf 41 = .ok (.aload_n 0, 1) := by decide +kernel
theorem dX7_byteOf_42 : decode cX7_byteOf 42 = .ok (.iload_n 1, 1) := by decide +kernel
theorem dX7_byteOf_43 : decode cX7_byteOf 43 = .ok (.iload_n 2, 1) := by decide +kernel
theorem dX7_byteOf_44 : decode cX7_byteOf 44 = .ok (.invokevirtual 178, 3) := by decide +kernel
theorem dX7_byteOf_47 : decode cX7_byteOf 47 = .ok (.ifCond .eq 21, 3) := by decide +kernel
theorem dX7_byteOf_50 : decode cX7_byteOf 50 = .ok (.iload_n 3, 1) := by decide +kernel
theorem dX7_byteOf_51 : decode cX7_byteOf 51 = .ok (.iconst 0, 1) := by decide +kernel
theorem dX7_byteOf_52 : decode cX7_byteOf 52 = .ok (.aload_n 0, 1) := by decide +kernel
theorem dX7_byteOf_53 : decode cX7_byteOf 53 = .ok (.getfield 78, 3) := by decide +kernel
theorem dX7_byteOf_56 : decode cX7_byteOf 56 = .ok (.iconst 1, 1) := by decide +kernel
theorem dX7_byteOf_57 : decode cX7_byteOf 57 = .ok (.isub, 1) := by decide +kernel
theorem dX7_byteOf_58 : decode cX7_byteOf 58 = .ok (.invokestatic 51, 3) := by decide +kernel
theorem dX7_byteOf_61 : decode cX7_byteOf 61 = .ok (.ifCond .eq 7, 3) := by decide +kernel
theorem dX7_byteOf_64 : decode cX7_byteOf 64 = .ok (.iconst 0, 1) := by decide +kernel
theorem dX7_byteOf_65 : decode cX7_byteOf 65 = .ok (.goto 4, 3) := by decide +kernel
theorem dX7_byteOf_68 : decode cX7_byteOf 68 = .ok (.iconst 3, 1) := by decide +kernel
theorem dX7_byteOf_69 : decode cX7_byteOf 69 = .ok (.putfield 44, 3) := by decide +kernel
theorem dX7_byteOf_72 : decode cX7_byteOf 72 = .ok (.aload_n 0, 1) := by decide +kernel
theorem dX7_byteOf_73 : decode cX7_byteOf 73 = .ok (.getfield 44, 3) := by decide +kernel
theorem dX7_byteOf_76 : decode cX7_byteOf 76 = .ok (.ifCond .le 7, 3) := by decide +kernel
theorem dX7_byteOf_79 : decode cX7_byteOf 79 = .ok (.iconst 0, 1) := by decide +kernel
theorem dX7_byteOf_80 : decode cX7_byteOf 80 = .ok (.goto 15, 3) := by decide +kernel
theorem dX7_byteOf_83 : decode cX7_byteOf 83 = .ok (.aload_n 0, 1) := by decide +kernel
theorem dX7_byteOf_84 : decode cX7_byteOf 84 = .ok (.getfield 29, 3) := by decide +kernel
theorem dX7_byteOf_87 : decode cX7_byteOf 87 = .ok (.aload_n 0, 1) := by decide +kernel
theorem dX7_byteOf_88 : decode cX7_byteOf 88 = .ok (.getfield 81, 3) := by decide +kernel
theorem dX7_byteOf_91 : decode cX7_byteOf 91 = .ok (.iload_n 3, 1) := by decide +kernel
theorem dX7_byteOf_92 : decode cX7_byteOf 92 = .ok (.iadd, 1) := by decide +kernel
theorem dX7_byteOf_93 : decode cX7_byteOf 93 = .ok (.iaload, 1) := by decide +kernel
theorem dX7_byteOf_94 : decode cX7_byteOf 94 = .ok (.i2b, 1) := by decide +kernel
theorem dX7_byteOf_95 : decode cX7_byteOf 95 = .ok (.ireturn, 1) := by decide +kernel
theorem dX7_reads_0 : decode cX7_reads 0 = .ok (.aload_n 0, 1) := by decide +kernel
theorem dX7_reads_1 : decode cX7_reads 1 = .ok (.iconst 0, 1) := by decide +kernel
theorem dX7_reads_2 : decode cX7_reads 2 = .ok (.putfield 84, 3) := by decide +kernel
theorem dX7_reads_5 : decode cX7_reads 5 = .ok (.aload_n 0, 1) := by decide +kernel
theorem dX7_reads_6 : decode cX7_reads 6 = .ok (.iload_n 2, 1) := by decide +kernel
theorem dX7_reads_7 : decode cX7_reads 7 = .ok (.putfield 55, 3) := by decide +kernel
theorem dX7_reads_10 : decode cX7_reads 10 = .ok (.aload_n 0, 1) := by decide +kernel
theorem dX7_reads_11 : decode cX7_reads 11 = .ok (.getfield 55, 3) := by decide +kernel
theorem dX7_reads_14 : decode cX7_reads 14 = .ok (.iload_n 3, 1) := by decide +kernel
theorem dX7_reads_15 : decode cX7_reads 15 = .ok (.if_icmp .ge 29, 3) := by decide +kernel
theorem dX7_reads_18 : decode cX7_reads 18 = .ok (.aload_n 0, 1) := by decide +kernel
theorem dX7_reads_19 : decode cX7_reads 19 = .ok (.aload_n 1, 1) := by decide +kernel
theorem dX7_reads_20 : decode cX7_reads 20 = .ok (.iload_n 3, 1) := by decide +kernel
theorem dX7_reads_21 : decode cX7_reads 21 = .ok (.invokevirtual 106, 3) := by decide +kernel
theorem dX7_reads_24 : decode cX7_reads 24 = .ok (.aload_n 0, 1) := by decide +kernel
theorem dX7_reads_25 : decode cX7_reads 25 = .ok (.getfield 58, 3) := by decide +kernel
theorem dX7_reads_28 : decode cX7_reads 28 = .ok (.ifCond .le 8, 3) := by decide +kernel
theorem dX7_reads_31 : decode cX7_reads 31 = .ok (.aload_n 0, 1) := by decide +kernel
theorem dX7_reads_32 : decode cX7_reads 32 = .ok (.getfield 58, 3) := by decide +kernel
theorem dX7_reads_35 : decode cX7_reads 35 = .ok (.ireturn, 1) := by decide +kernel
theorem dX7_reads_36 : decode cX7_reads 36 = .ok (.aload_n 0, 1) := by decide +kernel
theorem dX7_reads_37 : decode cX7_reads 37 = .ok (.aload_n 1, 1) := by decide +kernel
theorem dX7_reads_38 : decode cX7_reads 38 = .ok (.invokevirtual 116, 3) := by decide +kernel
theorem dX7_reads_41 : decode cX7_reads 41 = .ok (.goto (-31), 3) := by decide +kernel
theorem dX7_reads_44 : decode cX7_reads 44 = .ok (.iconst 0, 1) := by decide +kernel
theorem dX7_reads_45 : decode cX7_reads 45 = .ok (.ireturn, 1) := by decide +kernel
theorem dX7_open_0 : decode cX7_open 0 = .ok (.aload_n 0, 1) := by decide +kernel
theorem dX7_open_1 : decode cX7_open 1 = .ok (.aload_n 0, 1) := by decide +kernel
theorem dX7_open_2 : decode cX7_open 2 = .ok (.iload_n 1, 1) := by decide +kernel
theorem dX7_open_3 : decode cX7_open 3 = .ok (.invokevirtual 156, 3) := by decide +kernel
theorem dX7_open_6 : decode cX7_open 6 = .ok (.ifCond .ne 7, 3) := by decide +kernel
theorem dX7_open_9 : decode cX7_open 9 = .ok (.iconst 1, 1) := by decide +kernel
theorem dX7_open_10 : decode cX7_open 10 = .ok (.goto 18, 3) := by decide +kernel
theorem dX7_open_13 : decode cX7_open 13 = .ok (.aload_n 0, 1) := by decide +kernel
theorem dX7_open_14 : decode cX7_open 14 = .ok (.iload_n 1, 1) := by decide +kernel
theorem dX7_open_15 : decode cX7_open 15 = .ok (.iload_n 2, 1) := by decide +kernel
theorem dX7_open_16 : decode cX7_open 16 = .ok (.invokevirtual 166, 3) := by decide +kernel
theorem dX7_open_19 : decode cX7_open 19 = .ok (.iconst 4, 1) := by decide +kernel
theorem dX7_open_20 : decode cX7_open 20 = .ok (.if_icmp .ne 7, 3) := by decide +kernel
theorem dX7_open_23 : decode cX7_open 23 = .ok (.iconst 0, 1) := by decide +kernel
theorem dX7_open_24 : decode cX7_open 24 = .ok (.goto 4, 3) := by decide +kernel
theorem dX7_open_27 : decode cX7_open 27 = .ok (.iconst 2, 1) := by decide +kernel
theorem dX7_open_28 : decode cX7_open 28 = .ok (.putfield 44, 3) := by decide +kernel
theorem dX7_open_31 : decode cX7_open 31 = .ok (.aload_n 0, 1) := by decide +kernel
theorem dX7_open_32 : decode cX7_open 32 = .ok (.getfield 44, 3) := by decide +kernel
theorem dX7_open_35 : decode cX7_open 35 = .ok (.ifCond .ne 21, 3) := by decide +kernel
theorem dX7_open_38 : decode cX7_open 38 = .ok (.aload_n 0, 1) := by decide +kernel
theorem dX7_open_39 : decode cX7_open 39 = .ok (.aload_n 0, 1) := by decide +kernel
theorem dX7_open_40 : decode cX7_open 40 = .ok (.iload_n 1, 1) := by decide +kernel
theorem dX7_open_41 : decode cX7_open 41 = .ok (.iload_n 2, 1) := by decide +kernel
theorem dX7_open_42 : decode cX7_open 42 = .ok (.invokevirtual 178, 3) := by decide +kernel
theorem dX7_open_45 : decode cX7_open 45 = .ok (.ifCond .eq 7, 3) := by decide +kernel
theorem dX7_open_48 : decode cX7_open 48 = .ok (.iconst 0, 1) := by decide +kernel
theorem dX7_open_49 : decode cX7_open 49 = .ok (.goto 4, 3) := by decide +kernel
theorem dX7_open_52 : decode cX7_open 52 = .ok (.iconst 3, 1) := by decide +kernel
theorem dX7_open_53 : decode cX7_open 53 = .ok (.putfield 44, 3) := by decide +kernel
theorem dX7_open_56 : decode cX7_open 56 = .ok (.aload_n 0, 1) := by decide +kernel
theorem dX7_open_57 : decode cX7_open 57 = .ok (.getfield 44, 3) := by decide +kernel
theorem dX7_open_60 : decode cX7_open 60 = .ok (.ifCond .ne 43, 3) := by decide +kernel
theorem dX7_open_63 : decode cX7_open 63 = .ok (.aload_n 0, 1) := by decide +kernel
theorem dX7_open_64 : decode cX7_open 64 = .ok (.aload_n 0, 1) := by decide +kernel
theorem dX7_open_65 : decode cX7_open 65 = .ok (.aload_n 0, 1) := by decide +kernel
theorem dX7_open_66 : decode cX7_open 66 = .ok (.getfield 29, 3) := by decide +kernel
theorem dX7_open_69 : decode cX7_open 69 = .ok (.aload_n 0, 1) := by decide +kernel
theorem dX7_open_70 : decode cX7_open 70 = .ok (.getfield 81, 3) := by decide +kernel
theorem dX7_open_73 : decode cX7_open 73 = .ok (.aload_n 0, 1) := by decide +kernel
theorem dX7_open_74 : decode cX7_open 74 = .ok (.getfield 81, 3) := by decide +kernel
theorem dX7_open_77 : decode cX7_open 77 = .ok (.aload_n 0, 1) := by decide +kernel
theorem dX7_open_78 : decode cX7_open 78 = .ok (.getfield 78, 3) := by decide +kernel
theorem dX7_open_81 : decode cX7_open 81 = .ok (.iadd, 1) := by decide +kernel
theorem dX7_open_82 : decode cX7_open 82 = .ok (.invokevirtual 191, 3) := by decide +kernel
theorem dX7_open_85 : decode cX7_open 85 = .ok (.ifCond .gt 10, 3) := by decide +kernel
theorem dX7_open_88 : decode cX7_open 88 = .ok (.aload_n 0, 1) := by decide +kernel
theorem dX7_open_89 : decode cX7_open 89 = .ok (.invokevirtual 149, 3) := by decide +kernel
theorem dX7_open_92 : decode cX7_open 92 = .ok (.ifCond .eq 7, 3) := by decide +kernel
theorem dX7_open_95 : decode cX7_open 95 = .ok (.iconst 4, 1) := by decide +kernel
theorem dX7_open_96 : decode cX7_open 96 = .ok (.goto 4, 3) := by decide +kernel
theorem dX7_open_99 : decode cX7_open 99 = .ok (.iconst 0, 1) := by decide +kernel
theorem dX7_open_100 : decode cX7_open 100 = .ok (.putfield 44, 3) := by decide +kernel
theorem dX7_open_103 : decode cX7_open 103 = .ok (.aload_n 0, 1) := by decide +kernel
theorem dX7_open_104 : decode cX7_open 104 = .ok (.getfield 44, 3) := by decide +kernel
theorem dX7_open_107 : decode cX7_open 107 = .ok (.ifCond .le 7, 3) := by decide +kernel
theorem dX7_open_110 : decode cX7_open 110 = .ok (.iconst 0, 1) := by decide +kernel
theorem dX7_open_111 : decode cX7_open 111 = .ok (.goto 23, 3) := by decide +kernel
theorem dX7_open_114 : decode cX7_open 114 = .ok (.aload_n 0, 1) := by decide +kernel
theorem dX7_open_115 : decode cX7_open 115 = .ok (.aload_n 0, 1) := by decide +kernel
theorem dX7_open_116 : decode cX7_open 116 = .ok (.getfield 13, 3) := by decide +kernel
theorem dX7_open_119 : decode cX7_open 119 = .ok (.bipush 32, 2) := by decide +kernel
theorem dX7_open_121 : decode cX7_open 121 = .ok (.aload_n 0, 1) := by decide +kernel
theorem dX7_open_122 : decode cX7_open 122 = .ok (.getfield 23, 3) := by decide +kernel
theorem dX7_open_125 : decode cX7_open 125 = .ok (.iload_n 1, 1) := by decide +kernel
theorem dX7_open_126 : decode cX7_open 126 = .ok (.iaload, 1) := by decide +kernel
theorem dX7_open_127 : decode cX7_open 127 = .ok (.imul, 1) := by decide +kernel
theorem dX7_open_128 : decode cX7_open 128 = .ok (.iload_n 2, 1) := by decide +kernel
theorem dX7_open_129 : decode cX7_open 129 = .ok (.iadd, 1) := by decide +kernel
theorem dX7_open_130 : decode cX7_open 130 = .ok (.iaload, 1) := by decide +kernel
theorem dX7_open_131 : decode cX7_open 131 = .ok (.invokevirtual 153, 3) := by decide +kernel
theorem dX7_open_134 : decode cX7_open 134 = .ok (.ireturn, 1) := by decide +kernel
theorem dX7_unknowns_0 : decode cX7_unknowns 0 = .ok (.aload_n 0, 1) := by decide +kernel
theorem dX7_unknowns_1 : decode cX7_unknowns 1 = .ok (.aload_n 0, 1) := by decide +kernel
theorem dX7_unknowns_2 : decode cX7_unknowns 2 = .ok (.iload_n 1, 1) := by decide +kernel
theorem dX7_unknowns_3 : decode cX7_unknowns 3 = .ok (.invokevirtual 156, 3) := by decide +kernel
theorem dX7_unknowns_6 : decode cX7_unknowns 6 = .ok (.ifCond .eq 7, 3) := by decide +kernel
theorem dX7_unknowns_9 : decode cX7_unknowns 9 = .ok (.iconst 0, 1) := by decide +kernel
theorem dX7_unknowns_10 : decode cX7_unknowns 10 = .ok (.goto 4, 3) := by decide +kernel
theorem dX7_unknowns_13 : decode cX7_unknowns 13 = .ok (.iconst 1, 1) := by decide +kernel
theorem dX7_unknowns_14 : decode cX7_unknowns 14 = .ok (.putfield 44, 3) := by decide +kernel
theorem dX7_unknowns_17 : decode cX7_unknowns 17 = .ok (.aload_n 0, 1) := by decide +kernel
theorem dX7_unknowns_18 : decode cX7_unknowns 18 = .ok (.getfield 44, 3) := by decide +kernel
theorem dX7_unknowns_21 : decode cX7_unknowns 21 = .ok (.ifCond .le 7, 3) := by decide +kernel
theorem dX7_unknowns_24 : decode cX7_unknowns 24 = .ok (.iconst 0, 1) := by decide +kernel
theorem dX7_unknowns_25 : decode cX7_unknowns 25 = .ok (.goto 8, 3) := by decide +kernel
theorem dX7_unknowns_28 : decode cX7_unknowns 28 = .ok (.aload_n 0, 1) := by decide +kernel
theorem dX7_unknowns_29 : decode cX7_unknowns 29 = .ok (.iload_n 1, 1) := by decide +kernel
theorem dX7_unknowns_30 : decode cX7_unknowns 30 = .ok (.invokevirtual 195, 3) := by decide +kernel
theorem dX7_unknowns_33 : decode cX7_unknowns 33 = .ok (.ireturn, 1) := by decide +kernel
theorem dX7_manyUnknown_0 : decode cX7_manyUnknown 0 = .ok (.iconst 0, 1) := by decide +kernel
theorem dX7_manyUnknown_1 : decode cX7_manyUnknown 1 = .ok (.istore_n 2, 1) := by decide +kernel
theorem dX7_manyUnknown_2 : decode cX7_manyUnknown 2 = .ok (.aload_n 0, 1) := by decide +kernel
theorem dX7_manyUnknown_3 : decode cX7_manyUnknown 3 = .ok (.bipush 120, 2) := by decide +kernel
theorem dX7_manyUnknown_5 : decode cX7_manyUnknown 5 = .ok (.iload_n 1, 1) := by decide +kernel
theorem dX7_manyUnknown_6 : decode cX7_manyUnknown 6 = .ok (.imul, 1) := by decide +kernel
theorem dX7_manyUnknown_7 : decode cX7_manyUnknown 7 = .ok (.putfield 55, 3) := by decide +kernel
theorem dX7_manyUnknown_10 : decode cX7_manyUnknown 10 = .ok (.aload_n 0, 1) := by decide +kernel
theorem dX7_manyUnknown_11 : decode cX7_manyUnknown 11 = .ok (.getfield 55, 3) := by decide +kernel
theorem dX7_manyUnknown_14 : decode cX7_manyUnknown 14 = .ok (.bipush 120, 2) := by decide +kernel
theorem dX7_manyUnknown_16 : decode cX7_manyUnknown 16 = .ok (.iload_n 1, 1) := by decide +kernel
theorem dX7_manyUnknown_17 : decode cX7_manyUnknown 17 = .ok (.imul, 1) := by decide +kernel
theorem dX7_manyUnknown_18 : decode cX7_manyUnknown 18 = .ok (.aload_n 0, 1) := by decide +kernel
theorem dX7_manyUnknown_19 : decode cX7_manyUnknown 19 = .ok (.getfield 26, 3) := by decide +kernel
theorem dX7_manyUnknown_22 : decode cX7_manyUnknown 22 = .ok (.iload_n 1, 1) := by decide +kernel
theorem dX7_manyUnknown_23 : decode cX7_manyUnknown 23 = .ok (.iaload, 1) := by decide +kernel
theorem dX7_manyUnknown_24 : decode cX7_manyUnknown 24 = .ok (.iadd, 1) := by decide +kernel
theorem dX7_manyUnknown_25 : decode cX7_manyUnknown 25 = .ok (.if_icmp .ge 46, 3) := by decide +kernel
theorem dX7_manyUnknown_28 : decode cX7_manyUnknown 28 = .ok (.aload_n 0, 1) := by decide +kernel
theorem dX7_manyUnknown_29 : decode cX7_manyUnknown 29 = .ok (.aload_n 0, 1) := by decide +kernel
theorem dX7_manyUnknown_30 : decode cX7_manyUnknown 30 = .ok (.getfield 29, 3) := by decide +kernel
theorem dX7_manyUnknown_33 : decode cX7_manyUnknown 33 = .ok (.bipush 120, 2) := by decide +kernel
theorem dX7_manyUnknown_35 : decode cX7_manyUnknown 35 = .ok (.iload_n 1, 1) := by decide +kernel
theorem dX7_manyUnknown_36 : decode cX7_manyUnknown 36 = .ok (.imul, 1) := by decide +kernel
theorem dX7_manyUnknown_37 : decode cX7_manyUnknown 37 = .ok (.aload_n 0, 1) := by decide +kernel
theorem dX7_manyUnknown_38 : decode cX7_manyUnknown 38 = .ok (.getfield 26, 3) := by decide +kernel
theorem dX7_manyUnknown_41 : decode cX7_manyUnknown 41 = .ok (.iload_n 1, 1) := by decide +kernel
theorem dX7_manyUnknown_42 : decode cX7_manyUnknown 42 = .ok (.iaload, 1) := by decide +kernel
theorem dX7_manyUnknown_43 : decode cX7_manyUnknown 43 = .ok (.iadd, 1) := by decide +kernel
theorem dX7_manyUnknown_44 : decode cX7_manyUnknown 44 = .ok (.invokevirtual 106, 3) := by decide +kernel
theorem dX7_manyUnknown_47 : decode cX7_manyUnknown 47 = .ok (.iload_n 2, 1) := by decide +kernel
theorem dX7_manyUnknown_48 : decode cX7_manyUnknown 48 = .ok (.aload_n 0, 1) := by decide +kernel
theorem dX7_manyUnknown_49 : decode cX7_manyUnknown 49 = .ok (.aload_n 0, 1) := by decide +kernel
theorem dX7_manyUnknown_50 : decode cX7_manyUnknown 50 = .ok (.getfield 23, 3) := by decide +kernel
theorem dX7_manyUnknown_53 : decode cX7_manyUnknown 53 = .ok (.iload_n 1, 1) := by decide +kernel
theorem dX7_manyUnknown_54 : decode cX7_manyUnknown 54 = .ok (.iaload, 1) := by decide +kernel
theorem dX7_manyUnknown_55 : decode cX7_manyUnknown 55 = .ok (.invokevirtual 110, 3) := by decide +kernel
theorem dX7_manyUnknown_58 : decode cX7_manyUnknown 58 = .ok (.ifCond .eq 7, 3) := by decide +kernel
theorem dX7_manyUnknown_61 : decode cX7_manyUnknown 61 = .ok (.iconst 0, 1) := by decide +kernel
theorem dX7_manyUnknown_62 : decode cX7_manyUnknown 62 = .ok (.goto 4, 3) := by decide +kernel
theorem dX7_manyUnknown_65 : decode cX7_manyUnknown 65 = .ok (.iconst 1, 1) := by decide +kernel
theorem dX7_manyUnknown_66 : decode cX7_manyUnknown 66 = .ok (.iadd, 1) := by decide +kernel
theorem dX7_manyUnknown_67 : decode cX7_manyUnknown 67 = .ok (.istore_n 2, 1) := by decide +kernel
theorem dX7_manyUnknown_68 : decode cX7_manyUnknown 68 = .ok (.goto (-58), 3) := by decide +kernel
theorem dX7_manyUnknown_71 : decode cX7_manyUnknown 71 = .ok (.iload_n 2, 1) := by decide +kernel
theorem dX7_manyUnknown_72 : decode cX7_manyUnknown 72 = .ok (.ireturn, 1) := by decide +kernel
theorem dX7_unknownTag_0 : decode cX7_unknownTag 0 = .ok (.aload_n 0, 1) := by decide +kernel
theorem dX7_unknownTag_1 : decode cX7_unknownTag 1 = .ok (.aload_n 0, 1) := by decide +kernel
theorem dX7_unknownTag_2 : decode cX7_unknownTag 2 = .ok (.iload_n 1, 1) := by decide +kernel
theorem dX7_unknownTag_3 : decode cX7_unknownTag 3 = .ok (.invokevirtual 156, 3) := by decide +kernel
theorem dX7_unknownTag_6 : decode cX7_unknownTag 6 = .ok (.ifCond .eq 22, 3) := by decide +kernel
theorem dX7_unknownTag_9 : decode cX7_unknownTag 9 = .ok (.iload_n 2, 1) := by decide +kernel
theorem dX7_unknownTag_10 : decode cX7_unknownTag 10 = .ok (.iconst 0, 1) := by decide +kernel
theorem dX7_unknownTag_11 : decode cX7_unknownTag 11 = .ok (.aload_n 0, 1) := by decide +kernel
theorem dX7_unknownTag_12 : decode cX7_unknownTag 12 = .ok (.iload_n 1, 1) := by decide +kernel
theorem dX7_unknownTag_13 : decode cX7_unknownTag 13 = .ok (.invokevirtual 195, 3) := by decide +kernel
theorem dX7_unknownTag_16 : decode cX7_unknownTag 16 = .ok (.iconst 1, 1) := by decide +kernel
theorem dX7_unknownTag_17 : decode cX7_unknownTag 17 = .ok (.isub, 1) := by decide +kernel
theorem dX7_unknownTag_18 : decode cX7_unknownTag 18 = .ok (.invokestatic 51, 3) := by decide +kernel
theorem dX7_unknownTag_21 : decode cX7_unknownTag 21 = .ok (.ifCond .eq 7, 3) := by decide +kernel
theorem dX7_unknownTag_24 : decode cX7_unknownTag 24 = .ok (.iconst 0, 1) := by decide +kernel
theorem dX7_unknownTag_25 : decode cX7_unknownTag 25 = .ok (.goto 4, 3) := by decide +kernel
theorem dX7_unknownTag_28 : decode cX7_unknownTag 28 = .ok (.iconst 1, 1) := by decide +kernel
theorem dX7_unknownTag_29 : decode cX7_unknownTag 29 = .ok (.putfield 44, 3) := by decide +kernel
theorem dX7_unknownTag_32 : decode cX7_unknownTag 32 = .ok (.aload_n 0, 1) := by decide +kernel
theorem dX7_unknownTag_33 : decode cX7_unknownTag 33 = .ok (.getfield 44, 3) := by decide +kernel
theorem dX7_unknownTag_36 : decode cX7_unknownTag 36 = .ok (.ifCond .le 5, 3) := by decide +kernel
theorem dX7_unknownTag_39 : decode cX7_unknownTag 39 = .ok (.iconst 0, 1) := by decide +kernel
theorem dX7_unknownTag_40 : decode cX7_unknownTag 40 = .ok (.ireturn, 1) := by decide +kernel
theorem dX7_unknownTag_41 : decode cX7_unknownTag 41 = .ok (.iload_n 2, 1) := by decide +kernel
theorem dX7_unknownTag_42 : decode cX7_unknownTag 42 = .ok (.iconst 1, 1) := by decide +kernel
theorem dX7_unknownTag_43 : decode cX7_unknownTag 43 = .ok (.iadd, 1) := by decide +kernel
theorem dX7_unknownTag_44 : decode cX7_unknownTag 44 = .ok (.istore_n 3, 1) := by decide +kernel
theorem dX7_unknownTag_45 : decode cX7_unknownTag 45 = .ok (.aload_n 0, 1) := by decide +kernel
theorem dX7_unknownTag_46 : decode cX7_unknownTag 46 = .ok (.bipush 120, 2) := by decide +kernel
theorem dX7_unknownTag_48 : decode cX7_unknownTag 48 = .ok (.iload_n 1, 1) := by decide +kernel
theorem dX7_unknownTag_49 : decode cX7_unknownTag 49 = .ok (.imul, 1) := by decide +kernel
theorem dX7_unknownTag_50 : decode cX7_unknownTag 50 = .ok (.putfield 55, 3) := by decide +kernel
theorem dX7_unknownTag_53 : decode cX7_unknownTag 53 = .ok (.iload_n 3, 1) := by decide +kernel
theorem dX7_unknownTag_54 : decode cX7_unknownTag 54 = .ok (.ifCond .le 46, 3) := by decide +kernel
theorem dX7_unknownTag_57 : decode cX7_unknownTag 57 = .ok (.aload_n 0, 1) := by decide +kernel
theorem dX7_unknownTag_58 : decode cX7_unknownTag 58 = .ok (.aload_n 0, 1) := by decide +kernel
theorem dX7_unknownTag_59 : decode cX7_unknownTag 59 = .ok (.getfield 29, 3) := by decide +kernel
theorem dX7_unknownTag_62 : decode cX7_unknownTag 62 = .ok (.bipush 120, 2) := by decide +kernel
theorem dX7_unknownTag_64 : decode cX7_unknownTag 64 = .ok (.iload_n 1, 1) := by decide +kernel
theorem dX7_unknownTag_65 : decode cX7_unknownTag 65 = .ok (.imul, 1) := by decide +kernel
theorem dX7_unknownTag_66 : decode cX7_unknownTag 66 = .ok (.aload_n 0, 1) := by decide +kernel
theorem dX7_unknownTag_67 : decode cX7_unknownTag 67 = .ok (.getfield 26, 3) := by decide +kernel
theorem dX7_unknownTag_70 : decode cX7_unknownTag 70 = .ok (.iload_n 1, 1) := by decide +kernel
theorem dX7_unknownTag_71 : decode cX7_unknownTag 71 = .ok (.iaload, 1) := by decide +kernel
theorem dX7_unknownTag_72 : decode cX7_unknownTag 72 = .ok (.iadd, 1) := by decide +kernel
theorem dX7_unknownTag_73 : decode cX7_unknownTag 73 = .ok (.invokevirtual 106, 3) := by decide +kernel
theorem dX7_unknownTag_76 : decode cX7_unknownTag 76 = .ok (.iload_n 3, 1) := by decide +kernel
theorem dX7_unknownTag_77 : decode cX7_unknownTag 77 = .ok (.aload_n 0, 1) := by decide +kernel
theorem dX7_unknownTag_78 : decode cX7_unknownTag 78 = .ok (.aload_n 0, 1) := by decide +kernel
theorem dX7_unknownTag_79 : decode cX7_unknownTag 79 = .ok (.getfield 23, 3) := by decide +kernel
theorem dX7_unknownTag_82 : decode cX7_unknownTag 82 = .ok (.iload_n 1, 1) := by decide +kernel
theorem dX7_unknownTag_83 : decode cX7_unknownTag 83 = .ok (.iaload, 1) := by decide +kernel
theorem dX7_unknownTag_84 : decode cX7_unknownTag 84 = .ok (.invokevirtual 110, 3) := by decide +kernel
theorem dX7_unknownTag_87 : decode cX7_unknownTag 87 = .ok (.ifCond .eq 7, 3) := by decide +kernel
theorem dX7_unknownTag_90 : decode cX7_unknownTag 90 = .ok (.iconst 0, 1) := by decide +kernel
theorem dX7_unknownTag_91 : decode cX7_unknownTag 91 = .ok (.goto 4, 3) := by decide +kernel
theorem dX7_unknownTag_94 : decode cX7_unknownTag 94 = .ok (.iconst 1, 1) := by decide +kernel
theorem dX7_unknownTag_95 : decode cX7_unknownTag 95 = .ok (.isub, 1) := by decide +kernel
theorem dX7_unknownTag_96 : decode cX7_unknownTag 96 = .ok (.istore_n 3, 1) := by decide +kernel
theorem dX7_unknownTag_97 : decode cX7_unknownTag 97 = .ok (.goto (-44), 3) := by decide +kernel
theorem dX7_unknownTag_100 : decode cX7_unknownTag 100 = .ok (.aload_n 0, 1) := by decide +kernel
theorem dX7_unknownTag_101 : decode cX7_unknownTag 101 = .ok (.getfield 68, 3) := by decide +kernel
theorem dX7_unknownTag_104 : decode cX7_unknownTag 104 = .ok (.ireturn, 1) := by decide +kernel
theorem dX7_weight_0 : decode cX7_weight 0 = .ok (.aload_n 0, 1) := by decide +kernel
theorem dX7_weight_1 : decode cX7_weight 1 = .ok (.aload_n 0, 1) := by decide +kernel
theorem dX7_weight_2 : decode cX7_weight 2 = .ok (.iload_n 1, 1) := by decide +kernel
theorem dX7_weight_3 : decode cX7_weight 3 = .ok (.invokevirtual 156, 3) := by decide +kernel
theorem dX7_weight_6 : decode cX7_weight 6 = .ok (.ifCond .eq 7, 3) := by decide +kernel
theorem dX7_weight_9 : decode cX7_weight 9 = .ok (.iconst 0, 1) := by decide +kernel
theorem dX7_weight_10 : decode cX7_weight 10 = .ok (.goto 4, 3) := by decide +kernel
theorem dX7_weight_13 : decode cX7_weight 13 = .ok (.iconst 1, 1) := by decide +kernel
theorem dX7_weight_14 : decode cX7_weight 14 = .ok (.putfield 44, 3) := by decide +kernel
theorem dX7_weight_17 : decode cX7_weight 17 = .ok (.aload_n 0, 1) := by decide +kernel
theorem dX7_weight_18 : decode cX7_weight 18 = .ok (.getfield 44, 3) := by decide +kernel
theorem dX7_weight_21 : decode cX7_weight 21 = .ok (.ifCond .le 7, 3) := by decide +kernel
theorem dX7_weight_24 : decode cX7_weight 24 = .ok (.iconst 0, 1) := by decide +kernel
theorem dX7_weight_25 : decode cX7_weight 25 = .ok (.goto 9, 3) := by decide +kernel
theorem dX7_weight_28 : decode cX7_weight 28 = .ok (.aload_n 0, 1) := by decide +kernel
theorem dX7_weight_29 : decode cX7_weight 29 = .ok (.getfield 26, 3) := by decide +kernel
theorem dX7_weight_32 : decode cX7_weight 32 = .ok (.iload_n 1, 1) := by decide +kernel
theorem dX7_weight_33 : decode cX7_weight 33 = .ok (.iaload, 1) := by decide +kernel
theorem dX7_weight_34 : decode cX7_weight 34 = .ok (.ireturn, 1) := by decide +kernel
theorem dX7_areAlike_0 : decode cX7_areAlike 0 = .ok (.aload_n 0, 1) := by decide +kernel
theorem dX7_areAlike_1 : decode cX7_areAlike 1 = .ok (.iload_n 1, 1) := by decide +kernel
theorem dX7_areAlike_2 : decode cX7_areAlike 2 = .ok (.invokevirtual 185, 3) := by decide +kernel
theorem dX7_areAlike_5 : decode cX7_areAlike 5 = .ok (.aload_n 0, 1) := by decide +kernel
theorem dX7_areAlike_6 : decode cX7_areAlike 6 = .ok (.invokevirtual 188, 3) := by decide +kernel
theorem dX7_areAlike_9 : decode cX7_areAlike 9 = .ok (.aload_n 0, 1) := by decide +kernel
theorem dX7_areAlike_10 : decode cX7_areAlike 10 = .ok (.iload_n 2, 1) := by decide +kernel
theorem dX7_areAlike_11 : decode cX7_areAlike 11 = .ok (.invokevirtual 185, 3) := by decide +kernel
theorem dX7_areAlike_14 : decode cX7_areAlike 14 = .ok (.aload_n 0, 1) := by decide +kernel
theorem dX7_areAlike_15 : decode cX7_areAlike 15 = .ok (.invokevirtual 198, 3) := by decide +kernel
theorem dX7_areAlike_18 : decode cX7_areAlike 18 = .ok (.ireturn, 1) := by decide +kernel
theorem dX7_areSame_0 : decode cX7_areSame 0 = .ok (.aload_n 0, 1) := by decide +kernel
theorem dX7_areSame_1 : decode cX7_areSame 1 = .ok (.aload_n 0, 1) := by decide +kernel
theorem dX7_areSame_2 : decode cX7_areSame 2 = .ok (.iload_n 1, 1) := by decide +kernel
theorem dX7_areSame_3 : decode cX7_areSame 3 = .ok (.invokevirtual 156, 3) := by decide +kernel
theorem dX7_areSame_6 : decode cX7_areSame 6 = .ok (.ifCond .eq 15, 3) := by decide +kernel
theorem dX7_areSame_9 : decode cX7_areSame 9 = .ok (.aload_n 0, 1) := by decide +kernel
theorem dX7_areSame_10 : decode cX7_areSame 10 = .ok (.iload_n 2, 1) := by decide +kernel
theorem dX7_areSame_11 : decode cX7_areSame 11 = .ok (.invokevirtual 156, 3) := by decide +kernel
theorem dX7_areSame_14 : decode cX7_areSame 14 = .ok (.ifCond .eq 7, 3) := by decide +kernel
theorem dX7_areSame_17 : decode cX7_areSame 17 = .ok (.iconst 0, 1) := by decide +kernel
theorem dX7_areSame_18 : decode cX7_areSame 18 = .ok (.goto 4, 3) := by decide +kernel
theorem dX7_areSame_21 : decode cX7_areSame 21 = .ok (.iconst 1, 1) := by decide +kernel
theorem dX7_areSame_22 : decode cX7_areSame 22 = .ok (.putfield 44, 3) := by decide +kernel
theorem dX7_areSame_25 : decode cX7_areSame 25 = .ok (.aload_n 0, 1) := by decide +kernel
theorem dX7_areSame_26 : decode cX7_areSame 26 = .ok (.getfield 44, 3) := by decide +kernel
theorem dX7_areSame_29 : decode cX7_areSame 29 = .ok (.ifCond .ne 16, 3) := by decide +kernel
theorem dX7_areSame_32 : decode cX7_areSame 32 = .ok (.aload_n 0, 1) := by decide +kernel
theorem dX7_areSame_33 : decode cX7_areSame 33 = .ok (.iload_n 1, 1) := by decide +kernel
theorem dX7_areSame_34 : decode cX7_areSame 34 = .ok (.iload_n 2, 1) := by decide +kernel
theorem dX7_areSame_35 : decode cX7_areSame 35 = .ok (.invokevirtual 201, 3) := by decide +kernel
theorem dX7_areSame_38 : decode cX7_areSame 38 = .ok (.ifCond .eq 7, 3) := by decide +kernel
theorem dX7_areSame_41 : decode cX7_areSame 41 = .ok (.iconst 1, 1) := by decide +kernel
theorem dX7_areSame_42 : decode cX7_areSame 42 = .ok (.goto 4, 3) := by decide +kernel
theorem dX7_areSame_45 : decode cX7_areSame 45 = .ok (.iconst 0, 1) := by decide +kernel
theorem dX7_areSame_46 : decode cX7_areSame 46 = .ok (.ireturn, 1) := by decide +kernel
theorem dX7_areSameByBytes_0 : decode cX7_areSameByBytes 0 = .ok (.aload_n 0, 1) := by decide +kernel
theorem dX7_areSameByBytes_1 : decode cX7_areSameByBytes 1 = .ok (.aload_n 0, 1) := by decide +kernel
theorem dX7_areSameByBytes_2 : decode cX7_areSameByBytes 2 = .ok (.iload_n 1, 1) := by decide +kernel
theorem dX7_areSameByBytes_3 : decode cX7_areSameByBytes 3 = .ok (.invokevirtual 156, 3) := by decide +kernel
theorem dX7_areSameByBytes_6 : decode cX7_areSameByBytes 6 = .ok (.ifCond .eq 15, 3) := by decide +kernel
theorem dX7_areSameByBytes_9 : decode cX7_areSameByBytes 9 = .ok (.aload_n 0, 1) := by decide +kernel
theorem dX7_areSameByBytes_10 : decode cX7_areSameByBytes 10 = .ok (.iload_n 2, 1) := by decide +kernel
theorem dX7_areSameByBytes_11 : decode cX7_areSameByBytes 11 = .ok (.invokevirtual 156, 3) := by decide +kernel
theorem dX7_areSameByBytes_14 : decode cX7_areSameByBytes 14 = .ok (.ifCond .eq 7, 3) := by decide +kernel
theorem dX7_areSameByBytes_17 : decode cX7_areSameByBytes 17 = .ok (.iconst 0, 1) := by decide +kernel
theorem dX7_areSameByBytes_18 : decode cX7_areSameByBytes 18 = .ok (.goto 4, 3) := by decide +kernel
theorem dX7_areSameByBytes_21 : decode cX7_areSameByBytes 21 = .ok (.iconst 1, 1) := by decide +kernel
theorem dX7_areSameByBytes_22 : decode cX7_areSameByBytes 22 = .ok (.putfield 44, 3) := by decide +kernel
theorem dX7_areSameByBytes_25 : decode cX7_areSameByBytes 25 = .ok (.aload_n 0, 1) := by decide +kernel
theorem dX7_areSameByBytes_26 : decode cX7_areSameByBytes 26 = .ok (.getfield 44, 3) := by decide +kernel
theorem dX7_areSameByBytes_29 : decode cX7_areSameByBytes 29 = .ok (.ifCond .ne 16, 3) := by decide +kernel
theorem dX7_areSameByBytes_32 : decode cX7_areSameByBytes 32 = .ok (.aload_n 0, 1) := by decide +kernel
theorem dX7_areSameByBytes_33 : decode cX7_areSameByBytes 33 = .ok (.iload_n 1, 1) := by decide +kernel
theorem dX7_areSameByBytes_34 : decode cX7_areSameByBytes 34 = .ok (.iload_n 2, 1) := by decide +kernel
theorem dX7_areSameByBytes_35 : decode cX7_areSameByBytes 35 = .ok (.invokevirtual 201, 3) := by decide +kernel
theorem dX7_areSameByBytes_38 : decode cX7_areSameByBytes 38 = .ok (.ifCond .eq 7, 3) := by decide +kernel
theorem dX7_areSameByBytes_41 : decode cX7_areSameByBytes 41 = .ok (.iconst 1, 1) := by decide +kernel
theorem dX7_areSameByBytes_42 : decode cX7_areSameByBytes 42 = .ok (.goto 4, 3) := by decide +kernel
theorem dX7_areSameByBytes_45 : decode cX7_areSameByBytes 45 = .ok (.iconst 0, 1) := by decide +kernel
theorem dX7_areSameByBytes_46 : decode cX7_areSameByBytes 46 = .ok (.ireturn, 1) := by decide +kernel
theorem dX7_write_0 : decode cX7_write 0 = .ok (.aload_n 0, 1) := by decide +kernel
theorem dX7_write_1 : decode cX7_write 1 = .ok (.aload_n 0, 1) := by decide +kernel
theorem dX7_write_2 : decode cX7_write 2 = .ok (.iload_n 1, 1) := by decide +kernel
theorem dX7_write_3 : decode cX7_write 3 = .ok (.invokevirtual 156, 3) := by decide +kernel
theorem dX7_write_6 : decode cX7_write 6 = .ok (.ifCond .eq 7, 3) := by decide +kernel
theorem dX7_write_9 : decode cX7_write 9 = .ok (.iconst 0, 1) := by decide +kernel
theorem dX7_write_10 : decode cX7_write 10 = .ok (.goto 4, 3) := by decide +kernel
theorem dX7_write_13 : decode cX7_write 13 = .ok (.iconst 1, 1) := by decide +kernel
theorem dX7_write_14 : decode cX7_write 14 = .ok (.putfield 44, 3) := by decide +kernel
theorem dX7_write_17 : decode cX7_write 17 = .ok (.aload_n 0, 1) := by decide +kernel
theorem dX7_write_18 : decode cX7_write 18 = .ok (.getfield 44, 3) := by decide +kernel
theorem dX7_write_21 : decode cX7_write 21 = .ok (.ifCond .le 5, 3) := by decide +kernel
theorem dX7_write_24 : decode cX7_write 24 = .ok (.iconst 0, 1) := by decide +kernel
theorem dX7_write_25 : decode cX7_write 25 = .ok (.ireturn, 1) := by decide +kernel
theorem dX7_write_26 : decode cX7_write 26 = .ok (.aload_n 0, 1) := by decide +kernel
theorem dX7_write_27 : decode cX7_write 27 = .ok (.iload_n 1, 1) := by decide +kernel
theorem dX7_write_28 : decode cX7_write 28 = .ok (.invokevirtual 185, 3) := by decide +kernel
theorem dX7_write_31 : decode cX7_write 31 = .ok (.iconst 0, 1) := by decide +kernel
theorem dX7_write_32 : decode cX7_write 32 = .ok (.istore_n 2, 1) := by decide +kernel
theorem dX7_write_33 : decode cX7_write 33 = .ok (.iload_n 2, 1) := by decide +kernel
theorem dX7_write_34 : decode cX7_write 34 = .ok (.aload_n 0, 1) := by decide +kernel
theorem dX7_write_35 : decode cX7_write 35 = .ok (.getfield 84, 3) := by decide +kernel
theorem dX7_write_38 : decode cX7_write 38 = .ok (.if_icmp .ge 21, 3) := by decide +kernel
theorem dX7_write_41 : decode cX7_write 41 = .ok (.aload_n 0, 1) := by decide +kernel
theorem dX7_write_42 : decode cX7_write 42 = .ok (.getfield 32, 3) := by decide +kernel
theorem dX7_write_45 : decode cX7_write 45 = .ok (.iload_n 2, 1) := by decide +kernel
theorem dX7_write_46 : decode cX7_write 46 = .ok (.aload_n 0, 1) := by decide +kernel
theorem dX7_write_47 : decode cX7_write 47 = .ok (.getfield 35, 3) := by decide +kernel
theorem dX7_write_50 : decode cX7_write 50 = .ok (.iload_n 2, 1) := by decide +kernel
theorem dX7_write_51 : decode cX7_write 51 = .ok (.iaload, 1) := by decide +kernel
theorem dX7_write_52 : decode cX7_write 52 = .ok (.iastore, 1) := by decide +kernel
theorem dX7_write_53 : decode cX7_write 53 = .ok (.iinc 2 1, 3) := by decide +kernel
theorem dX7_write_56 : decode cX7_write 56 = .ok (.goto (-23), 3) := by decide +kernel
theorem dX7_write_59 : decode cX7_write 59 = .ok (.aload_n 0, 1) := by decide +kernel
theorem dX7_write_60 : decode cX7_write 60 = .ok (.aload_n 0, 1) := by decide +kernel
theorem dX7_write_61 : decode cX7_write 61 = .ok (.getfield 84, 3) := by decide +kernel
theorem dX7_write_64 : decode cX7_write 64 = .ok (.putfield 204, 3) := by decide +kernel
theorem dX7_write_67 : decode cX7_write 67 = .ok (.aload_n 0, 1) := by decide +kernel
theorem dX7_write_68 : decode cX7_write 68 = .ok (.getfield 204, 3) := by decide +kernel
theorem dX7_write_71 : decode cX7_write 71 = .ok (.ireturn, 1) := by decide +kernel
theorem dX7_put_0 : decode cX7_put 0 = .ok (.aload_n 0, 1) := by decide +kernel
theorem dX7_put_1 : decode cX7_put 1 = .ok (.aload_n 0, 1) := by decide +kernel
theorem dX7_put_2 : decode cX7_put 2 = .ok (.getfield 204, 3) := by decide +kernel
theorem dX7_put_5 : decode cX7_put 5 = .ok (.bipush 120, 2) := by decide +kernel
theorem dX7_put_7 : decode cX7_put 7 = .ok (.if_icmp .ne 7, 3) := by decide +kernel
theorem dX7_put_10 : decode cX7_put 10 = .ok (.iconst 1, 1) := by decide +kernel
theorem dX7_put_11 : decode cX7_put 11 = .ok (.goto 4, 3) := by decide +kernel
theorem dX7_put_14 : decode cX7_put 14 = .ok (.iconst 0, 1) := by decide +kernel
theorem dX7_put_15 : decode cX7_put 15 = .ok (.putfield 44, 3) := by decide +kernel
theorem dX7_put_18 : decode cX7_put 18 = .ok (.aload_n 0, 1) := by decide +kernel
theorem dX7_put_19 : decode cX7_put 19 = .ok (.getfield 44, 3) := by decide +kernel
theorem dX7_put_22 : decode cX7_put 22 = .ok (.ifCond .le 5, 3) := by decide +kernel
theorem dX7_put_25 : decode cX7_put 25 = .ok (.iconst 0, 1) := by decide +kernel
theorem dX7_put_26 : decode cX7_put 26 = .ok (.ireturn, 1) := by decide +kernel
theorem dX7_put_27 : decode cX7_put 27 = .ok (.aload_n 0, 1) := by decide +kernel
theorem dX7_put_28 : decode cX7_put 28 = .ok (.getfield 32, 3) := by decide +kernel
theorem dX7_put_31 : decode cX7_put 31 = .ok (.aload_n 0, 1) := by decide +kernel
theorem dX7_put_32 : decode cX7_put 32 = .ok (.getfield 204, 3) := by decide +kernel
theorem dX7_put_35 : decode cX7_put 35 = .ok (.iload_n 1, 1) := by decide +kernel
theorem dX7_put_36 : decode cX7_put 36 = .ok (.sipush 255, 3) := by decide +kernel
theorem dX7_put_39 : decode cX7_put 39 = .ok (.iand, 1) := by decide +kernel
theorem dX7_put_40 : decode cX7_put 40 = .ok (.iastore, 1) := by decide +kernel
theorem dX7_put_41 : decode cX7_put 41 = .ok (.aload_n 0, 1) := by decide +kernel
theorem dX7_put_42 : decode cX7_put 42 = .ok (.dup, 1) := by decide +kernel
theorem dX7_put_43 : decode cX7_put 43 = .ok (.getfield 204, 3) := by decide +kernel
theorem dX7_put_46 : decode cX7_put 46 = .ok (.iconst 1, 1) := by decide +kernel
theorem dX7_put_47 : decode cX7_put 47 = .ok (.iadd, 1) := by decide +kernel
theorem dX7_put_48 : decode cX7_put 48 = .ok (.putfield 204, 3) := by decide +kernel
theorem dX7_put_51 : decode cX7_put 51 = .ok (.aload_n 0, 1) := by decide +kernel
theorem dX7_put_52 : decode cX7_put 52 = .ok (.getfield 204, 3) := by decide +kernel
theorem dX7_put_55 : decode cX7_put 55 = .ok (.ireturn, 1) := by decide +kernel
theorem dX7_cut_0 : decode cX7_cut 0 = .ok (.aload_n 0, 1) := by decide +kernel
theorem dX7_cut_1 : decode cX7_cut 1 = .ok (.iload_n 1, 1) := by decide +kernel
theorem dX7_cut_2 : decode cX7_cut 2 = .ok (.iconst 0, 1) := by decide +kernel
theorem dX7_cut_3 : decode cX7_cut 3 = .ok (.aload_n 0, 1) := by decide +kernel
theorem dX7_cut_4 : decode cX7_cut 4 = .ok (.getfield 204, 3) := by decide +kernel
theorem dX7_cut_7 : decode cX7_cut 7 = .ok (.invokestatic 51, 3) := by decide +kernel
theorem dX7_cut_10 : decode cX7_cut 10 = .ok (.ifCond .eq 7, 3) := by decide +kernel
theorem dX7_cut_13 : decode cX7_cut 13 = .ok (.iconst 0, 1) := by decide +kernel
theorem dX7_cut_14 : decode cX7_cut 14 = .ok (.goto 4, 3) := by decide +kernel
theorem dX7_cut_17 : decode cX7_cut 17 = .ok (.iconst 1, 1) := by decide +kernel
theorem dX7_cut_18 : decode cX7_cut 18 = .ok (.putfield 44, 3) := by decide +kernel
theorem dX7_cut_21 : decode cX7_cut 21 = .ok (.aload_n 0, 1) := by decide +kernel
theorem dX7_cut_22 : decode cX7_cut 22 = .ok (.getfield 44, 3) := by decide +kernel
theorem dX7_cut_25 : decode cX7_cut 25 = .ok (.ifCond .le 5, 3) := by decide +kernel
theorem dX7_cut_28 : decode cX7_cut 28 = .ok (.iconst 0, 1) := by decide +kernel
theorem dX7_cut_29 : decode cX7_cut 29 = .ok (.ireturn, 1) := by decide +kernel
theorem dX7_cut_30 : decode cX7_cut 30 = .ok (.aload_n 0, 1) := by decide +kernel
theorem dX7_cut_31 : decode cX7_cut 31 = .ok (.getfield 204, 3) := by decide +kernel
theorem dX7_cut_34 : decode cX7_cut 34 = .ok (.iload_n 1, 1) := by decide +kernel
theorem dX7_cut_35 : decode cX7_cut 35 = .ok (.isub, 1) := by decide +kernel
theorem dX7_cut_36 : decode cX7_cut 36 = .ok (.istore_n 2, 1) := by decide +kernel
theorem dX7_cut_37 : decode cX7_cut 37 = .ok (.aload_n 0, 1) := by decide +kernel
theorem dX7_cut_38 : decode cX7_cut 38 = .ok (.iload_n 1, 1) := by decide +kernel
theorem dX7_cut_39 : decode cX7_cut 39 = .ok (.putfield 204, 3) := by decide +kernel
theorem dX7_cut_42 : decode cX7_cut 42 = .ok (.iload_n 2, 1) := by decide +kernel
theorem dX7_cut_43 : decode cX7_cut 43 = .ok (.ireturn, 1) := by decide +kernel
theorem dX7_length_0 : decode cX7_length 0 = .ok (.aload_n 0, 1) := by decide +kernel
theorem dX7_length_1 : decode cX7_length 1 = .ok (.iconst 0, 1) := by decide +kernel
theorem dX7_length_2 : decode cX7_length 2 = .ok (.putfield 44, 3) := by decide +kernel
theorem dX7_length_5 : decode cX7_length 5 = .ok (.aload_n 0, 1) := by decide +kernel
theorem dX7_length_6 : decode cX7_length 6 = .ok (.getfield 204, 3) := by decide +kernel
theorem dX7_length_9 : decode cX7_length 9 = .ok (.ireturn, 1) := by decide +kernel
theorem dX7_byteAt_0 : decode cX7_byteAt 0 = .ok (.aload_n 0, 1) := by decide +kernel
theorem dX7_byteAt_1 : decode cX7_byteAt 1 = .ok (.iload_n 1, 1) := by decide +kernel
theorem dX7_byteAt_2 : decode cX7_byteAt 2 = .ok (.iconst 0, 1) := by decide +kernel
theorem dX7_byteAt_3 : decode cX7_byteAt 3 = .ok (.aload_n 0, 1) := by decide +kernel
theorem dX7_byteAt_4 : decode cX7_byteAt 4 = .ok (.getfield 204, 3) := by decide +kernel
theorem dX7_byteAt_7 : decode cX7_byteAt 7 = .ok (.iconst 1, 1) := by decide +kernel
theorem dX7_byteAt_8 : decode cX7_byteAt 8 = .ok (.isub, 1) := by decide +kernel
theorem dX7_byteAt_9 : decode cX7_byteAt 9 = .ok (.invokestatic 51, 3) := by decide +kernel
theorem dX7_byteAt_12 : decode cX7_byteAt 12 = .ok (.ifCond .eq 7, 3) := by decide +kernel
theorem dX7_byteAt_15 : decode cX7_byteAt 15 = .ok (.iconst 0, 1) := by decide +kernel
theorem dX7_byteAt_16 : decode cX7_byteAt 16 = .ok (.goto 4, 3) := by decide +kernel
theorem dX7_byteAt_19 : decode cX7_byteAt 19 = .ok (.iconst 1, 1) := by decide +kernel
theorem dX7_byteAt_20 : decode cX7_byteAt 20 = .ok (.putfield 44, 3) := by decide +kernel
theorem dX7_byteAt_23 : decode cX7_byteAt 23 = .ok (.aload_n 0, 1) := by decide +kernel
theorem dX7_byteAt_24 : decode cX7_byteAt 24 = .ok (.getfield 44, 3) := by decide +kernel
theorem dX7_byteAt_27 : decode cX7_byteAt 27 = .ok (.ifCond .le 7, 3) := by decide +kernel
theorem dX7_byteAt_30 : decode cX7_byteAt 30 = .ok (.iconst 0, 1) := by decide +kernel
theorem dX7_byteAt_31 : decode cX7_byteAt 31 = .ok (.goto 10, 3) := by decide +kernel
theorem dX7_byteAt_34 : decode cX7_byteAt 34 = .ok (.aload_n 0, 1) := by decide +kernel
theorem dX7_byteAt_35 : decode cX7_byteAt 35 = .ok (.getfield 32, 3) := by decide +kernel
theorem dX7_byteAt_38 : decode cX7_byteAt 38 = .ok (.iload_n 1, 1) := by decide +kernel
theorem dX7_byteAt_39 : decode cX7_byteAt 39 = .ok (.iaload, 1) := by decide +kernel
theorem dX7_byteAt_40 : decode cX7_byteAt 40 = .ok (.i2b, 1) := by decide +kernel
theorem dX7_byteAt_41 : decode cX7_byteAt 41 = .ok (.ireturn, 1) := by decide +kernel
theorem dX7_fault_0 : decode cX7_fault 0 = .ok (.aload_n 0, 1) := by decide +kernel
theorem dX7_fault_1 : decode cX7_fault 1 = .ok (.iconst 0, 1) := by decide +kernel
theorem dX7_fault_2 : decode cX7_fault 2 = .ok (.putfield 44, 3) := by decide +kernel
theorem dX7_fault_5 : decode cX7_fault 5 = .ok (.aload_n 0, 1) := by decide +kernel
theorem dX7_fault_6 : decode cX7_fault 6 = .ok (.aload_n 0, 1) := by decide +kernel
theorem dX7_fault_7 : decode cX7_fault 7 = .ok (.getfield 32, 3) := by decide +kernel
theorem dX7_fault_10 : decode cX7_fault 10 = .ok (.iconst 0, 1) := by decide +kernel
theorem dX7_fault_11 : decode cX7_fault 11 = .ok (.aload_n 0, 1) := by decide +kernel
theorem dX7_fault_12 : decode cX7_fault 12 = .ok (.getfield 204, 3) := by decide +kernel
theorem dX7_fault_15 : decode cX7_fault 15 = .ok (.invokevirtual 191, 3) := by decide +kernel
theorem dX7_fault_18 : decode cX7_fault 18 = .ok (.ireturn, 1) := by decide +kernel
theorem dX7_faultAt_0 : decode cX7_faultAt 0 = .ok (.aload_n 0, 1) := by decide +kernel
theorem dX7_faultAt_1 : decode cX7_faultAt 1 = .ok (.iconst 0, 1) := by decide +kernel
theorem dX7_faultAt_2 : decode cX7_faultAt 2 = .ok (.putfield 44, 3) := by decide +kernel
theorem dX7_faultAt_5 : decode cX7_faultAt 5 = .ok (.aload_n 0, 1) := by decide +kernel
theorem dX7_faultAt_6 : decode cX7_faultAt 6 = .ok (.aload_n 0, 1) := by decide +kernel
theorem dX7_faultAt_7 : decode cX7_faultAt 7 = .ok (.getfield 32, 3) := by decide +kernel
theorem dX7_faultAt_10 : decode cX7_faultAt 10 = .ok (.iconst 0, 1) := by decide +kernel
theorem dX7_faultAt_11 : decode cX7_faultAt 11 = .ok (.aload_n 0, 1) := by decide +kernel
theorem dX7_faultAt_12 : decode cX7_faultAt 12 = .ok (.getfield 204, 3) := by decide +kernel
theorem dX7_faultAt_15 : decode cX7_faultAt 15 = .ok (.invokevirtual 191, 3) := by decide +kernel
theorem dX7_faultAt_18 : decode cX7_faultAt 18 = .ok (.ifCond .le 10, 3) := by decide +kernel
theorem dX7_faultAt_21 : decode cX7_faultAt 21 = .ok (.aload_n 0, 1) := by decide +kernel
theorem dX7_faultAt_22 : decode cX7_faultAt 22 = .ok (.getfield 61, 3) := by decide +kernel
theorem dX7_faultAt_25 : decode cX7_faultAt 25 = .ok (.goto 4, 3) := by decide +kernel
theorem dX7_faultAt_28 : decode cX7_faultAt 28 = .ok (.iconst (-1), 1) := by decide +kernel
theorem dX7_faultAt_29 : decode cX7_faultAt 29 = .ok (.ireturn, 1) := by decide +kernel
theorem dX7_read_0 : decode cX7_read 0 = .ok (.aload_n 0, 1) := by decide +kernel
theorem dX7_read_1 : decode cX7_read 1 = .ok (.aload_n 0, 1) := by decide +kernel
theorem dX7_read_2 : decode cX7_read 2 = .ok (.iload_n 1, 1) := by decide +kernel
theorem dX7_read_3 : decode cX7_read 3 = .ok (.invokevirtual 136, 3) := by decide +kernel
theorem dX7_read_6 : decode cX7_read 6 = .ok (.ifCond .ne 7, 3) := by decide +kernel
theorem dX7_read_9 : decode cX7_read 9 = .ok (.iconst 1, 1) := by decide +kernel
theorem dX7_read_10 : decode cX7_read 10 = .ok (.goto 35, 3) := by decide +kernel
theorem dX7_read_13 : decode cX7_read 13 = .ok (.aload_n 0, 1) := by decide +kernel
theorem dX7_read_14 : decode cX7_read 14 = .ok (.aload_n 0, 1) := by decide +kernel
theorem dX7_read_15 : decode cX7_read 15 = .ok (.getfield 32, 3) := by decide +kernel
theorem dX7_read_18 : decode cX7_read 18 = .ok (.iconst 0, 1) := by decide +kernel
theorem dX7_read_19 : decode cX7_read 19 = .ok (.aload_n 0, 1) := by decide +kernel
theorem dX7_read_20 : decode cX7_read 20 = .ok (.getfield 204, 3) := by decide +kernel
theorem dX7_read_23 : decode cX7_read 23 = .ok (.invokevirtual 191, 3) := by decide +kernel
theorem dX7_read_26 : decode cX7_read 26 = .ok (.ifCond .le 7, 3) := by decide +kernel
theorem dX7_read_29 : decode cX7_read 29 = .ok (.iconst 2, 1) := by decide +kernel
theorem dX7_read_30 : decode cX7_read 30 = .ok (.goto 15, 3) := by decide +kernel
theorem dX7_read_33 : decode cX7_read 33 = .ok (.aload_n 0, 1) := by decide +kernel
theorem dX7_read_34 : decode cX7_read 34 = .ok (.invokevirtual 149, 3) := by decide +kernel
theorem dX7_read_37 : decode cX7_read 37 = .ok (.ifCond .eq 7, 3) := by decide +kernel
theorem dX7_read_40 : decode cX7_read 40 = .ok (.iconst 3, 1) := by decide +kernel
theorem dX7_read_41 : decode cX7_read 41 = .ok (.goto 4, 3) := by decide +kernel
theorem dX7_read_44 : decode cX7_read 44 = .ok (.iconst 0, 1) := by decide +kernel
theorem dX7_read_45 : decode cX7_read 45 = .ok (.putfield 44, 3) := by decide +kernel
theorem dX7_read_48 : decode cX7_read 48 = .ok (.aload_n 0, 1) := by decide +kernel
theorem dX7_read_49 : decode cX7_read 49 = .ok (.getfield 44, 3) := by decide +kernel
theorem dX7_read_52 : decode cX7_read 52 = .ok (.ifCond .le 7, 3) := by decide +kernel
theorem dX7_read_55 : decode cX7_read 55 = .ok (.iconst 0, 1) := by decide +kernel
theorem dX7_read_56 : decode cX7_read 56 = .ok (.goto 8, 3) := by decide +kernel
theorem dX7_read_59 : decode cX7_read 59 = .ok (.aload_n 0, 1) := by decide +kernel
theorem dX7_read_60 : decode cX7_read 60 = .ok (.iload_n 1, 1) := by decide +kernel
theorem dX7_read_61 : decode cX7_read 61 = .ok (.invokevirtual 153, 3) := by decide +kernel
theorem dX7_read_64 : decode cX7_read 64 = .ok (.ireturn, 1) := by decide +kernel
theorem dX7_isOwn_0 : decode cX7_isOwn 0 = .ok (.iconst 1, 1) := by decide +kernel
theorem dX7_isOwn_1 : decode cX7_isOwn 1 = .ok (.istore_n 2, 1) := by decide +kernel
theorem dX7_isOwn_2 : decode cX7_isOwn 2 = .ok (.iconst 0, 1) := by decide +kernel
theorem dX7_isOwn_3 : decode cX7_isOwn 3 = .ok (.istore_n 3, 1) := by decide +kernel
theorem dX7_isOwn_4 : decode cX7_isOwn 4 = .ok (.iconst 0, 1) := by decide +kernel
theorem dX7_isOwn_5 : decode cX7_isOwn 5 = .ok (.istore 4, 2) := by decide +kernel
theorem dX7_isOwn_7 : decode cX7_isOwn 7 = .ok (.aload_n 0, 1) := by decide +kernel
theorem dX7_isOwn_8 : decode cX7_isOwn 8 = .ok (.iconst 0, 1) := by decide +kernel
theorem dX7_isOwn_9 : decode cX7_isOwn 9 = .ok (.putfield 55, 3) := by decide +kernel
theorem dX7_isOwn_12 : decode cX7_isOwn 12 = .ok (.aload_n 0, 1) := by decide +kernel
theorem dX7_isOwn_13 : decode cX7_isOwn 13 = .ok (.iconst 0, 1) := by decide +kernel
theorem dX7_isOwn_14 : decode cX7_isOwn 14 = .ok (.putfield 84, 3) := by decide +kernel
theorem dX7_isOwn_17 : decode cX7_isOwn 17 = .ok (.aload_n 0, 1) := by decide +kernel
theorem dX7_isOwn_18 : decode cX7_isOwn 18 = .ok (.getfield 55, 3) := by decide +kernel
theorem dX7_isOwn_21 : decode cX7_isOwn 21 = .ok (.aload_n 0, 1) := by decide +kernel
theorem dX7_isOwn_22 : decode cX7_isOwn 22 = .ok (.getfield 204, 3) := by decide +kernel
theorem dX7_isOwn_25 : decode cX7_isOwn 25 = .ok (.if_icmp .ge 220, 3) := by decide +kernel
theorem dX7_isOwn_28 : decode cX7_isOwn 28 = .ok (.iload_n 2, 1) := by decide +kernel
theorem dX7_isOwn_29 : decode cX7_isOwn 29 = .ok (.ifCond .eq 216, 3) := by decide +kernel
theorem dX7_isOwn_32 : decode cX7_isOwn 32 = .ok (.aload_n 0, 1) := by decide +kernel
theorem dX7_isOwn_33 : decode cX7_isOwn 33 = .ok (.aload_n 0, 1) := by decide +kernel
theorem dX7_isOwn_34 : decode cX7_isOwn 34 = .ok (.getfield 32, 3) := by decide +kernel
theorem dX7_isOwn_37 : decode cX7_isOwn 37 = .ok (.aload_n 0, 1) := by decide +kernel
theorem dX7_isOwn_38 : decode cX7_isOwn 38 = .ok (.getfield 204, 3) := by decide +kernel
theorem dX7_isOwn_41 : decode cX7_isOwn 41 = .ok (.invokevirtual 106, 3) := by decide +kernel
theorem dX7_isOwn_44 : decode cX7_isOwn 44 = .ok (.aload_n 0, 1) := by decide +kernel
theorem dX7_isOwn_45 : decode cX7_isOwn 45 = .ok (.getfield 58, 3) := by decide +kernel
theorem dX7_isOwn_48 : decode cX7_isOwn 48 = .ok (.ifCond .ne 7, 3) := by decide +kernel
theorem dX7_isOwn_51 : decode cX7_isOwn 51 = .ok (.iconst 1, 1) := by decide +kernel
theorem dX7_isOwn_52 : decode cX7_isOwn 52 = .ok (.goto 4, 3) := by decide +kernel
theorem dX7_isOwn_55 : decode cX7_isOwn 55 = .ok (.iconst 0, 1) := by decide +kernel
theorem dX7_isOwn_56 : decode cX7_isOwn 56 = .ok (.istore_n 2, 1) := by decide +kernel
theorem dX7_isOwn_57 : decode cX7_isOwn 57 = .ok (.iload_n 2, 1) := by decide +kernel
theorem dX7_isOwn_58 : decode cX7_isOwn 58 = .ok (.ifCond .eq (-41), 3) := by decide +kernel
theorem dX7_isOwn_61 : decode cX7_isOwn 61 = .ok (.aload_n 0, 1) := by decide +kernel
theorem dX7_isOwn_62 : decode cX7_isOwn 62 = .ok (.getfield 84, 3) := by decide +kernel
theorem dX7_isOwn_65 : decode cX7_isOwn 65 = .ok (.istore 5, 2) := by decide +kernel
theorem dX7_isOwn_67 : decode cX7_isOwn 67 = .ok (.aload_n 0, 1) := by decide +kernel
theorem dX7_isOwn_68 : decode cX7_isOwn 68 = .ok (.aload_n 0, 1) := by decide +kernel
theorem dX7_isOwn_69 : decode cX7_isOwn 69 = .ok (.getfield 32, 3) := by decide +kernel
theorem dX7_isOwn_72 : decode cX7_isOwn 72 = .ok (.invokevirtual 116, 3) := by decide +kernel
theorem dX7_isOwn_75 : decode cX7_isOwn 75 = .ok (.aload_n 0, 1) := by decide +kernel
theorem dX7_isOwn_76 : decode cX7_isOwn 76 = .ok (.getfield 84, 3) := by decide +kernel
theorem dX7_isOwn_79 : decode cX7_isOwn 79 = .ok (.aload_n 0, 1) := by decide +kernel
theorem dX7_isOwn_80 : decode cX7_isOwn 80 = .ok (.getfield 55, 3) := by decide +kernel
theorem dX7_isOwn_83 : decode cX7_isOwn 83 = .ok (.if_icmp .ne 34, 3) := by decide +kernel
theorem dX7_isOwn_86 : decode cX7_isOwn 86 = .ok (.aload_n 0, 1) := by decide +kernel
theorem dX7_isOwn_87 : decode cX7_isOwn 87 = .ok (.getfield 84, 3) := by decide +kernel
theorem dX7_isOwn_90 : decode cX7_isOwn 90 = .ok (.iload 5, 2) := by decide +kernel
theorem dX7_isOwn_92 : decode cX7_isOwn 92 = .ok (.isub, 1) := by decide +kernel
theorem dX7_isOwn_93 : decode cX7_isOwn 93 = .ok (.aload_n 0, 1) := by decide +kernel
theorem dX7_isOwn_94 : decode cX7_isOwn 94 = .ok (.getfield 55, 3) := by decide +kernel
theorem dX7_isOwn_97 : decode cX7_isOwn 97 = .ok (.aload_n 0, 1) := by decide +kernel
theorem dX7_isOwn_98 : decode cX7_isOwn 98 = .ok (.getfield 61, 3) := by decide +kernel
theorem dX7_isOwn_101 : decode cX7_isOwn 101 = .ok (.isub, 1) := by decide +kernel
theorem dX7_isOwn_102 : decode cX7_isOwn 102 = .ok (.if_icmp .ne 15, 3) := by decide +kernel
theorem dX7_isOwn_105 : decode cX7_isOwn 105 = .ok (.aload_n 0, 1) := by decide +kernel
theorem dX7_isOwn_106 : decode cX7_isOwn 106 = .ok (.getfield 68, 3) := by decide +kernel
theorem dX7_isOwn_109 : decode cX7_isOwn 109 = .ok (.iload_n 3, 1) := by decide +kernel
theorem dX7_isOwn_110 : decode cX7_isOwn 110 = .ok (.if_icmp .lt 7, 3) := by decide +kernel
theorem dX7_isOwn_113 : decode cX7_isOwn 113 = .ok (.iconst 1, 1) := by decide +kernel
theorem dX7_isOwn_114 : decode cX7_isOwn 114 = .ok (.goto 4, 3) := by decide +kernel
theorem dX7_isOwn_117 : decode cX7_isOwn 117 = .ok (.iconst 0, 1) := by decide +kernel
theorem dX7_isOwn_118 : decode cX7_isOwn 118 = .ok (.istore_n 2, 1) := by decide +kernel
theorem dX7_isOwn_119 : decode cX7_isOwn 119 = .ok (.aload_n 0, 1) := by decide +kernel
theorem dX7_isOwn_120 : decode cX7_isOwn 120 = .ok (.iload_n 1, 1) := by decide +kernel
theorem dX7_isOwn_121 : decode cX7_isOwn 121 = .ok (.aload_n 0, 1) := by decide +kernel
theorem dX7_isOwn_122 : decode cX7_isOwn 122 = .ok (.getfield 68, 3) := by decide +kernel
theorem dX7_isOwn_125 : decode cX7_isOwn 125 = .ok (.invokevirtual 98, 3) := by decide +kernel
theorem dX7_isOwn_128 : decode cX7_isOwn 128 = .ok (.invokestatic 120, 3) := by decide +kernel
theorem dX7_isOwn_131 : decode cX7_isOwn 131 = .ok (.ifCond .eq 15, 3) := by decide +kernel
theorem dX7_isOwn_134 : decode cX7_isOwn 134 = .ok (.aload_n 0, 1) := by decide +kernel
theorem dX7_isOwn_135 : decode cX7_isOwn 135 = .ok (.iload_n 1, 1) := by decide +kernel
theorem dX7_isOwn_136 : decode cX7_isOwn 136 = .ok (.invokevirtual 110, 3) := by decide +kernel
theorem dX7_isOwn_139 : decode cX7_isOwn 139 = .ok (.ifCond .eq 7, 3) := by decide +kernel
theorem dX7_isOwn_142 : decode cX7_isOwn 142 = .ok (.iconst 1, 1) := by decide +kernel
theorem dX7_isOwn_143 : decode cX7_isOwn 143 = .ok (.goto 4, 3) := by decide +kernel
theorem dX7_isOwn_146 : decode cX7_isOwn 146 = .ok (.iconst 0, 1) := by decide +kernel
theorem dX7_isOwn_147 : decode cX7_isOwn 147 = .ok (.istore 6, 2) := by decide +kernel
theorem dX7_isOwn_149 : decode cX7_isOwn 149 = .ok (.aload_n 0, 1) := by decide +kernel
theorem dX7_isOwn_150 : decode cX7_isOwn 150 = .ok (.getfield 68, 3) := by decide +kernel
theorem dX7_isOwn_153 : decode cX7_isOwn 153 = .ok (.iload_n 3, 1) := by decide +kernel
theorem dX7_isOwn_154 : decode cX7_isOwn 154 = .ok (.if_icmp .le 7, 3) := by decide +kernel
theorem dX7_isOwn_157 : decode cX7_isOwn 157 = .ok (.iconst 0, 1) := by decide +kernel
theorem dX7_isOwn_158 : decode cX7_isOwn 158 = .ok (.goto 5, 3) := by decide +kernel
theorem dX7_isOwn_161 : decode cX7_isOwn 161 = .ok (.iload 4, 2) := by decide +kernel
theorem dX7_isOwn_163 : decode cX7_isOwn 163 = .ok (.istore 4, 2) := by decide +kernel
theorem dX7_isOwn_165 : decode cX7_isOwn 165 = .ok (.aload_n 0, 1) := by decide +kernel
theorem dX7_isOwn_166 : decode cX7_isOwn 166 = .ok (.getfield 68, 3) := by decide +kernel
theorem dX7_isOwn_169 : decode cX7_isOwn 169 = .ok (.istore_n 3, 1) := by decide +kernel
theorem dX7_isOwn_170 : decode cX7_isOwn 170 = .ok (.iload 4, 2) := by decide +kernel
theorem dX7_isOwn_172 : decode cX7_isOwn 172 = .ok (.aload_n 0, 1) := by decide +kernel
theorem dX7_isOwn_173 : decode cX7_isOwn 173 = .ok (.iload_n 1, 1) := by decide +kernel
theorem dX7_isOwn_174 : decode cX7_isOwn 174 = .ok (.invokevirtual 110, 3) := by decide +kernel
theorem dX7_isOwn_177 : decode cX7_isOwn 177 = .ok (.ifCond .eq 7, 3) := by decide +kernel
theorem dX7_isOwn_180 : decode cX7_isOwn 180 = .ok (.iconst 1, 1) := by decide +kernel
theorem dX7_isOwn_181 : decode cX7_isOwn 181 = .ok (.goto 4, 3) := by decide +kernel
theorem dX7_isOwn_184 : decode cX7_isOwn 184 = .ok (.iconst 0, 1) := by decide +kernel
theorem dX7_isOwn_185 : decode cX7_isOwn 185 = .ok (.iadd, 1) := by decide +kernel
theorem dX7_isOwn_186 : decode cX7_isOwn 186 = .ok (.istore 4, 2) := by decide +kernel
theorem dX7_isOwn_188 : decode cX7_isOwn 188 = .ok (.iload_n 2, 1) := by decide +kernel
theorem dX7_isOwn_189 : decode cX7_isOwn 189 = .ok (.ifCond .eq 51, 3) := by decide +kernel
theorem dX7_isOwn_192 : decode cX7_isOwn 192 = .ok (.iload 4, 2) := by decide +kernel
theorem dX7_isOwn_194 : decode cX7_isOwn 194 = .ok (.iconst 2, 1) := by decide +kernel
theorem dX7_isOwn_195 : decode cX7_isOwn 195 = .ok (.if_icmp .ge 45, 3) := by decide +kernel
theorem dX7_isOwn_198 : decode cX7_isOwn 198 = .ok (.iload 6, 2) := by decide +kernel
theorem dX7_isOwn_200 : decode cX7_isOwn 200 = .ok (.ifCond .eq 36, 3) := by decide +kernel
theorem dX7_isOwn_203 : decode cX7_isOwn 203 = .ok (.aload_n 0, 1) := by decide +kernel
theorem dX7_isOwn_204 : decode cX7_isOwn 204 = .ok (.iload_n 1, 1) := by decide +kernel
theorem dX7_isOwn_205 : decode cX7_isOwn 205 = .ok (.aload_n 0, 1) := by decide +kernel
theorem dX7_isOwn_206 : decode cX7_isOwn 206 = .ok (.getfield 68, 3) := by decide +kernel
theorem dX7_isOwn_209 : decode cX7_isOwn 209 = .ok (.invokevirtual 98, 3) := by decide +kernel
theorem dX7_isOwn_212 : decode cX7_isOwn 212 = .ok (.aload_n 0, 1) := by decide +kernel
theorem dX7_isOwn_213 : decode cX7_isOwn 213 = .ok (.getfield 78, 3) := by decide +kernel
theorem dX7_isOwn_216 : decode cX7_isOwn 216 = .ok (.invokestatic 123, 3) := by decide +kernel
theorem dX7_isOwn_219 : decode cX7_isOwn 219 = .ok (.aload_n 0, 1) := by decide +kernel
theorem dX7_isOwn_220 : decode cX7_isOwn 220 = .ok (.getfield 16, 3) := by decide +kernel
theorem dX7_isOwn_223 : decode cX7_isOwn 223 = .ok (.bipush 32, 2) := by decide +kernel
theorem dX7_isOwn_225 : decode cX7_isOwn 225 = .ok (.iload_n 1, 1) := by decide +kernel
theorem dX7_isOwn_226 : decode cX7_isOwn 226 = .ok (.imul, 1) := by decide +kernel
theorem dX7_isOwn_227 : decode cX7_isOwn 227 = .ok (.aload_n 0, 1) := by decide +kernel
theorem dX7_isOwn_228 : decode cX7_isOwn 228 = .ok (.getfield 68, 3) := by decide +kernel
theorem dX7_isOwn_231 : decode cX7_isOwn 231 = .ok (.iadd, 1) := by decide +kernel
theorem dX7_isOwn_232 : decode cX7_isOwn 232 = .ok (.iaload, 1) := by decide +kernel
theorem dX7_isOwn_233 : decode cX7_isOwn 233 = .ok (.if_icmp .eq 7, 3) := by decide +kernel
theorem dX7_isOwn_236 : decode cX7_isOwn 236 = .ok (.iconst 1, 1) := by decide +kernel
theorem dX7_isOwn_237 : decode cX7_isOwn 237 = .ok (.goto 4, 3) := by decide +kernel
theorem dX7_isOwn_240 : decode cX7_isOwn 240 = .ok (.iconst 0, 1) := by decide +kernel
theorem dX7_isOwn_241 : decode cX7_isOwn 241 = .ok (.istore_n 2, 1) := by decide +kernel
theorem dX7_isOwn_242 : decode cX7_isOwn 242 = .ok (.goto (-225), 3) := by decide +kernel
theorem dX7_isOwn_245 : decode cX7_isOwn 245 = .ok (.iload_n 2, 1) := by decide +kernel
theorem dX7_isOwn_246 : decode cX7_isOwn 246 = .ok (.ireturn, 1) := by decide +kernel
theorem dX7_isCanonical_0 : decode cX7_isCanonical 0 = .ok (.aload_n 0, 1) := by decide +kernel
theorem dX7_isCanonical_1 : decode cX7_isCanonical 1 = .ok (.aload_n 0, 1) := by decide +kernel
theorem dX7_isCanonical_2 : decode cX7_isCanonical 2 = .ok (.iload_n 1, 1) := by decide +kernel
theorem dX7_isCanonical_3 : decode cX7_isCanonical 3 = .ok (.invokevirtual 136, 3) := by decide +kernel
theorem dX7_isCanonical_6 : decode cX7_isCanonical 6 = .ok (.ifCond .eq 7, 3) := by decide +kernel
theorem dX7_isCanonical_9 : decode cX7_isCanonical 9 = .ok (.iconst 0, 1) := by decide +kernel
theorem dX7_isCanonical_10 : decode cX7_isCanonical 10 = .ok (.goto 4, 3) := by decide +kernel
theorem dX7_isCanonical_13 : decode cX7_isCanonical 13 = .ok (.iconst 1, 1) := by decide +kernel
theorem dX7_isCanonical_14 : decode cX7_isCanonical 14 = .ok (.putfield 44, 3) := by decide +kernel
theorem dX7_isCanonical_17 : decode cX7_isCanonical 17 = .ok (.aload_n 0, 1) := by decide +kernel
theorem dX7_isCanonical_18 : decode cX7_isCanonical 18 = .ok (.getfield 44, 3) := by decide +kernel
theorem dX7_isCanonical_21 : decode cX7_isCanonical 21 = .ok (.ifCond .ne 15, 3) := by decide +kernel
theorem dX7_isCanonical_24 : decode cX7_isCanonical 24 = .ok (.aload_n 0, 1) := by decide +kernel
theorem dX7_isCanonical_25 : decode cX7_isCanonical 25 = .ok (.iload_n 1, 1) := by decide +kernel
theorem dX7_isCanonical_26 : decode cX7_isCanonical 26 = .ok (.invokevirtual 207, 3) := by decide +kernel
theorem dX7_isCanonical_29 : decode cX7_isCanonical 29 = .ok (.ifCond .eq 7, 3) := by decide +kernel
theorem dX7_isCanonical_32 : decode cX7_isCanonical 32 = .ok (.iconst 1, 1) := by decide +kernel
theorem dX7_isCanonical_33 : decode cX7_isCanonical 33 = .ok (.goto 4, 3) := by decide +kernel
theorem dX7_isCanonical_36 : decode cX7_isCanonical 36 = .ok (.iconst 0, 1) := by decide +kernel
theorem dX7_isCanonical_37 : decode cX7_isCanonical 37 = .ok (.ireturn, 1) := by decide +kernel
theorem dJ7_fill_53178_0 : decode cJ7_fill_53178 0 = .ok (.iconst 0, 1) := by decide +kernel
theorem dJ7_fill_53178_1 : decode cJ7_fill_53178 1 = .ok (.istore_n 2, 1) := by decide +kernel
theorem dJ7_fill_53178_2 : decode cJ7_fill_53178 2 = .ok (.aload_n 0, 1) := by decide +kernel
theorem dJ7_fill_53178_3 : decode cJ7_fill_53178 3 = .ok (.arraylength, 1) := by decide +kernel
theorem dJ7_fill_53178_4 : decode cJ7_fill_53178 4 = .ok (.istore_n 3, 1) := by decide +kernel
theorem dJ7_fill_53178_5 : decode cJ7_fill_53178 5 = .ok (.iload_n 2, 1) := by decide +kernel
theorem dJ7_fill_53178_6 : decode cJ7_fill_53178 6 = .ok (.iload_n 3, 1) := by decide +kernel
theorem dJ7_fill_53178_7 : decode cJ7_fill_53178 7 = .ok (.if_icmp .ge 13, 3) := by decide +kernel
theorem dJ7_fill_53178_10 : decode cJ7_fill_53178 10 = .ok (.aload_n 0, 1) := by decide +kernel
theorem dJ7_fill_53178_11 : decode cJ7_fill_53178 11 = .ok (.iload_n 2, 1) := by decide +kernel
theorem dJ7_fill_53178_12 : decode cJ7_fill_53178 12 = .ok (.iload_n 1, 1) := by decide +kernel
theorem dJ7_fill_53178_13 : decode cJ7_fill_53178 13 = .ok (.iastore, 1) := by decide +kernel
theorem dJ7_fill_53178_14 : decode cJ7_fill_53178 14 = .ok (.iinc 2 1, 3) := by decide +kernel
theorem dJ7_fill_53178_17 : decode cJ7_fill_53178 17 = .ok (.goto (-12), 3) := by decide +kernel
theorem dJ7_fill_53178_20 : decode cJ7_fill_53178 20 = .ok (.return_, 1) := by decide +kernel
