theorem dX12_init_0 : decode cX12_init 0 = .ok (.aload_n 0, 1) := by decide +kernel
theorem dX12_init_1 : decode cX12_init 1 = .ok (.invokespecial 1, 3) := by decide +kernel
theorem dX12_init_4 : decode cX12_init 4 = .ok (.aload_n 0, 1) := by decide +kernel
theorem dX12_init_5 : decode cX12_init 5 = .ok (.bipush 8, 2) := by decide +kernel
theorem dX12_init_7 : decode cX12_init 7 = .ok (.newarray .int, 2) := by decide +kernel
theorem dX12_init_9 : decode cX12_init 9 = .ok (.putfield 7, 3) := by decide +kernel
theorem dX12_init_12 : decode cX12_init 12 = .ok (.aload_n 0, 1) := by decide +kernel
theorem dX12_init_13 : decode cX12_init 13 = .ok (.bipush 8, 2) := by decide +kernel
theorem dX12_init_15 : decode cX12_init 15 = .ok (.newarray .int, 2) := by decide +kernel
theorem dX12_init_17 : decode cX12_init 17 = .ok (.putfield 13, 3) := by decide +kernel
theorem dX12_init_20 : decode cX12_init 20 = .ok (.aload_n 0, 1) := by decide +kernel
theorem dX12_init_21 : decode cX12_init 21 = .ok (.sipush 320, 3) := by decide +kernel
theorem dX12_init_24 : decode cX12_init 24 = .ok (.newarray .int, 2) := by decide +kernel
theorem dX12_init_26 : decode cX12_init 26 = .ok (.putfield 16, 3) := by decide +kernel
theorem dX12_init_29 : decode cX12_init 29 = .ok (.aload_n 0, 1) := by decide +kernel
theorem dX12_init_30 : decode cX12_init 30 = .ok (.bipush 48, 2) := by decide +kernel
theorem dX12_init_32 : decode cX12_init 32 = .ok (.newarray .int, 2) := by decide +kernel
theorem dX12_init_34 : decode cX12_init 34 = .ok (.putfield 19, 3) := by decide +kernel
theorem dX12_init_37 : decode cX12_init 37 = .ok (.aload_n 0, 1) := by decide +kernel
theorem dX12_init_38 : decode cX12_init 38 = .ok (.bipush 40, 2) := by decide +kernel
theorem dX12_init_40 : decode cX12_init 40 = .ok (.newarray .int, 2) := by decide +kernel
theorem dX12_init_42 : decode cX12_init 42 = .ok (.putfield 22, 3) := by decide +kernel
theorem dX12_init_45 : decode cX12_init 45 = .ok (.aload_n 0, 1) := by decide +kernel
theorem dX12_init_46 : decode cX12_init 46 = .ok (.bipush 100, 2) := by decide +kernel
theorem dX12_init_48 : decode cX12_init 48 = .ok (.newarray .int, 2) := by decide +kernel
theorem dX12_init_50 : decode cX12_init 50 = .ok (.putfield 25, 3) := by decide +kernel
theorem dX12_init_53 : decode cX12_init 53 = .ok (.aload_n 0, 1) := by decide +kernel
theorem dX12_init_54 : decode cX12_init 54 = .ok (.bipush 48, 2) := by decide +kernel
theorem dX12_init_56 : decode cX12_init 56 = .ok (.newarray .int, 2) := by decide +kernel
theorem dX12_init_58 : decode cX12_init 58 = .ok (.putfield 28, 3) := by decide +kernel
theorem dX12_init_61 : decode cX12_init 61 = .ok (.aload_n 0, 1) := by decide +kernel
theorem dX12_init_62 : decode cX12_init 62 = .ok (.iconst 4, 1) := by decide +kernel
theorem dX12_init_63 : decode cX12_init 63 = .ok (.newarray .int, 2) := by decide +kernel
theorem dX12_init_65 : decode cX12_init 65 = .ok (.putfield 31, 3) := by decide +kernel
theorem dX12_init_68 : decode cX12_init 68 = .ok (.aload_n 0, 1) := by decide +kernel
theorem dX12_init_69 : decode cX12_init 69 = .ok (.sipush 1152, 3) := by decide +kernel
theorem dX12_init_72 : decode cX12_init 72 = .ok (.newarray .int, 2) := by decide +kernel
theorem dX12_init_74 : decode cX12_init 74 = .ok (.putfield 34, 3) := by decide +kernel
theorem dX12_init_77 : decode cX12_init 77 = .ok (.aload_n 0, 1) := by decide +kernel
theorem dX12_init_78 : decode cX12_init 78 = .ok (.bipush 48, 2) := by decide +kernel
theorem dX12_init_80 : decode cX12_init 80 = .ok (.newarray .int, 2) := by decide +kernel
theorem dX12_init_82 : decode cX12_init 82 = .ok (.putfield 37, 3) := by decide +kernel
theorem dX12_init_85 : decode cX12_init 85 = .ok (.aload_n 0, 1) := by decide +kernel
theorem dX12_init_86 : decode cX12_init 86 = .ok (.iconst 4, 1) := by decide +kernel
theorem dX12_init_87 : decode cX12_init 87 = .ok (.newarray .int, 2) := by decide +kernel
theorem dX12_init_89 : decode cX12_init 89 = .ok (.putfield 40, 3) := by decide +kernel
theorem dX12_init_92 : decode cX12_init 92 = .ok (.aload_n 0, 1) := by decide +kernel
theorem dX12_init_93 : decode cX12_init 93 = .ok (.iconst 2, 1) := by decide +kernel
theorem dX12_init_94 : decode cX12_init 94 = .ok (.newarray .boolean, 2) := by decide +kernel
theorem dX12_init_96 : decode cX12_init 96 = .ok (.putfield 43, 3) := by decide +kernel
theorem dX12_init_99 : decode cX12_init 99 = .ok (.aload_n 0, 1) := by decide +kernel
theorem dX12_init_100 : decode cX12_init 100 = .ok (.bipush 96, 2) := by decide +kernel
theorem dX12_init_102 : decode cX12_init 102 = .ok (.newarray .int, 2) := by decide +kernel
theorem dX12_init_104 : decode cX12_init 104 = .ok (.putfield 47, 3) := by decide +kernel
theorem dX12_init_107 : decode cX12_init 107 = .ok (.aload_n 0, 1) := by decide +kernel
theorem dX12_init_108 : decode cX12_init 108 = .ok (.bipush 16, 2) := by decide +kernel
theorem dX12_init_110 : decode cX12_init 110 = .ok (.newarray .int, 2) := by decide +kernel
theorem dX12_init_112 : decode cX12_init 112 = .ok (.putfield 50, 3) := by decide +kernel
theorem dX12_init_115 : decode cX12_init 115 = .ok (.iconst 0, 1) := by decide +kernel
theorem dX12_init_116 : decode cX12_init 116 = .ok (.istore_n 1, 1) := by decide +kernel
theorem dX12_init_117 : decode cX12_init 117 = .ok (.iload_n 1, 1) := by decide +kernel
theorem dX12_init_118 : decode cX12_init 118 = .ok (.bipush 8, 2) := by decide +kernel
theorem dX12_init_120 : decode cX12_init 120 = .ok (.if_icmp .ge 16, 3) := by decide +kernel
theorem dX12_init_123 : decode cX12_init 123 = .ok (.aload_n 0, 1) := by decide +kernel
theorem dX12_init_124 : decode cX12_init 124 = .ok (.getfield 13, 3) := by decide +kernel
theorem dX12_init_127 : decode cX12_init 127 = .ok (.iload_n 1, 1) := by decide +kernel
theorem dX12_init_128 : decode cX12_init 128 = .ok (.iconst (-1), 1) := by decide +kernel
theorem dX12_init_129 : decode cX12_init 129 = .ok (.iastore, 1) := by decide +kernel
theorem dX12_init_130 : decode cX12_init 130 = .ok (.iinc 1 1, 3) := by decide +kernel
theorem dX12_init_133 : decode cX12_init 133 = .ok (.goto (-16), 3) := by decide +kernel
theorem dX12_init_136 : decode cX12_init 136 = .ok (.return_, 1) := by decide +kernel
theorem dX12_in_0 : decode cX12_in 0 = .ok (.lload_n 0, 1) := by decide +kernel
theorem dX12_in_1 : decode cX12_in 1 = .ok (.lload_n 2, 1) := by decide +kernel
theorem dX12_in_2 : decode cX12_in 2 = .ok (.lcmp, 1) := by decide +kernel
theorem dX12_in_3 : decode cX12_in 3 = .ok (.ifCond .lt 14, 3) := by decide +kernel
theorem dX12_in_6 : decode cX12_in 6 = .ok (.lload_n 0, 1) := by decide +kernel
theorem dX12_in_7 : decode cX12_in 7 = .ok (.lload 4, 2) := by decide +kernel
theorem dX12_in_9 : decode cX12_in 9 = .ok (.lcmp, 1) := by decide +kernel
theorem dX12_in_10 : decode cX12_in 10 = .ok (.ifCond .gt 7, 3) := by decide +kernel
theorem dX12_in_13 : decode cX12_in 13 = .ok (.iconst 1, 1) := by decide +kernel
theorem dX12_in_14 : decode cX12_in 14 = .ok (.goto 4, 3) := by decide +kernel
theorem dX12_in_17 : decode cX12_in 17 = .ok (.iconst 0, 1) := by decide +kernel
theorem dX12_in_18 : decode cX12_in 18 = .ok (.ireturn, 1) := by decide +kernel
theorem dX12_has_0 : decode cX12_has 0 = .ok (.iload_n 0, 1) := by decide +kernel
theorem dX12_has_1 : decode cX12_has 1 = .ok (.iload_n 1, 1) := by decide +kernel
theorem dX12_has_2 : decode cX12_has 2 = .ok (.ishr, 1) := by decide +kernel
theorem dX12_has_3 : decode cX12_has 3 = .ok (.iconst 1, 1) := by decide +kernel
theorem dX12_has_4 : decode cX12_has 4 = .ok (.iand, 1) := by decide +kernel
theorem dX12_has_5 : decode cX12_has 5 = .ok (.iconst 1, 1) := by decide +kernel
theorem dX12_has_6 : decode cX12_has 6 = .ok (.if_icmp .ne 7, 3) := by decide +kernel
theorem dX12_has_9 : decode cX12_has 9 = .ok (.iconst 1, 1) := by decide +kernel
theorem dX12_has_10 : decode cX12_has 10 = .ok (.goto 4, 3) := by decide +kernel
theorem dX12_has_13 : decode cX12_has 13 = .ok (.iconst 0, 1) := by decide +kernel
theorem dX12_has_14 : decode cX12_has 14 = .ok (.ireturn, 1) := by decide +kernel
theorem dX12_find_0 : decode cX12_find 0 = .ok (.aload_n 0, 1) := by decide +kernel
theorem dX12_find_1 : decode cX12_find 1 = .ok (.iload_n 1, 1) := by decide +kernel
theorem dX12_find_2 : decode cX12_find 2 = .ok (.putfield 53, 3) := by decide +kernel
theorem dX12_find_5 : decode cX12_find 5 = .ok (.ldc 57, 2) := by decide +kernel
theorem dX12_find_7 : decode cX12_find 7 = .ok (.iload_n 1, 1) := by decide +kernel
theorem dX12_find_8 : decode cX12_find 8 = .ok (.isub, 1) := by decide +kernel
theorem dX12_find_9 : decode cX12_find 9 = .ok (.ireturn, 1) := by decide +kernel
theorem dX12_well_0 : decode cX12_well 0 = .ok (.aload_n 0, 1) := by decide +kernel
theorem dX12_well_1 : decode cX12_well 1 = .ok (.iconst 0, 1) := by decide +kernel
theorem dX12_well_2 : decode cX12_well 2 = .ok (.putfield 53, 3) := by decide +kernel
theorem dX12_well_5 : decode cX12_well 5 = .ok (.iload_n 1, 1) := by decide +kernel
theorem dX12_well_6 : decode cX12_well 6 = .ok (.ireturn, 1) := by decide +kernel
theorem dX12_isRow_0 : decode cX12_isRow 0 = .ok (.iload_n 0, 1) := by decide +kernel
theorem dX12_isRow_1 : decode cX12_isRow 1 = .ok (.i2l, 1) := by decide +kernel
theorem dX12_isRow_2 : decode cX12_isRow 2 = .ok (.lconst 0, 1) := by decide +kernel
theorem dX12_isRow_3 : decode cX12_isRow 3 = .ok (.ldc2_w 58, 3) := by decide +kernel
theorem dX12_isRow_6 : decode cX12_isRow 6 = .ok (.invokestatic 60, 3) := by decide +kernel
theorem dX12_isRow_9 : decode cX12_isRow 9 = .ok (.ireturn, 1) := by decide +kernel
theorem dX12_row_0 : decode cX12_row 0 = .ok (.iload_n 1, 1) := by decide +kernel
theorem dX12_row_1 : decode cX12_row 1 = .ok (.invokestatic 64, 3) := by decide +kernel
theorem dX12_row_4 : decode cX12_row 4 = .ok (.ifCond .eq 21, 3) := by decide +kernel
theorem dX12_row_7 : decode cX12_row 7 = .ok (.iload_n 2, 1) := by decide +kernel
theorem dX12_row_8 : decode cX12_row 8 = .ok (.i2l, 1) := by decide +kernel
theorem dX12_row_9 : decode cX12_row 9 = .ok (.lconst 0, 1) := by decide +kernel
theorem dX12_row_10 : decode cX12_row 10 = .ok (.ldc2_w 68, 3) := by decide +kernel
theorem dX12_row_13 : decode cX12_row 13 = .ok (.invokestatic 60, 3) := by decide +kernel
theorem dX12_row_16 : decode cX12_row 16 = .ok (.ifCond .eq 9, 3) := by decide +kernel
theorem dX12_row_19 : decode cX12_row 19 = .ok (.iload_n 3, 1) := by decide +kernel
theorem dX12_row_20 : decode cX12_row 20 = .ok (.bipush 40, 2) := by decide +kernel
theorem dX12_row_22 : decode cX12_row 22 = .ok (.if_icmp .le 6, 3) := by decide +kernel
theorem dX12_row_25 : decode cX12_row 25 = .ok (.ldc 70, 2) := by decide +kernel
theorem dX12_row_27 : decode cX12_row 27 = .ok (.ireturn, 1) := by decide +kernel
theorem dX12_row_28 : decode cX12_row 28 = .ok (.iload_n 3, 1) := by decide +kernel
theorem dX12_row_29 : decode cX12_row 29 = .ok (.ifCond .ge 9, 3) := by decide +kernel
theorem dX12_row_32 : decode cX12_row 32 = .ok (.aload_n 0, 1) := by decide +kernel
theorem dX12_row_33 : decode cX12_row 33 = .ok (.iconst 4, 1) := by decide +kernel
theorem dX12_row_34 : decode cX12_row 34 = .ok (.invokevirtual 71, 3) := by decide +kernel
theorem dX12_row_37 : decode cX12_row 37 = .ok (.ireturn, 1) := by decide +kernel
theorem dX12_row_38 : decode cX12_row 38 = .ok (.aload_n 0, 1) := by decide +kernel
theorem dX12_row_39 : decode cX12_row 39 = .ok (.getfield 7, 3) := by decide +kernel
theorem dX12_row_42 : decode cX12_row 42 = .ok (.iload_n 1, 1) := by decide +kernel
theorem dX12_row_43 : decode cX12_row 43 = .ok (.iload_n 2, 1) := by decide +kernel
theorem dX12_row_44 : decode cX12_row 44 = .ok (.iastore, 1) := by decide +kernel
theorem dX12_row_45 : decode cX12_row 45 = .ok (.aload_n 0, 1) := by decide +kernel
theorem dX12_row_46 : decode cX12_row 46 = .ok (.getfield 13, 3) := by decide +kernel
theorem dX12_row_49 : decode cX12_row 49 = .ok (.iload_n 1, 1) := by decide +kernel
theorem dX12_row_50 : decode cX12_row 50 = .ok (.iload_n 3, 1) := by decide +kernel
theorem dX12_row_51 : decode cX12_row 51 = .ok (.iastore, 1) := by decide +kernel
theorem dX12_row_52 : decode cX12_row 52 = .ok (.iconst 0, 1) := by decide +kernel
theorem dX12_row_53 : decode cX12_row 53 = .ok (.istore 4, 2) := by decide +kernel
theorem dX12_row_55 : decode cX12_row 55 = .ok (.iload 4, 2) := by decide +kernel
theorem dX12_row_57 : decode cX12_row 57 = .ok (.bipush 40, 2) := by decide +kernel
theorem dX12_row_59 : decode cX12_row 59 = .ok (.if_icmp .ge 22, 3) := by decide +kernel
theorem dX12_row_62 : decode cX12_row 62 = .ok (.aload_n 0, 1) := by decide +kernel
theorem dX12_row_63 : decode cX12_row 63 = .ok (.getfield 16, 3) := by decide +kernel
theorem dX12_row_66 : decode cX12_row 66 = .ok (.bipush 40, 2) := by decide +kernel
theorem dX12_row_68 : decode cX12_row 68 = .ok (.iload_n 1, 1) := by decide +kernel
theorem dX12_row_69 : decode cX12_row 69 = .ok (.imul, 1) := by decide +kernel
theorem dX12_row_70 : decode cX12_row 70 = .ok (.iload 4, 2) := by decide +kernel
theorem dX12_row_72 : decode cX12_row 72 = .ok (.iadd, 1) := by decide +kernel
theorem dX12_row_73 : decode cX12_row 73 = .ok (.iconst 0, 1) := by decide +kernel
theorem dX12_row_74 : decode cX12_row 74 = .ok (.iastore, 1) := by decide +kernel
theorem dX12_row_75 : decode cX12_row 75 = .ok (.iinc 4 1, 3) := by decide +kernel
theorem dX12_row_78 : decode cX12_row 78 = .ok (.goto (-23), 3) := by decide +kernel
theorem dX12_row_81 : decode cX12_row 81 = .ok (.aload_n 0, 1) := by decide +kernel
theorem dX12_row_82 : decode cX12_row 82 = .ok (.iload_n 3, 1) := by decide +kernel
theorem dX12_row_83 : decode cX12_row 83 = .ok (.invokevirtual 75, 3) := by decide +kernel
theorem dX12_row_86 : decode cX12_row 86 = .ok (.ireturn, 1) := by decide +kernel
theorem dX12_asLane_0 : decode cX12_asLane 0 = .ok (.iload_n 0, 1) := by decide +kernel
theorem dX12_asLane_1 : decode cX12_asLane 1 = .ok (.ifCond .ne 13, 3) := by decide +kernel
theorem dX12_asLane_4 : decode cX12_asLane 4 = .ok (.iload_n 1, 1) := by decide +kernel
theorem dX12_asLane_5 : decode cX12_asLane 5 = .ok (.bipush 24, 2) := by decide +kernel
theorem dX12_asLane_7 : decode cX12_asLane 7 = .ok (.ishl, 1) := by decide +kernel
theorem dX12_asLane_8 : decode cX12_asLane 8 = .ok (.bipush 24, 2) := by decide +kernel
theorem dX12_asLane_10 : decode cX12_asLane 10 = .ok (.ishr, 1) := by decide +kernel
theorem dX12_asLane_11 : decode cX12_asLane 11 = .ok (.goto 19, 3) := by decide +kernel
theorem dX12_asLane_14 : decode cX12_asLane 14 = .ok (.iload_n 0, 1) := by decide +kernel
theorem dX12_asLane_15 : decode cX12_asLane 15 = .ok (.iconst 1, 1) := by decide +kernel
theorem dX12_asLane_16 : decode cX12_asLane 16 = .ok (.if_icmp .ne 13, 3) := by decide +kernel
theorem dX12_asLane_19 : decode cX12_asLane 19 = .ok (.iload_n 1, 1) := by decide +kernel
theorem dX12_asLane_20 : decode cX12_asLane 20 = .ok (.bipush 16, 2) := by decide +kernel
theorem dX12_asLane_22 : decode cX12_asLane 22 = .ok (.ishl, 1) := by decide +kernel
theorem dX12_asLane_23 : decode cX12_asLane 23 = .ok (.bipush 16, 2) := by decide +kernel
theorem dX12_asLane_25 : decode cX12_asLane 25 = .ok (.ishr, 1) := by decide +kernel
theorem dX12_asLane_26 : decode cX12_asLane 26 = .ok (.goto 4, 3) := by decide +kernel
theorem dX12_asLane_29 : decode cX12_asLane 29 = .ok (.iload_n 1, 1) := by decide +kernel
theorem dX12_asLane_30 : decode cX12_asLane 30 = .ok (.ireturn, 1) := by decide +kernel
theorem dX12_set_0 : decode cX12_set 0 = .ok (.iload_n 1, 1) := by decide +kernel
theorem dX12_set_1 : decode cX12_set 1 = .ok (.invokestatic 64, 3) := by decide +kernel
theorem dX12_set_4 : decode cX12_set 4 = .ok (.ifCond .ne 6, 3) := by decide +kernel
theorem dX12_set_7 : decode cX12_set 7 = .ok (.ldc 70, 2) := by decide +kernel
theorem dX12_set_9 : decode cX12_set 9 = .ok (.ireturn, 1) := by decide +kernel
theorem dX12_set_10 : decode cX12_set 10 = .ok (.aload_n 0, 1) := by decide +kernel
theorem dX12_set_11 : decode cX12_set 11 = .ok (.getfield 13, 3) := by decide +kernel
theorem dX12_set_14 : decode cX12_set 14 = .ok (.iload_n 1, 1) := by decide +kernel
theorem dX12_set_15 : decode cX12_set 15 = .ok (.iaload, 1) := by decide +kernel
theorem dX12_set_16 : decode cX12_set 16 = .ok (.ifCond .ge 9, 3) := by decide +kernel
theorem dX12_set_19 : decode cX12_set 19 = .ok (.aload_n 0, 1) := by decide +kernel
theorem dX12_set_20 : decode cX12_set 20 = .ok (.iconst 1, 1) := by decide +kernel
theorem dX12_set_21 : decode cX12_set 21 = .ok (.invokevirtual 71, 3) := by decide +kernel
theorem dX12_set_24 : decode cX12_set 24 = .ok (.ireturn, 1) := by decide +kernel
theorem dX12_set_25 : decode cX12_set 25 = .ok (.iload_n 2, 1) := by decide +kernel
theorem dX12_set_26 : decode cX12_set 26 = .ok (.i2l, 1) := by decide +kernel
theorem dX12_set_27 : decode cX12_set 27 = .ok (.lconst 0, 1) := by decide +kernel
theorem dX12_set_28 : decode cX12_set 28 = .ok (.aload_n 0, 1) := by decide +kernel
theorem dX12_set_29 : decode cX12_set 29 = .ok (.getfield 13, 3) := by decide +kernel
theorem dX12_set_32 : decode cX12_set 32 = .ok (.iload_n 1, 1) := by decide +kernel
theorem dX12_set_33 : decode cX12_set 33 = .ok (.iaload, 1) := by decide +kernel
theorem dX12_set_34 : decode cX12_set 34 = .ok (.iconst 1, 1) := by decide +kernel
theorem dX12_set_35 : decode cX12_set 35 = .ok (.isub, 1) := by decide +kernel
theorem dX12_set_36 : decode cX12_set 36 = .ok (.i2l, 1) := by decide +kernel
theorem dX12_set_37 : decode cX12_set 37 = .ok (.invokestatic 60, 3) := by decide +kernel
theorem dX12_set_40 : decode cX12_set 40 = .ok (.ifCond .ne 9, 3) := by decide +kernel
theorem dX12_set_43 : decode cX12_set 43 = .ok (.aload_n 0, 1) := by decide +kernel
theorem dX12_set_44 : decode cX12_set 44 = .ok (.iconst 2, 1) := by decide +kernel
theorem dX12_set_45 : decode cX12_set 45 = .ok (.invokevirtual 71, 3) := by decide +kernel
theorem dX12_set_48 : decode cX12_set 48 = .ok (.ireturn, 1) := by decide +kernel
theorem dX12_set_49 : decode cX12_set 49 = .ok (.aload_n 0, 1) := by decide +kernel
theorem dX12_set_50 : decode cX12_set 50 = .ok (.getfield 16, 3) := by decide +kernel
theorem dX12_set_53 : decode cX12_set 53 = .ok (.bipush 40, 2) := by decide +kernel
theorem dX12_set_55 : decode cX12_set 55 = .ok (.iload_n 1, 1) := by decide +kernel
theorem dX12_set_56 : decode cX12_set 56 = .ok (.imul, 1) := by decide +kernel
theorem dX12_set_57 : decode cX12_set 57 = .ok (.iload_n 2, 1) := by decide +kernel
theorem dX12_set_58 : decode cX12_set 58 = .ok (.iadd, 1) := by decide +kernel
theorem dX12_set_59 : decode cX12_set 59 = .ok (.aload_n 0, 1) := by decide +kernel
theorem dX12_set_60 : decode cX12_set 60 = .ok (.getfield 7, 3) := by decide +kernel
theorem dX12_set_63 : decode cX12_set 63 = .ok (.iload_n 1, 1) := by decide +kernel
theorem dX12_set_64 : decode cX12_set 64 = .ok (.iaload, 1) := by decide +kernel
theorem dX12_set_65 : decode cX12_set 65 = .ok (.iload_n 3, 1) := by decide +kernel
theorem dX12_set_66 : decode cX12_set 66 = .ok (.invokestatic 78, 3) := by decide +kernel
theorem dX12_set_69 : decode cX12_set 69 = .ok (.iastore, 1) := by decide +kernel
theorem dX12_set_70 : decode cX12_set 70 = .ok (.aload_n 0, 1) := by decide +kernel
theorem dX12_set_71 : decode cX12_set 71 = .ok (.aload_n 0, 1) := by decide +kernel
theorem dX12_set_72 : decode cX12_set 72 = .ok (.getfield 16, 3) := by decide +kernel
theorem dX12_set_75 : decode cX12_set 75 = .ok (.bipush 40, 2) := by decide +kernel
theorem dX12_set_77 : decode cX12_set 77 = .ok (.iload_n 1, 1) := by decide +kernel
theorem dX12_set_78 : decode cX12_set 78 = .ok (.imul, 1) := by decide +kernel
theorem dX12_set_79 : decode cX12_set 79 = .ok (.iload_n 2, 1) := by decide +kernel
theorem dX12_set_80 : decode cX12_set 80 = .ok (.iadd, 1) := by decide +kernel
theorem dX12_set_81 : decode cX12_set 81 = .ok (.iaload, 1) := by decide +kernel
theorem dX12_set_82 : decode cX12_set 82 = .ok (.invokevirtual 75, 3) := by decide +kernel
theorem dX12_set_85 : decode cX12_set 85 = .ok (.ireturn, 1) := by decide +kernel
theorem dX12_copy_0 : decode cX12_copy 0 = .ok (.iload_n 1, 1) := by decide +kernel
theorem dX12_copy_1 : decode cX12_copy 1 = .ok (.invokestatic 64, 3) := by decide +kernel
theorem dX12_copy_4 : decode cX12_copy 4 = .ok (.ifCond .eq 10, 3) := by decide +kernel
theorem dX12_copy_7 : decode cX12_copy 7 = .ok (.iload_n 3, 1) := by decide +kernel
theorem dX12_copy_8 : decode cX12_copy 8 = .ok (.invokestatic 64, 3) := by decide +kernel
theorem dX12_copy_11 : decode cX12_copy 11 = .ok (.ifCond .ne 6, 3) := by decide +kernel
theorem dX12_copy_14 : decode cX12_copy 14 = .ok (.ldc 70, 2) := by decide +kernel
theorem dX12_copy_16 : decode cX12_copy 16 = .ok (.ireturn, 1) := by decide +kernel
theorem dX12_copy_17 : decode cX12_copy 17 = .ok (.aload_n 0, 1) := by decide +kernel
theorem dX12_copy_18 : decode cX12_copy 18 = .ok (.getfield 13, 3) := by decide +kernel
theorem dX12_copy_21 : decode cX12_copy 21 = .ok (.iload_n 1, 1) := by decide +kernel
theorem dX12_copy_22 : decode cX12_copy 22 = .ok (.iaload, 1) := by decide +kernel
theorem dX12_copy_23 : decode cX12_copy 23 = .ok (.ifCond .lt 12, 3) := by decide +kernel
theorem dX12_copy_26 : decode cX12_copy 26 = .ok (.aload_n 0, 1) := by decide +kernel
theorem dX12_copy_27 : decode cX12_copy 27 = .ok (.getfield 13, 3) := by decide +kernel
theorem dX12_copy_30 : decode cX12_copy 30 = .ok (.iload_n 3, 1) := by decide +kernel
theorem dX12_copy_31 : decode cX12_copy 31 = .ok (.iaload, 1) := by decide +kernel
theorem dX12_copy_32 : decode cX12_copy 32 = .ok (.ifCond .ge 9, 3) := by decide +kernel
theorem dX12_copy_35 : decode cX12_copy 35 = .ok (.aload_n 0, 1) := by decide +kernel
theorem dX12_copy_36 : decode cX12_copy 36 = .ok (.iconst 1, 1) := by decide +kernel
theorem dX12_copy_37 : decode cX12_copy 37 = .ok (.invokevirtual 71, 3) := by decide +kernel
theorem dX12_copy_40 : decode cX12_copy 40 = .ok (.ireturn, 1) := by decide +kernel
theorem dX12_copy_41 : decode cX12_copy 41 = .ok (.aload_n 0, 1) := by decide +kernel
theorem dX12_copy_42 : decode cX12_copy 42 = .ok (.getfield 7, 3) := by decide +kernel
theorem dX12_copy_45 : decode cX12_copy 45 = .ok (.iload_n 1, 1) := by decide +kernel
theorem dX12_copy_46 : decode cX12_copy 46 = .ok (.iaload, 1) := by decide +kernel
theorem dX12_copy_47 : decode cX12_copy 47 = .ok (.aload_n 0, 1) := by decide +kernel
theorem dX12_copy_48 : decode cX12_copy 48 = .ok (.getfield 7, 3) := by decide +kernel
theorem dX12_copy_51 : decode cX12_copy 51 = .ok (.iload_n 3, 1) := by decide +kernel
theorem dX12_copy_52 : decode cX12_copy 52 = .ok (.iaload, 1) := by decide +kernel
theorem dX12_copy_53 : decode cX12_copy 53 = .ok (.if_icmp .eq 9, 3) := by decide +kernel
theorem dX12_copy_56 : decode cX12_copy 56 = .ok (.aload_n 0, 1) := by decide +kernel
theorem dX12_copy_57 : decode cX12_copy 57 = .ok (.iconst 5, 1) := by decide +kernel
theorem dX12_copy_58 : decode cX12_copy 58 = .ok (.invokevirtual 71, 3) := by decide +kernel
theorem dX12_copy_61 : decode cX12_copy 61 = .ok (.ireturn, 1) := by decide +kernel
theorem dX12_copy_62 : decode cX12_copy 62 = .ok (.iload 5, 2) := by decide +kernel
theorem dX12_copy_64 : decode cX12_copy 64 = .ok (.ifCond .lt 44, 3) := by decide +kernel
theorem dX12_copy_67 : decode cX12_copy 67 = .ok (.iload_n 2, 1) := by decide +kernel
theorem dX12_copy_68 : decode cX12_copy 68 = .ok (.i2l, 1) := by decide +kernel
theorem dX12_copy_69 : decode cX12_copy 69 = .ok (.lconst 0, 1) := by decide +kernel
theorem dX12_copy_70 : decode cX12_copy 70 = .ok (.aload_n 0, 1) := by decide +kernel
theorem dX12_copy_71 : decode cX12_copy 71 = .ok (.getfield 13, 3) := by decide +kernel
theorem dX12_copy_74 : decode cX12_copy 74 = .ok (.iload_n 1, 1) := by decide +kernel
theorem dX12_copy_75 : decode cX12_copy 75 = .ok (.iaload, 1) := by decide +kernel
theorem dX12_copy_76 : decode cX12_copy 76 = .ok (.i2l, 1) := by decide +kernel
theorem dX12_copy_77 : decode cX12_copy 77 = .ok (.iload 5, 2) := by decide +kernel
theorem dX12_copy_79 : decode cX12_copy 79 = .ok (.i2l, 1) := by decide +kernel
theorem dX12_copy_80 : decode cX12_copy 80 = .ok (.lsub, 1) := by decide +kernel
theorem dX12_copy_81 : decode cX12_copy 81 = .ok (.invokestatic 60, 3) := by decide +kernel
theorem dX12_copy_84 : decode cX12_copy 84 = .ok (.ifCond .eq 24, 3) := by decide +kernel
theorem dX12_copy_87 : decode cX12_copy 87 = .ok (.iload 4, 2) := by decide +kernel
theorem dX12_copy_89 : decode cX12_copy 89 = .ok (.i2l, 1) := by decide +kernel
theorem dX12_copy_90 : decode cX12_copy 90 = .ok (.lconst 0, 1) := by decide +kernel
theorem dX12_copy_91 : decode cX12_copy 91 = .ok (.aload_n 0, 1) := by decide +kernel
theorem dX12_copy_92 : decode cX12_copy 92 = .ok (.getfield 13, 3) := by decide +kernel
theorem dX12_copy_95 : decode cX12_copy 95 = .ok (.iload_n 3, 1) := by decide +kernel
theorem dX12_copy_96 : decode cX12_copy 96 = .ok (.iaload, 1) := by decide +kernel
theorem dX12_copy_97 : decode cX12_copy 97 = .ok (.i2l, 1) := by decide +kernel
theorem dX12_copy_98 : decode cX12_copy 98 = .ok (.iload 5, 2) := by decide +kernel
theorem dX12_copy_100 : decode cX12_copy 100 = .ok (.i2l, 1) := by decide +kernel
theorem dX12_copy_101 : decode cX12_copy 101 = .ok (.lsub, 1) := by decide +kernel
theorem dX12_copy_102 : decode cX12_copy 102 = .ok (.invokestatic 60, 3) := by decide +kernel
theorem dX12_copy_105 : decode cX12_copy 105 = .ok (.ifCond .ne 9, 3) := by decide +kernel
theorem dX12_copy_108 : decode cX12_copy 108 = .ok (.aload_n 0, 1) := by decide +kernel
theorem dX12_copy_109 : decode cX12_copy 109 = .ok (.iconst 2, 1) := by decide +kernel
theorem dX12_copy_110 : decode cX12_copy 110 = .ok (.invokevirtual 71, 3) := by decide +kernel
theorem dX12_copy_113 : decode cX12_copy 113 = .ok (.ireturn, 1) := by decide +kernel
theorem dX12_copy_114 : decode cX12_copy 114 = .ok (.iconst 0, 1) := by decide +kernel
theorem dX12_copy_115 : decode cX12_copy 115 = .ok (.istore 6, 2) := by decide +kernel
theorem dX12_copy_117 : decode cX12_copy 117 = .ok (.iload 6, 2) := by decide +kernel
theorem dX12_copy_119 : decode cX12_copy 119 = .ok (.iload 5, 2) := by decide +kernel
theorem dX12_copy_121 : decode cX12_copy 121 = .ok (.if_icmp .ge 30, 3) := by decide +kernel
theorem dX12_copy_124 : decode cX12_copy 124 = .ok (.aload_n 0, 1) := by decide +kernel
theorem dX12_copy_125 : decode cX12_copy 125 = .ok (.getfield 22, 3) := by decide +kernel
theorem dX12_copy_128 : decode cX12_copy 128 = .ok (.iload 6, 2) := by decide +kernel
theorem dX12_copy_130 : decode cX12_copy 130 = .ok (.aload_n 0, 1) := by decide +kernel
theorem dX12_copy_131 : decode cX12_copy 131 = .ok (.getfield 16, 3) := by decide +kernel
theorem dX12_copy_134 : decode cX12_copy 134 = .ok (.bipush 40, 2) := by decide +kernel
theorem dX12_copy_136 : decode cX12_copy 136 = .ok (.iload_n 1, 1) := by decide +kernel
theorem dX12_copy_137 : decode cX12_copy 137 = .ok (.imul, 1) := by decide +kernel
theorem dX12_copy_138 : decode cX12_copy 138 = .ok (.iload_n 2, 1) := by decide +kernel
theorem dX12_copy_139 : decode cX12_copy 139 = .ok (.iadd, 1) := by decide +kernel
theorem dX12_copy_140 : decode cX12_copy 140 = .ok (.iload 6, 2) := by decide +kernel
theorem dX12_copy_142 : decode cX12_copy 142 = .ok (.iadd, 1) := by decide +kernel
theorem dX12_copy_143 : decode cX12_copy 143 = .ok (.iaload, 1) := by decide +kernel
theorem dX12_copy_144 : decode cX12_copy 144 = .ok (.iastore, 1) := by decide +kernel
theorem dX12_copy_145 : decode cX12_copy 145 = .ok (.iinc 6 1, 3) := by decide +kernel
theorem dX12_copy_148 : decode cX12_copy 148 = .ok (.goto (-31), 3) := by decide +kernel
theorem dX12_copy_151 : decode cX12_copy 151 = .ok (.iconst 0, 1) := by decide +kernel
theorem dX12_copy_152 : decode cX12_copy 152 = .ok (.istore 6, 2) := by decide +kernel
theorem dX12_copy_154 : decode cX12_copy 154 = .ok (.iload 6, 2) := by decide +kernel
theorem dX12_copy_156 : decode cX12_copy 156 = .ok (.iload 5, 2) := by decide +kernel
theorem dX12_copy_158 : decode cX12_copy 158 = .ok (.if_icmp .ge 31, 3) := by decide +kernel
theorem dX12_copy_161 : decode cX12_copy 161 = .ok (.aload_n 0, 1) := by decide +kernel
theorem dX12_copy_162 : decode cX12_copy 162 = .ok (.getfield 16, 3) := by decide +kernel
theorem dX12_copy_165 : decode cX12_copy 165 = .ok (.bipush 40, 2) := by decide +kernel
theorem dX12_copy_167 : decode cX12_copy 167 = .ok (.iload_n 3, 1) := by decide +kernel
theorem dX12_copy_168 : decode cX12_copy 168 = .ok (.imul, 1) := by decide +kernel
theorem dX12_copy_169 : decode cX12_copy 169 = .ok (.iload 4, 2) := by decide +kernel
theorem dX12_copy_171 : decode cX12_copy 171 = .ok (.iadd, 1) := by decide +kernel
theorem dX12_copy_172 : decode cX12_copy 172 = .ok (.iload 6, 2) := by decide +kernel
theorem dX12_copy_174 : decode cX12_copy 174 = .ok (.iadd, 1) := by decide +kernel
theorem dX12_copy_175 : decode cX12_copy 175 = .ok (.aload_n 0, 1) := by decide +kernel
theorem dX12_copy_176 : decode cX12_copy 176 = .ok (.getfield 22, 3) := by decide +kernel
theorem dX12_copy_179 : decode cX12_copy 179 = .ok (.iload 6, 2) := by decide +kernel
theorem dX12_copy_181 : decode cX12_copy 181 = .ok (.iaload, 1) := by decide +kernel
theorem dX12_copy_182 : decode cX12_copy 182 = .ok (.iastore, 1) := by decide +kernel
theorem dX12_copy_183 : decode cX12_copy 183 = .ok (.iinc 6 1, 3) := by decide +kernel
theorem dX12_copy_186 : decode cX12_copy 186 = .ok (.goto (-32), 3) := by decide +kernel
theorem dX12_copy_189 : decode cX12_copy 189 = .ok (.aload_n 0, 1) := by decide +kernel
theorem dX12_copy_190 : decode cX12_copy 190 = .ok (.iload 5, 2) := by decide +kernel
theorem dX12_copy_192 : decode cX12_copy 192 = .ok (.invokevirtual 75, 3) := by decide +kernel
theorem dX12_copy_195 : decode cX12_copy 195 = .ok (.ireturn, 1) := by decide +kernel
theorem dX12_drop_0 : decode cX12_drop 0 = .ok (.iload_n 1, 1) := by decide +kernel
theorem dX12_drop_1 : decode cX12_drop 1 = .ok (.invokestatic 64, 3) := by decide +kernel
theorem dX12_drop_4 : decode cX12_drop 4 = .ok (.ifCond .ne 6, 3) := by decide +kernel
theorem dX12_drop_7 : decode cX12_drop 7 = .ok (.ldc 70, 2) := by decide +kernel
theorem dX12_drop_9 : decode cX12_drop 9 = .ok (.ireturn, 1) := by decide +kernel
theorem dX12_drop_10 : decode cX12_drop 10 = .ok (.aload_n 0, 1) := by decide +kernel
theorem dX12_drop_11 : decode cX12_drop 11 = .ok (.getfield 13, 3) := by decide +kernel
theorem dX12_drop_14 : decode cX12_drop 14 = .ok (.iload_n 1, 1) := by decide +kernel
theorem dX12_drop_15 : decode cX12_drop 15 = .ok (.iaload, 1) := by decide +kernel
theorem dX12_drop_16 : decode cX12_drop 16 = .ok (.ifCond .ge 9, 3) := by decide +kernel
theorem dX12_drop_19 : decode cX12_drop 19 = .ok (.aload_n 0, 1) := by decide +kernel
theorem dX12_drop_20 : decode cX12_drop 20 = .ok (.iconst 1, 1) := by decide +kernel
theorem dX12_drop_21 : decode cX12_drop 21 = .ok (.invokevirtual 71, 3) := by decide +kernel
theorem dX12_drop_24 : decode cX12_drop 24 = .ok (.ireturn, 1) := by decide +kernel
theorem dX12_drop_25 : decode cX12_drop 25 = .ok (.aload_n 0, 1) := by decide +kernel
theorem dX12_drop_26 : decode cX12_drop 26 = .ok (.getfield 13, 3) := by decide +kernel
theorem dX12_drop_29 : decode cX12_drop 29 = .ok (.iload_n 1, 1) := by decide +kernel
theorem dX12_drop_30 : decode cX12_drop 30 = .ok (.iaload, 1) := by decide +kernel
theorem dX12_drop_31 : decode cX12_drop 31 = .ok (.istore_n 2, 1) := by decide +kernel
theorem dX12_drop_32 : decode cX12_drop 32 = .ok (.aload_n 0, 1) := by decide +kernel
theorem dX12_drop_33 : decode cX12_drop 33 = .ok (.getfield 13, 3) := by decide +kernel
theorem dX12_drop_36 : decode cX12_drop 36 = .ok (.iload_n 1, 1) := by decide +kernel
theorem dX12_drop_37 : decode cX12_drop 37 = .ok (.iconst (-1), 1) := by decide +kernel
theorem dX12_drop_38 : decode cX12_drop 38 = .ok (.iastore, 1) := by decide +kernel
theorem dX12_drop_39 : decode cX12_drop 39 = .ok (.aload_n 0, 1) := by decide +kernel
theorem dX12_drop_40 : decode cX12_drop 40 = .ok (.iload_n 2, 1) := by decide +kernel
theorem dX12_drop_41 : decode cX12_drop 41 = .ok (.invokevirtual 75, 3) := by decide +kernel
theorem dX12_drop_44 : decode cX12_drop 44 = .ok (.ireturn, 1) := by decide +kernel
theorem dX12_feed_0 : decode cX12_feed 0 = .ok (.iload_n 1, 1) := by decide +kernel
theorem dX12_feed_1 : decode cX12_feed 1 = .ok (.i2l, 1) := by decide +kernel
theorem dX12_feed_2 : decode cX12_feed 2 = .ok (.lconst 0, 1) := by decide +kernel
theorem dX12_feed_3 : decode cX12_feed 3 = .ok (.ldc2_w 82, 3) := by decide +kernel
theorem dX12_feed_6 : decode cX12_feed 6 = .ok (.invokestatic 60, 3) := by decide +kernel
theorem dX12_feed_9 : decode cX12_feed 9 = .ok (.ifCond .ne 6, 3) := by decide +kernel
theorem dX12_feed_12 : decode cX12_feed 12 = .ok (.ldc 70, 2) := by decide +kernel
theorem dX12_feed_14 : decode cX12_feed 14 = .ok (.ireturn, 1) := by decide +kernel
theorem dX12_feed_15 : decode cX12_feed 15 = .ok (.aload_n 0, 1) := by decide +kernel
theorem dX12_feed_16 : decode cX12_feed 16 = .ok (.getfield 84, 3) := by decide +kernel
theorem dX12_feed_19 : decode cX12_feed 19 = .ok (.bipush 100, 2) := by decide +kernel
theorem dX12_feed_21 : decode cX12_feed 21 = .ok (.if_icmp .ne 6, 3) := by decide +kernel
theorem dX12_feed_24 : decode cX12_feed 24 = .ok (.ldc 87, 2) := by decide +kernel
theorem dX12_feed_26 : decode cX12_feed 26 = .ok (.ireturn, 1) := by decide +kernel
theorem dX12_feed_27 : decode cX12_feed 27 = .ok (.aload_n 0, 1) := by decide +kernel
theorem dX12_feed_28 : decode cX12_feed 28 = .ok (.getfield 25, 3) := by decide +kernel
theorem dX12_feed_31 : decode cX12_feed 31 = .ok (.aload_n 0, 1) := by decide +kernel
theorem dX12_feed_32 : decode cX12_feed 32 = .ok (.getfield 84, 3) := by decide +kernel
theorem dX12_feed_35 : decode cX12_feed 35 = .ok (.iload_n 1, 1) := by decide +kernel
theorem dX12_feed_36 : decode cX12_feed 36 = .ok (.iastore, 1) := by decide +kernel
theorem dX12_feed_37 : decode cX12_feed 37 = .ok (.aload_n 0, 1) := by decide +kernel
theorem dX12_feed_38 : decode cX12_feed 38 = .ok (.dup, 1) := by decide +kernel
theorem dX12_feed_39 : decode cX12_feed 39 = .ok (.getfield 84, 3) := by decide +kernel
theorem dX12_feed_42 : decode cX12_feed 42 = .ok (.iconst 1, 1) := by decide +kernel
theorem dX12_feed_43 : decode cX12_feed 43 = .ok (.iadd, 1) := by decide +kernel
theorem dX12_feed_44 : decode cX12_feed 44 = .ok (.putfield 84, 3) := by decide +kernel
theorem dX12_feed_47 : decode cX12_feed 47 = .ok (.aload_n 0, 1) := by decide +kernel
theorem dX12_feed_48 : decode cX12_feed 48 = .ok (.getfield 84, 3) := by decide +kernel
theorem dX12_feed_51 : decode cX12_feed 51 = .ok (.ireturn, 1) := by decide +kernel
theorem dX12_nextToken_0 : decode cX12_nextToken 0 = .ok (.aload_n 0, 1) := by decide +kernel
theorem dX12_nextToken_1 : decode cX12_nextToken 1 = .ok (.aload_n 0, 1) := by decide +kernel
theorem dX12_nextToken_2 : decode cX12_nextToken 2 = .ok (.getfield 88, 3) := by decide +kernel
theorem dX12_nextToken_5 : decode cX12_nextToken 5 = .ok (.putfield 91, 3) := by decide +kernel
theorem dX12_nextToken_8 : decode cX12_nextToken 8 = .ok (.aload_n 0, 1) := by decide +kernel
theorem dX12_nextToken_9 : decode cX12_nextToken 9 = .ok (.aload_n 0, 1) := by decide +kernel
theorem dX12_nextToken_10 : decode cX12_nextToken 10 = .ok (.getfield 88, 3) := by decide +kernel
theorem dX12_nextToken_13 : decode cX12_nextToken 13 = .ok (.aload_n 0, 1) := by decide +kernel
theorem dX12_nextToken_14 : decode cX12_nextToken 14 = .ok (.getfield 84, 3) := by decide +kernel
theorem dX12_nextToken_17 : decode cX12_nextToken 17 = .ok (.if_icmp .ne 7, 3) := by decide +kernel
theorem dX12_nextToken_20 : decode cX12_nextToken 20 = .ok (.iconst 3, 1) := by decide +kernel
theorem dX12_nextToken_21 : decode cX12_nextToken 21 = .ok (.goto 4, 3) := by decide +kernel
theorem dX12_nextToken_24 : decode cX12_nextToken 24 = .ok (.iconst 0, 1) := by decide +kernel
theorem dX12_nextToken_25 : decode cX12_nextToken 25 = .ok (.putfield 94, 3) := by decide +kernel
theorem dX12_nextToken_28 : decode cX12_nextToken 28 = .ok (.aload_n 0, 1) := by decide +kernel
theorem dX12_nextToken_29 : decode cX12_nextToken 29 = .ok (.iconst 0, 1) := by decide +kernel
theorem dX12_nextToken_30 : decode cX12_nextToken 30 = .ok (.putfield 97, 3) := by decide +kernel
theorem dX12_nextToken_33 : decode cX12_nextToken 33 = .ok (.aload_n 0, 1) := by decide +kernel
theorem dX12_nextToken_34 : decode cX12_nextToken 34 = .ok (.getfield 88, 3) := by decide +kernel
theorem dX12_nextToken_37 : decode cX12_nextToken 37 = .ok (.aload_n 0, 1) := by decide +kernel
theorem dX12_nextToken_38 : decode cX12_nextToken 38 = .ok (.getfield 84, 3) := by decide +kernel
theorem dX12_nextToken_41 : decode cX12_nextToken 41 = .ok (.if_icmp .ge 78, 3) := by decide +kernel
theorem dX12_nextToken_44 : decode cX12_nextToken 44 = .ok (.aload_n 0, 1) := by decide +kernel
theorem dX12_nextToken_45 : decode cX12_nextToken 45 = .ok (.getfield 25, 3) := by decide +kernel
theorem dX12_nextToken_48 : decode cX12_nextToken 48 = .ok (.aload_n 0, 1) := by decide +kernel
theorem dX12_nextToken_49 : decode cX12_nextToken 49 = .ok (.getfield 88, 3) := by decide +kernel
theorem dX12_nextToken_52 : decode cX12_nextToken 52 = .ok (.iaload, 1) := by decide +kernel
theorem dX12_nextToken_53 : decode cX12_nextToken 53 = .ok (.i2l, 1) := by decide +kernel
theorem dX12_nextToken_54 : decode cX12_nextToken 54 = .ok (.ldc2_w 100, 3) := by decide +kernel
theorem dX12_nextToken_57 : decode cX12_nextToken 57 = .ok (.ldc2_w 102, 3) := by decide +kernel
theorem dX12_nextToken_60 : decode cX12_nextToken 60 = .ok (.invokestatic 60, 3) := by decide +kernel
theorem dX12_nextToken_63 : decode cX12_nextToken 63 = .ok (.ifCond .eq 56, 3) := by decide +kernel
theorem dX12_nextToken_66 : decode cX12_nextToken 66 = .ok (.aload_n 0, 1) := by decide +kernel
theorem dX12_nextToken_67 : decode cX12_nextToken 67 = .ok (.aload_n 0, 1) := by decide +kernel
theorem dX12_nextToken_68 : decode cX12_nextToken 68 = .ok (.getfield 97, 3) := by decide +kernel
theorem dX12_nextToken_71 : decode cX12_nextToken 71 = .ok (.bipush 99, 2) := by decide +kernel
theorem dX12_nextToken_73 : decode cX12_nextToken 73 = .ok (.if_icmp .le 10, 3) := by decide +kernel
theorem dX12_nextToken_76 : decode cX12_nextToken 76 = .ok (.aload_n 0, 1) := by decide +kernel
theorem dX12_nextToken_77 : decode cX12_nextToken 77 = .ok (.getfield 97, 3) := by decide +kernel
theorem dX12_nextToken_80 : decode cX12_nextToken 80 = .ok (.goto 23, 3) := by decide +kernel
theorem dX12_nextToken_83 : decode cX12_nextToken 83 = .ok (.bipush 10, 2) := by decide +kernel
theorem dX12_nextToken_85 : decode cX12_nextToken 85 = .ok (.aload_n 0, 1) := by decide +kernel
theorem dX12_nextToken_86 : decode cX12_nextToken 86 = .ok (.getfield 97, 3) := by decide +kernel
theorem dX12_nextToken_89 : decode cX12_nextToken 89 = .ok (.imul, 1) := by decide +kernel
theorem dX12_nextToken_90 : decode cX12_nextToken 90 = .ok (.aload_n 0, 1) := by decide +kernel
theorem dX12_nextToken_91 : decode cX12_nextToken 91 = .ok (.getfield 25, 3) := by decide +kernel
theorem dX12_nextToken_94 : decode cX12_nextToken 94 = .ok (.aload_n 0, 1) := by decide +kernel
theorem dX12_nextToken_95 : decode cX12_nextToken 95 = .ok (.getfield 88, 3) := by decide +kernel
theorem dX12_nextToken_98 : decode cX12_nextToken 98 = .ok (.iaload, 1) := by decide +kernel
theorem dX12_nextToken_99 : decode cX12_nextToken 99 = .ok (.iadd, 1) := by decide +kernel
theorem dX12_nextToken_100 : decode cX12_nextToken 100 = .ok (.bipush 48, 2) := by decide +kernel
theorem dX12_nextToken_102 : decode cX12_nextToken 102 = .ok (.isub, 1) := by decide +kernel
theorem dX12_nextToken_103 : decode cX12_nextToken 103 = .ok (.putfield 97, 3) := by decide +kernel
theorem dX12_nextToken_106 : decode cX12_nextToken 106 = .ok (.aload_n 0, 1) := by decide +kernel
theorem dX12_nextToken_107 : decode cX12_nextToken 107 = .ok (.dup, 1) := by decide +kernel
theorem dX12_nextToken_108 : decode cX12_nextToken 108 = .ok (.getfield 88, 3) := by decide +kernel
theorem dX12_nextToken_111 : decode cX12_nextToken 111 = .ok (.iconst 1, 1) := by decide +kernel
theorem dX12_nextToken_112 : decode cX12_nextToken 112 = .ok (.iadd, 1) := by decide +kernel
theorem dX12_nextToken_113 : decode cX12_nextToken 113 = .ok (.putfield 88, 3) := by decide +kernel
theorem dX12_nextToken_116 : decode cX12_nextToken 116 = .ok (.goto (-83), 3) := by decide +kernel
theorem dX12_nextToken_119 : decode cX12_nextToken 119 = .ok (.aload_n 0, 1) := by decide +kernel
theorem dX12_nextToken_120 : decode cX12_nextToken 120 = .ok (.getfield 88, 3) := by decide +kernel
theorem dX12_nextToken_123 : decode cX12_nextToken 123 = .ok (.aload_n 0, 1) := by decide +kernel
theorem dX12_nextToken_124 : decode cX12_nextToken 124 = .ok (.getfield 91, 3) := by decide +kernel
theorem dX12_nextToken_127 : decode cX12_nextToken 127 = .ok (.if_icmp .le 28, 3) := by decide +kernel
theorem dX12_nextToken_130 : decode cX12_nextToken 130 = .ok (.aload_n 0, 1) := by decide +kernel
theorem dX12_nextToken_131 : decode cX12_nextToken 131 = .ok (.aload_n 0, 1) := by decide +kernel
theorem dX12_nextToken_132 : decode cX12_nextToken 132 = .ok (.getfield 88, 3) := by decide +kernel
theorem dX12_nextToken_135 : decode cX12_nextToken 135 = .ok (.aload_n 0, 1) := by decide +kernel
theorem dX12_nextToken_136 : decode cX12_nextToken 136 = .ok (.getfield 91, 3) := by decide +kernel
theorem dX12_nextToken_139 : decode cX12_nextToken 139 = .ok (.isub, 1) := by decide +kernel
theorem dX12_nextToken_140 : decode cX12_nextToken 140 = .ok (.iconst 2, 1) := by decide +kernel
theorem dX12_nextToken_141 : decode cX12_nextToken 141 = .ok (.if_icmp .le 7, 3) := by decide +kernel
theorem dX12_nextToken_144 : decode cX12_nextToken 144 = .ok (.iconst 0, 1) := by decide +kernel
theorem dX12_nextToken_145 : decode cX12_nextToken 145 = .ok (.goto 4, 3) := by decide +kernel
theorem dX12_nextToken_148 : decode cX12_nextToken 148 = .ok (.iconst 2, 1) := by decide +kernel
theorem dX12_nextToken_149 : decode cX12_nextToken 149 = .ok (.putfield 94, 3) := by decide +kernel
theorem dX12_nextToken_152 : decode cX12_nextToken 152 = .ok (.goto 77, 3) := by decide +kernel
theorem dX12_nextToken_155 : decode cX12_nextToken 155 = .ok (.aload_n 0, 1) := by decide +kernel
theorem dX12_nextToken_156 : decode cX12_nextToken 156 = .ok (.getfield 94, 3) := by decide +kernel
theorem dX12_nextToken_159 : decode cX12_nextToken 159 = .ok (.ifCond .ne 70, 3) := by decide +kernel
theorem dX12_nextToken_162 : decode cX12_nextToken 162 = .ok (.aload_n 0, 1) := by decide +kernel
theorem dX12_nextToken_163 : decode cX12_nextToken 163 = .ok (.aload_n 0, 1) := by decide +kernel
theorem dX12_nextToken_164 : decode cX12_nextToken 164 = .ok (.getfield 25, 3) := by decide +kernel
theorem dX12_nextToken_167 : decode cX12_nextToken 167 = .ok (.aload_n 0, 1) := by decide +kernel
theorem dX12_nextToken_168 : decode cX12_nextToken 168 = .ok (.getfield 88, 3) := by decide +kernel
theorem dX12_nextToken_171 : decode cX12_nextToken 171 = .ok (.iaload, 1) := by decide +kernel
theorem dX12_nextToken_172 : decode cX12_nextToken 172 = .ok (.putfield 97, 3) := by decide +kernel
theorem dX12_nextToken_175 : decode cX12_nextToken 175 = .ok (.aload_n 0, 1) := by decide +kernel
theorem dX12_nextToken_176 : decode cX12_nextToken 176 = .ok (.aload_n 0, 1) := by decide +kernel
theorem dX12_nextToken_177 : decode cX12_nextToken 177 = .ok (.getfield 97, 3) := by decide +kernel
theorem dX12_nextToken_180 : decode cX12_nextToken 180 = .ok (.i2l, 1) := by decide +kernel
theorem dX12_nextToken_181 : decode cX12_nextToken 181 = .ok (.ldc2_w 104, 3) := by decide +kernel
theorem dX12_nextToken_184 : decode cX12_nextToken 184 = .ok (.ldc2_w 106, 3) := by decide +kernel
theorem dX12_nextToken_187 : decode cX12_nextToken 187 = .ok (.invokestatic 60, 3) := by decide +kernel
theorem dX12_nextToken_190 : decode cX12_nextToken 190 = .ok (.ifCond .ne 21, 3) := by decide +kernel
theorem dX12_nextToken_193 : decode cX12_nextToken 193 = .ok (.aload_n 0, 1) := by decide +kernel
theorem dX12_nextToken_194 : decode cX12_nextToken 194 = .ok (.getfield 97, 3) := by decide +kernel
theorem dX12_nextToken_197 : decode cX12_nextToken 197 = .ok (.bipush 44, 2) := by decide +kernel
theorem dX12_nextToken_199 : decode cX12_nextToken 199 = .ok (.if_icmp .eq 12, 3) := by decide +kernel
theorem dX12_nextToken_202 : decode cX12_nextToken 202 = .ok (.aload_n 0, 1) := by decide +kernel
theorem dX12_nextToken_203 : decode cX12_nextToken 203 = .ok (.getfield 97, 3) := by decide +kernel
theorem dX12_nextToken_206 : decode cX12_nextToken 206 = .ok (.bipush 59, 2) := by decide +kernel
theorem dX12_nextToken_208 : decode cX12_nextToken 208 = .ok (.if_icmp .ne 7, 3) := by decide +kernel
theorem dX12_nextToken_211 : decode cX12_nextToken 211 = .ok (.iconst 1, 1) := by decide +kernel
theorem dX12_nextToken_212 : decode cX12_nextToken 212 = .ok (.goto 4, 3) := by decide +kernel
theorem dX12_nextToken_215 : decode cX12_nextToken 215 = .ok (.iconst 0, 1) := by decide +kernel
theorem dX12_nextToken_216 : decode cX12_nextToken 216 = .ok (.putfield 94, 3) := by decide +kernel
theorem dX12_nextToken_219 : decode cX12_nextToken 219 = .ok (.aload_n 0, 1) := by decide +kernel
theorem dX12_nextToken_220 : decode cX12_nextToken 220 = .ok (.dup, 1) := by decide +kernel
theorem dX12_nextToken_221 : decode cX12_nextToken 221 = .ok (.getfield 88, 3) := by decide +kernel
theorem dX12_nextToken_224 : decode cX12_nextToken 224 = .ok (.iconst 1, 1) := by decide +kernel
theorem dX12_nextToken_225 : decode cX12_nextToken 225 = .ok (.iadd, 1) := by decide +kernel
theorem dX12_nextToken_226 : decode cX12_nextToken 226 = .ok (.putfield 88, 3) := by decide +kernel
theorem dX12_nextToken_229 : decode cX12_nextToken 229 = .ok (.return_, 1) := by decide +kernel
theorem dX12_faults_0 : decode cX12_faults 0 = .ok (.aload_n 0, 1) := by decide +kernel
theorem dX12_faults_1 : decode cX12_faults 1 = .ok (.iload_n 1, 1) := by decide +kernel
theorem dX12_faults_2 : decode cX12_faults 2 = .ok (.putfield 108, 3) := by decide +kernel
theorem dX12_faults_5 : decode cX12_faults 5 = .ok (.iconst 0, 1) := by decide +kernel
theorem dX12_faults_6 : decode cX12_faults 6 = .ok (.ireturn, 1) := by decide +kernel
theorem dX12_isLetter_0 : decode cX12_isLetter 0 = .ok (.aload_n 0, 1) := by decide +kernel
theorem dX12_isLetter_1 : decode cX12_isLetter 1 = .ok (.getfield 94, 3) := by decide +kernel
theorem dX12_isLetter_4 : decode cX12_isLetter 4 = .ok (.iconst 1, 1) := by decide +kernel
theorem dX12_isLetter_5 : decode cX12_isLetter 5 = .ok (.if_icmp .ne 15, 3) := by decide +kernel
theorem dX12_isLetter_8 : decode cX12_isLetter 8 = .ok (.aload_n 0, 1) := by decide +kernel
theorem dX12_isLetter_9 : decode cX12_isLetter 9 = .ok (.getfield 97, 3) := by decide +kernel
theorem dX12_isLetter_12 : decode cX12_isLetter 12 = .ok (.iload_n 1, 1) := by decide +kernel
theorem dX12_isLetter_13 : decode cX12_isLetter 13 = .ok (.if_icmp .ne 7, 3) := by decide +kernel
theorem dX12_isLetter_16 : decode cX12_isLetter 16 = .ok (.iconst 1, 1) := by decide +kernel
theorem dX12_isLetter_17 : decode cX12_isLetter 17 = .ok (.goto 4, 3) := by decide +kernel
theorem dX12_isLetter_20 : decode cX12_isLetter 20 = .ok (.iconst 0, 1) := by decide +kernel
theorem dX12_isLetter_21 : decode cX12_isLetter 21 = .ok (.ireturn, 1) := by decide +kernel
theorem dX12_takes_0 : decode cX12_takes 0 = .ok (.aload_n 0, 1) := by decide +kernel
theorem dX12_takes_1 : decode cX12_takes 1 = .ok (.iload_n 1, 1) := by decide +kernel
theorem dX12_takes_2 : decode cX12_takes 2 = .ok (.invokevirtual 111, 3) := by decide +kernel
theorem dX12_takes_5 : decode cX12_takes 5 = .ok (.ifCond .ne 9, 3) := by decide +kernel
theorem dX12_takes_8 : decode cX12_takes 8 = .ok (.aload_n 0, 1) := by decide +kernel
theorem dX12_takes_9 : decode cX12_takes 9 = .ok (.iconst 1, 1) := by decide +kernel
theorem dX12_takes_10 : decode cX12_takes 10 = .ok (.invokevirtual 114, 3) := by decide +kernel
theorem dX12_takes_13 : decode cX12_takes 13 = .ok (.ireturn, 1) := by decide +kernel
theorem dX12_takes_14 : decode cX12_takes 14 = .ok (.aload_n 0, 1) := by decide +kernel
theorem dX12_takes_15 : decode cX12_takes 15 = .ok (.invokevirtual 117, 3) := by decide +kernel
theorem dX12_takes_18 : decode cX12_takes 18 = .ok (.iconst 1, 1) := by decide +kernel
theorem dX12_takes_19 : decode cX12_takes 19 = .ok (.ireturn, 1) := by decide +kernel
theorem dX12_takesNumber_0 : decode cX12_takesNumber 0 = .ok (.aload_n 0, 1) := by decide +kernel
theorem dX12_takesNumber_1 : decode cX12_takesNumber 1 = .ok (.getfield 94, 3) := by decide +kernel
theorem dX12_takesNumber_4 : decode cX12_takesNumber 4 = .ok (.iconst 2, 1) := by decide +kernel
theorem dX12_takesNumber_5 : decode cX12_takesNumber 5 = .ok (.if_icmp .ne 18, 3) := by decide +kernel
theorem dX12_takesNumber_8 : decode cX12_takesNumber 8 = .ok (.aload_n 0, 1) := by decide +kernel
theorem dX12_takesNumber_9 : decode cX12_takesNumber 9 = .ok (.getfield 97, 3) := by decide +kernel
theorem dX12_takesNumber_12 : decode cX12_takesNumber 12 = .ok (.i2l, 1) := by decide +kernel
theorem dX12_takesNumber_13 : decode cX12_takesNumber 13 = .ok (.iload_n 1, 1) := by decide +kernel
theorem dX12_takesNumber_14 : decode cX12_takesNumber 14 = .ok (.i2l, 1) := by decide +kernel
theorem dX12_takesNumber_15 : decode cX12_takesNumber 15 = .ok (.iload_n 2, 1) := by decide +kernel
theorem dX12_takesNumber_16 : decode cX12_takesNumber 16 = .ok (.i2l, 1) := by decide +kernel
theorem dX12_takesNumber_17 : decode cX12_takesNumber 17 = .ok (.invokestatic 60, 3) := by decide +kernel
theorem dX12_takesNumber_20 : decode cX12_takesNumber 20 = .ok (.ifCond .ne 21, 3) := by decide +kernel
theorem dX12_takesNumber_23 : decode cX12_takesNumber 23 = .ok (.aload_n 0, 1) := by decide +kernel
theorem dX12_takesNumber_24 : decode cX12_takesNumber 24 = .ok (.aload_n 0, 1) := by decide +kernel
theorem dX12_takesNumber_25 : decode cX12_takesNumber 25 = .ok (.getfield 94, 3) := by decide +kernel
theorem dX12_takesNumber_28 : decode cX12_takesNumber 28 = .ok (.iconst 2, 1) := by decide +kernel
theorem dX12_takesNumber_29 : decode cX12_takesNumber 29 = .ok (.if_icmp .ne 7, 3) := by decide +kernel
theorem dX12_takesNumber_32 : decode cX12_takesNumber 32 = .ok (.iconst 2, 1) := by decide +kernel
theorem dX12_takesNumber_33 : decode cX12_takesNumber 33 = .ok (.goto 4, 3) := by decide +kernel
theorem dX12_takesNumber_36 : decode cX12_takesNumber 36 = .ok (.iconst 1, 1) := by decide +kernel
theorem dX12_takesNumber_37 : decode cX12_takesNumber 37 = .ok (.invokevirtual 114, 3) := by decide +kernel
theorem dX12_takesNumber_40 : decode cX12_takesNumber 40 = .ok (.ireturn, 1) := by decide +kernel
theorem dX12_takesNumber_41 : decode cX12_takesNumber 41 = .ok (.aload_n 0, 1) := by decide +kernel
theorem dX12_takesNumber_42 : decode cX12_takesNumber 42 = .ok (.getfield 28, 3) := by decide +kernel
theorem dX12_takesNumber_45 : decode cX12_takesNumber 45 = .ok (.iload_n 3, 1) := by decide +kernel
theorem dX12_takesNumber_46 : decode cX12_takesNumber 46 = .ok (.aload_n 0, 1) := by decide +kernel
theorem dX12_takesNumber_47 : decode cX12_takesNumber 47 = .ok (.getfield 97, 3) := by decide +kernel
theorem dX12_takesNumber_50 : decode cX12_takesNumber 50 = .ok (.iastore, 1) := by decide +kernel
theorem dX12_takesNumber_51 : decode cX12_takesNumber 51 = .ok (.aload_n 0, 1) := by decide +kernel
theorem dX12_takesNumber_52 : decode cX12_takesNumber 52 = .ok (.invokevirtual 117, 3) := by decide +kernel
theorem dX12_takesNumber_55 : decode cX12_takesNumber 55 = .ok (.aload_n 0, 1) := by decide +kernel
theorem dX12_takesNumber_56 : decode cX12_takesNumber 56 = .ok (.iload 4, 2) := by decide +kernel
theorem dX12_takesNumber_58 : decode cX12_takesNumber 58 = .ok (.invokevirtual 120, 3) := by decide +kernel
theorem dX12_takesNumber_61 : decode cX12_takesNumber 61 = .ok (.ireturn, 1) := by decide +kernel
theorem dX12_readHeir_0 : decode cX12_readHeir 0 = .ok (.aload_n 0, 1) := by decide +kernel
theorem dX12_readHeir_1 : decode cX12_readHeir 1 = .ok (.getfield 28, 3) := by decide +kernel
theorem dX12_readHeir_4 : decode cX12_readHeir 4 = .ok (.iconst 4, 1) := by decide +kernel
theorem dX12_readHeir_5 : decode cX12_readHeir 5 = .ok (.iaload, 1) := by decide +kernel
theorem dX12_readHeir_6 : decode cX12_readHeir 6 = .ok (.istore_n 2, 1) := by decide +kernel
theorem dX12_readHeir_7 : decode cX12_readHeir 7 = .ok (.iload_n 2, 1) := by decide +kernel
theorem dX12_readHeir_8 : decode cX12_readHeir 8 = .ok (.iconst 4, 1) := by decide +kernel
theorem dX12_readHeir_9 : decode cX12_readHeir 9 = .ok (.if_icmp .ne 9, 3) := by decide +kernel
theorem dX12_readHeir_12 : decode cX12_readHeir 12 = .ok (.aload_n 0, 1) := by decide +kernel
theorem dX12_readHeir_13 : decode cX12_readHeir 13 = .ok (.iconst 3, 1) := by decide +kernel
theorem dX12_readHeir_14 : decode cX12_readHeir 14 = .ok (.invokevirtual 114, 3) := by decide +kernel
theorem dX12_readHeir_17 : decode cX12_readHeir 17 = .ok (.ireturn, 1) := by decide +kernel
theorem dX12_readHeir_18 : decode cX12_readHeir 18 = .ok (.aload_n 0, 1) := by decide +kernel
theorem dX12_readHeir_19 : decode cX12_readHeir 19 = .ok (.invokevirtual 117, 3) := by decide +kernel
theorem dX12_readHeir_22 : decode cX12_readHeir 22 = .ok (.aload_n 0, 1) := by decide +kernel
theorem dX12_readHeir_23 : decode cX12_readHeir 23 = .ok (.getfield 28, 3) := by decide +kernel
theorem dX12_readHeir_26 : decode cX12_readHeir 26 = .ok (.bipush 8, 2) := by decide +kernel
theorem dX12_readHeir_28 : decode cX12_readHeir 28 = .ok (.iload_n 2, 1) := by decide +kernel
theorem dX12_readHeir_29 : decode cX12_readHeir 29 = .ok (.iadd, 1) := by decide +kernel
theorem dX12_readHeir_30 : decode cX12_readHeir 30 = .ok (.iload_n 1, 1) := by decide +kernel
theorem dX12_readHeir_31 : decode cX12_readHeir 31 = .ok (.iastore, 1) := by decide +kernel
theorem dX12_readHeir_32 : decode cX12_readHeir 32 = .ok (.aload_n 0, 1) := by decide +kernel
theorem dX12_readHeir_33 : decode cX12_readHeir 33 = .ok (.getfield 28, 3) := by decide +kernel
theorem dX12_readHeir_36 : decode cX12_readHeir 36 = .ok (.iconst 4, 1) := by decide +kernel
theorem dX12_readHeir_37 : decode cX12_readHeir 37 = .ok (.dup2, 1) := by decide +kernel
theorem dX12_readHeir_38 : decode cX12_readHeir 38 = .ok (.iaload, 1) := by decide +kernel
theorem dX12_readHeir_39 : decode cX12_readHeir 39 = .ok (.iconst 1, 1) := by decide +kernel
theorem dX12_readHeir_40 : decode cX12_readHeir 40 = .ok (.iadd, 1) := by decide +kernel
theorem dX12_readHeir_41 : decode cX12_readHeir 41 = .ok (.iastore, 1) := by decide +kernel
theorem dX12_readHeir_42 : decode cX12_readHeir 42 = .ok (.aload_n 0, 1) := by decide +kernel
theorem dX12_readHeir_43 : decode cX12_readHeir 43 = .ok (.iconst 0, 1) := by decide +kernel
theorem dX12_readHeir_44 : decode cX12_readHeir 44 = .ok (.bipush 9, 2) := by decide +kernel
theorem dX12_readHeir_46 : decode cX12_readHeir 46 = .ok (.bipush 12, 2) := by decide +kernel
theorem dX12_readHeir_48 : decode cX12_readHeir 48 = .ok (.iload_n 2, 1) := by decide +kernel
theorem dX12_readHeir_49 : decode cX12_readHeir 49 = .ok (.iadd, 1) := by decide +kernel
theorem dX12_readHeir_50 : decode cX12_readHeir 50 = .ok (.bipush 44, 2) := by decide +kernel
theorem dX12_readHeir_52 : decode cX12_readHeir 52 = .ok (.invokevirtual 123, 3) := by decide +kernel
theorem dX12_readHeir_55 : decode cX12_readHeir 55 = .ok (.ifCond .eq 23, 3) := by decide +kernel
theorem dX12_readHeir_58 : decode cX12_readHeir 58 = .ok (.aload_n 0, 1) := by decide +kernel
theorem dX12_readHeir_59 : decode cX12_readHeir 59 = .ok (.iconst 0, 1) := by decide +kernel
theorem dX12_readHeir_60 : decode cX12_readHeir 60 = .ok (.bipush 9, 2) := by decide +kernel
theorem dX12_readHeir_62 : decode cX12_readHeir 62 = .ok (.bipush 16, 2) := by decide +kernel
theorem dX12_readHeir_64 : decode cX12_readHeir 64 = .ok (.iload_n 2, 1) := by decide +kernel
theorem dX12_readHeir_65 : decode cX12_readHeir 65 = .ok (.iadd, 1) := by decide +kernel
theorem dX12_readHeir_66 : decode cX12_readHeir 66 = .ok (.bipush 59, 2) := by decide +kernel
theorem dX12_readHeir_68 : decode cX12_readHeir 68 = .ok (.invokevirtual 123, 3) := by decide +kernel
theorem dX12_readHeir_71 : decode cX12_readHeir 71 = .ok (.ifCond .eq 7, 3) := by decide +kernel
theorem dX12_readHeir_74 : decode cX12_readHeir 74 = .ok (.iconst 1, 1) := by decide +kernel
theorem dX12_readHeir_75 : decode cX12_readHeir 75 = .ok (.goto 4, 3) := by decide +kernel
theorem dX12_readHeir_78 : decode cX12_readHeir 78 = .ok (.iconst 0, 1) := by decide +kernel
theorem dX12_readHeir_79 : decode cX12_readHeir 79 = .ok (.ireturn, 1) := by decide +kernel
theorem dX12_readRealm_0 : decode cX12_readRealm 0 = .ok (.aload_n 0, 1) := by decide +kernel
theorem dX12_readRealm_1 : decode cX12_readRealm 1 = .ok (.iconst 0, 1) := by decide +kernel
theorem dX12_readRealm_2 : decode cX12_readRealm 2 = .ok (.putfield 88, 3) := by decide +kernel
theorem dX12_readRealm_5 : decode cX12_readRealm 5 = .ok (.iconst 0, 1) := by decide +kernel
theorem dX12_readRealm_6 : decode cX12_readRealm 6 = .ok (.istore_n 1, 1) := by decide +kernel
theorem dX12_readRealm_7 : decode cX12_readRealm 7 = .ok (.iload_n 1, 1) := by decide +kernel
theorem dX12_readRealm_8 : decode cX12_readRealm 8 = .ok (.bipush 48, 2) := by decide +kernel
theorem dX12_readRealm_10 : decode cX12_readRealm 10 = .ok (.if_icmp .ge 16, 3) := by decide +kernel
theorem dX12_readRealm_13 : decode cX12_readRealm 13 = .ok (.aload_n 0, 1) := by decide +kernel
theorem dX12_readRealm_14 : decode cX12_readRealm 14 = .ok (.getfield 28, 3) := by decide +kernel
theorem dX12_readRealm_17 : decode cX12_readRealm 17 = .ok (.iload_n 1, 1) := by decide +kernel
theorem dX12_readRealm_18 : decode cX12_readRealm 18 = .ok (.iconst 0, 1) := by decide +kernel
theorem dX12_readRealm_19 : decode cX12_readRealm 19 = .ok (.iastore, 1) := by decide +kernel
theorem dX12_readRealm_20 : decode cX12_readRealm 20 = .ok (.iinc 1 1, 3) := by decide +kernel
theorem dX12_readRealm_23 : decode cX12_readRealm 23 = .ok (.goto (-16), 3) := by decide +kernel
theorem dX12_readRealm_26 : decode cX12_readRealm 26 = .ok (.aload_n 0, 1) := by decide +kernel
theorem dX12_readRealm_27 : decode cX12_readRealm 27 = .ok (.invokevirtual 117, 3) := by decide +kernel
theorem dX12_readRealm_30 : decode cX12_readRealm 30 = .ok (.aload_n 0, 1) := by decide +kernel
theorem dX12_readRealm_31 : decode cX12_readRealm 31 = .ok (.bipush 107, 2) := by decide +kernel
theorem dX12_readRealm_33 : decode cX12_readRealm 33 = .ok (.invokevirtual 120, 3) := by decide +kernel
theorem dX12_readRealm_36 : decode cX12_readRealm 36 = .ok (.ifCond .eq 54, 3) := by decide +kernel
theorem dX12_readRealm_39 : decode cX12_readRealm 39 = .ok (.aload_n 0, 1) := by decide +kernel
theorem dX12_readRealm_40 : decode cX12_readRealm 40 = .ok (.iconst 1, 1) := by decide +kernel
theorem dX12_readRealm_41 : decode cX12_readRealm 41 = .ok (.bipush 99, 2) := by decide +kernel
theorem dX12_readRealm_43 : decode cX12_readRealm 43 = .ok (.iconst 0, 1) := by decide +kernel
theorem dX12_readRealm_44 : decode cX12_readRealm 44 = .ok (.bipush 44, 2) := by decide +kernel
theorem dX12_readRealm_46 : decode cX12_readRealm 46 = .ok (.invokevirtual 123, 3) := by decide +kernel
theorem dX12_readRealm_49 : decode cX12_readRealm 49 = .ok (.ifCond .eq 41, 3) := by decide +kernel
theorem dX12_readRealm_52 : decode cX12_readRealm 52 = .ok (.aload_n 0, 1) := by decide +kernel
theorem dX12_readRealm_53 : decode cX12_readRealm 53 = .ok (.iconst 0, 1) := by decide +kernel
theorem dX12_readRealm_54 : decode cX12_readRealm 54 = .ok (.bipush 99, 2) := by decide +kernel
theorem dX12_readRealm_56 : decode cX12_readRealm 56 = .ok (.iconst 1, 1) := by decide +kernel
theorem dX12_readRealm_57 : decode cX12_readRealm 57 = .ok (.bipush 44, 2) := by decide +kernel
theorem dX12_readRealm_59 : decode cX12_readRealm 59 = .ok (.invokevirtual 123, 3) := by decide +kernel
theorem dX12_readRealm_62 : decode cX12_readRealm 62 = .ok (.ifCond .eq 28, 3) := by decide +kernel
theorem dX12_readRealm_65 : decode cX12_readRealm 65 = .ok (.aload_n 0, 1) := by decide +kernel
theorem dX12_readRealm_66 : decode cX12_readRealm 66 = .ok (.iconst 0, 1) := by decide +kernel
theorem dX12_readRealm_67 : decode cX12_readRealm 67 = .ok (.bipush 9, 2) := by decide +kernel
theorem dX12_readRealm_69 : decode cX12_readRealm 69 = .ok (.iconst 2, 1) := by decide +kernel
theorem dX12_readRealm_70 : decode cX12_readRealm 70 = .ok (.bipush 44, 2) := by decide +kernel
theorem dX12_readRealm_72 : decode cX12_readRealm 72 = .ok (.invokevirtual 123, 3) := by decide +kernel
theorem dX12_readRealm_75 : decode cX12_readRealm 75 = .ok (.ifCond .eq 15, 3) := by decide +kernel
theorem dX12_readRealm_78 : decode cX12_readRealm 78 = .ok (.aload_n 0, 1) := by decide +kernel
theorem dX12_readRealm_79 : decode cX12_readRealm 79 = .ok (.iconst 0, 1) := by decide +kernel
theorem dX12_readRealm_80 : decode cX12_readRealm 80 = .ok (.iconst 3, 1) := by decide +kernel
theorem dX12_readRealm_81 : decode cX12_readRealm 81 = .ok (.iconst 3, 1) := by decide +kernel
theorem dX12_readRealm_82 : decode cX12_readRealm 82 = .ok (.bipush 59, 2) := by decide +kernel
theorem dX12_readRealm_84 : decode cX12_readRealm 84 = .ok (.invokevirtual 123, 3) := by decide +kernel
theorem dX12_readRealm_87 : decode cX12_readRealm 87 = .ok (.ifCond .ne 5, 3) := by decide +kernel
theorem dX12_readRealm_90 : decode cX12_readRealm 90 = .ok (.iconst 0, 1) := by decide +kernel
theorem dX12_readRealm_91 : decode cX12_readRealm 91 = .ok (.ireturn, 1) := by decide +kernel
theorem dX12_readRealm_92 : decode cX12_readRealm 92 = .ok (.iconst 1, 1) := by decide +kernel
theorem dX12_readRealm_93 : decode cX12_readRealm 93 = .ok (.istore_n 1, 1) := by decide +kernel
theorem dX12_readRealm_94 : decode cX12_readRealm 94 = .ok (.iload_n 1, 1) := by decide +kernel
theorem dX12_readRealm_95 : decode cX12_readRealm 95 = .ok (.ifCond .eq 109, 3) := by decide +kernel
theorem dX12_readRealm_98 : decode cX12_readRealm 98 = .ok (.aload_n 0, 1) := by decide +kernel
theorem dX12_readRealm_99 : decode cX12_readRealm 99 = .ok (.getfield 94, 3) := by decide +kernel
theorem dX12_readRealm_102 : decode cX12_readRealm 102 = .ok (.iconst 3, 1) := by decide +kernel
theorem dX12_readRealm_103 : decode cX12_readRealm 103 = .ok (.if_icmp .ne 13, 3) := by decide +kernel
theorem dX12_readRealm_106 : decode cX12_readRealm 106 = .ok (.aload_n 0, 1) := by decide +kernel
theorem dX12_readRealm_107 : decode cX12_readRealm 107 = .ok (.getfield 28, 3) := by decide +kernel
theorem dX12_readRealm_110 : decode cX12_readRealm 110 = .ok (.iconst 4, 1) := by decide +kernel
theorem dX12_readRealm_111 : decode cX12_readRealm 111 = .ok (.iaload, 1) := by decide +kernel
theorem dX12_readRealm_112 : decode cX12_readRealm 112 = .ok (.iconst 2, 1) := by decide +kernel
theorem dX12_readRealm_113 : decode cX12_readRealm 113 = .ok (.if_icmp .ge 91, 3) := by decide +kernel
theorem dX12_readRealm_116 : decode cX12_readRealm 116 = .ok (.aload_n 0, 1) := by decide +kernel
theorem dX12_readRealm_117 : decode cX12_readRealm 117 = .ok (.bipush 112, 2) := by decide +kernel
theorem dX12_readRealm_119 : decode cX12_readRealm 119 = .ok (.invokevirtual 111, 3) := by decide +kernel
theorem dX12_readRealm_122 : decode cX12_readRealm 122 = .ok (.ifCond .eq 7, 3) := by decide +kernel
theorem dX12_readRealm_125 : decode cX12_readRealm 125 = .ok (.iconst 1, 1) := by decide +kernel
theorem dX12_readRealm_126 : decode cX12_readRealm 126 = .ok (.goto 56, 3) := by decide +kernel
theorem dX12_readRealm_129 : decode cX12_readRealm 129 = .ok (.aload_n 0, 1) := by decide +kernel
theorem dX12_readRealm_130 : decode cX12_readRealm 130 = .ok (.bipush 115, 2) := by decide +kernel
theorem dX12_readRealm_132 : decode cX12_readRealm 132 = .ok (.invokevirtual 111, 3) := by decide +kernel
theorem dX12_readRealm_135 : decode cX12_readRealm 135 = .ok (.ifCond .eq 7, 3) := by decide +kernel
theorem dX12_readRealm_138 : decode cX12_readRealm 138 = .ok (.iconst 2, 1) := by decide +kernel
theorem dX12_readRealm_139 : decode cX12_readRealm 139 = .ok (.goto 43, 3) := by decide +kernel
theorem dX12_readRealm_142 : decode cX12_readRealm 142 = .ok (.aload_n 0, 1) := by decide +kernel
theorem dX12_readRealm_143 : decode cX12_readRealm 143 = .ok (.bipush 106, 2) := by decide +kernel
theorem dX12_readRealm_145 : decode cX12_readRealm 145 = .ok (.invokevirtual 111, 3) := by decide +kernel
theorem dX12_readRealm_148 : decode cX12_readRealm 148 = .ok (.ifCond .eq 7, 3) := by decide +kernel
theorem dX12_readRealm_151 : decode cX12_readRealm 151 = .ok (.iconst 3, 1) := by decide +kernel
theorem dX12_readRealm_152 : decode cX12_readRealm 152 = .ok (.goto 30, 3) := by decide +kernel
theorem dX12_readRealm_155 : decode cX12_readRealm 155 = .ok (.aload_n 0, 1) := by decide +kernel
theorem dX12_readRealm_156 : decode cX12_readRealm 156 = .ok (.bipush 113, 2) := by decide +kernel
theorem dX12_readRealm_158 : decode cX12_readRealm 158 = .ok (.invokevirtual 111, 3) := by decide +kernel
theorem dX12_readRealm_161 : decode cX12_readRealm 161 = .ok (.ifCond .eq 7, 3) := by decide +kernel
theorem dX12_readRealm_164 : decode cX12_readRealm 164 = .ok (.iconst 4, 1) := by decide +kernel
theorem dX12_readRealm_165 : decode cX12_readRealm 165 = .ok (.goto 17, 3) := by decide +kernel
theorem dX12_readRealm_168 : decode cX12_readRealm 168 = .ok (.aload_n 0, 1) := by decide +kernel
theorem dX12_readRealm_169 : decode cX12_readRealm 169 = .ok (.bipush 105, 2) := by decide +kernel
theorem dX12_readRealm_171 : decode cX12_readRealm 171 = .ok (.invokevirtual 111, 3) := by decide +kernel
theorem dX12_readRealm_174 : decode cX12_readRealm 174 = .ok (.ifCond .eq 7, 3) := by decide +kernel
theorem dX12_readRealm_177 : decode cX12_readRealm 177 = .ok (.iconst 5, 1) := by decide +kernel
theorem dX12_readRealm_178 : decode cX12_readRealm 178 = .ok (.goto 4, 3) := by decide +kernel
theorem dX12_readRealm_181 : decode cX12_readRealm 181 = .ok (.iconst 0, 1) := by decide +kernel
theorem dX12_readRealm_182 : decode cX12_readRealm 182 = .ok (.istore_n 2, 1) := by decide +kernel
theorem dX12_readRealm_183 : decode cX12_readRealm 183 = .ok (.iload_n 2, 1) := by decide +kernel
theorem dX12_readRealm_184 : decode cX12_readRealm 184 = .ok (.ifCond .le 11, 3) := by decide +kernel
theorem dX12_readRealm_187 : decode cX12_readRealm 187 = .ok (.aload_n 0, 1) := by decide +kernel
theorem dX12_readRealm_188 : decode cX12_readRealm 188 = .ok (.iload_n 2, 1) := by decide +kernel
theorem dX12_readRealm_189 : decode cX12_readRealm 189 = .ok (.invokevirtual 127, 3) := by decide +kernel
theorem dX12_readRealm_192 : decode cX12_readRealm 192 = .ok (.goto 8, 3) := by decide +kernel
theorem dX12_readRealm_195 : decode cX12_readRealm 195 = .ok (.aload_n 0, 1) := by decide +kernel
theorem dX12_readRealm_196 : decode cX12_readRealm 196 = .ok (.iconst 1, 1) := by decide +kernel
theorem dX12_readRealm_197 : decode cX12_readRealm 197 = .ok (.invokevirtual 114, 3) := by decide +kernel
theorem dX12_readRealm_200 : decode cX12_readRealm 200 = .ok (.istore_n 1, 1) := by decide +kernel
theorem dX12_readRealm_201 : decode cX12_readRealm 201 = .ok (.goto (-107), 3) := by decide +kernel
theorem dX12_readRealm_204 : decode cX12_readRealm 204 = .ok (.iload_n 1, 1) := by decide +kernel
theorem dX12_readRealm_205 : decode cX12_readRealm 205 = .ok (.ireturn, 1) := by decide +kernel
theorem dX12_realm_0 : decode cX12_realm 0 = .ok (.aload_n 0, 1) := by decide +kernel
theorem dX12_realm_1 : decode cX12_realm 1 = .ok (.invokevirtual 130, 3) := by decide +kernel
theorem dX12_realm_4 : decode cX12_realm 4 = .ok (.istore_n 1, 1) := by decide +kernel
theorem dX12_realm_5 : decode cX12_realm 5 = .ok (.aload_n 0, 1) := by decide +kernel
theorem dX12_realm_6 : decode cX12_realm 6 = .ok (.iconst 0, 1) := by decide +kernel
theorem dX12_realm_7 : decode cX12_realm 7 = .ok (.putfield 84, 3) := by decide +kernel
theorem dX12_realm_10 : decode cX12_realm 10 = .ok (.iload_n 1, 1) := by decide +kernel
theorem dX12_realm_11 : decode cX12_realm 11 = .ok (.ifCond .ne 19, 3) := by decide +kernel
theorem dX12_realm_14 : decode cX12_realm 14 = .ok (.aload_n 0, 1) := by decide +kernel
theorem dX12_realm_15 : decode cX12_realm 15 = .ok (.aload_n 0, 1) := by decide +kernel
theorem dX12_realm_16 : decode cX12_realm 16 = .ok (.getfield 108, 3) := by decide +kernel
theorem dX12_realm_19 : decode cX12_realm 19 = .ok (.putfield 134, 3) := by decide +kernel
theorem dX12_realm_22 : decode cX12_realm 22 = .ok (.ldc 137, 2) := by decide +kernel
theorem dX12_realm_24 : decode cX12_realm 24 = .ok (.aload_n 0, 1) := by decide +kernel
theorem dX12_realm_25 : decode cX12_realm 25 = .ok (.getfield 91, 3) := by decide +kernel
theorem dX12_realm_28 : decode cX12_realm 28 = .ok (.isub, 1) := by decide +kernel
theorem dX12_realm_29 : decode cX12_realm 29 = .ok (.ireturn, 1) := by decide +kernel
theorem dX12_realm_30 : decode cX12_realm 30 = .ok (.iconst 0, 1) := by decide +kernel
theorem dX12_realm_31 : decode cX12_realm 31 = .ok (.istore_n 2, 1) := by decide +kernel
theorem dX12_realm_32 : decode cX12_realm 32 = .ok (.iload_n 2, 1) := by decide +kernel
theorem dX12_realm_33 : decode cX12_realm 33 = .ok (.bipush 48, 2) := by decide +kernel
theorem dX12_realm_35 : decode cX12_realm 35 = .ok (.if_icmp .ge 21, 3) := by decide +kernel
theorem dX12_realm_38 : decode cX12_realm 38 = .ok (.aload_n 0, 1) := by decide +kernel
theorem dX12_realm_39 : decode cX12_realm 39 = .ok (.getfield 19, 3) := by decide +kernel
theorem dX12_realm_42 : decode cX12_realm 42 = .ok (.iload_n 2, 1) := by decide +kernel
theorem dX12_realm_43 : decode cX12_realm 43 = .ok (.aload_n 0, 1) := by decide +kernel
theorem dX12_realm_44 : decode cX12_realm 44 = .ok (.getfield 28, 3) := by decide +kernel
theorem dX12_realm_47 : decode cX12_realm 47 = .ok (.iload_n 2, 1) := by decide +kernel
theorem dX12_realm_48 : decode cX12_realm 48 = .ok (.iaload, 1) := by decide +kernel
theorem dX12_realm_49 : decode cX12_realm 49 = .ok (.iastore, 1) := by decide +kernel
theorem dX12_realm_50 : decode cX12_realm 50 = .ok (.iinc 2 1, 3) := by decide +kernel
theorem dX12_realm_53 : decode cX12_realm 53 = .ok (.goto (-21), 3) := by decide +kernel
theorem dX12_realm_56 : decode cX12_realm 56 = .ok (.aload_n 0, 1) := by decide +kernel
theorem dX12_realm_57 : decode cX12_realm 57 = .ok (.iconst 1, 1) := by decide +kernel
theorem dX12_realm_58 : decode cX12_realm 58 = .ok (.putfield 138, 3) := by decide +kernel
theorem dX12_realm_61 : decode cX12_realm 61 = .ok (.aload_n 0, 1) := by decide +kernel
theorem dX12_realm_62 : decode cX12_realm 62 = .ok (.iconst 0, 1) := by decide +kernel
theorem dX12_realm_63 : decode cX12_realm 63 = .ok (.putfield 142, 3) := by decide +kernel
theorem dX12_realm_66 : decode cX12_realm 66 = .ok (.aload_n 0, 1) := by decide +kernel
theorem dX12_realm_67 : decode cX12_realm 67 = .ok (.getfield 19, 3) := by decide +kernel
theorem dX12_realm_70 : decode cX12_realm 70 = .ok (.iconst 4, 1) := by decide +kernel
theorem dX12_realm_71 : decode cX12_realm 71 = .ok (.iaload, 1) := by decide +kernel
theorem dX12_realm_72 : decode cX12_realm 72 = .ok (.ireturn, 1) := by decide +kernel
theorem dX12_fault_0 : decode cX12_fault 0 = .ok (.aload_n 0, 1) := by decide +kernel
theorem dX12_fault_1 : decode cX12_fault 1 = .ok (.getfield 134, 3) := by decide +kernel
theorem dX12_fault_4 : decode cX12_fault 4 = .ok (.ireturn, 1) := by decide +kernel
theorem dX12_isHeir_0 : decode cX12_isHeir 0 = .ok (.iload_n 1, 1) := by decide +kernel
theorem dX12_isHeir_1 : decode cX12_isHeir 1 = .ok (.i2l, 1) := by decide +kernel
theorem dX12_isHeir_2 : decode cX12_isHeir 2 = .ok (.lconst 0, 1) := by decide +kernel
theorem dX12_isHeir_3 : decode cX12_isHeir 3 = .ok (.aload_n 0, 1) := by decide +kernel
theorem dX12_isHeir_4 : decode cX12_isHeir 4 = .ok (.getfield 19, 3) := by decide +kernel
theorem dX12_isHeir_7 : decode cX12_isHeir 7 = .ok (.iconst 4, 1) := by decide +kernel
theorem dX12_isHeir_8 : decode cX12_isHeir 8 = .ok (.iaload, 1) := by decide +kernel
theorem dX12_isHeir_9 : decode cX12_isHeir 9 = .ok (.iconst 1, 1) := by decide +kernel
theorem dX12_isHeir_10 : decode cX12_isHeir 10 = .ok (.isub, 1) := by decide +kernel
theorem dX12_isHeir_11 : decode cX12_isHeir 11 = .ok (.i2l, 1) := by decide +kernel
theorem dX12_isHeir_12 : decode cX12_isHeir 12 = .ok (.invokestatic 60, 3) := by decide +kernel
theorem dX12_isHeir_15 : decode cX12_isHeir 15 = .ok (.ireturn, 1) := by decide +kernel
theorem dX12_ownOf_0 : decode cX12_ownOf 0 = .ok (.aload_n 0, 1) := by decide +kernel
theorem dX12_ownOf_1 : decode cX12_ownOf 1 = .ok (.getfield 19, 3) := by decide +kernel
theorem dX12_ownOf_4 : decode cX12_ownOf 4 = .ok (.bipush 8, 2) := by decide +kernel
theorem dX12_ownOf_6 : decode cX12_ownOf 6 = .ok (.iload_n 1, 1) := by decide +kernel
theorem dX12_ownOf_7 : decode cX12_ownOf 7 = .ok (.iadd, 1) := by decide +kernel
theorem dX12_ownOf_8 : decode cX12_ownOf 8 = .ok (.iaload, 1) := by decide +kernel
theorem dX12_ownOf_9 : decode cX12_ownOf 9 = .ok (.istore_n 2, 1) := by decide +kernel
theorem dX12_ownOf_10 : decode cX12_ownOf 10 = .ok (.aload_n 0, 1) := by decide +kernel
theorem dX12_ownOf_11 : decode cX12_ownOf 11 = .ok (.getfield 19, 3) := by decide +kernel
theorem dX12_ownOf_14 : decode cX12_ownOf 14 = .ok (.bipush 12, 2) := by decide +kernel
theorem dX12_ownOf_16 : decode cX12_ownOf 16 = .ok (.iload_n 1, 1) := by decide +kernel
theorem dX12_ownOf_17 : decode cX12_ownOf 17 = .ok (.iadd, 1) := by decide +kernel
theorem dX12_ownOf_18 : decode cX12_ownOf 18 = .ok (.iaload, 1) := by decide +kernel
theorem dX12_ownOf_19 : decode cX12_ownOf 19 = .ok (.istore_n 3, 1) := by decide +kernel
theorem dX12_ownOf_20 : decode cX12_ownOf 20 = .ok (.iload_n 2, 1) := by decide +kernel
theorem dX12_ownOf_21 : decode cX12_ownOf 21 = .ok (.iconst 4, 1) := by decide +kernel
theorem dX12_ownOf_22 : decode cX12_ownOf 22 = .ok (.if_icmp .ne 5, 3) := by decide +kernel
theorem dX12_ownOf_25 : decode cX12_ownOf 25 = .ok (.iconst 0, 1) := by decide +kernel
theorem dX12_ownOf_26 : decode cX12_ownOf 26 = .ok (.ireturn, 1) := by decide +kernel
theorem dX12_ownOf_27 : decode cX12_ownOf 27 = .ok (.iload_n 2, 1) := by decide +kernel
theorem dX12_ownOf_28 : decode cX12_ownOf 28 = .ok (.iconst 5, 1) := by decide +kernel
theorem dX12_ownOf_29 : decode cX12_ownOf 29 = .ok (.if_icmp .ne 8, 3) := by decide +kernel
theorem dX12_ownOf_32 : decode cX12_ownOf 32 = .ok (.bipush 9, 2) := by decide +kernel
theorem dX12_ownOf_34 : decode cX12_ownOf 34 = .ok (.iload_n 3, 1) := by decide +kernel
theorem dX12_ownOf_35 : decode cX12_ownOf 35 = .ok (.isub, 1) := by decide +kernel
theorem dX12_ownOf_36 : decode cX12_ownOf 36 = .ok (.ireturn, 1) := by decide +kernel
theorem dX12_ownOf_37 : decode cX12_ownOf 37 = .ok (.iload_n 2, 1) := by decide +kernel
theorem dX12_ownOf_38 : decode cX12_ownOf 38 = .ok (.iconst 2, 1) := by decide +kernel
theorem dX12_ownOf_39 : decode cX12_ownOf 39 = .ok (.if_icmp .ne 15, 3) := by decide +kernel
theorem dX12_ownOf_42 : decode cX12_ownOf 42 = .ok (.iload_n 3, 1) := by decide +kernel
theorem dX12_ownOf_43 : decode cX12_ownOf 43 = .ok (.aload_n 0, 1) := by decide +kernel
theorem dX12_ownOf_44 : decode cX12_ownOf 44 = .ok (.getfield 19, 3) := by decide +kernel
theorem dX12_ownOf_47 : decode cX12_ownOf 47 = .ok (.bipush 16, 2) := by decide +kernel
theorem dX12_ownOf_49 : decode cX12_ownOf 49 = .ok (.iload_n 1, 1) := by decide +kernel
theorem dX12_ownOf_50 : decode cX12_ownOf 50 = .ok (.iadd, 1) := by decide +kernel
theorem dX12_ownOf_51 : decode cX12_ownOf 51 = .ok (.iaload, 1) := by decide +kernel
theorem dX12_ownOf_52 : decode cX12_ownOf 52 = .ok (.iadd, 1) := by decide +kernel
theorem dX12_ownOf_53 : decode cX12_ownOf 53 = .ok (.ireturn, 1) := by decide +kernel
theorem dX12_ownOf_54 : decode cX12_ownOf 54 = .ok (.iload_n 1, 1) := by decide +kernel
theorem dX12_ownOf_55 : decode cX12_ownOf 55 = .ok (.iconst 1, 1) := by decide +kernel
theorem dX12_ownOf_56 : decode cX12_ownOf 56 = .ok (.isub, 1) := by decide +kernel
theorem dX12_ownOf_57 : decode cX12_ownOf 57 = .ok (.istore 4, 2) := by decide +kernel
theorem dX12_ownOf_59 : decode cX12_ownOf 59 = .ok (.iload_n 2, 1) := by decide +kernel
theorem dX12_ownOf_60 : decode cX12_ownOf 60 = .ok (.iconst 3, 1) := by decide +kernel
theorem dX12_ownOf_61 : decode cX12_ownOf 61 = .ok (.if_icmp .ne 27, 3) := by decide +kernel
theorem dX12_ownOf_64 : decode cX12_ownOf 64 = .ok (.iload 4, 2) := by decide +kernel
theorem dX12_ownOf_66 : decode cX12_ownOf 66 = .ok (.ifCond .lt 22, 3) := by decide +kernel
theorem dX12_ownOf_69 : decode cX12_ownOf 69 = .ok (.aload_n 0, 1) := by decide +kernel
theorem dX12_ownOf_70 : decode cX12_ownOf 70 = .ok (.getfield 19, 3) := by decide +kernel
theorem dX12_ownOf_73 : decode cX12_ownOf 73 = .ok (.bipush 20, 2) := by decide +kernel
theorem dX12_ownOf_75 : decode cX12_ownOf 75 = .ok (.iload 4, 2) := by decide +kernel
theorem dX12_ownOf_77 : decode cX12_ownOf 77 = .ok (.iadd, 1) := by decide +kernel
theorem dX12_ownOf_78 : decode cX12_ownOf 78 = .ok (.iaload, 1) := by decide +kernel
theorem dX12_ownOf_79 : decode cX12_ownOf 79 = .ok (.ifCond .ne 9, 3) := by decide +kernel
theorem dX12_ownOf_82 : decode cX12_ownOf 82 = .ok (.iinc 4 (-1), 3) := by decide +kernel
theorem dX12_ownOf_85 : decode cX12_ownOf 85 = .ok (.goto (-26), 3) := by decide +kernel
theorem dX12_ownOf_88 : decode cX12_ownOf 88 = .ok (.iload_n 2, 1) := by decide +kernel
theorem dX12_ownOf_89 : decode cX12_ownOf 89 = .ok (.iconst 1, 1) := by decide +kernel
theorem dX12_ownOf_90 : decode cX12_ownOf 90 = .ok (.if_icmp .eq 8, 3) := by decide +kernel
theorem dX12_ownOf_93 : decode cX12_ownOf 93 = .ok (.iload 4, 2) := by decide +kernel
theorem dX12_ownOf_95 : decode cX12_ownOf 95 = .ok (.ifCond .ge 5, 3) := by decide +kernel
theorem dX12_ownOf_98 : decode cX12_ownOf 98 = .ok (.iload_n 3, 1) := by decide +kernel
theorem dX12_ownOf_99 : decode cX12_ownOf 99 = .ok (.ireturn, 1) := by decide +kernel
theorem dX12_ownOf_100 : decode cX12_ownOf 100 = .ok (.aload_n 0, 1) := by decide +kernel
theorem dX12_ownOf_101 : decode cX12_ownOf 101 = .ok (.getfield 19, 3) := by decide +kernel
theorem dX12_ownOf_104 : decode cX12_ownOf 104 = .ok (.bipush 24, 2) := by decide +kernel
theorem dX12_ownOf_106 : decode cX12_ownOf 106 = .ok (.iload 4, 2) := by decide +kernel
theorem dX12_ownOf_108 : decode cX12_ownOf 108 = .ok (.iadd, 1) := by decide +kernel
theorem dX12_ownOf_109 : decode cX12_ownOf 109 = .ok (.iaload, 1) := by decide +kernel
theorem dX12_ownOf_110 : decode cX12_ownOf 110 = .ok (.bipush 18, 2) := by decide +kernel
theorem dX12_ownOf_112 : decode cX12_ownOf 112 = .ok (.if_icmp .ge 18, 3) := by decide +kernel
theorem dX12_ownOf_115 : decode cX12_ownOf 115 = .ok (.aload_n 0, 1) := by decide +kernel
theorem dX12_ownOf_116 : decode cX12_ownOf 116 = .ok (.getfield 19, 3) := by decide +kernel
theorem dX12_ownOf_119 : decode cX12_ownOf 119 = .ok (.bipush 24, 2) := by decide +kernel
theorem dX12_ownOf_121 : decode cX12_ownOf 121 = .ok (.iload 4, 2) := by decide +kernel
theorem dX12_ownOf_123 : decode cX12_ownOf 123 = .ok (.iadd, 1) := by decide +kernel
theorem dX12_ownOf_124 : decode cX12_ownOf 124 = .ok (.iaload, 1) := by decide +kernel
theorem dX12_ownOf_125 : decode cX12_ownOf 125 = .ok (.iconst 1, 1) := by decide +kernel
theorem dX12_ownOf_126 : decode cX12_ownOf 126 = .ok (.iadd, 1) := by decide +kernel
theorem dX12_ownOf_127 : decode cX12_ownOf 127 = .ok (.goto 5, 3) := by decide +kernel
theorem dX12_ownOf_130 : decode cX12_ownOf 130 = .ok (.bipush 18, 2) := by decide +kernel
theorem dX12_ownOf_132 : decode cX12_ownOf 132 = .ok (.ireturn, 1) := by decide +kernel
theorem dX12_says_0 : decode cX12_says 0 = .ok (.aload_n 0, 1) := by decide +kernel
theorem dX12_says_1 : decode cX12_says 1 = .ok (.getfield 19, 3) := by decide +kernel
theorem dX12_says_4 : decode cX12_says 4 = .ok (.bipush 20, 2) := by decide +kernel
theorem dX12_says_6 : decode cX12_says 6 = .ok (.iload_n 1, 1) := by decide +kernel
theorem dX12_says_7 : decode cX12_says 7 = .ok (.iadd, 1) := by decide +kernel
theorem dX12_says_8 : decode cX12_says 8 = .ok (.iaload, 1) := by decide +kernel
theorem dX12_says_9 : decode cX12_says 9 = .ok (.iconst 1, 1) := by decide +kernel
theorem dX12_says_10 : decode cX12_says 10 = .ok (.if_icmp .ne 15, 3) := by decide +kernel
theorem dX12_says_13 : decode cX12_says 13 = .ok (.aload_n 0, 1) := by decide +kernel
theorem dX12_says_14 : decode cX12_says 14 = .ok (.getfield 19, 3) := by decide +kernel
theorem dX12_says_17 : decode cX12_says 17 = .ok (.bipush 24, 2) := by decide +kernel
theorem dX12_says_19 : decode cX12_says 19 = .ok (.iload_n 1, 1) := by decide +kernel
theorem dX12_says_20 : decode cX12_says 20 = .ok (.iadd, 1) := by decide +kernel
theorem dX12_says_21 : decode cX12_says 21 = .ok (.iaload, 1) := by decide +kernel
theorem dX12_says_22 : decode cX12_says 22 = .ok (.goto 8, 3) := by decide +kernel
theorem dX12_says_25 : decode cX12_says 25 = .ok (.aload_n 0, 1) := by decide +kernel
theorem dX12_says_26 : decode cX12_says 26 = .ok (.iload_n 1, 1) := by decide +kernel
theorem dX12_says_27 : decode cX12_says 27 = .ok (.invokevirtual 145, 3) := by decide +kernel
theorem dX12_says_30 : decode cX12_says 30 = .ok (.ireturn, 1) := by decide +kernel
theorem dX12_weightOf_0 : decode cX12_weightOf 0 = .ok (.aload_n 0, 1) := by decide +kernel
theorem dX12_weightOf_1 : decode cX12_weightOf 1 = .ok (.iload_n 1, 1) := by decide +kernel
theorem dX12_weightOf_2 : decode cX12_weightOf 2 = .ok (.invokevirtual 148, 3) := by decide +kernel
theorem dX12_weightOf_5 : decode cX12_weightOf 5 = .ok (.istore_n 3, 1) := by decide +kernel
theorem dX12_weightOf_6 : decode cX12_weightOf 6 = .ok (.iload_n 2, 1) := by decide +kernel
theorem dX12_weightOf_7 : decode cX12_weightOf 7 = .ok (.ifCond .ne 9, 3) := by decide +kernel
theorem dX12_weightOf_10 : decode cX12_weightOf 10 = .ok (.iload_n 3, 1) := by decide +kernel
theorem dX12_weightOf_11 : decode cX12_weightOf 11 = .ok (.iconst 1, 1) := by decide +kernel
theorem dX12_weightOf_12 : decode cX12_weightOf 12 = .ok (.iadd, 1) := by decide +kernel
theorem dX12_weightOf_13 : decode cX12_weightOf 13 = .ok (.goto 37, 3) := by decide +kernel
theorem dX12_weightOf_16 : decode cX12_weightOf 16 = .ok (.iload_n 2, 1) := by decide +kernel
theorem dX12_weightOf_17 : decode cX12_weightOf 17 = .ok (.iconst 1, 1) := by decide +kernel
theorem dX12_weightOf_18 : decode cX12_weightOf 18 = .ok (.if_icmp .ne 19, 3) := by decide +kernel
theorem dX12_weightOf_21 : decode cX12_weightOf 21 = .ok (.iload_n 3, 1) := by decide +kernel
theorem dX12_weightOf_22 : decode cX12_weightOf 22 = .ok (.aload_n 0, 1) := by decide +kernel
theorem dX12_weightOf_23 : decode cX12_weightOf 23 = .ok (.getfield 19, 3) := by decide +kernel
theorem dX12_weightOf_26 : decode cX12_weightOf 26 = .ok (.bipush 28, 2) := by decide +kernel
theorem dX12_weightOf_28 : decode cX12_weightOf 28 = .ok (.iload_n 1, 1) := by decide +kernel
theorem dX12_weightOf_29 : decode cX12_weightOf 29 = .ok (.iadd, 1) := by decide +kernel
theorem dX12_weightOf_30 : decode cX12_weightOf 30 = .ok (.iaload, 1) := by decide +kernel
theorem dX12_weightOf_31 : decode cX12_weightOf 31 = .ok (.iadd, 1) := by decide +kernel
theorem dX12_weightOf_32 : decode cX12_weightOf 32 = .ok (.iconst 1, 1) := by decide +kernel
theorem dX12_weightOf_33 : decode cX12_weightOf 33 = .ok (.iadd, 1) := by decide +kernel
theorem dX12_weightOf_34 : decode cX12_weightOf 34 = .ok (.goto 16, 3) := by decide +kernel
theorem dX12_weightOf_37 : decode cX12_weightOf 37 = .ok (.iload_n 2, 1) := by decide +kernel
theorem dX12_weightOf_38 : decode cX12_weightOf 38 = .ok (.iconst 2, 1) := by decide +kernel
theorem dX12_weightOf_39 : decode cX12_weightOf 39 = .ok (.if_icmp .ne 7, 3) := by decide +kernel
theorem dX12_weightOf_42 : decode cX12_weightOf 42 = .ok (.iconst 1, 1) := by decide +kernel
theorem dX12_weightOf_43 : decode cX12_weightOf 43 = .ok (.goto 7, 3) := by decide +kernel
theorem dX12_weightOf_46 : decode cX12_weightOf 46 = .ok (.bipush 19, 2) := by decide +kernel
theorem dX12_weightOf_48 : decode cX12_weightOf 48 = .ok (.iload_n 3, 1) := by decide +kernel
theorem dX12_weightOf_49 : decode cX12_weightOf 49 = .ok (.isub, 1) := by decide +kernel
theorem dX12_weightOf_50 : decode cX12_weightOf 50 = .ok (.ireturn, 1) := by decide +kernel
theorem dX12_findShares_0 : decode cX12_findShares 0 = .ok (.iconst 0, 1) := by decide +kernel
theorem dX12_findShares_1 : decode cX12_findShares 1 = .ok (.istore_n 2, 1) := by decide +kernel
theorem dX12_findShares_2 : decode cX12_findShares 2 = .ok (.iconst 0, 1) := by decide +kernel
theorem dX12_findShares_3 : decode cX12_findShares 3 = .ok (.istore_n 3, 1) := by decide +kernel
theorem dX12_findShares_4 : decode cX12_findShares 4 = .ok (.iconst 0, 1) := by decide +kernel
theorem dX12_findShares_5 : decode cX12_findShares 5 = .ok (.istore 4, 2) := by decide +kernel
theorem dX12_findShares_7 : decode cX12_findShares 7 = .ok (.iload 4, 2) := by decide +kernel
theorem dX12_findShares_9 : decode cX12_findShares 9 = .ok (.aload_n 0, 1) := by decide +kernel
theorem dX12_findShares_10 : decode cX12_findShares 10 = .ok (.getfield 19, 3) := by decide +kernel
theorem dX12_findShares_13 : decode cX12_findShares 13 = .ok (.iconst 4, 1) := by decide +kernel
theorem dX12_findShares_14 : decode cX12_findShares 14 = .ok (.iaload, 1) := by decide +kernel
theorem dX12_findShares_15 : decode cX12_findShares 15 = .ok (.if_icmp .ge 42, 3) := by decide +kernel
theorem dX12_findShares_18 : decode cX12_findShares 18 = .ok (.iload_n 2, 1) := by decide +kernel
theorem dX12_findShares_19 : decode cX12_findShares 19 = .ok (.aload_n 0, 1) := by decide +kernel
theorem dX12_findShares_20 : decode cX12_findShares 20 = .ok (.iload 4, 2) := by decide +kernel
theorem dX12_findShares_22 : decode cX12_findShares 22 = .ok (.iload_n 1, 1) := by decide +kernel
theorem dX12_findShares_23 : decode cX12_findShares 23 = .ok (.invokevirtual 151, 3) := by decide +kernel
theorem dX12_findShares_26 : decode cX12_findShares 26 = .ok (.iadd, 1) := by decide +kernel
theorem dX12_findShares_27 : decode cX12_findShares 27 = .ok (.istore_n 2, 1) := by decide +kernel
theorem dX12_findShares_28 : decode cX12_findShares 28 = .ok (.aload_n 0, 1) := by decide +kernel
theorem dX12_findShares_29 : decode cX12_findShares 29 = .ok (.iload 4, 2) := by decide +kernel
theorem dX12_findShares_31 : decode cX12_findShares 31 = .ok (.iload_n 1, 1) := by decide +kernel
theorem dX12_findShares_32 : decode cX12_findShares 32 = .ok (.invokevirtual 151, 3) := by decide +kernel
theorem dX12_findShares_35 : decode cX12_findShares 35 = .ok (.aload_n 0, 1) := by decide +kernel
theorem dX12_findShares_36 : decode cX12_findShares 36 = .ok (.iload_n 3, 1) := by decide +kernel
theorem dX12_findShares_37 : decode cX12_findShares 37 = .ok (.iload_n 1, 1) := by decide +kernel
theorem dX12_findShares_38 : decode cX12_findShares 38 = .ok (.invokevirtual 151, 3) := by decide +kernel
theorem dX12_findShares_41 : decode cX12_findShares 41 = .ok (.if_icmp .le 8, 3) := by decide +kernel
theorem dX12_findShares_44 : decode cX12_findShares 44 = .ok (.iload 4, 2) := by decide +kernel
theorem dX12_findShares_46 : decode cX12_findShares 46 = .ok (.goto 4, 3) := by decide +kernel
theorem dX12_findShares_49 : decode cX12_findShares 49 = .ok (.iload_n 3, 1) := by decide +kernel
theorem dX12_findShares_50 : decode cX12_findShares 50 = .ok (.istore_n 3, 1) := by decide +kernel
theorem dX12_findShares_51 : decode cX12_findShares 51 = .ok (.iinc 4 1, 3) := by decide +kernel
theorem dX12_findShares_54 : decode cX12_findShares 54 = .ok (.goto (-47), 3) := by decide +kernel
theorem dX12_findShares_57 : decode cX12_findShares 57 = .ok (.aload_n 0, 1) := by decide +kernel
theorem dX12_findShares_58 : decode cX12_findShares 58 = .ok (.getfield 19, 3) := by decide +kernel
theorem dX12_findShares_61 : decode cX12_findShares 61 = .ok (.iconst 0, 1) := by decide +kernel
theorem dX12_findShares_62 : decode cX12_findShares 62 = .ok (.iaload, 1) := by decide +kernel
theorem dX12_findShares_63 : decode cX12_findShares 63 = .ok (.istore 4, 2) := by decide +kernel
theorem dX12_findShares_65 : decode cX12_findShares 65 = .ok (.iconst 0, 1) := by decide +kernel
theorem dX12_findShares_66 : decode cX12_findShares 66 = .ok (.istore 5, 2) := by decide +kernel
theorem dX12_findShares_68 : decode cX12_findShares 68 = .ok (.iload 5, 2) := by decide +kernel
theorem dX12_findShares_70 : decode cX12_findShares 70 = .ok (.aload_n 0, 1) := by decide +kernel
theorem dX12_findShares_71 : decode cX12_findShares 71 = .ok (.getfield 19, 3) := by decide +kernel
theorem dX12_findShares_74 : decode cX12_findShares 74 = .ok (.iconst 4, 1) := by decide +kernel
theorem dX12_findShares_75 : decode cX12_findShares 75 = .ok (.iaload, 1) := by decide +kernel
theorem dX12_findShares_76 : decode cX12_findShares 76 = .ok (.if_icmp .ge 44, 3) := by decide +kernel
theorem dX12_findShares_79 : decode cX12_findShares 79 = .ok (.aload_n 0, 1) := by decide +kernel
theorem dX12_findShares_80 : decode cX12_findShares 80 = .ok (.getfield 31, 3) := by decide +kernel
theorem dX12_findShares_83 : decode cX12_findShares 83 = .ok (.iload 5, 2) := by decide +kernel
theorem dX12_findShares_85 : decode cX12_findShares 85 = .ok (.aload_n 0, 1) := by decide +kernel
theorem dX12_findShares_86 : decode cX12_findShares 86 = .ok (.getfield 19, 3) := by decide +kernel
theorem dX12_findShares_89 : decode cX12_findShares 89 = .ok (.iconst 0, 1) := by decide +kernel
theorem dX12_findShares_90 : decode cX12_findShares 90 = .ok (.iaload, 1) := by decide +kernel
theorem dX12_findShares_91 : decode cX12_findShares 91 = .ok (.aload_n 0, 1) := by decide +kernel
theorem dX12_findShares_92 : decode cX12_findShares 92 = .ok (.iload 5, 2) := by decide +kernel
theorem dX12_findShares_94 : decode cX12_findShares 94 = .ok (.iload_n 1, 1) := by decide +kernel
theorem dX12_findShares_95 : decode cX12_findShares 95 = .ok (.invokevirtual 151, 3) := by decide +kernel
theorem dX12_findShares_98 : decode cX12_findShares 98 = .ok (.imul, 1) := by decide +kernel
theorem dX12_findShares_99 : decode cX12_findShares 99 = .ok (.iload_n 2, 1) := by decide +kernel
theorem dX12_findShares_100 : decode cX12_findShares 100 = .ok (.idiv, 1) := by decide +kernel
theorem dX12_findShares_101 : decode cX12_findShares 101 = .ok (.iastore, 1) := by decide +kernel
theorem dX12_findShares_102 : decode cX12_findShares 102 = .ok (.iload 4, 2) := by decide +kernel
theorem dX12_findShares_104 : decode cX12_findShares 104 = .ok (.aload_n 0, 1) := by decide +kernel
theorem dX12_findShares_105 : decode cX12_findShares 105 = .ok (.getfield 31, 3) := by decide +kernel
theorem dX12_findShares_108 : decode cX12_findShares 108 = .ok (.iload 5, 2) := by decide +kernel
theorem dX12_findShares_110 : decode cX12_findShares 110 = .ok (.iaload, 1) := by decide +kernel
theorem dX12_findShares_111 : decode cX12_findShares 111 = .ok (.isub, 1) := by decide +kernel
theorem dX12_findShares_112 : decode cX12_findShares 112 = .ok (.istore 4, 2) := by decide +kernel
theorem dX12_findShares_114 : decode cX12_findShares 114 = .ok (.iinc 5 1, 3) := by decide +kernel
theorem dX12_findShares_117 : decode cX12_findShares 117 = .ok (.goto (-49), 3) := by decide +kernel
theorem dX12_findShares_120 : decode cX12_findShares 120 = .ok (.aload_n 0, 1) := by decide +kernel
theorem dX12_findShares_121 : decode cX12_findShares 121 = .ok (.getfield 31, 3) := by decide +kernel
theorem dX12_findShares_124 : decode cX12_findShares 124 = .ok (.iload_n 3, 1) := by decide +kernel
theorem dX12_findShares_125 : decode cX12_findShares 125 = .ok (.dup2, 1) := by decide +kernel
theorem dX12_findShares_126 : decode cX12_findShares 126 = .ok (.iaload, 1) := by decide +kernel
theorem dX12_findShares_127 : decode cX12_findShares 127 = .ok (.iload 4, 2) := by decide +kernel
theorem dX12_findShares_129 : decode cX12_findShares 129 = .ok (.iadd, 1) := by decide +kernel
theorem dX12_findShares_130 : decode cX12_findShares 130 = .ok (.iastore, 1) := by decide +kernel
theorem dX12_findShares_131 : decode cX12_findShares 131 = .ok (.return_, 1) := by decide +kernel
theorem dX12_allowed_0 : decode cX12_allowed 0 = .ok (.aload_n 0, 1) := by decide +kernel
theorem dX12_allowed_1 : decode cX12_allowed 1 = .ok (.getfield 19, 3) := by decide +kernel
theorem dX12_allowed_4 : decode cX12_allowed 4 = .ok (.bipush 28, 2) := by decide +kernel
theorem dX12_allowed_6 : decode cX12_allowed 6 = .ok (.iload_n 1, 1) := by decide +kernel
theorem dX12_allowed_7 : decode cX12_allowed 7 = .ok (.iadd, 1) := by decide +kernel
theorem dX12_allowed_8 : decode cX12_allowed 8 = .ok (.iaload, 1) := by decide +kernel
theorem dX12_allowed_9 : decode cX12_allowed 9 = .ok (.aload_n 0, 1) := by decide +kernel
theorem dX12_allowed_10 : decode cX12_allowed 10 = .ok (.getfield 19, 3) := by decide +kernel
theorem dX12_allowed_13 : decode cX12_allowed 13 = .ok (.iconst 2, 1) := by decide +kernel
theorem dX12_allowed_14 : decode cX12_allowed 14 = .ok (.iaload, 1) := by decide +kernel
theorem dX12_allowed_15 : decode cX12_allowed 15 = .ok (.aload_n 0, 1) := by decide +kernel
theorem dX12_allowed_16 : decode cX12_allowed 16 = .ok (.getfield 19, 3) := by decide +kernel
theorem dX12_allowed_19 : decode cX12_allowed 19 = .ok (.bipush 36, 2) := by decide +kernel
theorem dX12_allowed_21 : decode cX12_allowed 21 = .ok (.iload_n 1, 1) := by decide +kernel
theorem dX12_allowed_22 : decode cX12_allowed 22 = .ok (.iadd, 1) := by decide +kernel
theorem dX12_allowed_23 : decode cX12_allowed 23 = .ok (.iaload, 1) := by decide +kernel
theorem dX12_allowed_24 : decode cX12_allowed 24 = .ok (.imul, 1) := by decide +kernel
theorem dX12_allowed_25 : decode cX12_allowed 25 = .ok (.isub, 1) := by decide +kernel
theorem dX12_allowed_26 : decode cX12_allowed 26 = .ok (.istore_n 2, 1) := by decide +kernel
theorem dX12_allowed_27 : decode cX12_allowed 27 = .ok (.iload_n 2, 1) := by decide +kernel
theorem dX12_allowed_28 : decode cX12_allowed 28 = .ok (.ifCond .ge 7, 3) := by decide +kernel
theorem dX12_allowed_31 : decode cX12_allowed 31 = .ok (.iconst 0, 1) := by decide +kernel
theorem dX12_allowed_32 : decode cX12_allowed 32 = .ok (.goto 4, 3) := by decide +kernel
theorem dX12_allowed_35 : decode cX12_allowed 35 = .ok (.iload_n 2, 1) := by decide +kernel
theorem dX12_allowed_36 : decode cX12_allowed 36 = .ok (.aload_n 0, 1) := by decide +kernel
theorem dX12_allowed_37 : decode cX12_allowed 37 = .ok (.getfield 19, 3) := by decide +kernel
theorem dX12_allowed_40 : decode cX12_allowed 40 = .ok (.bipush 12, 2) := by decide +kernel
theorem dX12_allowed_42 : decode cX12_allowed 42 = .ok (.iload_n 1, 1) := by decide +kernel
theorem dX12_allowed_43 : decode cX12_allowed 43 = .ok (.iadd, 1) := by decide +kernel
theorem dX12_allowed_44 : decode cX12_allowed 44 = .ok (.iaload, 1) := by decide +kernel
theorem dX12_allowed_45 : decode cX12_allowed 45 = .ok (.iadd, 1) := by decide +kernel
theorem dX12_allowed_46 : decode cX12_allowed 46 = .ok (.istore_n 2, 1) := by decide +kernel
theorem dX12_allowed_47 : decode cX12_allowed 47 = .ok (.aload_n 0, 1) := by decide +kernel
theorem dX12_allowed_48 : decode cX12_allowed 48 = .ok (.getfield 19, 3) := by decide +kernel
theorem dX12_allowed_51 : decode cX12_allowed 51 = .ok (.bipush 44, 2) := by decide +kernel
theorem dX12_allowed_53 : decode cX12_allowed 53 = .ok (.iload_n 1, 1) := by decide +kernel
theorem dX12_allowed_54 : decode cX12_allowed 54 = .ok (.iadd, 1) := by decide +kernel
theorem dX12_allowed_55 : decode cX12_allowed 55 = .ok (.iaload, 1) := by decide +kernel
theorem dX12_allowed_56 : decode cX12_allowed 56 = .ok (.iconst 1, 1) := by decide +kernel
theorem dX12_allowed_57 : decode cX12_allowed 57 = .ok (.isub, 1) := by decide +kernel
theorem dX12_allowed_58 : decode cX12_allowed 58 = .ok (.istore_n 3, 1) := by decide +kernel
theorem dX12_allowed_59 : decode cX12_allowed 59 = .ok (.iload_n 3, 1) := by decide +kernel
theorem dX12_allowed_60 : decode cX12_allowed 60 = .ok (.ifCond .lt 12, 3) := by decide +kernel
theorem dX12_allowed_63 : decode cX12_allowed 63 = .ok (.iload_n 3, 1) := by decide +kernel
theorem dX12_allowed_64 : decode cX12_allowed 64 = .ok (.iload_n 2, 1) := by decide +kernel
theorem dX12_allowed_65 : decode cX12_allowed 65 = .ok (.if_icmp .ge 7, 3) := by decide +kernel
theorem dX12_allowed_68 : decode cX12_allowed 68 = .ok (.iload_n 3, 1) := by decide +kernel
theorem dX12_allowed_69 : decode cX12_allowed 69 = .ok (.goto 4, 3) := by decide +kernel
theorem dX12_allowed_72 : decode cX12_allowed 72 = .ok (.iload_n 2, 1) := by decide +kernel
theorem dX12_allowed_73 : decode cX12_allowed 73 = .ok (.ireturn, 1) := by decide +kernel
theorem dX12_note_0 : decode cX12_note 0 = .ok (.aload_n 0, 1) := by decide +kernel
theorem dX12_note_1 : decode cX12_note 1 = .ok (.getfield 142, 3) := by decide +kernel
theorem dX12_note_4 : decode cX12_note 4 = .ok (.bipush 24, 2) := by decide +kernel
theorem dX12_note_6 : decode cX12_note 6 = .ok (.if_icmp .ne 43, 3) := by decide +kernel
theorem dX12_note_9 : decode cX12_note 9 = .ok (.iconst 0, 1) := by decide +kernel
theorem dX12_note_10 : decode cX12_note 10 = .ok (.istore_n 1, 1) := by decide +kernel
theorem dX12_note_11 : decode cX12_note 11 = .ok (.iload_n 1, 1) := by decide +kernel
theorem dX12_note_12 : decode cX12_note 12 = .ok (.sipush 1104, 3) := by decide +kernel
theorem dX12_note_15 : decode cX12_note 15 = .ok (.if_icmp .ge 24, 3) := by decide +kernel
theorem dX12_note_18 : decode cX12_note 18 = .ok (.aload_n 0, 1) := by decide +kernel
theorem dX12_note_19 : decode cX12_note 19 = .ok (.getfield 34, 3) := by decide +kernel
theorem dX12_note_22 : decode cX12_note 22 = .ok (.iload_n 1, 1) := by decide +kernel
theorem dX12_note_23 : decode cX12_note 23 = .ok (.aload_n 0, 1) := by decide +kernel
theorem dX12_note_24 : decode cX12_note 24 = .ok (.getfield 34, 3) := by decide +kernel
theorem dX12_note_27 : decode cX12_note 27 = .ok (.iload_n 1, 1) := by decide +kernel
theorem dX12_note_28 : decode cX12_note 28 = .ok (.bipush 48, 2) := by decide +kernel
theorem dX12_note_30 : decode cX12_note 30 = .ok (.iadd, 1) := by decide +kernel
theorem dX12_note_31 : decode cX12_note 31 = .ok (.iaload, 1) := by decide +kernel
theorem dX12_note_32 : decode cX12_note 32 = .ok (.iastore, 1) := by decide +kernel
theorem dX12_note_33 : decode cX12_note 33 = .ok (.iinc 1 1, 3) := by decide +kernel
theorem dX12_note_36 : decode cX12_note 36 = .ok (.goto (-25), 3) := by decide +kernel
theorem dX12_note_39 : decode cX12_note 39 = .ok (.aload_n 0, 1) := by decide +kernel
theorem dX12_note_40 : decode cX12_note 40 = .ok (.dup, 1) := by decide +kernel
theorem dX12_note_41 : decode cX12_note 41 = .ok (.getfield 142, 3) := by decide +kernel
theorem dX12_note_44 : decode cX12_note 44 = .ok (.iconst 1, 1) := by decide +kernel
theorem dX12_note_45 : decode cX12_note 45 = .ok (.isub, 1) := by decide +kernel
theorem dX12_note_46 : decode cX12_note 46 = .ok (.putfield 142, 3) := by decide +kernel
theorem dX12_note_49 : decode cX12_note 49 = .ok (.iconst 0, 1) := by decide +kernel
theorem dX12_note_50 : decode cX12_note 50 = .ok (.istore_n 1, 1) := by decide +kernel
theorem dX12_note_51 : decode cX12_note 51 = .ok (.iload_n 1, 1) := by decide +kernel
theorem dX12_note_52 : decode cX12_note 52 = .ok (.bipush 48, 2) := by decide +kernel
theorem dX12_note_54 : decode cX12_note 54 = .ok (.if_icmp .ge 29, 3) := by decide +kernel
theorem dX12_note_57 : decode cX12_note 57 = .ok (.aload_n 0, 1) := by decide +kernel
theorem dX12_note_58 : decode cX12_note 58 = .ok (.getfield 34, 3) := by decide +kernel
theorem dX12_note_61 : decode cX12_note 61 = .ok (.bipush 48, 2) := by decide +kernel
theorem dX12_note_63 : decode cX12_note 63 = .ok (.aload_n 0, 1) := by decide +kernel
theorem dX12_note_64 : decode cX12_note 64 = .ok (.getfield 142, 3) := by decide +kernel
theorem dX12_note_67 : decode cX12_note 67 = .ok (.imul, 1) := by decide +kernel
theorem dX12_note_68 : decode cX12_note 68 = .ok (.iload_n 1, 1) := by decide +kernel
theorem dX12_note_69 : decode cX12_note 69 = .ok (.iadd, 1) := by decide +kernel
theorem dX12_note_70 : decode cX12_note 70 = .ok (.aload_n 0, 1) := by decide +kernel
theorem dX12_note_71 : decode cX12_note 71 = .ok (.getfield 19, 3) := by decide +kernel
theorem dX12_note_74 : decode cX12_note 74 = .ok (.iload_n 1, 1) := by decide +kernel
theorem dX12_note_75 : decode cX12_note 75 = .ok (.iaload, 1) := by decide +kernel
theorem dX12_note_76 : decode cX12_note 76 = .ok (.iastore, 1) := by decide +kernel
theorem dX12_note_77 : decode cX12_note 77 = .ok (.iinc 1 1, 3) := by decide +kernel
theorem dX12_note_80 : decode cX12_note 80 = .ok (.goto (-29), 3) := by decide +kernel
theorem dX12_note_83 : decode cX12_note 83 = .ok (.aload_n 0, 1) := by decide +kernel
theorem dX12_note_84 : decode cX12_note 84 = .ok (.dup, 1) := by decide +kernel
theorem dX12_note_85 : decode cX12_note 85 = .ok (.getfield 142, 3) := by decide +kernel
theorem dX12_note_88 : decode cX12_note 88 = .ok (.iconst 1, 1) := by decide +kernel
theorem dX12_note_89 : decode cX12_note 89 = .ok (.iadd, 1) := by decide +kernel
theorem dX12_note_90 : decode cX12_note 90 = .ok (.putfield 142, 3) := by decide +kernel
theorem dX12_note_93 : decode cX12_note 93 = .ok (.return_, 1) := by decide +kernel
theorem dX12_undo_0 : decode cX12_undo 0 = .ok (.aload_n 0, 1) := by decide +kernel
theorem dX12_undo_1 : decode cX12_undo 1 = .ok (.getfield 142, 3) := by decide +kernel
theorem dX12_undo_4 : decode cX12_undo 4 = .ok (.ifCond .ne 6, 3) := by decide +kernel
theorem dX12_undo_7 : decode cX12_undo 7 = .ok (.ldc 154, 2) := by decide +kernel
theorem dX12_undo_9 : decode cX12_undo 9 = .ok (.ireturn, 1) := by decide +kernel
theorem dX12_undo_10 : decode cX12_undo 10 = .ok (.aload_n 0, 1) := by decide +kernel
theorem dX12_undo_11 : decode cX12_undo 11 = .ok (.dup, 1) := by decide +kernel
theorem dX12_undo_12 : decode cX12_undo 12 = .ok (.getfield 142, 3) := by decide +kernel
theorem dX12_undo_15 : decode cX12_undo 15 = .ok (.iconst 1, 1) := by decide +kernel
theorem dX12_undo_16 : decode cX12_undo 16 = .ok (.isub, 1) := by decide +kernel
theorem dX12_undo_17 : decode cX12_undo 17 = .ok (.putfield 142, 3) := by decide +kernel
theorem dX12_undo_20 : decode cX12_undo 20 = .ok (.iconst 0, 1) := by decide +kernel
theorem dX12_undo_21 : decode cX12_undo 21 = .ok (.istore_n 1, 1) := by decide +kernel
theorem dX12_undo_22 : decode cX12_undo 22 = .ok (.iload_n 1, 1) := by decide +kernel
theorem dX12_undo_23 : decode cX12_undo 23 = .ok (.bipush 48, 2) := by decide +kernel
theorem dX12_undo_25 : decode cX12_undo 25 = .ok (.if_icmp .ge 29, 3) := by decide +kernel
theorem dX12_undo_28 : decode cX12_undo 28 = .ok (.aload_n 0, 1) := by decide +kernel
theorem dX12_undo_29 : decode cX12_undo 29 = .ok (.getfield 19, 3) := by decide +kernel
theorem dX12_undo_32 : decode cX12_undo 32 = .ok (.iload_n 1, 1) := by decide +kernel
theorem dX12_undo_33 : decode cX12_undo 33 = .ok (.aload_n 0, 1) := by decide +kernel
theorem dX12_undo_34 : decode cX12_undo 34 = .ok (.getfield 34, 3) := by decide +kernel
theorem dX12_undo_37 : decode cX12_undo 37 = .ok (.bipush 48, 2) := by decide +kernel
theorem dX12_undo_39 : decode cX12_undo 39 = .ok (.aload_n 0, 1) := by decide +kernel
theorem dX12_undo_40 : decode cX12_undo 40 = .ok (.getfield 142, 3) := by decide +kernel
theorem dX12_undo_43 : decode cX12_undo 43 = .ok (.imul, 1) := by decide +kernel
theorem dX12_undo_44 : decode cX12_undo 44 = .ok (.iload_n 1, 1) := by decide +kernel
theorem dX12_undo_45 : decode cX12_undo 45 = .ok (.iadd, 1) := by decide +kernel
theorem dX12_undo_46 : decode cX12_undo 46 = .ok (.iaload, 1) := by decide +kernel
theorem dX12_undo_47 : decode cX12_undo 47 = .ok (.iastore, 1) := by decide +kernel
theorem dX12_undo_48 : decode cX12_undo 48 = .ok (.iinc 1 1, 3) := by decide +kernel
theorem dX12_undo_51 : decode cX12_undo 51 = .ok (.goto (-29), 3) := by decide +kernel
theorem dX12_undo_54 : decode cX12_undo 54 = .ok (.aload_n 0, 1) := by decide +kernel
theorem dX12_undo_55 : decode cX12_undo 55 = .ok (.getfield 142, 3) := by decide +kernel
theorem dX12_undo_58 : decode cX12_undo 58 = .ok (.ireturn, 1) := by decide +kernel
theorem dX12_say_0 : decode cX12_say 0 = .ok (.aload_n 0, 1) := by decide +kernel
theorem dX12_say_1 : decode cX12_say 1 = .ok (.getfield 19, 3) := by decide +kernel
theorem dX12_say_4 : decode cX12_say 4 = .ok (.bipush 20, 2) := by decide +kernel
theorem dX12_say_6 : decode cX12_say 6 = .ok (.iload_n 1, 1) := by decide +kernel
theorem dX12_say_7 : decode cX12_say 7 = .ok (.iadd, 1) := by decide +kernel
theorem dX12_say_8 : decode cX12_say 8 = .ok (.iconst 1, 1) := by decide +kernel
theorem dX12_say_9 : decode cX12_say 9 = .ok (.iastore, 1) := by decide +kernel
theorem dX12_say_10 : decode cX12_say 10 = .ok (.aload_n 0, 1) := by decide +kernel
theorem dX12_say_11 : decode cX12_say 11 = .ok (.getfield 19, 3) := by decide +kernel
theorem dX12_say_14 : decode cX12_say 14 = .ok (.bipush 24, 2) := by decide +kernel
theorem dX12_say_16 : decode cX12_say 16 = .ok (.iload_n 1, 1) := by decide +kernel
theorem dX12_say_17 : decode cX12_say 17 = .ok (.iadd, 1) := by decide +kernel
theorem dX12_say_18 : decode cX12_say 18 = .ok (.iload_n 2, 1) := by decide +kernel
theorem dX12_say_19 : decode cX12_say 19 = .ok (.iastore, 1) := by decide +kernel
theorem dX12_say_20 : decode cX12_say 20 = .ok (.return_, 1) := by decide +kernel
theorem dX12_speak_0 : decode cX12_speak 0 = .ok (.aload_n 0, 1) := by decide +kernel
theorem dX12_speak_1 : decode cX12_speak 1 = .ok (.iload_n 1, 1) := by decide +kernel
theorem dX12_speak_2 : decode cX12_speak 2 = .ok (.invokevirtual 155, 3) := by decide +kernel
theorem dX12_speak_5 : decode cX12_speak 5 = .ok (.ifCond .eq 27, 3) := by decide +kernel
theorem dX12_speak_8 : decode cX12_speak 8 = .ok (.iload_n 2, 1) := by decide +kernel
theorem dX12_speak_9 : decode cX12_speak 9 = .ok (.i2l, 1) := by decide +kernel
theorem dX12_speak_10 : decode cX12_speak 10 = .ok (.lconst 0, 1) := by decide +kernel
theorem dX12_speak_11 : decode cX12_speak 11 = .ok (.ldc2_w 158, 3) := by decide +kernel
theorem dX12_speak_14 : decode cX12_speak 14 = .ok (.invokestatic 60, 3) := by decide +kernel
theorem dX12_speak_17 : decode cX12_speak 17 = .ok (.ifCond .eq 15, 3) := by decide +kernel
theorem dX12_speak_20 : decode cX12_speak 20 = .ok (.iload_n 3, 1) := by decide +kernel
theorem dX12_speak_21 : decode cX12_speak 21 = .ok (.i2l, 1) := by decide +kernel
theorem dX12_speak_22 : decode cX12_speak 22 = .ok (.lconst 0, 1) := by decide +kernel
theorem dX12_speak_23 : decode cX12_speak 23 = .ok (.ldc2_w 160, 3) := by decide +kernel
theorem dX12_speak_26 : decode cX12_speak 26 = .ok (.invokestatic 60, 3) := by decide +kernel
theorem dX12_speak_29 : decode cX12_speak 29 = .ok (.ifCond .ne 6, 3) := by decide +kernel
theorem dX12_speak_32 : decode cX12_speak 32 = .ok (.ldc 70, 2) := by decide +kernel
theorem dX12_speak_34 : decode cX12_speak 34 = .ok (.ireturn, 1) := by decide +kernel
theorem dX12_speak_35 : decode cX12_speak 35 = .ok (.aload_n 0, 1) := by decide +kernel
theorem dX12_speak_36 : decode cX12_speak 36 = .ok (.getfield 19, 3) := by decide +kernel
theorem dX12_speak_39 : decode cX12_speak 39 = .ok (.bipush 7, 2) := by decide +kernel
theorem dX12_speak_41 : decode cX12_speak 41 = .ok (.iaload, 1) := by decide +kernel
theorem dX12_speak_42 : decode cX12_speak 42 = .ok (.iconst 1, 1) := by decide +kernel
theorem dX12_speak_43 : decode cX12_speak 43 = .ok (.if_icmp .ne 6, 3) := by decide +kernel
theorem dX12_speak_46 : decode cX12_speak 46 = .ok (.ldc 154, 2) := by decide +kernel
theorem dX12_speak_48 : decode cX12_speak 48 = .ok (.ireturn, 1) := by decide +kernel
theorem dX12_speak_49 : decode cX12_speak 49 = .ok (.aload_n 0, 1) := by decide +kernel
theorem dX12_speak_50 : decode cX12_speak 50 = .ok (.invokevirtual 162, 3) := by decide +kernel
theorem dX12_speak_53 : decode cX12_speak 53 = .ok (.aload_n 0, 1) := by decide +kernel
theorem dX12_speak_54 : decode cX12_speak 54 = .ok (.iload_n 1, 1) := by decide +kernel
theorem dX12_speak_55 : decode cX12_speak 55 = .ok (.iload_n 2, 1) := by decide +kernel
theorem dX12_speak_56 : decode cX12_speak 56 = .ok (.invokevirtual 165, 3) := by decide +kernel
theorem dX12_speak_59 : decode cX12_speak 59 = .ok (.aload_n 0, 1) := by decide +kernel
theorem dX12_speak_60 : decode cX12_speak 60 = .ok (.getfield 19, 3) := by decide +kernel
theorem dX12_speak_63 : decode cX12_speak 63 = .ok (.bipush 28, 2) := by decide +kernel
theorem dX12_speak_65 : decode cX12_speak 65 = .ok (.iload_n 1, 1) := by decide +kernel
theorem dX12_speak_66 : decode cX12_speak 66 = .ok (.iadd, 1) := by decide +kernel
theorem dX12_speak_67 : decode cX12_speak 67 = .ok (.iload_n 3, 1) := by decide +kernel
theorem dX12_speak_68 : decode cX12_speak 68 = .ok (.iastore, 1) := by decide +kernel
theorem dX12_speak_69 : decode cX12_speak 69 = .ok (.aload_n 0, 1) := by decide +kernel
theorem dX12_speak_70 : decode cX12_speak 70 = .ok (.iload_n 1, 1) := by decide +kernel
theorem dX12_speak_71 : decode cX12_speak 71 = .ok (.invokevirtual 145, 3) := by decide +kernel
theorem dX12_speak_74 : decode cX12_speak 74 = .ok (.ireturn, 1) := by decide +kernel
theorem dX12_part_0 : decode cX12_part 0 = .ok (.aload_n 0, 1) := by decide +kernel
theorem dX12_part_1 : decode cX12_part 1 = .ok (.getfield 138, 3) := by decide +kernel
theorem dX12_part_4 : decode cX12_part 4 = .ok (.ifCond .eq 14, 3) := by decide +kernel
theorem dX12_part_7 : decode cX12_part 7 = .ok (.aload_n 0, 1) := by decide +kernel
theorem dX12_part_8 : decode cX12_part 8 = .ok (.getfield 19, 3) := by decide +kernel
theorem dX12_part_11 : decode cX12_part 11 = .ok (.bipush 7, 2) := by decide +kernel
theorem dX12_part_13 : decode cX12_part 13 = .ok (.iaload, 1) := by decide +kernel
theorem dX12_part_14 : decode cX12_part 14 = .ok (.iconst 1, 1) := by decide +kernel
theorem dX12_part_15 : decode cX12_part 15 = .ok (.if_icmp .ne 6, 3) := by decide +kernel
theorem dX12_part_18 : decode cX12_part 18 = .ok (.ldc 154, 2) := by decide +kernel
theorem dX12_part_20 : decode cX12_part 20 = .ok (.ireturn, 1) := by decide +kernel
theorem dX12_part_21 : decode cX12_part 21 = .ok (.aload_n 0, 1) := by decide +kernel
theorem dX12_part_22 : decode cX12_part 22 = .ok (.invokevirtual 162, 3) := by decide +kernel
theorem dX12_part_25 : decode cX12_part 25 = .ok (.aload_n 0, 1) := by decide +kernel
theorem dX12_part_26 : decode cX12_part 26 = .ok (.aload_n 0, 1) := by decide +kernel
theorem dX12_part_27 : decode cX12_part 27 = .ok (.getfield 19, 3) := by decide +kernel
theorem dX12_part_30 : decode cX12_part 30 = .ok (.iconst 3, 1) := by decide +kernel
theorem dX12_part_31 : decode cX12_part 31 = .ok (.iaload, 1) := by decide +kernel
theorem dX12_part_32 : decode cX12_part 32 = .ok (.invokevirtual 169, 3) := by decide +kernel
theorem dX12_part_35 : decode cX12_part 35 = .ok (.iconst 0, 1) := by decide +kernel
theorem dX12_part_36 : decode cX12_part 36 = .ok (.istore_n 1, 1) := by decide +kernel
theorem dX12_part_37 : decode cX12_part 37 = .ok (.iconst 0, 1) := by decide +kernel
theorem dX12_part_38 : decode cX12_part 38 = .ok (.istore_n 2, 1) := by decide +kernel
theorem dX12_part_39 : decode cX12_part 39 = .ok (.iload_n 2, 1) := by decide +kernel
theorem dX12_part_40 : decode cX12_part 40 = .ok (.aload_n 0, 1) := by decide +kernel
theorem dX12_part_41 : decode cX12_part 41 = .ok (.getfield 19, 3) := by decide +kernel
theorem dX12_part_44 : decode cX12_part 44 = .ok (.iconst 4, 1) := by decide +kernel
theorem dX12_part_45 : decode cX12_part 45 = .ok (.iaload, 1) := by decide +kernel
theorem dX12_part_46 : decode cX12_part 46 = .ok (.if_icmp .ge 45, 3) := by decide +kernel
theorem dX12_part_49 : decode cX12_part 49 = .ok (.aload_n 0, 1) := by decide +kernel
theorem dX12_part_50 : decode cX12_part 50 = .ok (.getfield 19, 3) := by decide +kernel
theorem dX12_part_53 : decode cX12_part 53 = .ok (.bipush 32, 2) := by decide +kernel
theorem dX12_part_55 : decode cX12_part 55 = .ok (.iload_n 2, 1) := by decide +kernel
theorem dX12_part_56 : decode cX12_part 56 = .ok (.iadd, 1) := by decide +kernel
theorem dX12_part_57 : decode cX12_part 57 = .ok (.aload_n 0, 1) := by decide +kernel
theorem dX12_part_58 : decode cX12_part 58 = .ok (.getfield 31, 3) := by decide +kernel
theorem dX12_part_61 : decode cX12_part 61 = .ok (.iload_n 2, 1) := by decide +kernel
theorem dX12_part_62 : decode cX12_part 62 = .ok (.iaload, 1) := by decide +kernel
theorem dX12_part_63 : decode cX12_part 63 = .ok (.iastore, 1) := by decide +kernel
theorem dX12_part_64 : decode cX12_part 64 = .ok (.aload_n 0, 1) := by decide +kernel
theorem dX12_part_65 : decode cX12_part 65 = .ok (.getfield 31, 3) := by decide +kernel
theorem dX12_part_68 : decode cX12_part 68 = .ok (.iload_n 2, 1) := by decide +kernel
theorem dX12_part_69 : decode cX12_part 69 = .ok (.iaload, 1) := by decide +kernel
theorem dX12_part_70 : decode cX12_part 70 = .ok (.aload_n 0, 1) := by decide +kernel
theorem dX12_part_71 : decode cX12_part 71 = .ok (.getfield 31, 3) := by decide +kernel
theorem dX12_part_74 : decode cX12_part 74 = .ok (.iload_n 1, 1) := by decide +kernel
theorem dX12_part_75 : decode cX12_part 75 = .ok (.iaload, 1) := by decide +kernel
theorem dX12_part_76 : decode cX12_part 76 = .ok (.if_icmp .le 7, 3) := by decide +kernel
theorem dX12_part_79 : decode cX12_part 79 = .ok (.iload_n 2, 1) := by decide +kernel
theorem dX12_part_80 : decode cX12_part 80 = .ok (.goto 4, 3) := by decide +kernel
theorem dX12_part_83 : decode cX12_part 83 = .ok (.iload_n 1, 1) := by decide +kernel
theorem dX12_part_84 : decode cX12_part 84 = .ok (.istore_n 1, 1) := by decide +kernel
theorem dX12_part_85 : decode cX12_part 85 = .ok (.iinc 2 1, 3) := by decide +kernel
theorem dX12_part_88 : decode cX12_part 88 = .ok (.goto (-49), 3) := by decide +kernel
theorem dX12_part_91 : decode cX12_part 91 = .ok (.aload_n 0, 1) := by decide +kernel
theorem dX12_part_92 : decode cX12_part 92 = .ok (.getfield 19, 3) := by decide +kernel
theorem dX12_part_95 : decode cX12_part 95 = .ok (.bipush 7, 2) := by decide +kernel
theorem dX12_part_97 : decode cX12_part 97 = .ok (.iconst 1, 1) := by decide +kernel
theorem dX12_part_98 : decode cX12_part 98 = .ok (.iastore, 1) := by decide +kernel
theorem dX12_part_99 : decode cX12_part 99 = .ok (.iload_n 1, 1) := by decide +kernel
theorem dX12_part_100 : decode cX12_part 100 = .ok (.ireturn, 1) := by decide +kernel
theorem dX12_rule_0 : decode cX12_rule 0 = .ok (.aload_n 0, 1) := by decide +kernel
theorem dX12_rule_1 : decode cX12_rule 1 = .ok (.getfield 138, 3) := by decide +kernel
theorem dX12_rule_4 : decode cX12_rule 4 = .ok (.ifCond .ne 6, 3) := by decide +kernel
theorem dX12_rule_7 : decode cX12_rule 7 = .ok (.ldc 154, 2) := by decide +kernel
theorem dX12_rule_9 : decode cX12_rule 9 = .ok (.ireturn, 1) := by decide +kernel
theorem dX12_rule_10 : decode cX12_rule 10 = .ok (.iload_n 1, 1) := by decide +kernel
theorem dX12_rule_11 : decode cX12_rule 11 = .ok (.i2l, 1) := by decide +kernel
theorem dX12_rule_12 : decode cX12_rule 12 = .ok (.lconst 0, 1) := by decide +kernel
theorem dX12_rule_13 : decode cX12_rule 13 = .ok (.ldc2_w 173, 3) := by decide +kernel
theorem dX12_rule_16 : decode cX12_rule 16 = .ok (.invokestatic 60, 3) := by decide +kernel
theorem dX12_rule_19 : decode cX12_rule 19 = .ok (.ifCond .ne 6, 3) := by decide +kernel
theorem dX12_rule_22 : decode cX12_rule 22 = .ok (.ldc 70, 2) := by decide +kernel
theorem dX12_rule_24 : decode cX12_rule 24 = .ok (.ireturn, 1) := by decide +kernel
theorem dX12_rule_25 : decode cX12_rule 25 = .ok (.aload_n 0, 1) := by decide +kernel
theorem dX12_rule_26 : decode cX12_rule 26 = .ok (.getfield 19, 3) := by decide +kernel
theorem dX12_rule_29 : decode cX12_rule 29 = .ok (.bipush 7, 2) := by decide +kernel
theorem dX12_rule_31 : decode cX12_rule 31 = .ok (.iaload, 1) := by decide +kernel
theorem dX12_rule_32 : decode cX12_rule 32 = .ok (.iconst 1, 1) := by decide +kernel
theorem dX12_rule_33 : decode cX12_rule 33 = .ok (.if_icmp .ne 6, 3) := by decide +kernel
theorem dX12_rule_36 : decode cX12_rule 36 = .ok (.ldc 154, 2) := by decide +kernel
theorem dX12_rule_38 : decode cX12_rule 38 = .ok (.ireturn, 1) := by decide +kernel
theorem dX12_rule_39 : decode cX12_rule 39 = .ok (.aload_n 0, 1) := by decide +kernel
theorem dX12_rule_40 : decode cX12_rule 40 = .ok (.invokevirtual 162, 3) := by decide +kernel
theorem dX12_rule_43 : decode cX12_rule 43 = .ok (.aload_n 0, 1) := by decide +kernel
theorem dX12_rule_44 : decode cX12_rule 44 = .ok (.getfield 19, 3) := by decide +kernel
theorem dX12_rule_47 : decode cX12_rule 47 = .ok (.iconst 3, 1) := by decide +kernel
theorem dX12_rule_48 : decode cX12_rule 48 = .ok (.iaload, 1) := by decide +kernel
theorem dX12_rule_49 : decode cX12_rule 49 = .ok (.istore_n 2, 1) := by decide +kernel
theorem dX12_rule_50 : decode cX12_rule 50 = .ok (.aload_n 0, 1) := by decide +kernel
theorem dX12_rule_51 : decode cX12_rule 51 = .ok (.getfield 19, 3) := by decide +kernel
theorem dX12_rule_54 : decode cX12_rule 54 = .ok (.iconst 3, 1) := by decide +kernel
theorem dX12_rule_55 : decode cX12_rule 55 = .ok (.iload_n 1, 1) := by decide +kernel
theorem dX12_rule_56 : decode cX12_rule 56 = .ok (.iastore, 1) := by decide +kernel
theorem dX12_rule_57 : decode cX12_rule 57 = .ok (.iload_n 2, 1) := by decide +kernel
theorem dX12_rule_58 : decode cX12_rule 58 = .ok (.ireturn, 1) := by decide +kernel
theorem dX12_oneMonth_0 : decode cX12_oneMonth 0 = .ok (.aload_n 0, 1) := by decide +kernel
theorem dX12_oneMonth_1 : decode cX12_oneMonth 1 = .ok (.getfield 19, 3) := by decide +kernel
theorem dX12_oneMonth_4 : decode cX12_oneMonth 4 = .ok (.bipush 6, 2) := by decide +kernel
theorem dX12_oneMonth_6 : decode cX12_oneMonth 6 = .ok (.iaload, 1) := by decide +kernel
theorem dX12_oneMonth_7 : decode cX12_oneMonth 7 = .ok (.istore_n 1, 1) := by decide +kernel
theorem dX12_oneMonth_8 : decode cX12_oneMonth 8 = .ok (.aload_n 0, 1) := by decide +kernel
theorem dX12_oneMonth_9 : decode cX12_oneMonth 9 = .ok (.iload_n 1, 1) := by decide +kernel
theorem dX12_oneMonth_10 : decode cX12_oneMonth 10 = .ok (.invokevirtual 175, 3) := by decide +kernel
theorem dX12_oneMonth_13 : decode cX12_oneMonth 13 = .ok (.istore_n 2, 1) := by decide +kernel
theorem dX12_oneMonth_14 : decode cX12_oneMonth 14 = .ok (.aload_n 0, 1) := by decide +kernel
theorem dX12_oneMonth_15 : decode cX12_oneMonth 15 = .ok (.getfield 19, 3) := by decide +kernel
theorem dX12_oneMonth_18 : decode cX12_oneMonth 18 = .ok (.iconst 1, 1) := by decide +kernel
theorem dX12_oneMonth_19 : decode cX12_oneMonth 19 = .ok (.aload_n 0, 1) := by decide +kernel
theorem dX12_oneMonth_20 : decode cX12_oneMonth 20 = .ok (.getfield 19, 3) := by decide +kernel
theorem dX12_oneMonth_23 : decode cX12_oneMonth 23 = .ok (.iconst 1, 1) := by decide +kernel
theorem dX12_oneMonth_24 : decode cX12_oneMonth 24 = .ok (.iaload, 1) := by decide +kernel
theorem dX12_oneMonth_25 : decode cX12_oneMonth 25 = .ok (.iload_n 2, 1) := by decide +kernel
theorem dX12_oneMonth_26 : decode cX12_oneMonth 26 = .ok (.if_icmp .le 7, 3) := by decide +kernel
theorem dX12_oneMonth_29 : decode cX12_oneMonth 29 = .ok (.iload_n 2, 1) := by decide +kernel
theorem dX12_oneMonth_30 : decode cX12_oneMonth 30 = .ok (.goto 9, 3) := by decide +kernel
theorem dX12_oneMonth_33 : decode cX12_oneMonth 33 = .ok (.aload_n 0, 1) := by decide +kernel
theorem dX12_oneMonth_34 : decode cX12_oneMonth 34 = .ok (.getfield 19, 3) := by decide +kernel
theorem dX12_oneMonth_37 : decode cX12_oneMonth 37 = .ok (.iconst 1, 1) := by decide +kernel
theorem dX12_oneMonth_38 : decode cX12_oneMonth 38 = .ok (.iaload, 1) := by decide +kernel
theorem dX12_oneMonth_39 : decode cX12_oneMonth 39 = .ok (.iastore, 1) := by decide +kernel
theorem dX12_oneMonth_40 : decode cX12_oneMonth 40 = .ok (.aload_n 0, 1) := by decide +kernel
theorem dX12_oneMonth_41 : decode cX12_oneMonth 41 = .ok (.getfield 19, 3) := by decide +kernel
theorem dX12_oneMonth_44 : decode cX12_oneMonth 44 = .ok (.bipush 40, 2) := by decide +kernel
theorem dX12_oneMonth_46 : decode cX12_oneMonth 46 = .ok (.iload_n 1, 1) := by decide +kernel
theorem dX12_oneMonth_47 : decode cX12_oneMonth 47 = .ok (.iadd, 1) := by decide +kernel
theorem dX12_oneMonth_48 : decode cX12_oneMonth 48 = .ok (.dup2, 1) := by decide +kernel
theorem dX12_oneMonth_49 : decode cX12_oneMonth 49 = .ok (.iaload, 1) := by decide +kernel
theorem dX12_oneMonth_50 : decode cX12_oneMonth 50 = .ok (.iload_n 2, 1) := by decide +kernel
theorem dX12_oneMonth_51 : decode cX12_oneMonth 51 = .ok (.aload_n 0, 1) := by decide +kernel
theorem dX12_oneMonth_52 : decode cX12_oneMonth 52 = .ok (.getfield 19, 3) := by decide +kernel
theorem dX12_oneMonth_55 : decode cX12_oneMonth 55 = .ok (.bipush 28, 2) := by decide +kernel
theorem dX12_oneMonth_57 : decode cX12_oneMonth 57 = .ok (.iload_n 1, 1) := by decide +kernel
theorem dX12_oneMonth_58 : decode cX12_oneMonth 58 = .ok (.iadd, 1) := by decide +kernel
theorem dX12_oneMonth_59 : decode cX12_oneMonth 59 = .ok (.iaload, 1) := by decide +kernel
theorem dX12_oneMonth_60 : decode cX12_oneMonth 60 = .ok (.if_icmp .ge 7, 3) := by decide +kernel
theorem dX12_oneMonth_63 : decode cX12_oneMonth 63 = .ok (.iconst 1, 1) := by decide +kernel
theorem dX12_oneMonth_64 : decode cX12_oneMonth 64 = .ok (.goto 4, 3) := by decide +kernel
theorem dX12_oneMonth_67 : decode cX12_oneMonth 67 = .ok (.iconst 0, 1) := by decide +kernel
theorem dX12_oneMonth_68 : decode cX12_oneMonth 68 = .ok (.iadd, 1) := by decide +kernel
theorem dX12_oneMonth_69 : decode cX12_oneMonth 69 = .ok (.iastore, 1) := by decide +kernel
theorem dX12_oneMonth_70 : decode cX12_oneMonth 70 = .ok (.aload_n 0, 1) := by decide +kernel
theorem dX12_oneMonth_71 : decode cX12_oneMonth 71 = .ok (.getfield 19, 3) := by decide +kernel
theorem dX12_oneMonth_74 : decode cX12_oneMonth 74 = .ok (.bipush 36, 2) := by decide +kernel
theorem dX12_oneMonth_76 : decode cX12_oneMonth 76 = .ok (.iload_n 1, 1) := by decide +kernel
theorem dX12_oneMonth_77 : decode cX12_oneMonth 77 = .ok (.iadd, 1) := by decide +kernel
theorem dX12_oneMonth_78 : decode cX12_oneMonth 78 = .ok (.dup2, 1) := by decide +kernel
theorem dX12_oneMonth_79 : decode cX12_oneMonth 79 = .ok (.iaload, 1) := by decide +kernel
theorem dX12_oneMonth_80 : decode cX12_oneMonth 80 = .ok (.iconst 1, 1) := by decide +kernel
theorem dX12_oneMonth_81 : decode cX12_oneMonth 81 = .ok (.iadd, 1) := by decide +kernel
theorem dX12_oneMonth_82 : decode cX12_oneMonth 82 = .ok (.iastore, 1) := by decide +kernel
theorem dX12_oneMonth_83 : decode cX12_oneMonth 83 = .ok (.aload_n 0, 1) := by decide +kernel
theorem dX12_oneMonth_84 : decode cX12_oneMonth 84 = .ok (.getfield 19, 3) := by decide +kernel
theorem dX12_oneMonth_87 : decode cX12_oneMonth 87 = .ok (.bipush 6, 2) := by decide +kernel
theorem dX12_oneMonth_89 : decode cX12_oneMonth 89 = .ok (.iload_n 1, 1) := by decide +kernel
theorem dX12_oneMonth_90 : decode cX12_oneMonth 90 = .ok (.iconst 1, 1) := by decide +kernel
theorem dX12_oneMonth_91 : decode cX12_oneMonth 91 = .ok (.iadd, 1) := by decide +kernel
theorem dX12_oneMonth_92 : decode cX12_oneMonth 92 = .ok (.aload_n 0, 1) := by decide +kernel
theorem dX12_oneMonth_93 : decode cX12_oneMonth 93 = .ok (.getfield 19, 3) := by decide +kernel
theorem dX12_oneMonth_96 : decode cX12_oneMonth 96 = .ok (.iconst 4, 1) := by decide +kernel
theorem dX12_oneMonth_97 : decode cX12_oneMonth 97 = .ok (.iaload, 1) := by decide +kernel
theorem dX12_oneMonth_98 : decode cX12_oneMonth 98 = .ok (.irem, 1) := by decide +kernel
theorem dX12_oneMonth_99 : decode cX12_oneMonth 99 = .ok (.iastore, 1) := by decide +kernel
theorem dX12_oneMonth_100 : decode cX12_oneMonth 100 = .ok (.aload_n 0, 1) := by decide +kernel
theorem dX12_oneMonth_101 : decode cX12_oneMonth 101 = .ok (.getfield 19, 3) := by decide +kernel
theorem dX12_oneMonth_104 : decode cX12_oneMonth 104 = .ok (.iconst 5, 1) := by decide +kernel
theorem dX12_oneMonth_105 : decode cX12_oneMonth 105 = .ok (.dup2, 1) := by decide +kernel
theorem dX12_oneMonth_106 : decode cX12_oneMonth 106 = .ok (.iaload, 1) := by decide +kernel
theorem dX12_oneMonth_107 : decode cX12_oneMonth 107 = .ok (.iconst 1, 1) := by decide +kernel
theorem dX12_oneMonth_108 : decode cX12_oneMonth 108 = .ok (.iadd, 1) := by decide +kernel
theorem dX12_oneMonth_109 : decode cX12_oneMonth 109 = .ok (.iastore, 1) := by decide +kernel
theorem dX12_oneMonth_110 : decode cX12_oneMonth 110 = .ok (.return_, 1) := by decide +kernel
theorem dX12_months_0 : decode cX12_months 0 = .ok (.aload_n 0, 1) := by decide +kernel
theorem dX12_months_1 : decode cX12_months 1 = .ok (.getfield 138, 3) := by decide +kernel
theorem dX12_months_4 : decode cX12_months 4 = .ok (.ifCond .ne 6, 3) := by decide +kernel
theorem dX12_months_7 : decode cX12_months 7 = .ok (.ldc 154, 2) := by decide +kernel
theorem dX12_months_9 : decode cX12_months 9 = .ok (.ireturn, 1) := by decide +kernel
theorem dX12_months_10 : decode cX12_months 10 = .ok (.iload_n 1, 1) := by decide +kernel
theorem dX12_months_11 : decode cX12_months 11 = .ok (.i2l, 1) := by decide +kernel
theorem dX12_months_12 : decode cX12_months 12 = .ok (.lconst 1, 1) := by decide +kernel
theorem dX12_months_13 : decode cX12_months 13 = .ok (.ldc2_w 178, 3) := by decide +kernel
theorem dX12_months_16 : decode cX12_months 16 = .ok (.invokestatic 60, 3) := by decide +kernel
theorem dX12_months_19 : decode cX12_months 19 = .ok (.ifCond .ne 6, 3) := by decide +kernel
theorem dX12_months_22 : decode cX12_months 22 = .ok (.ldc 70, 2) := by decide +kernel
theorem dX12_months_24 : decode cX12_months 24 = .ok (.ireturn, 1) := by decide +kernel
theorem dX12_months_25 : decode cX12_months 25 = .ok (.aload_n 0, 1) := by decide +kernel
theorem dX12_months_26 : decode cX12_months 26 = .ok (.getfield 19, 3) := by decide +kernel
theorem dX12_months_29 : decode cX12_months 29 = .ok (.bipush 7, 2) := by decide +kernel
theorem dX12_months_31 : decode cX12_months 31 = .ok (.iaload, 1) := by decide +kernel
theorem dX12_months_32 : decode cX12_months 32 = .ok (.ifCond .ne 6, 3) := by decide +kernel
theorem dX12_months_35 : decode cX12_months 35 = .ok (.ldc 154, 2) := by decide +kernel
theorem dX12_months_37 : decode cX12_months 37 = .ok (.ireturn, 1) := by decide +kernel
theorem dX12_months_38 : decode cX12_months 38 = .ok (.aload_n 0, 1) := by decide +kernel
theorem dX12_months_39 : decode cX12_months 39 = .ok (.getfield 19, 3) := by decide +kernel
theorem dX12_months_42 : decode cX12_months 42 = .ok (.iconst 5, 1) := by decide +kernel
theorem dX12_months_43 : decode cX12_months 43 = .ok (.iaload, 1) := by decide +kernel
theorem dX12_months_44 : decode cX12_months 44 = .ok (.iload_n 1, 1) := by decide +kernel
theorem dX12_months_45 : decode cX12_months 45 = .ok (.iadd, 1) := by decide +kernel
theorem dX12_months_46 : decode cX12_months 46 = .ok (.sipush 999, 3) := by decide +kernel
theorem dX12_months_49 : decode cX12_months 49 = .ok (.if_icmp .le 6, 3) := by decide +kernel
theorem dX12_months_52 : decode cX12_months 52 = .ok (.ldc 87, 2) := by decide +kernel
theorem dX12_months_54 : decode cX12_months 54 = .ok (.ireturn, 1) := by decide +kernel
theorem dX12_months_55 : decode cX12_months 55 = .ok (.iconst 0, 1) := by decide +kernel
theorem dX12_months_56 : decode cX12_months 56 = .ok (.istore_n 2, 1) := by decide +kernel
theorem dX12_months_57 : decode cX12_months 57 = .ok (.iload_n 2, 1) := by decide +kernel
theorem dX12_months_58 : decode cX12_months 58 = .ok (.iload_n 1, 1) := by decide +kernel
theorem dX12_months_59 : decode cX12_months 59 = .ok (.if_icmp .ge 17, 3) := by decide +kernel
theorem dX12_months_62 : decode cX12_months 62 = .ok (.aload_n 0, 1) := by decide +kernel
theorem dX12_months_63 : decode cX12_months 63 = .ok (.invokevirtual 162, 3) := by decide +kernel
theorem dX12_months_66 : decode cX12_months 66 = .ok (.aload_n 0, 1) := by decide +kernel
theorem dX12_months_67 : decode cX12_months 67 = .ok (.invokevirtual 180, 3) := by decide +kernel
theorem dX12_months_70 : decode cX12_months 70 = .ok (.iinc 2 1, 3) := by decide +kernel
theorem dX12_months_73 : decode cX12_months 73 = .ok (.goto (-16), 3) := by decide +kernel
theorem dX12_months_76 : decode cX12_months 76 = .ok (.aload_n 0, 1) := by decide +kernel
theorem dX12_months_77 : decode cX12_months 77 = .ok (.getfield 19, 3) := by decide +kernel
theorem dX12_months_80 : decode cX12_months 80 = .ok (.iconst 1, 1) := by decide +kernel
theorem dX12_months_81 : decode cX12_months 81 = .ok (.iaload, 1) := by decide +kernel
theorem dX12_months_82 : decode cX12_months 82 = .ok (.ireturn, 1) := by decide +kernel
theorem dX12_letter_0 : decode cX12_letter 0 = .ok (.aload_n 0, 1) := by decide +kernel
theorem dX12_letter_1 : decode cX12_letter 1 = .ok (.iload_n 1, 1) := by decide +kernel
theorem dX12_letter_2 : decode cX12_letter 2 = .ok (.invokevirtual 155, 3) := by decide +kernel
theorem dX12_letter_5 : decode cX12_letter 5 = .ok (.ifCond .eq 16, 3) := by decide +kernel
theorem dX12_letter_8 : decode cX12_letter 8 = .ok (.aload_n 0, 1) := by decide +kernel
theorem dX12_letter_9 : decode cX12_letter 9 = .ok (.iload_n 2, 1) := by decide +kernel
theorem dX12_letter_10 : decode cX12_letter 10 = .ok (.invokevirtual 155, 3) := by decide +kernel
theorem dX12_letter_13 : decode cX12_letter 13 = .ok (.ifCond .eq 8, 3) := by decide +kernel
theorem dX12_letter_16 : decode cX12_letter 16 = .ok (.iload_n 1, 1) := by decide +kernel
theorem dX12_letter_17 : decode cX12_letter 17 = .ok (.iload_n 2, 1) := by decide +kernel
theorem dX12_letter_18 : decode cX12_letter 18 = .ok (.if_icmp .ne 6, 3) := by decide +kernel
theorem dX12_letter_21 : decode cX12_letter 21 = .ok (.ldc 70, 2) := by decide +kernel
theorem dX12_letter_23 : decode cX12_letter 23 = .ok (.ireturn, 1) := by decide +kernel
theorem dX12_letter_24 : decode cX12_letter 24 = .ok (.aload_n 0, 1) := by decide +kernel
theorem dX12_letter_25 : decode cX12_letter 25 = .ok (.invokevirtual 162, 3) := by decide +kernel
theorem dX12_letter_28 : decode cX12_letter 28 = .ok (.aload_n 0, 1) := by decide +kernel
theorem dX12_letter_29 : decode cX12_letter 29 = .ok (.iload_n 1, 1) := by decide +kernel
theorem dX12_letter_30 : decode cX12_letter 30 = .ok (.invokevirtual 175, 3) := by decide +kernel
theorem dX12_letter_33 : decode cX12_letter 33 = .ok (.iconst 1, 1) := by decide +kernel
theorem dX12_letter_34 : decode cX12_letter 34 = .ok (.iadd, 1) := by decide +kernel
theorem dX12_letter_35 : decode cX12_letter 35 = .ok (.istore_n 3, 1) := by decide +kernel
theorem dX12_letter_36 : decode cX12_letter 36 = .ok (.aload_n 0, 1) := by decide +kernel
theorem dX12_letter_37 : decode cX12_letter 37 = .ok (.getfield 19, 3) := by decide +kernel
theorem dX12_letter_40 : decode cX12_letter 40 = .ok (.bipush 44, 2) := by decide +kernel
theorem dX12_letter_42 : decode cX12_letter 42 = .ok (.iload_n 2, 1) := by decide +kernel
theorem dX12_letter_43 : decode cX12_letter 43 = .ok (.iadd, 1) := by decide +kernel
theorem dX12_letter_44 : decode cX12_letter 44 = .ok (.aload_n 0, 1) := by decide +kernel
theorem dX12_letter_45 : decode cX12_letter 45 = .ok (.getfield 19, 3) := by decide +kernel
theorem dX12_letter_48 : decode cX12_letter 48 = .ok (.bipush 44, 2) := by decide +kernel
theorem dX12_letter_50 : decode cX12_letter 50 = .ok (.iload_n 2, 1) := by decide +kernel
theorem dX12_letter_51 : decode cX12_letter 51 = .ok (.iadd, 1) := by decide +kernel
theorem dX12_letter_52 : decode cX12_letter 52 = .ok (.iaload, 1) := by decide +kernel
theorem dX12_letter_53 : decode cX12_letter 53 = .ok (.ifCond .eq 16, 3) := by decide +kernel
theorem dX12_letter_56 : decode cX12_letter 56 = .ok (.iload_n 3, 1) := by decide +kernel
theorem dX12_letter_57 : decode cX12_letter 57 = .ok (.aload_n 0, 1) := by decide +kernel
theorem dX12_letter_58 : decode cX12_letter 58 = .ok (.getfield 19, 3) := by decide +kernel
theorem dX12_letter_61 : decode cX12_letter 61 = .ok (.bipush 44, 2) := by decide +kernel
theorem dX12_letter_63 : decode cX12_letter 63 = .ok (.iload_n 2, 1) := by decide +kernel
theorem dX12_letter_64 : decode cX12_letter 64 = .ok (.iadd, 1) := by decide +kernel
theorem dX12_letter_65 : decode cX12_letter 65 = .ok (.iaload, 1) := by decide +kernel
theorem dX12_letter_66 : decode cX12_letter 66 = .ok (.if_icmp .ge 7, 3) := by decide +kernel
theorem dX12_letter_69 : decode cX12_letter 69 = .ok (.iload_n 3, 1) := by decide +kernel
theorem dX12_letter_70 : decode cX12_letter 70 = .ok (.goto 12, 3) := by decide +kernel
theorem dX12_letter_73 : decode cX12_letter 73 = .ok (.aload_n 0, 1) := by decide +kernel
theorem dX12_letter_74 : decode cX12_letter 74 = .ok (.getfield 19, 3) := by decide +kernel
theorem dX12_letter_77 : decode cX12_letter 77 = .ok (.bipush 44, 2) := by decide +kernel
theorem dX12_letter_79 : decode cX12_letter 79 = .ok (.iload_n 2, 1) := by decide +kernel
theorem dX12_letter_80 : decode cX12_letter 80 = .ok (.iadd, 1) := by decide +kernel
theorem dX12_letter_81 : decode cX12_letter 81 = .ok (.iaload, 1) := by decide +kernel
theorem dX12_letter_82 : decode cX12_letter 82 = .ok (.iastore, 1) := by decide +kernel
theorem dX12_letter_83 : decode cX12_letter 83 = .ok (.aload_n 0, 1) := by decide +kernel
theorem dX12_letter_84 : decode cX12_letter 84 = .ok (.iload_n 2, 1) := by decide +kernel
theorem dX12_letter_85 : decode cX12_letter 85 = .ok (.invokevirtual 175, 3) := by decide +kernel
theorem dX12_letter_88 : decode cX12_letter 88 = .ok (.ireturn, 1) := by decide +kernel
theorem dX12_heir_0 : decode cX12_heir 0 = .ok (.aload_n 0, 1) := by decide +kernel
theorem dX12_heir_1 : decode cX12_heir 1 = .ok (.iload_n 1, 1) := by decide +kernel
theorem dX12_heir_2 : decode cX12_heir 2 = .ok (.invokevirtual 155, 3) := by decide +kernel
theorem dX12_heir_5 : decode cX12_heir 5 = .ok (.ifCond .ne 6, 3) := by decide +kernel
theorem dX12_heir_8 : decode cX12_heir 8 = .ok (.ldc 70, 2) := by decide +kernel
theorem dX12_heir_10 : decode cX12_heir 10 = .ok (.ireturn, 1) := by decide +kernel
theorem dX12_heir_11 : decode cX12_heir 11 = .ok (.iload_n 2, 1) := by decide +kernel
theorem dX12_heir_12 : decode cX12_heir 12 = .ok (.tableswitch 134 0 8 #[52, 62, 72, 82, 88, 98, 108, 114, 124], 52) := by decide +kernel
theorem dX12_heir_64 : decode cX12_heir 64 = .ok (.aload_n 0, 1) := by decide +kernel
theorem dX12_heir_65 : decode cX12_heir 65 = .ok (.getfield 19, 3) := by decide +kernel
theorem dX12_heir_68 : decode cX12_heir 68 = .ok (.bipush 12, 2) := by decide +kernel
theorem dX12_heir_70 : decode cX12_heir 70 = .ok (.iload_n 1, 1) := by decide +kernel
theorem dX12_heir_71 : decode cX12_heir 71 = .ok (.iadd, 1) := by decide +kernel
theorem dX12_heir_72 : decode cX12_heir 72 = .ok (.iaload, 1) := by decide +kernel
theorem dX12_heir_73 : decode cX12_heir 73 = .ok (.ireturn, 1) := by decide +kernel
theorem dX12_heir_74 : decode cX12_heir 74 = .ok (.aload_n 0, 1) := by decide +kernel
theorem dX12_heir_75 : decode cX12_heir 75 = .ok (.getfield 19, 3) := by decide +kernel
theorem dX12_heir_78 : decode cX12_heir 78 = .ok (.bipush 16, 2) := by decide +kernel
theorem dX12_heir_80 : decode cX12_heir 80 = .ok (.iload_n 1, 1) := by decide +kernel
theorem dX12_heir_81 : decode cX12_heir 81 = .ok (.iadd, 1) := by decide +kernel
theorem dX12_heir_82 : decode cX12_heir 82 = .ok (.iaload, 1) := by decide +kernel
theorem dX12_heir_83 : decode cX12_heir 83 = .ok (.ireturn, 1) := by decide +kernel
theorem dX12_heir_84 : decode cX12_heir 84 = .ok (.aload_n 0, 1) := by decide +kernel
theorem dX12_heir_85 : decode cX12_heir 85 = .ok (.getfield 19, 3) := by decide +kernel
theorem dX12_heir_88 : decode cX12_heir 88 = .ok (.bipush 20, 2) := by decide +kernel
theorem dX12_heir_90 : decode cX12_heir 90 = .ok (.iload_n 1, 1) := by decide +kernel
theorem dX12_heir_91 : decode cX12_heir 91 = .ok (.iadd, 1) := by decide +kernel
theorem dX12_heir_92 : decode cX12_heir 92 = .ok (.iaload, 1) := by decide +kernel
theorem dX12_heir_93 : decode cX12_heir 93 = .ok (.ireturn, 1) := by decide +kernel
theorem dX12_heir_94 : decode cX12_heir 94 = .ok (.aload_n 0, 1) := by decide +kernel
theorem dX12_heir_95 : decode cX12_heir 95 = .ok (.iload_n 1, 1) := by decide +kernel
theorem dX12_heir_96 : decode cX12_heir 96 = .ok (.invokevirtual 148, 3) := by decide +kernel
theorem dX12_heir_99 : decode cX12_heir 99 = .ok (.ireturn, 1) := by decide +kernel
theorem dX12_heir_100 : decode cX12_heir 100 = .ok (.aload_n 0, 1) := by decide +kernel
theorem dX12_heir_101 : decode cX12_heir 101 = .ok (.getfield 19, 3) := by decide +kernel
theorem dX12_heir_104 : decode cX12_heir 104 = .ok (.bipush 28, 2) := by decide +kernel
theorem dX12_heir_106 : decode cX12_heir 106 = .ok (.iload_n 1, 1) := by decide +kernel
theorem dX12_heir_107 : decode cX12_heir 107 = .ok (.iadd, 1) := by decide +kernel
theorem dX12_heir_108 : decode cX12_heir 108 = .ok (.iaload, 1) := by decide +kernel
theorem dX12_heir_109 : decode cX12_heir 109 = .ok (.ireturn, 1) := by decide +kernel
theorem dX12_heir_110 : decode cX12_heir 110 = .ok (.aload_n 0, 1) := by decide +kernel
theorem dX12_heir_111 : decode cX12_heir 111 = .ok (.getfield 19, 3) := by decide +kernel
theorem dX12_heir_114 : decode cX12_heir 114 = .ok (.bipush 32, 2) := by decide +kernel
theorem dX12_heir_116 : decode cX12_heir 116 = .ok (.iload_n 1, 1) := by decide +kernel
theorem dX12_heir_117 : decode cX12_heir 117 = .ok (.iadd, 1) := by decide +kernel
theorem dX12_heir_118 : decode cX12_heir 118 = .ok (.iaload, 1) := by decide +kernel
theorem dX12_heir_119 : decode cX12_heir 119 = .ok (.ireturn, 1) := by decide +kernel
theorem dX12_heir_120 : decode cX12_heir 120 = .ok (.aload_n 0, 1) := by decide +kernel
theorem dX12_heir_121 : decode cX12_heir 121 = .ok (.iload_n 1, 1) := by decide +kernel
theorem dX12_heir_122 : decode cX12_heir 122 = .ok (.invokevirtual 175, 3) := by decide +kernel
theorem dX12_heir_125 : decode cX12_heir 125 = .ok (.ireturn, 1) := by decide +kernel
theorem dX12_heir_126 : decode cX12_heir 126 = .ok (.aload_n 0, 1) := by decide +kernel
theorem dX12_heir_127 : decode cX12_heir 127 = .ok (.getfield 19, 3) := by decide +kernel
theorem dX12_heir_130 : decode cX12_heir 130 = .ok (.bipush 36, 2) := by decide +kernel
theorem dX12_heir_132 : decode cX12_heir 132 = .ok (.iload_n 1, 1) := by decide +kernel
theorem dX12_heir_133 : decode cX12_heir 133 = .ok (.iadd, 1) := by decide +kernel
theorem dX12_heir_134 : decode cX12_heir 134 = .ok (.iaload, 1) := by decide +kernel
theorem dX12_heir_135 : decode cX12_heir 135 = .ok (.ireturn, 1) := by decide +kernel
theorem dX12_heir_136 : decode cX12_heir 136 = .ok (.aload_n 0, 1) := by decide +kernel
theorem dX12_heir_137 : decode cX12_heir 137 = .ok (.getfield 19, 3) := by decide +kernel
theorem dX12_heir_140 : decode cX12_heir 140 = .ok (.bipush 40, 2) := by decide +kernel
theorem dX12_heir_142 : decode cX12_heir 142 = .ok (.iload_n 1, 1) := by decide +kernel
theorem dX12_heir_143 : decode cX12_heir 143 = .ok (.iadd, 1) := by decide +kernel
theorem dX12_heir_144 : decode cX12_heir 144 = .ok (.iaload, 1) := by decide +kernel
theorem dX12_heir_145 : decode cX12_heir 145 = .ok (.ireturn, 1) := by decide +kernel
theorem dX12_heir_146 : decode cX12_heir 146 = .ok (.ldc 70, 2) := by decide +kernel
theorem dX12_heir_148 : decode cX12_heir 148 = .ok (.ireturn, 1) := by decide +kernel
theorem dX12_king_0 : decode cX12_king 0 = .ok (.aload_n 0, 1) := by decide +kernel
theorem dX12_king_1 : decode cX12_king 1 = .ok (.getfield 138, 3) := by decide +kernel
theorem dX12_king_4 : decode cX12_king 4 = .ok (.ifCond .ne 6, 3) := by decide +kernel
theorem dX12_king_7 : decode cX12_king 7 = .ok (.ldc 154, 2) := by decide +kernel
theorem dX12_king_9 : decode cX12_king 9 = .ok (.ireturn, 1) := by decide +kernel
theorem dX12_king_10 : decode cX12_king 10 = .ok (.iload_n 1, 1) := by decide +kernel
theorem dX12_king_11 : decode cX12_king 11 = .ok (.ifCond .ne 12, 3) := by decide +kernel
theorem dX12_king_14 : decode cX12_king 14 = .ok (.aload_n 0, 1) := by decide +kernel
theorem dX12_king_15 : decode cX12_king 15 = .ok (.getfield 19, 3) := by decide +kernel
theorem dX12_king_18 : decode cX12_king 18 = .ok (.iconst 1, 1) := by decide +kernel
theorem dX12_king_19 : decode cX12_king 19 = .ok (.iaload, 1) := by decide +kernel
theorem dX12_king_20 : decode cX12_king 20 = .ok (.goto 35, 3) := by decide +kernel
theorem dX12_king_23 : decode cX12_king 23 = .ok (.iload_n 1, 1) := by decide +kernel
theorem dX12_king_24 : decode cX12_king 24 = .ok (.iconst 1, 1) := by decide +kernel
theorem dX12_king_25 : decode cX12_king 25 = .ok (.if_icmp .ne 13, 3) := by decide +kernel
theorem dX12_king_28 : decode cX12_king 28 = .ok (.aload_n 0, 1) := by decide +kernel
theorem dX12_king_29 : decode cX12_king 29 = .ok (.getfield 19, 3) := by decide +kernel
theorem dX12_king_32 : decode cX12_king 32 = .ok (.bipush 6, 2) := by decide +kernel
theorem dX12_king_34 : decode cX12_king 34 = .ok (.iaload, 1) := by decide +kernel
theorem dX12_king_35 : decode cX12_king 35 = .ok (.goto 20, 3) := by decide +kernel
theorem dX12_king_38 : decode cX12_king 38 = .ok (.iload_n 1, 1) := by decide +kernel
theorem dX12_king_39 : decode cX12_king 39 = .ok (.iconst 2, 1) := by decide +kernel
theorem dX12_king_40 : decode cX12_king 40 = .ok (.if_icmp .ne 13, 3) := by decide +kernel
theorem dX12_king_43 : decode cX12_king 43 = .ok (.aload_n 0, 1) := by decide +kernel
theorem dX12_king_44 : decode cX12_king 44 = .ok (.getfield 19, 3) := by decide +kernel
theorem dX12_king_47 : decode cX12_king 47 = .ok (.bipush 7, 2) := by decide +kernel
theorem dX12_king_49 : decode cX12_king 49 = .ok (.iaload, 1) := by decide +kernel
theorem dX12_king_50 : decode cX12_king 50 = .ok (.goto 5, 3) := by decide +kernel
theorem dX12_king_53 : decode cX12_king 53 = .ok (.ldc 70, 2) := by decide +kernel
theorem dX12_king_55 : decode cX12_king 55 = .ok (.ireturn, 1) := by decide +kernel
theorem dX12_putAside_0 : decode cX12_putAside 0 = .ok (.iconst 0, 1) := by decide +kernel
theorem dX12_putAside_1 : decode cX12_putAside 1 = .ok (.istore_n 1, 1) := by decide +kernel
theorem dX12_putAside_2 : decode cX12_putAside 2 = .ok (.iload_n 1, 1) := by decide +kernel
theorem dX12_putAside_3 : decode cX12_putAside 3 = .ok (.bipush 48, 2) := by decide +kernel
theorem dX12_putAside_5 : decode cX12_putAside 5 = .ok (.if_icmp .ge 21, 3) := by decide +kernel
theorem dX12_putAside_8 : decode cX12_putAside 8 = .ok (.aload_n 0, 1) := by decide +kernel
theorem dX12_putAside_9 : decode cX12_putAside 9 = .ok (.getfield 37, 3) := by decide +kernel
theorem dX12_putAside_12 : decode cX12_putAside 12 = .ok (.iload_n 1, 1) := by decide +kernel
theorem dX12_putAside_13 : decode cX12_putAside 13 = .ok (.aload_n 0, 1) := by decide +kernel
theorem dX12_putAside_14 : decode cX12_putAside 14 = .ok (.getfield 19, 3) := by decide +kernel
theorem dX12_putAside_17 : decode cX12_putAside 17 = .ok (.iload_n 1, 1) := by decide +kernel
theorem dX12_putAside_18 : decode cX12_putAside 18 = .ok (.iaload, 1) := by decide +kernel
theorem dX12_putAside_19 : decode cX12_putAside 19 = .ok (.iastore, 1) := by decide +kernel
theorem dX12_putAside_20 : decode cX12_putAside 20 = .ok (.iinc 1 1, 3) := by decide +kernel
theorem dX12_putAside_23 : decode cX12_putAside 23 = .ok (.goto (-21), 3) := by decide +kernel
theorem dX12_putAside_26 : decode cX12_putAside 26 = .ok (.return_, 1) := by decide +kernel
theorem dX12_takeBack_0 : decode cX12_takeBack 0 = .ok (.iconst 0, 1) := by decide +kernel
theorem dX12_takeBack_1 : decode cX12_takeBack 1 = .ok (.istore_n 1, 1) := by decide +kernel
theorem dX12_takeBack_2 : decode cX12_takeBack 2 = .ok (.iload_n 1, 1) := by decide +kernel
theorem dX12_takeBack_3 : decode cX12_takeBack 3 = .ok (.bipush 48, 2) := by decide +kernel
theorem dX12_takeBack_5 : decode cX12_takeBack 5 = .ok (.if_icmp .ge 21, 3) := by decide +kernel
theorem dX12_takeBack_8 : decode cX12_takeBack 8 = .ok (.aload_n 0, 1) := by decide +kernel
theorem dX12_takeBack_9 : decode cX12_takeBack 9 = .ok (.getfield 19, 3) := by decide +kernel
theorem dX12_takeBack_12 : decode cX12_takeBack 12 = .ok (.iload_n 1, 1) := by decide +kernel
theorem dX12_takeBack_13 : decode cX12_takeBack 13 = .ok (.aload_n 0, 1) := by decide +kernel
theorem dX12_takeBack_14 : decode cX12_takeBack 14 = .ok (.getfield 37, 3) := by decide +kernel
theorem dX12_takeBack_17 : decode cX12_takeBack 17 = .ok (.iload_n 1, 1) := by decide +kernel
theorem dX12_takeBack_18 : decode cX12_takeBack 18 = .ok (.iaload, 1) := by decide +kernel
theorem dX12_takeBack_19 : decode cX12_takeBack 19 = .ok (.iastore, 1) := by decide +kernel
theorem dX12_takeBack_20 : decode cX12_takeBack 20 = .ok (.iinc 1 1, 3) := by decide +kernel
theorem dX12_takeBack_23 : decode cX12_takeBack 23 = .ok (.goto (-21), 3) := by decide +kernel
theorem dX12_takeBack_26 : decode cX12_takeBack 26 = .ok (.return_, 1) := by decide +kernel
theorem dX12_share_0 : decode cX12_share 0 = .ok (.aload_n 0, 1) := by decide +kernel
theorem dX12_share_1 : decode cX12_share 1 = .ok (.iload_n 1, 1) := by decide +kernel
theorem dX12_share_2 : decode cX12_share 2 = .ok (.invokevirtual 155, 3) := by decide +kernel
theorem dX12_share_5 : decode cX12_share 5 = .ok (.ifCond .eq 15, 3) := by decide +kernel
theorem dX12_share_8 : decode cX12_share 8 = .ok (.iload_n 2, 1) := by decide +kernel
theorem dX12_share_9 : decode cX12_share 9 = .ok (.i2l, 1) := by decide +kernel
theorem dX12_share_10 : decode cX12_share 10 = .ok (.lconst 0, 1) := by decide +kernel
theorem dX12_share_11 : decode cX12_share 11 = .ok (.ldc2_w 173, 3) := by decide +kernel
theorem dX12_share_14 : decode cX12_share 14 = .ok (.invokestatic 60, 3) := by decide +kernel
theorem dX12_share_17 : decode cX12_share 17 = .ok (.ifCond .ne 6, 3) := by decide +kernel
theorem dX12_share_20 : decode cX12_share 20 = .ok (.ldc 70, 2) := by decide +kernel
theorem dX12_share_22 : decode cX12_share 22 = .ok (.ireturn, 1) := by decide +kernel
theorem dX12_share_23 : decode cX12_share 23 = .ok (.aload_n 0, 1) := by decide +kernel
theorem dX12_share_24 : decode cX12_share 24 = .ok (.iload_n 2, 1) := by decide +kernel
theorem dX12_share_25 : decode cX12_share 25 = .ok (.invokevirtual 169, 3) := by decide +kernel
theorem dX12_share_28 : decode cX12_share 28 = .ok (.aload_n 0, 1) := by decide +kernel
theorem dX12_share_29 : decode cX12_share 29 = .ok (.getfield 31, 3) := by decide +kernel
theorem dX12_share_32 : decode cX12_share 32 = .ok (.iload_n 1, 1) := by decide +kernel
theorem dX12_share_33 : decode cX12_share 33 = .ok (.iaload, 1) := by decide +kernel
theorem dX12_share_34 : decode cX12_share 34 = .ok (.ireturn, 1) := by decide +kernel
theorem dX12_bestOf_0 : decode cX12_bestOf 0 = .ok (.aload_n 0, 1) := by decide +kernel
theorem dX12_bestOf_1 : decode cX12_bestOf 1 = .ok (.invokevirtual 183, 3) := by decide +kernel
theorem dX12_bestOf_4 : decode cX12_bestOf 4 = .ok (.iconst (-1), 1) := by decide +kernel
theorem dX12_bestOf_5 : decode cX12_bestOf 5 = .ok (.istore_n 2, 1) := by decide +kernel
theorem dX12_bestOf_6 : decode cX12_bestOf 6 = .ok (.iconst 0, 1) := by decide +kernel
theorem dX12_bestOf_7 : decode cX12_bestOf 7 = .ok (.istore_n 3, 1) := by decide +kernel
theorem dX12_bestOf_8 : decode cX12_bestOf 8 = .ok (.iload_n 3, 1) := by decide +kernel
theorem dX12_bestOf_9 : decode cX12_bestOf 9 = .ok (.sipush 779, 3) := by decide +kernel
theorem dX12_bestOf_12 : decode cX12_bestOf 12 = .ok (.if_icmp .ge 98, 3) := by decide +kernel
theorem dX12_bestOf_15 : decode cX12_bestOf 15 = .ok (.aload_n 0, 1) := by decide +kernel
theorem dX12_bestOf_16 : decode cX12_bestOf 16 = .ok (.iload_n 1, 1) := by decide +kernel
theorem dX12_bestOf_17 : decode cX12_bestOf 17 = .ok (.iload_n 3, 1) := by decide +kernel
theorem dX12_bestOf_18 : decode cX12_bestOf 18 = .ok (.bipush 41, 2) := by decide +kernel
theorem dX12_bestOf_20 : decode cX12_bestOf 20 = .ok (.idiv, 1) := by decide +kernel
theorem dX12_bestOf_21 : decode cX12_bestOf 21 = .ok (.invokevirtual 165, 3) := by decide +kernel
theorem dX12_bestOf_24 : decode cX12_bestOf 24 = .ok (.aload_n 0, 1) := by decide +kernel
theorem dX12_bestOf_25 : decode cX12_bestOf 25 = .ok (.getfield 19, 3) := by decide +kernel
theorem dX12_bestOf_28 : decode cX12_bestOf 28 = .ok (.bipush 28, 2) := by decide +kernel
theorem dX12_bestOf_30 : decode cX12_bestOf 30 = .ok (.iload_n 1, 1) := by decide +kernel
theorem dX12_bestOf_31 : decode cX12_bestOf 31 = .ok (.iadd, 1) := by decide +kernel
theorem dX12_bestOf_32 : decode cX12_bestOf 32 = .ok (.iload_n 3, 1) := by decide +kernel
theorem dX12_bestOf_33 : decode cX12_bestOf 33 = .ok (.bipush 41, 2) := by decide +kernel
theorem dX12_bestOf_35 : decode cX12_bestOf 35 = .ok (.irem, 1) := by decide +kernel
theorem dX12_bestOf_36 : decode cX12_bestOf 36 = .ok (.iastore, 1) := by decide +kernel
theorem dX12_bestOf_37 : decode cX12_bestOf 37 = .ok (.aload_n 0, 1) := by decide +kernel
theorem dX12_bestOf_38 : decode cX12_bestOf 38 = .ok (.aload_n 0, 1) := by decide +kernel
theorem dX12_bestOf_39 : decode cX12_bestOf 39 = .ok (.getfield 19, 3) := by decide +kernel
theorem dX12_bestOf_42 : decode cX12_bestOf 42 = .ok (.iconst 3, 1) := by decide +kernel
theorem dX12_bestOf_43 : decode cX12_bestOf 43 = .ok (.iaload, 1) := by decide +kernel
theorem dX12_bestOf_44 : decode cX12_bestOf 44 = .ok (.invokevirtual 169, 3) := by decide +kernel
theorem dX12_bestOf_47 : decode cX12_bestOf 47 = .ok (.aload_n 0, 1) := by decide +kernel
theorem dX12_bestOf_48 : decode cX12_bestOf 48 = .ok (.getfield 31, 3) := by decide +kernel
theorem dX12_bestOf_51 : decode cX12_bestOf 51 = .ok (.iload_n 1, 1) := by decide +kernel
theorem dX12_bestOf_52 : decode cX12_bestOf 52 = .ok (.iaload, 1) := by decide +kernel
theorem dX12_bestOf_53 : decode cX12_bestOf 53 = .ok (.iload_n 3, 1) := by decide +kernel
theorem dX12_bestOf_54 : decode cX12_bestOf 54 = .ok (.bipush 41, 2) := by decide +kernel
theorem dX12_bestOf_56 : decode cX12_bestOf 56 = .ok (.irem, 1) := by decide +kernel
theorem dX12_bestOf_57 : decode cX12_bestOf 57 = .ok (.iconst 4, 1) := by decide +kernel
theorem dX12_bestOf_58 : decode cX12_bestOf 58 = .ok (.idiv, 1) := by decide +kernel
theorem dX12_bestOf_59 : decode cX12_bestOf 59 = .ok (.isub, 1) := by decide +kernel
theorem dX12_bestOf_60 : decode cX12_bestOf 60 = .ok (.istore 4, 2) := by decide +kernel
theorem dX12_bestOf_62 : decode cX12_bestOf 62 = .ok (.aload_n 0, 1) := by decide +kernel
theorem dX12_bestOf_63 : decode cX12_bestOf 63 = .ok (.iload 4, 2) := by decide +kernel
theorem dX12_bestOf_65 : decode cX12_bestOf 65 = .ok (.iload_n 2, 1) := by decide +kernel
theorem dX12_bestOf_66 : decode cX12_bestOf 66 = .ok (.if_icmp .le 18, 3) := by decide +kernel
theorem dX12_bestOf_69 : decode cX12_bestOf 69 = .ok (.bipush 100, 2) := by decide +kernel
theorem dX12_bestOf_71 : decode cX12_bestOf 71 = .ok (.iload_n 3, 1) := by decide +kernel
theorem dX12_bestOf_72 : decode cX12_bestOf 72 = .ok (.bipush 41, 2) := by decide +kernel
theorem dX12_bestOf_74 : decode cX12_bestOf 74 = .ok (.idiv, 1) := by decide +kernel
theorem dX12_bestOf_75 : decode cX12_bestOf 75 = .ok (.imul, 1) := by decide +kernel
theorem dX12_bestOf_76 : decode cX12_bestOf 76 = .ok (.iload_n 3, 1) := by decide +kernel
theorem dX12_bestOf_77 : decode cX12_bestOf 77 = .ok (.bipush 41, 2) := by decide +kernel
theorem dX12_bestOf_79 : decode cX12_bestOf 79 = .ok (.irem, 1) := by decide +kernel
theorem dX12_bestOf_80 : decode cX12_bestOf 80 = .ok (.iadd, 1) := by decide +kernel
theorem dX12_bestOf_81 : decode cX12_bestOf 81 = .ok (.goto 7, 3) := by decide +kernel
theorem dX12_bestOf_84 : decode cX12_bestOf 84 = .ok (.aload_n 0, 1) := by decide +kernel
theorem dX12_bestOf_85 : decode cX12_bestOf 85 = .ok (.getfield 186, 3) := by decide +kernel
theorem dX12_bestOf_88 : decode cX12_bestOf 88 = .ok (.putfield 186, 3) := by decide +kernel
theorem dX12_bestOf_91 : decode cX12_bestOf 91 = .ok (.iload 4, 2) := by decide +kernel
theorem dX12_bestOf_93 : decode cX12_bestOf 93 = .ok (.iload_n 2, 1) := by decide +kernel
theorem dX12_bestOf_94 : decode cX12_bestOf 94 = .ok (.if_icmp .le 8, 3) := by decide +kernel
theorem dX12_bestOf_97 : decode cX12_bestOf 97 = .ok (.iload 4, 2) := by decide +kernel
theorem dX12_bestOf_99 : decode cX12_bestOf 99 = .ok (.goto 4, 3) := by decide +kernel
theorem dX12_bestOf_102 : decode cX12_bestOf 102 = .ok (.iload_n 2, 1) := by decide +kernel
theorem dX12_bestOf_103 : decode cX12_bestOf 103 = .ok (.istore_n 2, 1) := by decide +kernel
theorem dX12_bestOf_104 : decode cX12_bestOf 104 = .ok (.iinc 3 1, 3) := by decide +kernel
theorem dX12_bestOf_107 : decode cX12_bestOf 107 = .ok (.goto (-99), 3) := by decide +kernel
theorem dX12_bestOf_110 : decode cX12_bestOf 110 = .ok (.aload_n 0, 1) := by decide +kernel
theorem dX12_bestOf_111 : decode cX12_bestOf 111 = .ok (.invokevirtual 189, 3) := by decide +kernel
theorem dX12_bestOf_114 : decode cX12_bestOf 114 = .ok (.iload_n 2, 1) := by decide +kernel
theorem dX12_bestOf_115 : decode cX12_bestOf 115 = .ok (.ireturn, 1) := by decide +kernel
theorem dX12_best_0 : decode cX12_best 0 = .ok (.aload_n 0, 1) := by decide +kernel
theorem dX12_best_1 : decode cX12_best 1 = .ok (.iload_n 1, 1) := by decide +kernel
theorem dX12_best_2 : decode cX12_best 2 = .ok (.invokevirtual 155, 3) := by decide +kernel
theorem dX12_best_5 : decode cX12_best 5 = .ok (.ifCond .eq 13, 3) := by decide +kernel
theorem dX12_best_8 : decode cX12_best 8 = .ok (.iload_n 2, 1) := by decide +kernel
theorem dX12_best_9 : decode cX12_best 9 = .ok (.i2l, 1) := by decide +kernel
theorem dX12_best_10 : decode cX12_best 10 = .ok (.lconst 0, 1) := by decide +kernel
theorem dX12_best_11 : decode cX12_best 11 = .ok (.lconst 1, 1) := by decide +kernel
theorem dX12_best_12 : decode cX12_best 12 = .ok (.invokestatic 60, 3) := by decide +kernel
theorem dX12_best_15 : decode cX12_best 15 = .ok (.ifCond .ne 6, 3) := by decide +kernel
theorem dX12_best_18 : decode cX12_best 18 = .ok (.ldc 70, 2) := by decide +kernel
theorem dX12_best_20 : decode cX12_best 20 = .ok (.ireturn, 1) := by decide +kernel
theorem dX12_best_21 : decode cX12_best 21 = .ok (.aload_n 0, 1) := by decide +kernel
theorem dX12_best_22 : decode cX12_best 22 = .ok (.iload_n 1, 1) := by decide +kernel
theorem dX12_best_23 : decode cX12_best 23 = .ok (.invokevirtual 192, 3) := by decide +kernel
theorem dX12_best_26 : decode cX12_best 26 = .ok (.istore_n 3, 1) := by decide +kernel
theorem dX12_best_27 : decode cX12_best 27 = .ok (.iload_n 2, 1) := by decide +kernel
theorem dX12_best_28 : decode cX12_best 28 = .ok (.ifCond .ne 7, 3) := by decide +kernel
theorem dX12_best_31 : decode cX12_best 31 = .ok (.iload_n 3, 1) := by decide +kernel
theorem dX12_best_32 : decode cX12_best 32 = .ok (.goto 7, 3) := by decide +kernel
theorem dX12_best_35 : decode cX12_best 35 = .ok (.aload_n 0, 1) := by decide +kernel
theorem dX12_best_36 : decode cX12_best 36 = .ok (.getfield 186, 3) := by decide +kernel
theorem dX12_best_39 : decode cX12_best 39 = .ok (.ireturn, 1) := by decide +kernel
theorem dX12_rather_0 : decode cX12_rather 0 = .ok (.aload_n 0, 1) := by decide +kernel
theorem dX12_rather_1 : decode cX12_rather 1 = .ok (.getfield 138, 3) := by decide +kernel
theorem dX12_rather_4 : decode cX12_rather 4 = .ok (.ifCond .ne 6, 3) := by decide +kernel
theorem dX12_rather_7 : decode cX12_rather 7 = .ok (.ldc 154, 2) := by decide +kernel
theorem dX12_rather_9 : decode cX12_rather 9 = .ok (.ireturn, 1) := by decide +kernel
theorem dX12_rather_10 : decode cX12_rather 10 = .ok (.iconst 0, 1) := by decide +kernel
theorem dX12_rather_11 : decode cX12_rather 11 = .ok (.istore_n 1, 1) := by decide +kernel
theorem dX12_rather_12 : decode cX12_rather 12 = .ok (.iconst 0, 1) := by decide +kernel
theorem dX12_rather_13 : decode cX12_rather 13 = .ok (.istore_n 2, 1) := by decide +kernel
theorem dX12_rather_14 : decode cX12_rather 14 = .ok (.iload_n 2, 1) := by decide +kernel
theorem dX12_rather_15 : decode cX12_rather 15 = .ok (.aload_n 0, 1) := by decide +kernel
theorem dX12_rather_16 : decode cX12_rather 16 = .ok (.getfield 19, 3) := by decide +kernel
theorem dX12_rather_19 : decode cX12_rather 19 = .ok (.iconst 4, 1) := by decide +kernel
theorem dX12_rather_20 : decode cX12_rather 20 = .ok (.iaload, 1) := by decide +kernel
theorem dX12_rather_21 : decode cX12_rather 21 = .ok (.if_icmp .ge 57, 3) := by decide +kernel
theorem dX12_rather_24 : decode cX12_rather 24 = .ok (.aload_n 0, 1) := by decide +kernel
theorem dX12_rather_25 : decode cX12_rather 25 = .ok (.aload_n 0, 1) := by decide +kernel
theorem dX12_rather_26 : decode cX12_rather 26 = .ok (.getfield 19, 3) := by decide +kernel
theorem dX12_rather_29 : decode cX12_rather 29 = .ok (.iconst 3, 1) := by decide +kernel
theorem dX12_rather_30 : decode cX12_rather 30 = .ok (.iaload, 1) := by decide +kernel
theorem dX12_rather_31 : decode cX12_rather 31 = .ok (.invokevirtual 169, 3) := by decide +kernel
theorem dX12_rather_34 : decode cX12_rather 34 = .ok (.aload_n 0, 1) := by decide +kernel
theorem dX12_rather_35 : decode cX12_rather 35 = .ok (.getfield 31, 3) := by decide +kernel
theorem dX12_rather_38 : decode cX12_rather 38 = .ok (.iload_n 2, 1) := by decide +kernel
theorem dX12_rather_39 : decode cX12_rather 39 = .ok (.iaload, 1) := by decide +kernel
theorem dX12_rather_40 : decode cX12_rather 40 = .ok (.aload_n 0, 1) := by decide +kernel
theorem dX12_rather_41 : decode cX12_rather 41 = .ok (.getfield 19, 3) := by decide +kernel
theorem dX12_rather_44 : decode cX12_rather 44 = .ok (.bipush 28, 2) := by decide +kernel
theorem dX12_rather_46 : decode cX12_rather 46 = .ok (.iload_n 2, 1) := by decide +kernel
theorem dX12_rather_47 : decode cX12_rather 47 = .ok (.iadd, 1) := by decide +kernel
theorem dX12_rather_48 : decode cX12_rather 48 = .ok (.iaload, 1) := by decide +kernel
theorem dX12_rather_49 : decode cX12_rather 49 = .ok (.iconst 4, 1) := by decide +kernel
theorem dX12_rather_50 : decode cX12_rather 50 = .ok (.idiv, 1) := by decide +kernel
theorem dX12_rather_51 : decode cX12_rather 51 = .ok (.isub, 1) := by decide +kernel
theorem dX12_rather_52 : decode cX12_rather 52 = .ok (.istore_n 3, 1) := by decide +kernel
theorem dX12_rather_53 : decode cX12_rather 53 = .ok (.iload_n 1, 1) := by decide +kernel
theorem dX12_rather_54 : decode cX12_rather 54 = .ok (.aload_n 0, 1) := by decide +kernel
theorem dX12_rather_55 : decode cX12_rather 55 = .ok (.iload_n 2, 1) := by decide +kernel
theorem dX12_rather_56 : decode cX12_rather 56 = .ok (.invokevirtual 192, 3) := by decide +kernel
theorem dX12_rather_59 : decode cX12_rather 59 = .ok (.iload_n 3, 1) := by decide +kernel
theorem dX12_rather_60 : decode cX12_rather 60 = .ok (.if_icmp .le 9, 3) := by decide +kernel
theorem dX12_rather_63 : decode cX12_rather 63 = .ok (.iconst 1, 1) := by decide +kernel
theorem dX12_rather_64 : decode cX12_rather 64 = .ok (.iload_n 2, 1) := by decide +kernel
theorem dX12_rather_65 : decode cX12_rather 65 = .ok (.ishl, 1) := by decide +kernel
theorem dX12_rather_66 : decode cX12_rather 66 = .ok (.goto 4, 3) := by decide +kernel
theorem dX12_rather_69 : decode cX12_rather 69 = .ok (.iconst 0, 1) := by decide +kernel
theorem dX12_rather_70 : decode cX12_rather 70 = .ok (.ior, 1) := by decide +kernel
theorem dX12_rather_71 : decode cX12_rather 71 = .ok (.istore_n 1, 1) := by decide +kernel
theorem dX12_rather_72 : decode cX12_rather 72 = .ok (.iinc 2 1, 3) := by decide +kernel
theorem dX12_rather_75 : decode cX12_rather 75 = .ok (.goto (-61), 3) := by decide +kernel
theorem dX12_rather_78 : decode cX12_rather 78 = .ok (.iload_n 1, 1) := by decide +kernel
theorem dX12_rather_79 : decode cX12_rather 79 = .ok (.ireturn, 1) := by decide +kernel
theorem dX12_isTrue_0 : decode cX12_isTrue 0 = .ok (.iconst 1, 1) := by decide +kernel
theorem dX12_isTrue_1 : decode cX12_isTrue 1 = .ok (.istore_n 3, 1) := by decide +kernel
theorem dX12_isTrue_2 : decode cX12_isTrue 2 = .ok (.iconst 0, 1) := by decide +kernel
theorem dX12_isTrue_3 : decode cX12_isTrue 3 = .ok (.istore 4, 2) := by decide +kernel
theorem dX12_isTrue_5 : decode cX12_isTrue 5 = .ok (.iload 4, 2) := by decide +kernel
theorem dX12_isTrue_7 : decode cX12_isTrue 7 = .ok (.sipush 256, 3) := by decide +kernel
theorem dX12_isTrue_10 : decode cX12_isTrue 10 = .ok (.if_icmp .ge 103, 3) := by decide +kernel
theorem dX12_isTrue_13 : decode cX12_isTrue 13 = .ok (.iload 4, 2) := by decide +kernel
theorem dX12_isTrue_15 : decode cX12_isTrue 15 = .ok (.istore 5, 2) := by decide +kernel
theorem dX12_isTrue_17 : decode cX12_isTrue 17 = .ok (.iconst 0, 1) := by decide +kernel
theorem dX12_isTrue_18 : decode cX12_isTrue 18 = .ok (.istore 6, 2) := by decide +kernel
theorem dX12_isTrue_20 : decode cX12_isTrue 20 = .ok (.iload 6, 2) := by decide +kernel
theorem dX12_isTrue_22 : decode cX12_isTrue 22 = .ok (.aload_n 0, 1) := by decide +kernel
theorem dX12_isTrue_23 : decode cX12_isTrue 23 = .ok (.getfield 19, 3) := by decide +kernel
theorem dX12_isTrue_26 : decode cX12_isTrue 26 = .ok (.iconst 4, 1) := by decide +kernel
theorem dX12_isTrue_27 : decode cX12_isTrue 27 = .ok (.iaload, 1) := by decide +kernel
theorem dX12_isTrue_28 : decode cX12_isTrue 28 = .ok (.if_icmp .ge 28, 3) := by decide +kernel
theorem dX12_isTrue_31 : decode cX12_isTrue 31 = .ok (.aload_n 0, 1) := by decide +kernel
theorem dX12_isTrue_32 : decode cX12_isTrue 32 = .ok (.iload 6, 2) := by decide +kernel
theorem dX12_isTrue_34 : decode cX12_isTrue 34 = .ok (.bipush 6, 2) := by decide +kernel
theorem dX12_isTrue_36 : decode cX12_isTrue 36 = .ok (.iload 5, 2) := by decide +kernel
theorem dX12_isTrue_38 : decode cX12_isTrue 38 = .ok (.iconst 4, 1) := by decide +kernel
theorem dX12_isTrue_39 : decode cX12_isTrue 39 = .ok (.irem, 1) := by decide +kernel
theorem dX12_isTrue_40 : decode cX12_isTrue 40 = .ok (.imul, 1) := by decide +kernel
theorem dX12_isTrue_41 : decode cX12_isTrue 41 = .ok (.invokevirtual 165, 3) := by decide +kernel
theorem dX12_isTrue_44 : decode cX12_isTrue 44 = .ok (.iload 5, 2) := by decide +kernel
theorem dX12_isTrue_46 : decode cX12_isTrue 46 = .ok (.iconst 4, 1) := by decide +kernel
theorem dX12_isTrue_47 : decode cX12_isTrue 47 = .ok (.idiv, 1) := by decide +kernel
theorem dX12_isTrue_48 : decode cX12_isTrue 48 = .ok (.istore 5, 2) := by decide +kernel
theorem dX12_isTrue_50 : decode cX12_isTrue 50 = .ok (.iinc 6 1, 3) := by decide +kernel
theorem dX12_isTrue_53 : decode cX12_isTrue 53 = .ok (.goto (-33), 3) := by decide +kernel
theorem dX12_isTrue_56 : decode cX12_isTrue 56 = .ok (.aload_n 0, 1) := by decide +kernel
theorem dX12_isTrue_57 : decode cX12_isTrue 57 = .ok (.iload_n 1, 1) := by decide +kernel
theorem dX12_isTrue_58 : decode cX12_isTrue 58 = .ok (.invokevirtual 169, 3) := by decide +kernel
theorem dX12_isTrue_61 : decode cX12_isTrue 61 = .ok (.iconst 0, 1) := by decide +kernel
theorem dX12_isTrue_62 : decode cX12_isTrue 62 = .ok (.istore 6, 2) := by decide +kernel
theorem dX12_isTrue_64 : decode cX12_isTrue 64 = .ok (.iload 6, 2) := by decide +kernel
theorem dX12_isTrue_66 : decode cX12_isTrue 66 = .ok (.aload_n 0, 1) := by decide +kernel
theorem dX12_isTrue_67 : decode cX12_isTrue 67 = .ok (.getfield 19, 3) := by decide +kernel
theorem dX12_isTrue_70 : decode cX12_isTrue 70 = .ok (.iconst 4, 1) := by decide +kernel
theorem dX12_isTrue_71 : decode cX12_isTrue 71 = .ok (.iaload, 1) := by decide +kernel
theorem dX12_isTrue_72 : decode cX12_isTrue 72 = .ok (.if_icmp .ge 35, 3) := by decide +kernel
theorem dX12_isTrue_75 : decode cX12_isTrue 75 = .ok (.iload_n 3, 1) := by decide +kernel
theorem dX12_isTrue_76 : decode cX12_isTrue 76 = .ok (.ifCond .eq 23, 3) := by decide +kernel
theorem dX12_isTrue_79 : decode cX12_isTrue 79 = .ok (.aload_n 0, 1) := by decide +kernel
theorem dX12_isTrue_80 : decode cX12_isTrue 80 = .ok (.getfield 31, 3) := by decide +kernel
theorem dX12_isTrue_83 : decode cX12_isTrue 83 = .ok (.iload_n 2, 1) := by decide +kernel
theorem dX12_isTrue_84 : decode cX12_isTrue 84 = .ok (.iaload, 1) := by decide +kernel
theorem dX12_isTrue_85 : decode cX12_isTrue 85 = .ok (.aload_n 0, 1) := by decide +kernel
theorem dX12_isTrue_86 : decode cX12_isTrue 86 = .ok (.getfield 31, 3) := by decide +kernel
theorem dX12_isTrue_89 : decode cX12_isTrue 89 = .ok (.iload 6, 2) := by decide +kernel
theorem dX12_isTrue_91 : decode cX12_isTrue 91 = .ok (.iaload, 1) := by decide +kernel
theorem dX12_isTrue_92 : decode cX12_isTrue 92 = .ok (.if_icmp .lt 7, 3) := by decide +kernel
theorem dX12_isTrue_95 : decode cX12_isTrue 95 = .ok (.iconst 1, 1) := by decide +kernel
theorem dX12_isTrue_96 : decode cX12_isTrue 96 = .ok (.goto 4, 3) := by decide +kernel
theorem dX12_isTrue_99 : decode cX12_isTrue 99 = .ok (.iconst 0, 1) := by decide +kernel
theorem dX12_isTrue_100 : decode cX12_isTrue 100 = .ok (.istore_n 3, 1) := by decide +kernel
theorem dX12_isTrue_101 : decode cX12_isTrue 101 = .ok (.iinc 6 1, 3) := by decide +kernel
theorem dX12_isTrue_104 : decode cX12_isTrue 104 = .ok (.goto (-40), 3) := by decide +kernel
theorem dX12_isTrue_107 : decode cX12_isTrue 107 = .ok (.iinc 4 1, 3) := by decide +kernel
theorem dX12_isTrue_110 : decode cX12_isTrue 110 = .ok (.goto (-105), 3) := by decide +kernel
theorem dX12_isTrue_113 : decode cX12_isTrue 113 = .ok (.iload_n 3, 1) := by decide +kernel
theorem dX12_isTrue_114 : decode cX12_isTrue 114 = .ok (.ireturn, 1) := by decide +kernel
theorem dX12_trueRule_0 : decode cX12_trueRule 0 = .ok (.aload_n 0, 1) := by decide +kernel
theorem dX12_trueRule_1 : decode cX12_trueRule 1 = .ok (.getfield 138, 3) := by decide +kernel
theorem dX12_trueRule_4 : decode cX12_trueRule 4 = .ok (.ifCond .ne 6, 3) := by decide +kernel
theorem dX12_trueRule_7 : decode cX12_trueRule 7 = .ok (.ldc 154, 2) := by decide +kernel
theorem dX12_trueRule_9 : decode cX12_trueRule 9 = .ok (.ireturn, 1) := by decide +kernel
theorem dX12_trueRule_10 : decode cX12_trueRule 10 = .ok (.iconst 0, 1) := by decide +kernel
theorem dX12_trueRule_11 : decode cX12_trueRule 11 = .ok (.istore_n 1, 1) := by decide +kernel
theorem dX12_trueRule_12 : decode cX12_trueRule 12 = .ok (.iconst 1, 1) := by decide +kernel
theorem dX12_trueRule_13 : decode cX12_trueRule 13 = .ok (.istore_n 2, 1) := by decide +kernel
theorem dX12_trueRule_14 : decode cX12_trueRule 14 = .ok (.iload_n 2, 1) := by decide +kernel
theorem dX12_trueRule_15 : decode cX12_trueRule 15 = .ok (.aload_n 0, 1) := by decide +kernel
theorem dX12_trueRule_16 : decode cX12_trueRule 16 = .ok (.getfield 19, 3) := by decide +kernel
theorem dX12_trueRule_19 : decode cX12_trueRule 19 = .ok (.iconst 4, 1) := by decide +kernel
theorem dX12_trueRule_20 : decode cX12_trueRule 20 = .ok (.iaload, 1) := by decide +kernel
theorem dX12_trueRule_21 : decode cX12_trueRule 21 = .ok (.if_icmp .ge 36, 3) := by decide +kernel
theorem dX12_trueRule_24 : decode cX12_trueRule 24 = .ok (.aload_n 0, 1) := by decide +kernel
theorem dX12_trueRule_25 : decode cX12_trueRule 25 = .ok (.getfield 19, 3) := by decide +kernel
theorem dX12_trueRule_28 : decode cX12_trueRule 28 = .ok (.bipush 12, 2) := by decide +kernel
theorem dX12_trueRule_30 : decode cX12_trueRule 30 = .ok (.iload_n 2, 1) := by decide +kernel
theorem dX12_trueRule_31 : decode cX12_trueRule 31 = .ok (.iadd, 1) := by decide +kernel
theorem dX12_trueRule_32 : decode cX12_trueRule 32 = .ok (.iaload, 1) := by decide +kernel
theorem dX12_trueRule_33 : decode cX12_trueRule 33 = .ok (.aload_n 0, 1) := by decide +kernel
theorem dX12_trueRule_34 : decode cX12_trueRule 34 = .ok (.getfield 19, 3) := by decide +kernel
theorem dX12_trueRule_37 : decode cX12_trueRule 37 = .ok (.bipush 12, 2) := by decide +kernel
theorem dX12_trueRule_39 : decode cX12_trueRule 39 = .ok (.iload_n 1, 1) := by decide +kernel
theorem dX12_trueRule_40 : decode cX12_trueRule 40 = .ok (.iadd, 1) := by decide +kernel
theorem dX12_trueRule_41 : decode cX12_trueRule 41 = .ok (.iaload, 1) := by decide +kernel
theorem dX12_trueRule_42 : decode cX12_trueRule 42 = .ok (.if_icmp .le 7, 3) := by decide +kernel
theorem dX12_trueRule_45 : decode cX12_trueRule 45 = .ok (.iload_n 2, 1) := by decide +kernel
theorem dX12_trueRule_46 : decode cX12_trueRule 46 = .ok (.goto 4, 3) := by decide +kernel
theorem dX12_trueRule_49 : decode cX12_trueRule 49 = .ok (.iload_n 1, 1) := by decide +kernel
theorem dX12_trueRule_50 : decode cX12_trueRule 50 = .ok (.istore_n 1, 1) := by decide +kernel
theorem dX12_trueRule_51 : decode cX12_trueRule 51 = .ok (.iinc 2 1, 3) := by decide +kernel
theorem dX12_trueRule_54 : decode cX12_trueRule 54 = .ok (.goto (-40), 3) := by decide +kernel
theorem dX12_trueRule_57 : decode cX12_trueRule 57 = .ok (.aload_n 0, 1) := by decide +kernel
theorem dX12_trueRule_58 : decode cX12_trueRule 58 = .ok (.invokevirtual 183, 3) := by decide +kernel
theorem dX12_trueRule_61 : decode cX12_trueRule 61 = .ok (.ldc 195, 2) := by decide +kernel
theorem dX12_trueRule_63 : decode cX12_trueRule 63 = .ok (.istore_n 2, 1) := by decide +kernel
theorem dX12_trueRule_64 : decode cX12_trueRule 64 = .ok (.iconst 3, 1) := by decide +kernel
theorem dX12_trueRule_65 : decode cX12_trueRule 65 = .ok (.istore_n 3, 1) := by decide +kernel
theorem dX12_trueRule_66 : decode cX12_trueRule 66 = .ok (.iload_n 3, 1) := by decide +kernel
theorem dX12_trueRule_67 : decode cX12_trueRule 67 = .ok (.ifCond .lt 24, 3) := by decide +kernel
theorem dX12_trueRule_70 : decode cX12_trueRule 70 = .ok (.aload_n 0, 1) := by decide +kernel
theorem dX12_trueRule_71 : decode cX12_trueRule 71 = .ok (.iload_n 3, 1) := by decide +kernel
theorem dX12_trueRule_72 : decode cX12_trueRule 72 = .ok (.iload_n 1, 1) := by decide +kernel
theorem dX12_trueRule_73 : decode cX12_trueRule 73 = .ok (.invokevirtual 196, 3) := by decide +kernel
theorem dX12_trueRule_76 : decode cX12_trueRule 76 = .ok (.ifCond .eq 7, 3) := by decide +kernel
theorem dX12_trueRule_79 : decode cX12_trueRule 79 = .ok (.iload_n 3, 1) := by decide +kernel
theorem dX12_trueRule_80 : decode cX12_trueRule 80 = .ok (.goto 4, 3) := by decide +kernel
theorem dX12_trueRule_83 : decode cX12_trueRule 83 = .ok (.iload_n 2, 1) := by decide +kernel
theorem dX12_trueRule_84 : decode cX12_trueRule 84 = .ok (.istore_n 2, 1) := by decide +kernel
theorem dX12_trueRule_85 : decode cX12_trueRule 85 = .ok (.iinc 3 (-1), 3) := by decide +kernel
theorem dX12_trueRule_88 : decode cX12_trueRule 88 = .ok (.goto (-22), 3) := by decide +kernel
theorem dX12_trueRule_91 : decode cX12_trueRule 91 = .ok (.aload_n 0, 1) := by decide +kernel
theorem dX12_trueRule_92 : decode cX12_trueRule 92 = .ok (.invokevirtual 189, 3) := by decide +kernel
theorem dX12_trueRule_95 : decode cX12_trueRule 95 = .ok (.iload_n 2, 1) := by decide +kernel
theorem dX12_trueRule_96 : decode cX12_trueRule 96 = .ok (.ireturn, 1) := by decide +kernel
theorem dX12_isOrder_0 : decode cX12_isOrder 0 = .ok (.iload_n 1, 1) := by decide +kernel
theorem dX12_isOrder_1 : decode cX12_isOrder 1 = .ok (.istore_n 2, 1) := by decide +kernel
theorem dX12_isOrder_2 : decode cX12_isOrder 2 = .ok (.iconst 0, 1) := by decide +kernel
theorem dX12_isOrder_3 : decode cX12_isOrder 3 = .ok (.istore_n 3, 1) := by decide +kernel
theorem dX12_isOrder_4 : decode cX12_isOrder 4 = .ok (.aload_n 0, 1) := by decide +kernel
theorem dX12_isOrder_5 : decode cX12_isOrder 5 = .ok (.getfield 19, 3) := by decide +kernel
theorem dX12_isOrder_8 : decode cX12_isOrder 8 = .ok (.iconst 4, 1) := by decide +kernel
theorem dX12_isOrder_9 : decode cX12_isOrder 9 = .ok (.iaload, 1) := by decide +kernel
theorem dX12_isOrder_10 : decode cX12_isOrder 10 = .ok (.iconst 1, 1) := by decide +kernel
theorem dX12_isOrder_11 : decode cX12_isOrder 11 = .ok (.isub, 1) := by decide +kernel
theorem dX12_isOrder_12 : decode cX12_isOrder 12 = .ok (.istore 4, 2) := by decide +kernel
theorem dX12_isOrder_14 : decode cX12_isOrder 14 = .ok (.iload 4, 2) := by decide +kernel
theorem dX12_isOrder_16 : decode cX12_isOrder 16 = .ok (.ifCond .lt 35, 3) := by decide +kernel
theorem dX12_isOrder_19 : decode cX12_isOrder 19 = .ok (.aload_n 0, 1) := by decide +kernel
theorem dX12_isOrder_20 : decode cX12_isOrder 20 = .ok (.getfield 40, 3) := by decide +kernel
theorem dX12_isOrder_23 : decode cX12_isOrder 23 = .ok (.iload 4, 2) := by decide +kernel
theorem dX12_isOrder_25 : decode cX12_isOrder 25 = .ok (.iload_n 2, 1) := by decide +kernel
theorem dX12_isOrder_26 : decode cX12_isOrder 26 = .ok (.iconst 4, 1) := by decide +kernel
theorem dX12_isOrder_27 : decode cX12_isOrder 27 = .ok (.irem, 1) := by decide +kernel
theorem dX12_isOrder_28 : decode cX12_isOrder 28 = .ok (.iastore, 1) := by decide +kernel
theorem dX12_isOrder_29 : decode cX12_isOrder 29 = .ok (.iload_n 3, 1) := by decide +kernel
theorem dX12_isOrder_30 : decode cX12_isOrder 30 = .ok (.iconst 1, 1) := by decide +kernel
theorem dX12_isOrder_31 : decode cX12_isOrder 31 = .ok (.aload_n 0, 1) := by decide +kernel
theorem dX12_isOrder_32 : decode cX12_isOrder 32 = .ok (.getfield 40, 3) := by decide +kernel
theorem dX12_isOrder_35 : decode cX12_isOrder 35 = .ok (.iload 4, 2) := by decide +kernel
theorem dX12_isOrder_37 : decode cX12_isOrder 37 = .ok (.iaload, 1) := by decide +kernel
theorem dX12_isOrder_38 : decode cX12_isOrder 38 = .ok (.ishl, 1) := by decide +kernel
theorem dX12_isOrder_39 : decode cX12_isOrder 39 = .ok (.ior, 1) := by decide +kernel
theorem dX12_isOrder_40 : decode cX12_isOrder 40 = .ok (.istore_n 3, 1) := by decide +kernel
theorem dX12_isOrder_41 : decode cX12_isOrder 41 = .ok (.iload_n 2, 1) := by decide +kernel
theorem dX12_isOrder_42 : decode cX12_isOrder 42 = .ok (.iconst 4, 1) := by decide +kernel
theorem dX12_isOrder_43 : decode cX12_isOrder 43 = .ok (.idiv, 1) := by decide +kernel
theorem dX12_isOrder_44 : decode cX12_isOrder 44 = .ok (.istore_n 2, 1) := by decide +kernel
theorem dX12_isOrder_45 : decode cX12_isOrder 45 = .ok (.iinc 4 (-1), 3) := by decide +kernel
theorem dX12_isOrder_48 : decode cX12_isOrder 48 = .ok (.goto (-34), 3) := by decide +kernel
theorem dX12_isOrder_51 : decode cX12_isOrder 51 = .ok (.iload_n 2, 1) := by decide +kernel
theorem dX12_isOrder_52 : decode cX12_isOrder 52 = .ok (.ifCond .ne 21, 3) := by decide +kernel
theorem dX12_isOrder_55 : decode cX12_isOrder 55 = .ok (.iload_n 3, 1) := by decide +kernel
theorem dX12_isOrder_56 : decode cX12_isOrder 56 = .ok (.iconst 1, 1) := by decide +kernel
theorem dX12_isOrder_57 : decode cX12_isOrder 57 = .ok (.aload_n 0, 1) := by decide +kernel
theorem dX12_isOrder_58 : decode cX12_isOrder 58 = .ok (.getfield 19, 3) := by decide +kernel
theorem dX12_isOrder_61 : decode cX12_isOrder 61 = .ok (.iconst 4, 1) := by decide +kernel
theorem dX12_isOrder_62 : decode cX12_isOrder 62 = .ok (.iaload, 1) := by decide +kernel
theorem dX12_isOrder_63 : decode cX12_isOrder 63 = .ok (.ishl, 1) := by decide +kernel
theorem dX12_isOrder_64 : decode cX12_isOrder 64 = .ok (.iconst 1, 1) := by decide +kernel
theorem dX12_isOrder_65 : decode cX12_isOrder 65 = .ok (.isub, 1) := by decide +kernel
theorem dX12_isOrder_66 : decode cX12_isOrder 66 = .ok (.if_icmp .ne 7, 3) := by decide +kernel
theorem dX12_isOrder_69 : decode cX12_isOrder 69 = .ok (.iconst 1, 1) := by decide +kernel
theorem dX12_isOrder_70 : decode cX12_isOrder 70 = .ok (.goto 4, 3) := by decide +kernel
theorem dX12_isOrder_73 : decode cX12_isOrder 73 = .ok (.iconst 0, 1) := by decide +kernel
theorem dX12_isOrder_74 : decode cX12_isOrder 74 = .ok (.ireturn, 1) := by decide +kernel
theorem dX12_order_0 : decode cX12_order 0 = .ok (.aload_n 0, 1) := by decide +kernel
theorem dX12_order_1 : decode cX12_order 1 = .ok (.getfield 138, 3) := by decide +kernel
theorem dX12_order_4 : decode cX12_order 4 = .ok (.ifCond .ne 6, 3) := by decide +kernel
theorem dX12_order_7 : decode cX12_order 7 = .ok (.ldc 154, 2) := by decide +kernel
theorem dX12_order_9 : decode cX12_order 9 = .ok (.ireturn, 1) := by decide +kernel
theorem dX12_order_10 : decode cX12_order 10 = .ok (.iload_n 1, 1) := by decide +kernel
theorem dX12_order_11 : decode cX12_order 11 = .ok (.i2l, 1) := by decide +kernel
theorem dX12_order_12 : decode cX12_order 12 = .ok (.lconst 1, 1) := by decide +kernel
theorem dX12_order_13 : decode cX12_order 13 = .ok (.ldc2_w 178, 3) := by decide +kernel
theorem dX12_order_16 : decode cX12_order 16 = .ok (.invokestatic 60, 3) := by decide +kernel
theorem dX12_order_19 : decode cX12_order 19 = .ok (.ifCond .eq 17, 3) := by decide +kernel
theorem dX12_order_22 : decode cX12_order 22 = .ok (.iload_n 2, 1) := by decide +kernel
theorem dX12_order_23 : decode cX12_order 23 = .ok (.i2l, 1) := by decide +kernel
theorem dX12_order_24 : decode cX12_order 24 = .ok (.ldc2_w 200, 3) := by decide +kernel
theorem dX12_order_27 : decode cX12_order 27 = .ok (.ldc2_w 173, 3) := by decide +kernel
theorem dX12_order_30 : decode cX12_order 30 = .ok (.invokestatic 60, 3) := by decide +kernel
theorem dX12_order_33 : decode cX12_order 33 = .ok (.ifCond .ne 6, 3) := by decide +kernel
theorem dX12_order_36 : decode cX12_order 36 = .ok (.ldc 70, 2) := by decide +kernel
theorem dX12_order_38 : decode cX12_order 38 = .ok (.ireturn, 1) := by decide +kernel
theorem dX12_order_39 : decode cX12_order 39 = .ok (.aload_n 0, 1) := by decide +kernel
theorem dX12_order_40 : decode cX12_order 40 = .ok (.invokevirtual 183, 3) := by decide +kernel
theorem dX12_order_43 : decode cX12_order 43 = .ok (.iconst (-1), 1) := by decide +kernel
theorem dX12_order_44 : decode cX12_order 44 = .ok (.istore_n 3, 1) := by decide +kernel
theorem dX12_order_45 : decode cX12_order 45 = .ok (.iconst 0, 1) := by decide +kernel
theorem dX12_order_46 : decode cX12_order 46 = .ok (.istore 4, 2) := by decide +kernel
theorem dX12_order_48 : decode cX12_order 48 = .ok (.iconst 0, 1) := by decide +kernel
theorem dX12_order_49 : decode cX12_order 49 = .ok (.istore 5, 2) := by decide +kernel
theorem dX12_order_51 : decode cX12_order 51 = .ok (.iload 5, 2) := by decide +kernel
theorem dX12_order_53 : decode cX12_order 53 = .ok (.sipush 256, 3) := by decide +kernel
theorem dX12_order_56 : decode cX12_order 56 = .ok (.if_icmp .ge 102, 3) := by decide +kernel
theorem dX12_order_59 : decode cX12_order 59 = .ok (.aload_n 0, 1) := by decide +kernel
theorem dX12_order_60 : decode cX12_order 60 = .ok (.iload 5, 2) := by decide +kernel
theorem dX12_order_62 : decode cX12_order 62 = .ok (.invokevirtual 202, 3) := by decide +kernel
theorem dX12_order_65 : decode cX12_order 65 = .ok (.ifCond .eq 87, 3) := by decide +kernel
theorem dX12_order_68 : decode cX12_order 68 = .ok (.iconst 0, 1) := by decide +kernel
theorem dX12_order_69 : decode cX12_order 69 = .ok (.istore 6, 2) := by decide +kernel
theorem dX12_order_71 : decode cX12_order 71 = .ok (.iload 6, 2) := by decide +kernel
theorem dX12_order_73 : decode cX12_order 73 = .ok (.iload_n 1, 1) := by decide +kernel
theorem dX12_order_74 : decode cX12_order 74 = .ok (.if_icmp .ge 34, 3) := by decide +kernel
theorem dX12_order_77 : decode cX12_order 77 = .ok (.aload_n 0, 1) := by decide +kernel
theorem dX12_order_78 : decode cX12_order 78 = .ok (.getfield 19, 3) := by decide +kernel
theorem dX12_order_81 : decode cX12_order 81 = .ok (.bipush 6, 2) := by decide +kernel
theorem dX12_order_83 : decode cX12_order 83 = .ok (.aload_n 0, 1) := by decide +kernel
theorem dX12_order_84 : decode cX12_order 84 = .ok (.getfield 40, 3) := by decide +kernel
theorem dX12_order_87 : decode cX12_order 87 = .ok (.iload 6, 2) := by decide +kernel
theorem dX12_order_89 : decode cX12_order 89 = .ok (.aload_n 0, 1) := by decide +kernel
theorem dX12_order_90 : decode cX12_order 90 = .ok (.getfield 19, 3) := by decide +kernel
theorem dX12_order_93 : decode cX12_order 93 = .ok (.iconst 4, 1) := by decide +kernel
theorem dX12_order_94 : decode cX12_order 94 = .ok (.iaload, 1) := by decide +kernel
theorem dX12_order_95 : decode cX12_order 95 = .ok (.irem, 1) := by decide +kernel
theorem dX12_order_96 : decode cX12_order 96 = .ok (.iaload, 1) := by decide +kernel
theorem dX12_order_97 : decode cX12_order 97 = .ok (.iastore, 1) := by decide +kernel
theorem dX12_order_98 : decode cX12_order 98 = .ok (.aload_n 0, 1) := by decide +kernel
theorem dX12_order_99 : decode cX12_order 99 = .ok (.invokevirtual 180, 3) := by decide +kernel
theorem dX12_order_102 : decode cX12_order 102 = .ok (.iinc 6 1, 3) := by decide +kernel
theorem dX12_order_105 : decode cX12_order 105 = .ok (.goto (-34), 3) := by decide +kernel
theorem dX12_order_108 : decode cX12_order 108 = .ok (.aload_n 0, 1) := by decide +kernel
theorem dX12_order_109 : decode cX12_order 109 = .ok (.getfield 19, 3) := by decide +kernel
theorem dX12_order_112 : decode cX12_order 112 = .ok (.iconst 1, 1) := by decide +kernel
theorem dX12_order_113 : decode cX12_order 113 = .ok (.iaload, 1) := by decide +kernel
theorem dX12_order_114 : decode cX12_order 114 = .ok (.iload_n 3, 1) := by decide +kernel
theorem dX12_order_115 : decode cX12_order 115 = .ok (.if_icmp .le 8, 3) := by decide +kernel
theorem dX12_order_118 : decode cX12_order 118 = .ok (.iload 5, 2) := by decide +kernel
theorem dX12_order_120 : decode cX12_order 120 = .ok (.goto 5, 3) := by decide +kernel
theorem dX12_order_123 : decode cX12_order 123 = .ok (.iload 4, 2) := by decide +kernel
theorem dX12_order_125 : decode cX12_order 125 = .ok (.istore 4, 2) := by decide +kernel
theorem dX12_order_127 : decode cX12_order 127 = .ok (.aload_n 0, 1) := by decide +kernel
theorem dX12_order_128 : decode cX12_order 128 = .ok (.getfield 19, 3) := by decide +kernel
theorem dX12_order_131 : decode cX12_order 131 = .ok (.iconst 1, 1) := by decide +kernel
theorem dX12_order_132 : decode cX12_order 132 = .ok (.iaload, 1) := by decide +kernel
theorem dX12_order_133 : decode cX12_order 133 = .ok (.iload_n 3, 1) := by decide +kernel
theorem dX12_order_134 : decode cX12_order 134 = .ok (.if_icmp .le 12, 3) := by decide +kernel
theorem dX12_order_137 : decode cX12_order 137 = .ok (.aload_n 0, 1) := by decide +kernel
theorem dX12_order_138 : decode cX12_order 138 = .ok (.getfield 19, 3) := by decide +kernel
theorem dX12_order_141 : decode cX12_order 141 = .ok (.iconst 1, 1) := by decide +kernel
theorem dX12_order_142 : decode cX12_order 142 = .ok (.iaload, 1) := by decide +kernel
theorem dX12_order_143 : decode cX12_order 143 = .ok (.goto 4, 3) := by decide +kernel
theorem dX12_order_146 : decode cX12_order 146 = .ok (.iload_n 3, 1) := by decide +kernel
theorem dX12_order_147 : decode cX12_order 147 = .ok (.istore_n 3, 1) := by decide +kernel
theorem dX12_order_148 : decode cX12_order 148 = .ok (.aload_n 0, 1) := by decide +kernel
theorem dX12_order_149 : decode cX12_order 149 = .ok (.invokevirtual 189, 3) := by decide +kernel
theorem dX12_order_152 : decode cX12_order 152 = .ok (.iinc 5 1, 3) := by decide +kernel
theorem dX12_order_155 : decode cX12_order 155 = .ok (.goto (-104), 3) := by decide +kernel
theorem dX12_order_158 : decode cX12_order 158 = .ok (.aload_n 0, 1) := by decide +kernel
theorem dX12_order_159 : decode cX12_order 159 = .ok (.iload 4, 2) := by decide +kernel
theorem dX12_order_161 : decode cX12_order 161 = .ok (.invokevirtual 202, 3) := by decide +kernel
theorem dX12_order_164 : decode cX12_order 164 = .ok (.pop, 1) := by decide +kernel
theorem dX12_order_165 : decode cX12_order 165 = .ok (.iload_n 2, 1) := by decide +kernel
theorem dX12_order_166 : decode cX12_order 166 = .ok (.ifCond .ge 7, 3) := by decide +kernel
theorem dX12_order_169 : decode cX12_order 169 = .ok (.iload_n 3, 1) := by decide +kernel
theorem dX12_order_170 : decode cX12_order 170 = .ok (.goto 24, 3) := by decide +kernel
theorem dX12_order_173 : decode cX12_order 173 = .ok (.iload_n 2, 1) := by decide +kernel
theorem dX12_order_174 : decode cX12_order 174 = .ok (.aload_n 0, 1) := by decide +kernel
theorem dX12_order_175 : decode cX12_order 175 = .ok (.getfield 19, 3) := by decide +kernel
theorem dX12_order_178 : decode cX12_order 178 = .ok (.iconst 4, 1) := by decide +kernel
theorem dX12_order_179 : decode cX12_order 179 = .ok (.iaload, 1) := by decide +kernel
theorem dX12_order_180 : decode cX12_order 180 = .ok (.if_icmp .ge 12, 3) := by decide +kernel
theorem dX12_order_183 : decode cX12_order 183 = .ok (.aload_n 0, 1) := by decide +kernel
theorem dX12_order_184 : decode cX12_order 184 = .ok (.getfield 40, 3) := by decide +kernel
theorem dX12_order_187 : decode cX12_order 187 = .ok (.iload_n 2, 1) := by decide +kernel
theorem dX12_order_188 : decode cX12_order 188 = .ok (.iaload, 1) := by decide +kernel
theorem dX12_order_189 : decode cX12_order 189 = .ok (.goto 5, 3) := by decide +kernel
theorem dX12_order_192 : decode cX12_order 192 = .ok (.ldc 195, 2) := by decide +kernel
theorem dX12_order_194 : decode cX12_order 194 = .ok (.ireturn, 1) := by decide +kernel
theorem dX12_brokenAll_0 : decode cX12_brokenAll 0 = .ok (.iconst 0, 1) := by decide +kernel
theorem dX12_brokenAll_1 : decode cX12_brokenAll 1 = .ok (.istore_n 1, 1) := by decide +kernel
theorem dX12_brokenAll_2 : decode cX12_brokenAll 2 = .ok (.iconst 0, 1) := by decide +kernel
theorem dX12_brokenAll_3 : decode cX12_brokenAll 3 = .ok (.istore_n 2, 1) := by decide +kernel
theorem dX12_brokenAll_4 : decode cX12_brokenAll 4 = .ok (.iload_n 2, 1) := by decide +kernel
theorem dX12_brokenAll_5 : decode cX12_brokenAll 5 = .ok (.aload_n 0, 1) := by decide +kernel
theorem dX12_brokenAll_6 : decode cX12_brokenAll 6 = .ok (.getfield 19, 3) := by decide +kernel
theorem dX12_brokenAll_9 : decode cX12_brokenAll 9 = .ok (.iconst 4, 1) := by decide +kernel
theorem dX12_brokenAll_10 : decode cX12_brokenAll 10 = .ok (.iaload, 1) := by decide +kernel
theorem dX12_brokenAll_11 : decode cX12_brokenAll 11 = .ok (.if_icmp .ge 21, 3) := by decide +kernel
theorem dX12_brokenAll_14 : decode cX12_brokenAll 14 = .ok (.iload_n 1, 1) := by decide +kernel
theorem dX12_brokenAll_15 : decode cX12_brokenAll 15 = .ok (.aload_n 0, 1) := by decide +kernel
theorem dX12_brokenAll_16 : decode cX12_brokenAll 16 = .ok (.getfield 19, 3) := by decide +kernel
theorem dX12_brokenAll_19 : decode cX12_brokenAll 19 = .ok (.bipush 40, 2) := by decide +kernel
theorem dX12_brokenAll_21 : decode cX12_brokenAll 21 = .ok (.iload_n 2, 1) := by decide +kernel
theorem dX12_brokenAll_22 : decode cX12_brokenAll 22 = .ok (.iadd, 1) := by decide +kernel
theorem dX12_brokenAll_23 : decode cX12_brokenAll 23 = .ok (.iaload, 1) := by decide +kernel
theorem dX12_brokenAll_24 : decode cX12_brokenAll 24 = .ok (.iadd, 1) := by decide +kernel
theorem dX12_brokenAll_25 : decode cX12_brokenAll 25 = .ok (.istore_n 1, 1) := by decide +kernel
theorem dX12_brokenAll_26 : decode cX12_brokenAll 26 = .ok (.iinc 2 1, 3) := by decide +kernel
theorem dX12_brokenAll_29 : decode cX12_brokenAll 29 = .ok (.goto (-25), 3) := by decide +kernel
theorem dX12_brokenAll_32 : decode cX12_brokenAll 32 = .ok (.iload_n 1, 1) := by decide +kernel
theorem dX12_brokenAll_33 : decode cX12_brokenAll 33 = .ok (.ireturn, 1) := by decide +kernel
theorem dX12_ahead_0 : decode cX12_ahead 0 = .ok (.aload_n 0, 1) := by decide +kernel
theorem dX12_ahead_1 : decode cX12_ahead 1 = .ok (.getfield 138, 3) := by decide +kernel
theorem dX12_ahead_4 : decode cX12_ahead 4 = .ok (.ifCond .ne 6, 3) := by decide +kernel
theorem dX12_ahead_7 : decode cX12_ahead 7 = .ok (.ldc 154, 2) := by decide +kernel
theorem dX12_ahead_9 : decode cX12_ahead 9 = .ok (.ireturn, 1) := by decide +kernel
theorem dX12_ahead_10 : decode cX12_ahead 10 = .ok (.iload_n 1, 1) := by decide +kernel
theorem dX12_ahead_11 : decode cX12_ahead 11 = .ok (.i2l, 1) := by decide +kernel
theorem dX12_ahead_12 : decode cX12_ahead 12 = .ok (.lconst 0, 1) := by decide +kernel
theorem dX12_ahead_13 : decode cX12_ahead 13 = .ok (.ldc2_w 205, 3) := by decide +kernel
theorem dX12_ahead_16 : decode cX12_ahead 16 = .ok (.invokestatic 60, 3) := by decide +kernel
theorem dX12_ahead_19 : decode cX12_ahead 19 = .ok (.ifCond .eq 13, 3) := by decide +kernel
theorem dX12_ahead_22 : decode cX12_ahead 22 = .ok (.iload_n 2, 1) := by decide +kernel
theorem dX12_ahead_23 : decode cX12_ahead 23 = .ok (.i2l, 1) := by decide +kernel
theorem dX12_ahead_24 : decode cX12_ahead 24 = .ok (.lconst 0, 1) := by decide +kernel
theorem dX12_ahead_25 : decode cX12_ahead 25 = .ok (.lconst 1, 1) := by decide +kernel
theorem dX12_ahead_26 : decode cX12_ahead 26 = .ok (.invokestatic 60, 3) := by decide +kernel
theorem dX12_ahead_29 : decode cX12_ahead 29 = .ok (.ifCond .ne 6, 3) := by decide +kernel
theorem dX12_ahead_32 : decode cX12_ahead 32 = .ok (.ldc 70, 2) := by decide +kernel
theorem dX12_ahead_34 : decode cX12_ahead 34 = .ok (.ireturn, 1) := by decide +kernel
theorem dX12_ahead_35 : decode cX12_ahead 35 = .ok (.aload_n 0, 1) := by decide +kernel
theorem dX12_ahead_36 : decode cX12_ahead 36 = .ok (.invokevirtual 183, 3) := by decide +kernel
theorem dX12_ahead_39 : decode cX12_ahead 39 = .ok (.iconst 0, 1) := by decide +kernel
theorem dX12_ahead_40 : decode cX12_ahead 40 = .ok (.istore_n 3, 1) := by decide +kernel
theorem dX12_ahead_41 : decode cX12_ahead 41 = .ok (.iload_n 3, 1) := by decide +kernel
theorem dX12_ahead_42 : decode cX12_ahead 42 = .ok (.iload_n 1, 1) := by decide +kernel
theorem dX12_ahead_43 : decode cX12_ahead 43 = .ok (.if_icmp .ge 13, 3) := by decide +kernel
theorem dX12_ahead_46 : decode cX12_ahead 46 = .ok (.aload_n 0, 1) := by decide +kernel
theorem dX12_ahead_47 : decode cX12_ahead 47 = .ok (.invokevirtual 180, 3) := by decide +kernel
theorem dX12_ahead_50 : decode cX12_ahead 50 = .ok (.iinc 3 1, 3) := by decide +kernel
theorem dX12_ahead_53 : decode cX12_ahead 53 = .ok (.goto (-12), 3) := by decide +kernel
theorem dX12_ahead_56 : decode cX12_ahead 56 = .ok (.iload_n 2, 1) := by decide +kernel
theorem dX12_ahead_57 : decode cX12_ahead 57 = .ok (.ifCond .ne 12, 3) := by decide +kernel
theorem dX12_ahead_60 : decode cX12_ahead 60 = .ok (.aload_n 0, 1) := by decide +kernel
theorem dX12_ahead_61 : decode cX12_ahead 61 = .ok (.getfield 19, 3) := by decide +kernel
theorem dX12_ahead_64 : decode cX12_ahead 64 = .ok (.iconst 1, 1) := by decide +kernel
theorem dX12_ahead_65 : decode cX12_ahead 65 = .ok (.iaload, 1) := by decide +kernel
theorem dX12_ahead_66 : decode cX12_ahead 66 = .ok (.goto 7, 3) := by decide +kernel
theorem dX12_ahead_69 : decode cX12_ahead 69 = .ok (.aload_n 0, 1) := by decide +kernel
theorem dX12_ahead_70 : decode cX12_ahead 70 = .ok (.invokevirtual 207, 3) := by decide +kernel
theorem dX12_ahead_73 : decode cX12_ahead 73 = .ok (.istore_n 3, 1) := by decide +kernel
theorem dX12_ahead_74 : decode cX12_ahead 74 = .ok (.aload_n 0, 1) := by decide +kernel
theorem dX12_ahead_75 : decode cX12_ahead 75 = .ok (.invokevirtual 189, 3) := by decide +kernel
theorem dX12_ahead_78 : decode cX12_ahead 78 = .ok (.iload_n 3, 1) := by decide +kernel
theorem dX12_ahead_79 : decode cX12_ahead 79 = .ok (.ireturn, 1) := by decide +kernel
theorem dX12_down_0 : decode cX12_down 0 = .ok (.aload_n 0, 1) := by decide +kernel
theorem dX12_down_1 : decode cX12_down 1 = .ok (.getfield 138, 3) := by decide +kernel
theorem dX12_down_4 : decode cX12_down 4 = .ok (.ifCond .ne 6, 3) := by decide +kernel
theorem dX12_down_7 : decode cX12_down 7 = .ok (.ldc 154, 2) := by decide +kernel
theorem dX12_down_9 : decode cX12_down 9 = .ok (.ireturn, 1) := by decide +kernel
theorem dX12_down_10 : decode cX12_down 10 = .ok (.iload_n 1, 1) := by decide +kernel
theorem dX12_down_11 : decode cX12_down 11 = .ok (.i2l, 1) := by decide +kernel
theorem dX12_down_12 : decode cX12_down 12 = .ok (.lconst 1, 1) := by decide +kernel
theorem dX12_down_13 : decode cX12_down 13 = .ok (.ldc2_w 211, 3) := by decide +kernel
theorem dX12_down_16 : decode cX12_down 16 = .ok (.invokestatic 60, 3) := by decide +kernel
theorem dX12_down_19 : decode cX12_down 19 = .ok (.ifCond .ne 6, 3) := by decide +kernel
theorem dX12_down_22 : decode cX12_down 22 = .ok (.ldc 70, 2) := by decide +kernel
theorem dX12_down_24 : decode cX12_down 24 = .ok (.ireturn, 1) := by decide +kernel
theorem dX12_down_25 : decode cX12_down 25 = .ok (.aload_n 0, 1) := by decide +kernel
theorem dX12_down_26 : decode cX12_down 26 = .ok (.invokevirtual 183, 3) := by decide +kernel
theorem dX12_down_29 : decode cX12_down 29 = .ok (.iconst 0, 1) := by decide +kernel
theorem dX12_down_30 : decode cX12_down 30 = .ok (.istore_n 2, 1) := by decide +kernel
theorem dX12_down_31 : decode cX12_down 31 = .ok (.iload_n 2, 1) := by decide +kernel
theorem dX12_down_32 : decode cX12_down 32 = .ok (.bipush 60, 2) := by decide +kernel
theorem dX12_down_34 : decode cX12_down 34 = .ok (.if_icmp .ge 23, 3) := by decide +kernel
theorem dX12_down_37 : decode cX12_down 37 = .ok (.aload_n 0, 1) := by decide +kernel
theorem dX12_down_38 : decode cX12_down 38 = .ok (.getfield 19, 3) := by decide +kernel
theorem dX12_down_41 : decode cX12_down 41 = .ok (.iconst 1, 1) := by decide +kernel
theorem dX12_down_42 : decode cX12_down 42 = .ok (.iaload, 1) := by decide +kernel
theorem dX12_down_43 : decode cX12_down 43 = .ok (.iload_n 1, 1) := by decide +kernel
theorem dX12_down_44 : decode cX12_down 44 = .ok (.if_icmp .lt 13, 3) := by decide +kernel
theorem dX12_down_47 : decode cX12_down 47 = .ok (.aload_n 0, 1) := by decide +kernel
theorem dX12_down_48 : decode cX12_down 48 = .ok (.invokevirtual 180, 3) := by decide +kernel
theorem dX12_down_51 : decode cX12_down 51 = .ok (.iinc 2 1, 3) := by decide +kernel
theorem dX12_down_54 : decode cX12_down 54 = .ok (.goto (-23), 3) := by decide +kernel
theorem dX12_down_57 : decode cX12_down 57 = .ok (.aload_n 0, 1) := by decide +kernel
theorem dX12_down_58 : decode cX12_down 58 = .ok (.getfield 19, 3) := by decide +kernel
theorem dX12_down_61 : decode cX12_down 61 = .ok (.iconst 1, 1) := by decide +kernel
theorem dX12_down_62 : decode cX12_down 62 = .ok (.iaload, 1) := by decide +kernel
theorem dX12_down_63 : decode cX12_down 63 = .ok (.iload_n 1, 1) := by decide +kernel
theorem dX12_down_64 : decode cX12_down 64 = .ok (.if_icmp .ge 7, 3) := by decide +kernel
theorem dX12_down_67 : decode cX12_down 67 = .ok (.iconst 1, 1) := by decide +kernel
theorem dX12_down_68 : decode cX12_down 68 = .ok (.goto 4, 3) := by decide +kernel
theorem dX12_down_71 : decode cX12_down 71 = .ok (.iconst 0, 1) := by decide +kernel
theorem dX12_down_72 : decode cX12_down 72 = .ok (.istore_n 3, 1) := by decide +kernel
theorem dX12_down_73 : decode cX12_down 73 = .ok (.aload_n 0, 1) := by decide +kernel
theorem dX12_down_74 : decode cX12_down 74 = .ok (.invokevirtual 189, 3) := by decide +kernel
theorem dX12_down_77 : decode cX12_down 77 = .ok (.iload_n 3, 1) := by decide +kernel
theorem dX12_down_78 : decode cX12_down 78 = .ok (.ifCond .eq 7, 3) := by decide +kernel
theorem dX12_down_81 : decode cX12_down 81 = .ok (.iload_n 2, 1) := by decide +kernel
theorem dX12_down_82 : decode cX12_down 82 = .ok (.goto 5, 3) := by decide +kernel
theorem dX12_down_85 : decode cX12_down 85 = .ok (.ldc 195, 2) := by decide +kernel
theorem dX12_down_87 : decode cX12_down 87 = .ok (.ireturn, 1) := by decide +kernel
theorem dX12_lacks_0 : decode cX12_lacks 0 = .ok (.aload_n 0, 1) := by decide +kernel
theorem dX12_lacks_1 : decode cX12_lacks 1 = .ok (.getfield 13, 3) := by decide +kernel
theorem dX12_lacks_4 : decode cX12_lacks 4 = .ok (.iload_n 1, 1) := by decide +kernel
theorem dX12_lacks_5 : decode cX12_lacks 5 = .ok (.iaload, 1) := by decide +kernel
theorem dX12_lacks_6 : decode cX12_lacks 6 = .ok (.ifCond .ge 9, 3) := by decide +kernel
theorem dX12_lacks_9 : decode cX12_lacks 9 = .ok (.aload_n 0, 1) := by decide +kernel
theorem dX12_lacks_10 : decode cX12_lacks 10 = .ok (.iconst 1, 1) := by decide +kernel
theorem dX12_lacks_11 : decode cX12_lacks 11 = .ok (.invokevirtual 71, 3) := by decide +kernel
theorem dX12_lacks_14 : decode cX12_lacks 14 = .ok (.ireturn, 1) := by decide +kernel
theorem dX12_lacks_15 : decode cX12_lacks 15 = .ok (.iload_n 2, 1) := by decide +kernel
theorem dX12_lacks_16 : decode cX12_lacks 16 = .ok (.i2l, 1) := by decide +kernel
theorem dX12_lacks_17 : decode cX12_lacks 17 = .ok (.lconst 0, 1) := by decide +kernel
theorem dX12_lacks_18 : decode cX12_lacks 18 = .ok (.aload_n 0, 1) := by decide +kernel
theorem dX12_lacks_19 : decode cX12_lacks 19 = .ok (.getfield 13, 3) := by decide +kernel
theorem dX12_lacks_22 : decode cX12_lacks 22 = .ok (.iload_n 1, 1) := by decide +kernel
theorem dX12_lacks_23 : decode cX12_lacks 23 = .ok (.iaload, 1) := by decide +kernel
theorem dX12_lacks_24 : decode cX12_lacks 24 = .ok (.iload_n 3, 1) := by decide +kernel
theorem dX12_lacks_25 : decode cX12_lacks 25 = .ok (.isub, 1) := by decide +kernel
theorem dX12_lacks_26 : decode cX12_lacks 26 = .ok (.i2l, 1) := by decide +kernel
theorem dX12_lacks_27 : decode cX12_lacks 27 = .ok (.invokestatic 60, 3) := by decide +kernel
theorem dX12_lacks_30 : decode cX12_lacks 30 = .ok (.ifCond .eq 7, 3) := by decide +kernel
theorem dX12_lacks_33 : decode cX12_lacks 33 = .ok (.iconst 0, 1) := by decide +kernel
theorem dX12_lacks_34 : decode cX12_lacks 34 = .ok (.goto 8, 3) := by decide +kernel
theorem dX12_lacks_37 : decode cX12_lacks 37 = .ok (.aload_n 0, 1) := by decide +kernel
theorem dX12_lacks_38 : decode cX12_lacks 38 = .ok (.iconst 2, 1) := by decide +kernel
theorem dX12_lacks_39 : decode cX12_lacks 39 = .ok (.invokevirtual 71, 3) := by decide +kernel
theorem dX12_lacks_42 : decode cX12_lacks 42 = .ok (.ireturn, 1) := by decide +kernel
theorem dX12_loves_0 : decode cX12_loves 0 = .ok (.aload_n 0, 1) := by decide +kernel
theorem dX12_loves_1 : decode cX12_loves 1 = .ok (.iload_n 1, 1) := by decide +kernel
theorem dX12_loves_2 : decode cX12_loves 2 = .ok (.invokevirtual 155, 3) := by decide +kernel
theorem dX12_loves_5 : decode cX12_loves 5 = .ok (.ifCond .eq 34, 3) := by decide +kernel
theorem dX12_loves_8 : decode cX12_loves 8 = .ok (.iload_n 2, 1) := by decide +kernel
theorem dX12_loves_9 : decode cX12_loves 9 = .ok (.invokestatic 64, 3) := by decide +kernel
theorem dX12_loves_12 : decode cX12_loves 12 = .ok (.ifCond .eq 27, 3) := by decide +kernel
theorem dX12_loves_15 : decode cX12_loves 15 = .ok (.iload 4, 2) := by decide +kernel
theorem dX12_loves_17 : decode cX12_loves 17 = .ok (.i2l, 1) := by decide +kernel
theorem dX12_loves_18 : decode cX12_loves 18 = .ok (.lconst 1, 1) := by decide +kernel
theorem dX12_loves_19 : decode cX12_loves 19 = .ok (.ldc2_w 213, 3) := by decide +kernel
theorem dX12_loves_22 : decode cX12_loves 22 = .ok (.invokestatic 60, 3) := by decide +kernel
theorem dX12_loves_25 : decode cX12_loves 25 = .ok (.ifCond .eq 14, 3) := by decide +kernel
theorem dX12_loves_28 : decode cX12_loves 28 = .ok (.iload 5, 2) := by decide +kernel
theorem dX12_loves_30 : decode cX12_loves 30 = .ok (.i2l, 1) := by decide +kernel
theorem dX12_loves_31 : decode cX12_loves 31 = .ok (.lconst 0, 1) := by decide +kernel
theorem dX12_loves_32 : decode cX12_loves 32 = .ok (.lconst 1, 1) := by decide +kernel
theorem dX12_loves_33 : decode cX12_loves 33 = .ok (.invokestatic 60, 3) := by decide +kernel
theorem dX12_loves_36 : decode cX12_loves 36 = .ok (.ifCond .ne 6, 3) := by decide +kernel
theorem dX12_loves_39 : decode cX12_loves 39 = .ok (.ldc 70, 2) := by decide +kernel
theorem dX12_loves_41 : decode cX12_loves 41 = .ok (.ireturn, 1) := by decide +kernel
theorem dX12_loves_42 : decode cX12_loves 42 = .ok (.aload_n 0, 1) := by decide +kernel
theorem dX12_loves_43 : decode cX12_loves 43 = .ok (.iload_n 2, 1) := by decide +kernel
theorem dX12_loves_44 : decode cX12_loves 44 = .ok (.iload_n 3, 1) := by decide +kernel
theorem dX12_loves_45 : decode cX12_loves 45 = .ok (.iload 4, 2) := by decide +kernel
theorem dX12_loves_47 : decode cX12_loves 47 = .ok (.invokevirtual 215, 3) := by decide +kernel
theorem dX12_loves_50 : decode cX12_loves 50 = .ok (.istore 6, 2) := by decide +kernel
theorem dX12_loves_52 : decode cX12_loves 52 = .ok (.iload 6, 2) := by decide +kernel
theorem dX12_loves_54 : decode cX12_loves 54 = .ok (.ifCond .ge 6, 3) := by decide +kernel
theorem dX12_loves_57 : decode cX12_loves 57 = .ok (.iload 6, 2) := by decide +kernel
theorem dX12_loves_59 : decode cX12_loves 59 = .ok (.ireturn, 1) := by decide +kernel
theorem dX12_loves_60 : decode cX12_loves 60 = .ok (.aload_n 0, 1) := by decide +kernel
theorem dX12_loves_61 : decode cX12_loves 61 = .ok (.invokevirtual 183, 3) := by decide +kernel
theorem dX12_loves_64 : decode cX12_loves 64 = .ok (.iconst 0, 1) := by decide +kernel
theorem dX12_loves_65 : decode cX12_loves 65 = .ok (.istore 7, 2) := by decide +kernel
theorem dX12_loves_67 : decode cX12_loves 67 = .ok (.ldc 195, 2) := by decide +kernel
theorem dX12_loves_69 : decode cX12_loves 69 = .ok (.istore 8, 2) := by decide +kernel
theorem dX12_loves_71 : decode cX12_loves 71 = .ok (.bipush 9, 2) := by decide +kernel
theorem dX12_loves_73 : decode cX12_loves 73 = .ok (.istore 9, 2) := by decide +kernel
theorem dX12_loves_75 : decode cX12_loves 75 = .ok (.iload 9, 2) := by decide +kernel
theorem dX12_loves_77 : decode cX12_loves 77 = .ok (.ifCond .lt 111, 3) := by decide +kernel
theorem dX12_loves_80 : decode cX12_loves 80 = .ok (.aload_n 0, 1) := by decide +kernel
theorem dX12_loves_81 : decode cX12_loves 81 = .ok (.getfield 19, 3) := by decide +kernel
theorem dX12_loves_84 : decode cX12_loves 84 = .ok (.bipush 12, 2) := by decide +kernel
theorem dX12_loves_86 : decode cX12_loves 86 = .ok (.iload_n 1, 1) := by decide +kernel
theorem dX12_loves_87 : decode cX12_loves 87 = .ok (.iadd, 1) := by decide +kernel
theorem dX12_loves_88 : decode cX12_loves 88 = .ok (.iload 9, 2) := by decide +kernel
theorem dX12_loves_90 : decode cX12_loves 90 = .ok (.iastore, 1) := by decide +kernel
theorem dX12_loves_91 : decode cX12_loves 91 = .ok (.iconst 1, 1) := by decide +kernel
theorem dX12_loves_92 : decode cX12_loves 92 = .ok (.istore 10, 2) := by decide +kernel
theorem dX12_loves_94 : decode cX12_loves 94 = .ok (.iconst 0, 1) := by decide +kernel
theorem dX12_loves_95 : decode cX12_loves 95 = .ok (.istore 11, 2) := by decide +kernel
theorem dX12_loves_97 : decode cX12_loves 97 = .ok (.iload 11, 2) := by decide +kernel
theorem dX12_loves_99 : decode cX12_loves 99 = .ok (.iload 4, 2) := by decide +kernel
theorem dX12_loves_101 : decode cX12_loves 101 = .ok (.if_icmp .ge 48, 3) := by decide +kernel
theorem dX12_loves_104 : decode cX12_loves 104 = .ok (.aload_n 0, 1) := by decide +kernel
theorem dX12_loves_105 : decode cX12_loves 105 = .ok (.invokevirtual 180, 3) := by decide +kernel
theorem dX12_loves_108 : decode cX12_loves 108 = .ok (.iload 10, 2) := by decide +kernel
theorem dX12_loves_110 : decode cX12_loves 110 = .ok (.ifCond .eq 30, 3) := by decide +kernel
theorem dX12_loves_113 : decode cX12_loves 113 = .ok (.aload_n 0, 1) := by decide +kernel
theorem dX12_loves_114 : decode cX12_loves 114 = .ok (.getfield 16, 3) := by decide +kernel
theorem dX12_loves_117 : decode cX12_loves 117 = .ok (.bipush 40, 2) := by decide +kernel
theorem dX12_loves_119 : decode cX12_loves 119 = .ok (.iload_n 2, 1) := by decide +kernel
theorem dX12_loves_120 : decode cX12_loves 120 = .ok (.imul, 1) := by decide +kernel
theorem dX12_loves_121 : decode cX12_loves 121 = .ok (.iload_n 3, 1) := by decide +kernel
theorem dX12_loves_122 : decode cX12_loves 122 = .ok (.iadd, 1) := by decide +kernel
theorem dX12_loves_123 : decode cX12_loves 123 = .ok (.iload 11, 2) := by decide +kernel
theorem dX12_loves_125 : decode cX12_loves 125 = .ok (.iadd, 1) := by decide +kernel
theorem dX12_loves_126 : decode cX12_loves 126 = .ok (.iaload, 1) := by decide +kernel
theorem dX12_loves_127 : decode cX12_loves 127 = .ok (.aload_n 0, 1) := by decide +kernel
theorem dX12_loves_128 : decode cX12_loves 128 = .ok (.getfield 19, 3) := by decide +kernel
theorem dX12_loves_131 : decode cX12_loves 131 = .ok (.iconst 1, 1) := by decide +kernel
theorem dX12_loves_132 : decode cX12_loves 132 = .ok (.iaload, 1) := by decide +kernel
theorem dX12_loves_133 : decode cX12_loves 133 = .ok (.if_icmp .ne 7, 3) := by decide +kernel
theorem dX12_loves_136 : decode cX12_loves 136 = .ok (.iconst 1, 1) := by decide +kernel
theorem dX12_loves_137 : decode cX12_loves 137 = .ok (.goto 4, 3) := by decide +kernel
theorem dX12_loves_140 : decode cX12_loves 140 = .ok (.iconst 0, 1) := by decide +kernel
theorem dX12_loves_141 : decode cX12_loves 141 = .ok (.istore 10, 2) := by decide +kernel
theorem dX12_loves_143 : decode cX12_loves 143 = .ok (.iinc 11 1, 3) := by decide +kernel
theorem dX12_loves_146 : decode cX12_loves 146 = .ok (.goto (-49), 3) := by decide +kernel
theorem dX12_loves_149 : decode cX12_loves 149 = .ok (.iload 7, 2) := by decide +kernel
theorem dX12_loves_151 : decode cX12_loves 151 = .ok (.iload 10, 2) := by decide +kernel
theorem dX12_loves_153 : decode cX12_loves 153 = .ok (.ifCond .eq 7, 3) := by decide +kernel
theorem dX12_loves_156 : decode cX12_loves 156 = .ok (.iconst 1, 1) := by decide +kernel
theorem dX12_loves_157 : decode cX12_loves 157 = .ok (.goto 4, 3) := by decide +kernel
theorem dX12_loves_160 : decode cX12_loves 160 = .ok (.iconst 0, 1) := by decide +kernel
theorem dX12_loves_161 : decode cX12_loves 161 = .ok (.iadd, 1) := by decide +kernel
theorem dX12_loves_162 : decode cX12_loves 162 = .ok (.istore 7, 2) := by decide +kernel
theorem dX12_loves_164 : decode cX12_loves 164 = .ok (.iload 10, 2) := by decide +kernel
theorem dX12_loves_166 : decode cX12_loves 166 = .ok (.ifCond .eq 8, 3) := by decide +kernel
theorem dX12_loves_169 : decode cX12_loves 169 = .ok (.iload 9, 2) := by decide +kernel
theorem dX12_loves_171 : decode cX12_loves 171 = .ok (.goto 5, 3) := by decide +kernel
theorem dX12_loves_174 : decode cX12_loves 174 = .ok (.iload 8, 2) := by decide +kernel
theorem dX12_loves_176 : decode cX12_loves 176 = .ok (.istore 8, 2) := by decide +kernel
theorem dX12_loves_178 : decode cX12_loves 178 = .ok (.aload_n 0, 1) := by decide +kernel
theorem dX12_loves_179 : decode cX12_loves 179 = .ok (.invokevirtual 189, 3) := by decide +kernel
theorem dX12_loves_182 : decode cX12_loves 182 = .ok (.iinc 9 (-1), 3) := by decide +kernel
theorem dX12_loves_185 : decode cX12_loves 185 = .ok (.goto (-110), 3) := by decide +kernel
theorem dX12_loves_188 : decode cX12_loves 188 = .ok (.aload_n 0, 1) := by decide +kernel
theorem dX12_loves_189 : decode cX12_loves 189 = .ok (.iload 5, 2) := by decide +kernel
theorem dX12_loves_191 : decode cX12_loves 191 = .ok (.ifCond .ne 8, 3) := by decide +kernel
theorem dX12_loves_194 : decode cX12_loves 194 = .ok (.iload 7, 2) := by decide +kernel
theorem dX12_loves_196 : decode cX12_loves 196 = .ok (.goto 5, 3) := by decide +kernel
theorem dX12_loves_199 : decode cX12_loves 199 = .ok (.iload 8, 2) := by decide +kernel
theorem dX12_loves_201 : decode cX12_loves 201 = .ok (.invokevirtual 75, 3) := by decide +kernel
theorem dX12_loves_204 : decode cX12_loves 204 = .ok (.ireturn, 1) := by decide +kernel
theorem dX12_isSo_0 : decode cX12_isSo 0 = .ok (.aload_n 0, 1) := by decide +kernel
theorem dX12_isSo_1 : decode cX12_isSo 1 = .ok (.iload_n 2, 1) := by decide +kernel
theorem dX12_isSo_2 : decode cX12_isSo 2 = .ok (.invokevirtual 169, 3) := by decide +kernel
theorem dX12_isSo_5 : decode cX12_isSo 5 = .ok (.iconst 1, 1) := by decide +kernel
theorem dX12_isSo_6 : decode cX12_isSo 6 = .ok (.istore_n 3, 1) := by decide +kernel
theorem dX12_isSo_7 : decode cX12_isSo 7 = .ok (.iconst 0, 1) := by decide +kernel
theorem dX12_isSo_8 : decode cX12_isSo 8 = .ok (.istore 4, 2) := by decide +kernel
theorem dX12_isSo_10 : decode cX12_isSo 10 = .ok (.iload 4, 2) := by decide +kernel
theorem dX12_isSo_12 : decode cX12_isSo 12 = .ok (.aload_n 0, 1) := by decide +kernel
theorem dX12_isSo_13 : decode cX12_isSo 13 = .ok (.getfield 19, 3) := by decide +kernel
theorem dX12_isSo_16 : decode cX12_isSo 16 = .ok (.iconst 4, 1) := by decide +kernel
theorem dX12_isSo_17 : decode cX12_isSo 17 = .ok (.iaload, 1) := by decide +kernel
theorem dX12_isSo_18 : decode cX12_isSo 18 = .ok (.if_icmp .ge 38, 3) := by decide +kernel
theorem dX12_isSo_21 : decode cX12_isSo 21 = .ok (.iload_n 3, 1) := by decide +kernel
theorem dX12_isSo_22 : decode cX12_isSo 22 = .ok (.ifCond .eq 26, 3) := by decide +kernel
theorem dX12_isSo_25 : decode cX12_isSo 25 = .ok (.aload_n 0, 1) := by decide +kernel
theorem dX12_isSo_26 : decode cX12_isSo 26 = .ok (.getfield 16, 3) := by decide +kernel
theorem dX12_isSo_29 : decode cX12_isSo 29 = .ok (.iload_n 1, 1) := by decide +kernel
theorem dX12_isSo_30 : decode cX12_isSo 30 = .ok (.iload 4, 2) := by decide +kernel
theorem dX12_isSo_32 : decode cX12_isSo 32 = .ok (.iadd, 1) := by decide +kernel
theorem dX12_isSo_33 : decode cX12_isSo 33 = .ok (.iaload, 1) := by decide +kernel
theorem dX12_isSo_34 : decode cX12_isSo 34 = .ok (.aload_n 0, 1) := by decide +kernel
theorem dX12_isSo_35 : decode cX12_isSo 35 = .ok (.getfield 31, 3) := by decide +kernel
theorem dX12_isSo_38 : decode cX12_isSo 38 = .ok (.iload 4, 2) := by decide +kernel
theorem dX12_isSo_40 : decode cX12_isSo 40 = .ok (.iaload, 1) := by decide +kernel
theorem dX12_isSo_41 : decode cX12_isSo 41 = .ok (.if_icmp .ne 7, 3) := by decide +kernel
theorem dX12_isSo_44 : decode cX12_isSo 44 = .ok (.iconst 1, 1) := by decide +kernel
theorem dX12_isSo_45 : decode cX12_isSo 45 = .ok (.goto 4, 3) := by decide +kernel
theorem dX12_isSo_48 : decode cX12_isSo 48 = .ok (.iconst 0, 1) := by decide +kernel
theorem dX12_isSo_49 : decode cX12_isSo 49 = .ok (.istore_n 3, 1) := by decide +kernel
theorem dX12_isSo_50 : decode cX12_isSo 50 = .ok (.iinc 4 1, 3) := by decide +kernel
theorem dX12_isSo_53 : decode cX12_isSo 53 = .ok (.goto (-43), 3) := by decide +kernel
theorem dX12_isSo_56 : decode cX12_isSo 56 = .ok (.iload_n 3, 1) := by decide +kernel
theorem dX12_isSo_57 : decode cX12_isSo 57 = .ok (.ireturn, 1) := by decide +kernel
theorem dX12_map_0 : decode cX12_map 0 = .ok (.aload_n 0, 1) := by decide +kernel
theorem dX12_map_1 : decode cX12_map 1 = .ok (.getfield 138, 3) := by decide +kernel
theorem dX12_map_4 : decode cX12_map 4 = .ok (.ifCond .ne 6, 3) := by decide +kernel
theorem dX12_map_7 : decode cX12_map 7 = .ok (.ldc 154, 2) := by decide +kernel
theorem dX12_map_9 : decode cX12_map 9 = .ok (.ireturn, 1) := by decide +kernel
theorem dX12_map_10 : decode cX12_map 10 = .ok (.iload_n 1, 1) := by decide +kernel
theorem dX12_map_11 : decode cX12_map 11 = .ok (.invokestatic 64, 3) := by decide +kernel
theorem dX12_map_14 : decode cX12_map 14 = .ok (.ifCond .ne 6, 3) := by decide +kernel
theorem dX12_map_17 : decode cX12_map 17 = .ok (.ldc 70, 2) := by decide +kernel
theorem dX12_map_19 : decode cX12_map 19 = .ok (.ireturn, 1) := by decide +kernel
theorem dX12_map_20 : decode cX12_map 20 = .ok (.aload_n 0, 1) := by decide +kernel
theorem dX12_map_21 : decode cX12_map 21 = .ok (.iload_n 1, 1) := by decide +kernel
theorem dX12_map_22 : decode cX12_map 22 = .ok (.iload_n 2, 1) := by decide +kernel
theorem dX12_map_23 : decode cX12_map 23 = .ok (.aload_n 0, 1) := by decide +kernel
theorem dX12_map_24 : decode cX12_map 24 = .ok (.getfield 19, 3) := by decide +kernel
theorem dX12_map_27 : decode cX12_map 27 = .ok (.iconst 4, 1) := by decide +kernel
theorem dX12_map_28 : decode cX12_map 28 = .ok (.iaload, 1) := by decide +kernel
theorem dX12_map_29 : decode cX12_map 29 = .ok (.invokevirtual 215, 3) := by decide +kernel
theorem dX12_map_32 : decode cX12_map 32 = .ok (.istore_n 3, 1) := by decide +kernel
theorem dX12_map_33 : decode cX12_map 33 = .ok (.iload_n 3, 1) := by decide +kernel
theorem dX12_map_34 : decode cX12_map 34 = .ok (.ifCond .ge 5, 3) := by decide +kernel
theorem dX12_map_37 : decode cX12_map 37 = .ok (.iload_n 3, 1) := by decide +kernel
theorem dX12_map_38 : decode cX12_map 38 = .ok (.ireturn, 1) := by decide +kernel
theorem dX12_map_39 : decode cX12_map 39 = .ok (.iconst 0, 1) := by decide +kernel
theorem dX12_map_40 : decode cX12_map 40 = .ok (.istore 4, 2) := by decide +kernel
theorem dX12_map_42 : decode cX12_map 42 = .ok (.iconst 0, 1) := by decide +kernel
theorem dX12_map_43 : decode cX12_map 43 = .ok (.istore 5, 2) := by decide +kernel
theorem dX12_map_45 : decode cX12_map 45 = .ok (.iload 5, 2) := by decide +kernel
theorem dX12_map_47 : decode cX12_map 47 = .ok (.iconst 4, 1) := by decide +kernel
theorem dX12_map_48 : decode cX12_map 48 = .ok (.if_icmp .ge 37, 3) := by decide +kernel
theorem dX12_map_51 : decode cX12_map 51 = .ok (.iload 4, 2) := by decide +kernel
theorem dX12_map_53 : decode cX12_map 53 = .ok (.aload_n 0, 1) := by decide +kernel
theorem dX12_map_54 : decode cX12_map 54 = .ok (.bipush 40, 2) := by decide +kernel
theorem dX12_map_56 : decode cX12_map 56 = .ok (.iload_n 1, 1) := by decide +kernel
theorem dX12_map_57 : decode cX12_map 57 = .ok (.imul, 1) := by decide +kernel
theorem dX12_map_58 : decode cX12_map 58 = .ok (.iload_n 2, 1) := by decide +kernel
theorem dX12_map_59 : decode cX12_map 59 = .ok (.iadd, 1) := by decide +kernel
theorem dX12_map_60 : decode cX12_map 60 = .ok (.iload 5, 2) := by decide +kernel
theorem dX12_map_62 : decode cX12_map 62 = .ok (.invokevirtual 219, 3) := by decide +kernel
theorem dX12_map_65 : decode cX12_map 65 = .ok (.ifCond .eq 10, 3) := by decide +kernel
theorem dX12_map_68 : decode cX12_map 68 = .ok (.iconst 1, 1) := by decide +kernel
theorem dX12_map_69 : decode cX12_map 69 = .ok (.iload 5, 2) := by decide +kernel
theorem dX12_map_71 : decode cX12_map 71 = .ok (.ishl, 1) := by decide +kernel
theorem dX12_map_72 : decode cX12_map 72 = .ok (.goto 4, 3) := by decide +kernel
theorem dX12_map_75 : decode cX12_map 75 = .ok (.iconst 0, 1) := by decide +kernel
theorem dX12_map_76 : decode cX12_map 76 = .ok (.ior, 1) := by decide +kernel
theorem dX12_map_77 : decode cX12_map 77 = .ok (.istore 4, 2) := by decide +kernel
theorem dX12_map_79 : decode cX12_map 79 = .ok (.iinc 5 1, 3) := by decide +kernel
theorem dX12_map_82 : decode cX12_map 82 = .ok (.goto (-37), 3) := by decide +kernel
theorem dX12_map_85 : decode cX12_map 85 = .ok (.aload_n 0, 1) := by decide +kernel
theorem dX12_map_86 : decode cX12_map 86 = .ok (.iload 4, 2) := by decide +kernel
theorem dX12_map_88 : decode cX12_map 88 = .ok (.invokevirtual 75, 3) := by decide +kernel
theorem dX12_map_91 : decode cX12_map 91 = .ok (.ireturn, 1) := by decide +kernel
theorem dX12_who_0 : decode cX12_who 0 = .ok (.aload_n 0, 1) := by decide +kernel
theorem dX12_who_1 : decode cX12_who 1 = .ok (.iload_n 1, 1) := by decide +kernel
theorem dX12_who_2 : decode cX12_who 2 = .ok (.invokevirtual 155, 3) := by decide +kernel
theorem dX12_who_5 : decode cX12_who 5 = .ok (.ifCond .eq 10, 3) := by decide +kernel
theorem dX12_who_8 : decode cX12_who 8 = .ok (.iload_n 2, 1) := by decide +kernel
theorem dX12_who_9 : decode cX12_who 9 = .ok (.invokestatic 64, 3) := by decide +kernel
theorem dX12_who_12 : decode cX12_who 12 = .ok (.ifCond .ne 6, 3) := by decide +kernel
theorem dX12_who_15 : decode cX12_who 15 = .ok (.ldc 70, 2) := by decide +kernel
theorem dX12_who_17 : decode cX12_who 17 = .ok (.ireturn, 1) := by decide +kernel
theorem dX12_who_18 : decode cX12_who 18 = .ok (.aload_n 0, 1) := by decide +kernel
theorem dX12_who_19 : decode cX12_who 19 = .ok (.iload_n 2, 1) := by decide +kernel
theorem dX12_who_20 : decode cX12_who 20 = .ok (.iload_n 3, 1) := by decide +kernel
theorem dX12_who_21 : decode cX12_who 21 = .ok (.aload_n 0, 1) := by decide +kernel
theorem dX12_who_22 : decode cX12_who 22 = .ok (.getfield 19, 3) := by decide +kernel
theorem dX12_who_25 : decode cX12_who 25 = .ok (.iconst 4, 1) := by decide +kernel
theorem dX12_who_26 : decode cX12_who 26 = .ok (.iaload, 1) := by decide +kernel
theorem dX12_who_27 : decode cX12_who 27 = .ok (.invokevirtual 215, 3) := by decide +kernel
theorem dX12_who_30 : decode cX12_who 30 = .ok (.istore 4, 2) := by decide +kernel
theorem dX12_who_32 : decode cX12_who 32 = .ok (.iload 4, 2) := by decide +kernel
theorem dX12_who_34 : decode cX12_who 34 = .ok (.ifCond .ge 6, 3) := by decide +kernel
theorem dX12_who_37 : decode cX12_who 37 = .ok (.iload 4, 2) := by decide +kernel
theorem dX12_who_39 : decode cX12_who 39 = .ok (.ireturn, 1) := by decide +kernel
theorem dX12_who_40 : decode cX12_who 40 = .ok (.aload_n 0, 1) := by decide +kernel
theorem dX12_who_41 : decode cX12_who 41 = .ok (.getfield 19, 3) := by decide +kernel
theorem dX12_who_44 : decode cX12_who 44 = .ok (.bipush 8, 2) := by decide +kernel
theorem dX12_who_46 : decode cX12_who 46 = .ok (.iload_n 1, 1) := by decide +kernel
theorem dX12_who_47 : decode cX12_who 47 = .ok (.iadd, 1) := by decide +kernel
theorem dX12_who_48 : decode cX12_who 48 = .ok (.iaload, 1) := by decide +kernel
theorem dX12_who_49 : decode cX12_who 49 = .ok (.istore 5, 2) := by decide +kernel
theorem dX12_who_51 : decode cX12_who 51 = .ok (.iconst 0, 1) := by decide +kernel
theorem dX12_who_52 : decode cX12_who 52 = .ok (.istore 6, 2) := by decide +kernel
theorem dX12_who_54 : decode cX12_who 54 = .ok (.iconst 1, 1) := by decide +kernel
theorem dX12_who_55 : decode cX12_who 55 = .ok (.istore 7, 2) := by decide +kernel
theorem dX12_who_57 : decode cX12_who 57 = .ok (.iload 7, 2) := by decide +kernel
theorem dX12_who_59 : decode cX12_who 59 = .ok (.iconst 5, 1) := by decide +kernel
theorem dX12_who_60 : decode cX12_who 60 = .ok (.if_icmp .gt 52, 3) := by decide +kernel
theorem dX12_who_63 : decode cX12_who 63 = .ok (.aload_n 0, 1) := by decide +kernel
theorem dX12_who_64 : decode cX12_who 64 = .ok (.getfield 19, 3) := by decide +kernel
theorem dX12_who_67 : decode cX12_who 67 = .ok (.bipush 8, 2) := by decide +kernel
theorem dX12_who_69 : decode cX12_who 69 = .ok (.iload_n 1, 1) := by decide +kernel
theorem dX12_who_70 : decode cX12_who 70 = .ok (.iadd, 1) := by decide +kernel
theorem dX12_who_71 : decode cX12_who 71 = .ok (.iload 7, 2) := by decide +kernel
theorem dX12_who_73 : decode cX12_who 73 = .ok (.iastore, 1) := by decide +kernel
theorem dX12_who_74 : decode cX12_who 74 = .ok (.iload 6, 2) := by decide +kernel
theorem dX12_who_76 : decode cX12_who 76 = .ok (.aload_n 0, 1) := by decide +kernel
theorem dX12_who_77 : decode cX12_who 77 = .ok (.bipush 40, 2) := by decide +kernel
theorem dX12_who_79 : decode cX12_who 79 = .ok (.iload_n 2, 1) := by decide +kernel
theorem dX12_who_80 : decode cX12_who 80 = .ok (.imul, 1) := by decide +kernel
theorem dX12_who_81 : decode cX12_who 81 = .ok (.iload_n 3, 1) := by decide +kernel
theorem dX12_who_82 : decode cX12_who 82 = .ok (.iadd, 1) := by decide +kernel
theorem dX12_who_83 : decode cX12_who 83 = .ok (.aload_n 0, 1) := by decide +kernel
theorem dX12_who_84 : decode cX12_who 84 = .ok (.getfield 19, 3) := by decide +kernel
theorem dX12_who_87 : decode cX12_who 87 = .ok (.iconst 3, 1) := by decide +kernel
theorem dX12_who_88 : decode cX12_who 88 = .ok (.iaload, 1) := by decide +kernel
theorem dX12_who_89 : decode cX12_who 89 = .ok (.invokevirtual 219, 3) := by decide +kernel
theorem dX12_who_92 : decode cX12_who 92 = .ok (.ifCond .eq 10, 3) := by decide +kernel
theorem dX12_who_95 : decode cX12_who 95 = .ok (.iconst 1, 1) := by decide +kernel
theorem dX12_who_96 : decode cX12_who 96 = .ok (.iload 7, 2) := by decide +kernel
theorem dX12_who_98 : decode cX12_who 98 = .ok (.ishl, 1) := by decide +kernel
theorem dX12_who_99 : decode cX12_who 99 = .ok (.goto 4, 3) := by decide +kernel
theorem dX12_who_102 : decode cX12_who 102 = .ok (.iconst 0, 1) := by decide +kernel
theorem dX12_who_103 : decode cX12_who 103 = .ok (.ior, 1) := by decide +kernel
theorem dX12_who_104 : decode cX12_who 104 = .ok (.istore 6, 2) := by decide +kernel
theorem dX12_who_106 : decode cX12_who 106 = .ok (.iinc 7 1, 3) := by decide +kernel
theorem dX12_who_109 : decode cX12_who 109 = .ok (.goto (-52), 3) := by decide +kernel
theorem dX12_who_112 : decode cX12_who 112 = .ok (.aload_n 0, 1) := by decide +kernel
theorem dX12_who_113 : decode cX12_who 113 = .ok (.getfield 19, 3) := by decide +kernel
theorem dX12_who_116 : decode cX12_who 116 = .ok (.bipush 8, 2) := by decide +kernel
theorem dX12_who_118 : decode cX12_who 118 = .ok (.iload_n 1, 1) := by decide +kernel
theorem dX12_who_119 : decode cX12_who 119 = .ok (.iadd, 1) := by decide +kernel
theorem dX12_who_120 : decode cX12_who 120 = .ok (.iload 5, 2) := by decide +kernel
theorem dX12_who_122 : decode cX12_who 122 = .ok (.iastore, 1) := by decide +kernel
theorem dX12_who_123 : decode cX12_who 123 = .ok (.aload_n 0, 1) := by decide +kernel
theorem dX12_who_124 : decode cX12_who 124 = .ok (.iload 6, 2) := by decide +kernel
theorem dX12_who_126 : decode cX12_who 126 = .ok (.invokevirtual 75, 3) := by decide +kernel
theorem dX12_who_129 : decode cX12_who 129 = .ok (.ireturn, 1) := by decide +kernel
theorem dX12_odds_0 : decode cX12_odds 0 = .ok (.aload_n 0, 1) := by decide +kernel
theorem dX12_odds_1 : decode cX12_odds 1 = .ok (.iload_n 1, 1) := by decide +kernel
theorem dX12_odds_2 : decode cX12_odds 2 = .ok (.invokevirtual 155, 3) := by decide +kernel
theorem dX12_odds_5 : decode cX12_odds 5 = .ok (.ifCond .eq 25, 3) := by decide +kernel
theorem dX12_odds_8 : decode cX12_odds 8 = .ok (.iload_n 2, 1) := by decide +kernel
theorem dX12_odds_9 : decode cX12_odds 9 = .ok (.i2l, 1) := by decide +kernel
theorem dX12_odds_10 : decode cX12_odds 10 = .ok (.lconst 0, 1) := by decide +kernel
theorem dX12_odds_11 : decode cX12_odds 11 = .ok (.ldc2_w 222, 3) := by decide +kernel
theorem dX12_odds_14 : decode cX12_odds 14 = .ok (.invokestatic 60, 3) := by decide +kernel
theorem dX12_odds_17 : decode cX12_odds 17 = .ok (.ifCond .eq 13, 3) := by decide +kernel
theorem dX12_odds_20 : decode cX12_odds 20 = .ok (.iload_n 3, 1) := by decide +kernel
theorem dX12_odds_21 : decode cX12_odds 21 = .ok (.i2l, 1) := by decide +kernel
theorem dX12_odds_22 : decode cX12_odds 22 = .ok (.lconst 0, 1) := by decide +kernel
theorem dX12_odds_23 : decode cX12_odds 23 = .ok (.lconst 1, 1) := by decide +kernel
theorem dX12_odds_24 : decode cX12_odds 24 = .ok (.invokestatic 60, 3) := by decide +kernel
theorem dX12_odds_27 : decode cX12_odds 27 = .ok (.ifCond .ne 7, 3) := by decide +kernel
theorem dX12_odds_30 : decode cX12_odds 30 = .ok (.ldc2_w 224, 3) := by decide +kernel
theorem dX12_odds_33 : decode cX12_odds 33 = .ok (.lreturn, 1) := by decide +kernel
theorem dX12_odds_34 : decode cX12_odds 34 = .ok (.aload_n 0, 1) := by decide +kernel
theorem dX12_odds_35 : decode cX12_odds 35 = .ok (.invokevirtual 183, 3) := by decide +kernel
theorem dX12_odds_38 : decode cX12_odds 38 = .ok (.lconst 0, 1) := by decide +kernel
theorem dX12_odds_39 : decode cX12_odds 39 = .ok (.lstore 4, 2) := by decide +kernel
theorem dX12_odds_41 : decode cX12_odds 41 = .ok (.lconst 1, 1) := by decide +kernel
theorem dX12_odds_42 : decode cX12_odds 42 = .ok (.lstore 6, 2) := by decide +kernel
theorem dX12_odds_44 : decode cX12_odds 44 = .ok (.iconst 0, 1) := by decide +kernel
theorem dX12_odds_45 : decode cX12_odds 45 = .ok (.istore 8, 2) := by decide +kernel
theorem dX12_odds_47 : decode cX12_odds 47 = .ok (.iload 8, 2) := by decide +kernel
theorem dX12_odds_49 : decode cX12_odds 49 = .ok (.aload_n 0, 1) := by decide +kernel
theorem dX12_odds_50 : decode cX12_odds 50 = .ok (.getfield 19, 3) := by decide +kernel
theorem dX12_odds_53 : decode cX12_odds 53 = .ok (.iconst 4, 1) := by decide +kernel
theorem dX12_odds_54 : decode cX12_odds 54 = .ok (.iaload, 1) := by decide +kernel
theorem dX12_odds_55 : decode cX12_odds 55 = .ok (.if_icmp .ge 35, 3) := by decide +kernel
theorem dX12_odds_58 : decode cX12_odds 58 = .ok (.lload 6, 2) := by decide +kernel
theorem dX12_odds_60 : decode cX12_odds 60 = .ok (.aload_n 0, 1) := by decide +kernel
theorem dX12_odds_61 : decode cX12_odds 61 = .ok (.getfield 19, 3) := by decide +kernel
theorem dX12_odds_64 : decode cX12_odds 64 = .ok (.bipush 20, 2) := by decide +kernel
theorem dX12_odds_66 : decode cX12_odds 66 = .ok (.iload 8, 2) := by decide +kernel
theorem dX12_odds_68 : decode cX12_odds 68 = .ok (.iadd, 1) := by decide +kernel
theorem dX12_odds_69 : decode cX12_odds 69 = .ok (.iaload, 1) := by decide +kernel
theorem dX12_odds_70 : decode cX12_odds 70 = .ok (.iconst 1, 1) := by decide +kernel
theorem dX12_odds_71 : decode cX12_odds 71 = .ok (.if_icmp .ne 9, 3) := by decide +kernel
theorem dX12_odds_74 : decode cX12_odds 74 = .ok (.ldc2_w 222, 3) := by decide +kernel
theorem dX12_odds_77 : decode cX12_odds 77 = .ok (.goto 4, 3) := by decide +kernel
theorem dX12_odds_80 : decode cX12_odds 80 = .ok (.lconst 1, 1) := by decide +kernel
theorem dX12_odds_81 : decode cX12_odds 81 = .ok (.lmul, 1) := by decide +kernel
theorem dX12_odds_82 : decode cX12_odds 82 = .ok (.lstore 6, 2) := by decide +kernel
theorem dX12_odds_84 : decode cX12_odds 84 = .ok (.iinc 8 1, 3) := by decide +kernel
theorem dX12_odds_87 : decode cX12_odds 87 = .ok (.goto (-40), 3) := by decide +kernel
theorem dX12_odds_90 : decode cX12_odds 90 = .ok (.iconst 0, 1) := by decide +kernel
theorem dX12_odds_91 : decode cX12_odds 91 = .ok (.istore 8, 2) := by decide +kernel
theorem dX12_odds_93 : decode cX12_odds 93 = .ok (.iload 8, 2) := by decide +kernel
theorem dX12_odds_95 : decode cX12_odds 95 = .ok (.iconst 1, 1) := by decide +kernel
theorem dX12_odds_96 : decode cX12_odds 96 = .ok (.aload_n 0, 1) := by decide +kernel
theorem dX12_odds_97 : decode cX12_odds 97 = .ok (.getfield 19, 3) := by decide +kernel
theorem dX12_odds_100 : decode cX12_odds 100 = .ok (.iconst 4, 1) := by decide +kernel
theorem dX12_odds_101 : decode cX12_odds 101 = .ok (.iaload, 1) := by decide +kernel
theorem dX12_odds_102 : decode cX12_odds 102 = .ok (.ishl, 1) := by decide +kernel
theorem dX12_odds_103 : decode cX12_odds 103 = .ok (.if_icmp .ge 210, 3) := by decide +kernel
theorem dX12_odds_106 : decode cX12_odds 106 = .ok (.lconst 1, 1) := by decide +kernel
theorem dX12_odds_107 : decode cX12_odds 107 = .ok (.lstore 9, 2) := by decide +kernel
theorem dX12_odds_109 : decode cX12_odds 109 = .ok (.iconst 0, 1) := by decide +kernel
theorem dX12_odds_110 : decode cX12_odds 110 = .ok (.istore 11, 2) := by decide +kernel
theorem dX12_odds_112 : decode cX12_odds 112 = .ok (.iload 11, 2) := by decide +kernel
theorem dX12_odds_114 : decode cX12_odds 114 = .ok (.aload_n 0, 1) := by decide +kernel
theorem dX12_odds_115 : decode cX12_odds 115 = .ok (.getfield 19, 3) := by decide +kernel
theorem dX12_odds_118 : decode cX12_odds 118 = .ok (.iconst 4, 1) := by decide +kernel
theorem dX12_odds_119 : decode cX12_odds 119 = .ok (.iaload, 1) := by decide +kernel
theorem dX12_odds_120 : decode cX12_odds 120 = .ok (.if_icmp .ge 107, 3) := by decide +kernel
theorem dX12_odds_123 : decode cX12_odds 123 = .ok (.aload_n 0, 1) := by decide +kernel
theorem dX12_odds_124 : decode cX12_odds 124 = .ok (.getfield 19, 3) := by decide +kernel
theorem dX12_odds_127 : decode cX12_odds 127 = .ok (.bipush 20, 2) := by decide +kernel
theorem dX12_odds_129 : decode cX12_odds 129 = .ok (.iload 11, 2) := by decide +kernel
theorem dX12_odds_131 : decode cX12_odds 131 = .ok (.iadd, 1) := by decide +kernel
theorem dX12_odds_132 : decode cX12_odds 132 = .ok (.iaload, 1) := by decide +kernel
theorem dX12_odds_133 : decode cX12_odds 133 = .ok (.iconst 1, 1) := by decide +kernel
theorem dX12_odds_134 : decode cX12_odds 134 = .ok (.if_icmp .ne 7, 3) := by decide +kernel
theorem dX12_odds_137 : decode cX12_odds 137 = .ok (.iconst 1, 1) := by decide +kernel
theorem dX12_odds_138 : decode cX12_odds 138 = .ok (.goto 4, 3) := by decide +kernel
theorem dX12_odds_141 : decode cX12_odds 141 = .ok (.iconst 0, 1) := by decide +kernel
theorem dX12_odds_142 : decode cX12_odds 142 = .ok (.istore 12, 2) := by decide +kernel
theorem dX12_odds_144 : decode cX12_odds 144 = .ok (.lload 9, 2) := by decide +kernel
theorem dX12_odds_146 : decode cX12_odds 146 = .ok (.iload 8, 2) := by decide +kernel
theorem dX12_odds_148 : decode cX12_odds 148 = .ok (.iload 11, 2) := by decide +kernel
theorem dX12_odds_150 : decode cX12_odds 150 = .ok (.invokestatic 226, 3) := by decide +kernel
theorem dX12_odds_153 : decode cX12_odds 153 = .ok (.ifCond .eq 20, 3) := by decide +kernel
theorem dX12_odds_156 : decode cX12_odds 156 = .ok (.iload 12, 2) := by decide +kernel
theorem dX12_odds_158 : decode cX12_odds 158 = .ok (.ifCond .eq 11, 3) := by decide +kernel
theorem dX12_odds_161 : decode cX12_odds 161 = .ok (.bipush 10, 2) := by decide +kernel
theorem dX12_odds_163 : decode cX12_odds 163 = .ok (.iload_n 2, 1) := by decide +kernel
theorem dX12_odds_164 : decode cX12_odds 164 = .ok (.isub, 1) := by decide +kernel
theorem dX12_odds_165 : decode cX12_odds 165 = .ok (.i2l, 1) := by decide +kernel
theorem dX12_odds_166 : decode cX12_odds 166 = .ok (.goto 18, 3) := by decide +kernel
theorem dX12_odds_169 : decode cX12_odds 169 = .ok (.lconst 0, 1) := by decide +kernel
theorem dX12_odds_170 : decode cX12_odds 170 = .ok (.goto 14, 3) := by decide +kernel
theorem dX12_odds_173 : decode cX12_odds 173 = .ok (.iload 12, 2) := by decide +kernel
theorem dX12_odds_175 : decode cX12_odds 175 = .ok (.ifCond .eq 8, 3) := by decide +kernel
theorem dX12_odds_178 : decode cX12_odds 178 = .ok (.iload_n 2, 1) := by decide +kernel
theorem dX12_odds_179 : decode cX12_odds 179 = .ok (.i2l, 1) := by decide +kernel
theorem dX12_odds_180 : decode cX12_odds 180 = .ok (.goto 4, 3) := by decide +kernel
theorem dX12_odds_183 : decode cX12_odds 183 = .ok (.lconst 1, 1) := by decide +kernel
theorem dX12_odds_184 : decode cX12_odds 184 = .ok (.lmul, 1) := by decide +kernel
theorem dX12_odds_185 : decode cX12_odds 185 = .ok (.lstore 9, 2) := by decide +kernel
theorem dX12_odds_187 : decode cX12_odds 187 = .ok (.aload_n 0, 1) := by decide +kernel
theorem dX12_odds_188 : decode cX12_odds 188 = .ok (.getfield 19, 3) := by decide +kernel
theorem dX12_odds_191 : decode cX12_odds 191 = .ok (.bipush 24, 2) := by decide +kernel
theorem dX12_odds_193 : decode cX12_odds 193 = .ok (.iload 11, 2) := by decide +kernel
theorem dX12_odds_195 : decode cX12_odds 195 = .ok (.iadd, 1) := by decide +kernel
theorem dX12_odds_196 : decode cX12_odds 196 = .ok (.iload 8, 2) := by decide +kernel
theorem dX12_odds_198 : decode cX12_odds 198 = .ok (.iload 11, 2) := by decide +kernel
theorem dX12_odds_200 : decode cX12_odds 200 = .ok (.invokestatic 226, 3) := by decide +kernel
theorem dX12_odds_203 : decode cX12_odds 203 = .ok (.ifCond .eq 7, 3) := by decide +kernel
theorem dX12_odds_206 : decode cX12_odds 206 = .ok (.iconst 0, 1) := by decide +kernel
theorem dX12_odds_207 : decode cX12_odds 207 = .ok (.goto 13, 3) := by decide +kernel
theorem dX12_odds_210 : decode cX12_odds 210 = .ok (.aload_n 0, 1) := by decide +kernel
theorem dX12_odds_211 : decode cX12_odds 211 = .ok (.getfield 19, 3) := by decide +kernel
theorem dX12_odds_214 : decode cX12_odds 214 = .ok (.bipush 24, 2) := by decide +kernel
theorem dX12_odds_216 : decode cX12_odds 216 = .ok (.iload 11, 2) := by decide +kernel
theorem dX12_odds_218 : decode cX12_odds 218 = .ok (.iadd, 1) := by decide +kernel
theorem dX12_odds_219 : decode cX12_odds 219 = .ok (.iaload, 1) := by decide +kernel
theorem dX12_odds_220 : decode cX12_odds 220 = .ok (.iastore, 1) := by decide +kernel
theorem dX12_odds_221 : decode cX12_odds 221 = .ok (.iinc 11 1, 3) := by decide +kernel
theorem dX12_odds_224 : decode cX12_odds 224 = .ok (.goto (-112), 3) := by decide +kernel
theorem dX12_odds_227 : decode cX12_odds 227 = .ok (.aload_n 0, 1) := by decide +kernel
theorem dX12_odds_228 : decode cX12_odds 228 = .ok (.aload_n 0, 1) := by decide +kernel
theorem dX12_odds_229 : decode cX12_odds 229 = .ok (.getfield 19, 3) := by decide +kernel
theorem dX12_odds_232 : decode cX12_odds 232 = .ok (.iconst 3, 1) := by decide +kernel
theorem dX12_odds_233 : decode cX12_odds 233 = .ok (.iaload, 1) := by decide +kernel
theorem dX12_odds_234 : decode cX12_odds 234 = .ok (.invokevirtual 169, 3) := by decide +kernel
theorem dX12_odds_237 : decode cX12_odds 237 = .ok (.iconst 0, 1) := by decide +kernel
theorem dX12_odds_238 : decode cX12_odds 238 = .ok (.istore 11, 2) := by decide +kernel
theorem dX12_odds_240 : decode cX12_odds 240 = .ok (.iconst 1, 1) := by decide +kernel
theorem dX12_odds_241 : decode cX12_odds 241 = .ok (.istore 12, 2) := by decide +kernel
theorem dX12_odds_243 : decode cX12_odds 243 = .ok (.iload 12, 2) := by decide +kernel
theorem dX12_odds_245 : decode cX12_odds 245 = .ok (.aload_n 0, 1) := by decide +kernel
theorem dX12_odds_246 : decode cX12_odds 246 = .ok (.getfield 19, 3) := by decide +kernel
theorem dX12_odds_249 : decode cX12_odds 249 = .ok (.iconst 4, 1) := by decide +kernel
theorem dX12_odds_250 : decode cX12_odds 250 = .ok (.iaload, 1) := by decide +kernel
theorem dX12_odds_251 : decode cX12_odds 251 = .ok (.if_icmp .ge 35, 3) := by decide +kernel
theorem dX12_odds_254 : decode cX12_odds 254 = .ok (.aload_n 0, 1) := by decide +kernel
theorem dX12_odds_255 : decode cX12_odds 255 = .ok (.getfield 31, 3) := by decide +kernel
theorem dX12_odds_258 : decode cX12_odds 258 = .ok (.iload 12, 2) := by decide +kernel
theorem dX12_odds_260 : decode cX12_odds 260 = .ok (.iaload, 1) := by decide +kernel
theorem dX12_odds_261 : decode cX12_odds 261 = .ok (.aload_n 0, 1) := by decide +kernel
theorem dX12_odds_262 : decode cX12_odds 262 = .ok (.getfield 31, 3) := by decide +kernel
theorem dX12_odds_265 : decode cX12_odds 265 = .ok (.iload 11, 2) := by decide +kernel
theorem dX12_odds_267 : decode cX12_odds 267 = .ok (.iaload, 1) := by decide +kernel
theorem dX12_odds_268 : decode cX12_odds 268 = .ok (.if_icmp .le 8, 3) := by decide +kernel
theorem dX12_odds_271 : decode cX12_odds 271 = .ok (.iload 12, 2) := by decide +kernel
theorem dX12_odds_273 : decode cX12_odds 273 = .ok (.goto 5, 3) := by decide +kernel
theorem dX12_odds_276 : decode cX12_odds 276 = .ok (.iload 11, 2) := by decide +kernel
theorem dX12_odds_278 : decode cX12_odds 278 = .ok (.istore 11, 2) := by decide +kernel
theorem dX12_odds_280 : decode cX12_odds 280 = .ok (.iinc 12 1, 3) := by decide +kernel
theorem dX12_odds_283 : decode cX12_odds 283 = .ok (.goto (-40), 3) := by decide +kernel
theorem dX12_odds_286 : decode cX12_odds 286 = .ok (.lload 4, 2) := by decide +kernel
theorem dX12_odds_288 : decode cX12_odds 288 = .ok (.iload 11, 2) := by decide +kernel
theorem dX12_odds_290 : decode cX12_odds 290 = .ok (.iload_n 1, 1) := by decide +kernel
theorem dX12_odds_291 : decode cX12_odds 291 = .ok (.if_icmp .ne 8, 3) := by decide +kernel
theorem dX12_odds_294 : decode cX12_odds 294 = .ok (.lload 9, 2) := by decide +kernel
theorem dX12_odds_296 : decode cX12_odds 296 = .ok (.goto 4, 3) := by decide +kernel
theorem dX12_odds_299 : decode cX12_odds 299 = .ok (.lconst 0, 1) := by decide +kernel
theorem dX12_odds_300 : decode cX12_odds 300 = .ok (.ladd, 1) := by decide +kernel
theorem dX12_odds_301 : decode cX12_odds 301 = .ok (.lstore 4, 2) := by decide +kernel
theorem dX12_odds_303 : decode cX12_odds 303 = .ok (.aload_n 0, 1) := by decide +kernel
theorem dX12_odds_304 : decode cX12_odds 304 = .ok (.invokevirtual 189, 3) := by decide +kernel
theorem dX12_odds_307 : decode cX12_odds 307 = .ok (.iinc 8 1, 3) := by decide +kernel
theorem dX12_odds_310 : decode cX12_odds 310 = .ok (.goto (-217), 3) := by decide +kernel
theorem dX12_odds_313 : decode cX12_odds 313 = .ok (.lload 4, 2) := by decide +kernel
theorem dX12_odds_315 : decode cX12_odds 315 = .ok (.lstore 8, 2) := by decide +kernel
theorem dX12_odds_317 : decode cX12_odds 317 = .ok (.lload 6, 2) := by decide +kernel
theorem dX12_odds_319 : decode cX12_odds 319 = .ok (.lstore 10, 2) := by decide +kernel
theorem dX12_odds_321 : decode cX12_odds 321 = .ok (.lload 10, 2) := by decide +kernel
theorem dX12_odds_323 : decode cX12_odds 323 = .ok (.lconst 0, 1) := by decide +kernel
theorem dX12_odds_324 : decode cX12_odds 324 = .ok (.lcmp, 1) := by decide +kernel
theorem dX12_odds_325 : decode cX12_odds 325 = .ok (.ifCond .eq 21, 3) := by decide +kernel
theorem dX12_odds_328 : decode cX12_odds 328 = .ok (.lload 8, 2) := by decide +kernel
theorem dX12_odds_330 : decode cX12_odds 330 = .ok (.lload 10, 2) := by decide +kernel
theorem dX12_odds_332 : decode cX12_odds 332 = .ok (.lrem, 1) := by decide +kernel
theorem dX12_odds_333 : decode cX12_odds 333 = .ok (.lstore 12, 2) := by decide +kernel
theorem dX12_odds_335 : decode cX12_odds 335 = .ok (.lload 10, 2) := by decide +kernel
theorem dX12_odds_337 : decode cX12_odds 337 = .ok (.lstore 8, 2) := by decide +kernel
theorem dX12_odds_339 : decode cX12_odds 339 = .ok (.lload 12, 2) := by decide +kernel
theorem dX12_odds_341 : decode cX12_odds 341 = .ok (.lstore 10, 2) := by decide +kernel
theorem dX12_odds_343 : decode cX12_odds 343 = .ok (.goto (-22), 3) := by decide +kernel
theorem dX12_odds_346 : decode cX12_odds 346 = .ok (.iload_n 3, 1) := by decide +kernel
theorem dX12_odds_347 : decode cX12_odds 347 = .ok (.ifCond .ne 11, 3) := by decide +kernel
theorem dX12_odds_350 : decode cX12_odds 350 = .ok (.lload 4, 2) := by decide +kernel
theorem dX12_odds_352 : decode cX12_odds 352 = .ok (.lload 8, 2) := by decide +kernel
theorem dX12_odds_354 : decode cX12_odds 354 = .ok (.ldiv, 1) := by decide +kernel
theorem dX12_odds_355 : decode cX12_odds 355 = .ok (.goto 8, 3) := by decide +kernel
theorem dX12_odds_358 : decode cX12_odds 358 = .ok (.lload 6, 2) := by decide +kernel
theorem dX12_odds_360 : decode cX12_odds 360 = .ok (.lload 8, 2) := by decide +kernel
theorem dX12_odds_362 : decode cX12_odds 362 = .ok (.ldiv, 1) := by decide +kernel
theorem dX12_odds_363 : decode cX12_odds 363 = .ok (.lreturn, 1) := by decide +kernel
theorem dX12_drawn_0 : decode cX12_drawn 0 = .ok (.aload_n 0, 1) := by decide +kernel
theorem dX12_drawn_1 : decode cX12_drawn 1 = .ok (.getfield 138, 3) := by decide +kernel
theorem dX12_drawn_4 : decode cX12_drawn 4 = .ok (.ifCond .ne 6, 3) := by decide +kernel
theorem dX12_drawn_7 : decode cX12_drawn 7 = .ok (.ldc 154, 2) := by decide +kernel
theorem dX12_drawn_9 : decode cX12_drawn 9 = .ok (.ireturn, 1) := by decide +kernel
theorem dX12_drawn_10 : decode cX12_drawn 10 = .ok (.iload_n 1, 1) := by decide +kernel
theorem dX12_drawn_11 : decode cX12_drawn 11 = .ok (.i2l, 1) := by decide +kernel
theorem dX12_drawn_12 : decode cX12_drawn 12 = .ok (.lconst 0, 1) := by decide +kernel
theorem dX12_drawn_13 : decode cX12_drawn 13 = .ok (.ldc2_w 205, 3) := by decide +kernel
theorem dX12_drawn_16 : decode cX12_drawn 16 = .ok (.invokestatic 60, 3) := by decide +kernel
theorem dX12_drawn_19 : decode cX12_drawn 19 = .ok (.ifCond .eq 25, 3) := by decide +kernel
theorem dX12_drawn_22 : decode cX12_drawn 22 = .ok (.iload_n 2, 1) := by decide +kernel
theorem dX12_drawn_23 : decode cX12_drawn 23 = .ok (.i2l, 1) := by decide +kernel
theorem dX12_drawn_24 : decode cX12_drawn 24 = .ok (.lconst 1, 1) := by decide +kernel
theorem dX12_drawn_25 : decode cX12_drawn 25 = .ok (.ldc2_w 229, 3) := by decide +kernel
theorem dX12_drawn_28 : decode cX12_drawn 28 = .ok (.invokestatic 60, 3) := by decide +kernel
theorem dX12_drawn_31 : decode cX12_drawn 31 = .ok (.ifCond .eq 13, 3) := by decide +kernel
theorem dX12_drawn_34 : decode cX12_drawn 34 = .ok (.iload_n 3, 1) := by decide +kernel
theorem dX12_drawn_35 : decode cX12_drawn 35 = .ok (.i2l, 1) := by decide +kernel
theorem dX12_drawn_36 : decode cX12_drawn 36 = .ok (.lconst 0, 1) := by decide +kernel
theorem dX12_drawn_37 : decode cX12_drawn 37 = .ok (.lconst 1, 1) := by decide +kernel
theorem dX12_drawn_38 : decode cX12_drawn 38 = .ok (.invokestatic 60, 3) := by decide +kernel
theorem dX12_drawn_41 : decode cX12_drawn 41 = .ok (.ifCond .ne 6, 3) := by decide +kernel
theorem dX12_drawn_44 : decode cX12_drawn 44 = .ok (.ldc 70, 2) := by decide +kernel
theorem dX12_drawn_46 : decode cX12_drawn 46 = .ok (.ireturn, 1) := by decide +kernel
theorem dX12_drawn_47 : decode cX12_drawn 47 = .ok (.aload_n 0, 1) := by decide +kernel
theorem dX12_drawn_48 : decode cX12_drawn 48 = .ok (.invokevirtual 183, 3) := by decide +kernel
theorem dX12_drawn_51 : decode cX12_drawn 51 = .ok (.iload_n 2, 1) := by decide +kernel
theorem dX12_drawn_52 : decode cX12_drawn 52 = .ok (.i2l, 1) := by decide +kernel
theorem dX12_drawn_53 : decode cX12_drawn 53 = .ok (.lstore 4, 2) := by decide +kernel
theorem dX12_drawn_55 : decode cX12_drawn 55 = .ok (.iconst 0, 1) := by decide +kernel
theorem dX12_drawn_56 : decode cX12_drawn 56 = .ok (.istore 6, 2) := by decide +kernel
theorem dX12_drawn_58 : decode cX12_drawn 58 = .ok (.iload 6, 2) := by decide +kernel
theorem dX12_drawn_60 : decode cX12_drawn 60 = .ok (.iload_n 1, 1) := by decide +kernel
theorem dX12_drawn_61 : decode cX12_drawn 61 = .ok (.if_icmp .ge 43, 3) := by decide +kernel
theorem dX12_drawn_64 : decode cX12_drawn 64 = .ok (.lload 4, 2) := by decide +kernel
theorem dX12_drawn_66 : decode cX12_drawn 66 = .ok (.ldc2_w 231, 3) := by decide +kernel
theorem dX12_drawn_69 : decode cX12_drawn 69 = .ok (.lmul, 1) := by decide +kernel
theorem dX12_drawn_70 : decode cX12_drawn 70 = .ok (.ldc2_w 233, 3) := by decide +kernel
theorem dX12_drawn_73 : decode cX12_drawn 73 = .ok (.lrem, 1) := by decide +kernel
theorem dX12_drawn_74 : decode cX12_drawn 74 = .ok (.lstore 4, 2) := by decide +kernel
theorem dX12_drawn_76 : decode cX12_drawn 76 = .ok (.aload_n 0, 1) := by decide +kernel
theorem dX12_drawn_77 : decode cX12_drawn 77 = .ok (.getfield 19, 3) := by decide +kernel
theorem dX12_drawn_80 : decode cX12_drawn 80 = .ok (.bipush 6, 2) := by decide +kernel
theorem dX12_drawn_82 : decode cX12_drawn 82 = .ok (.lload 4, 2) := by decide +kernel
theorem dX12_drawn_84 : decode cX12_drawn 84 = .ok (.aload_n 0, 1) := by decide +kernel
theorem dX12_drawn_85 : decode cX12_drawn 85 = .ok (.getfield 19, 3) := by decide +kernel
theorem dX12_drawn_88 : decode cX12_drawn 88 = .ok (.iconst 4, 1) := by decide +kernel
theorem dX12_drawn_89 : decode cX12_drawn 89 = .ok (.iaload, 1) := by decide +kernel
theorem dX12_drawn_90 : decode cX12_drawn 90 = .ok (.i2l, 1) := by decide +kernel
theorem dX12_drawn_91 : decode cX12_drawn 91 = .ok (.lrem, 1) := by decide +kernel
theorem dX12_drawn_92 : decode cX12_drawn 92 = .ok (.l2i, 1) := by decide +kernel
theorem dX12_drawn_93 : decode cX12_drawn 93 = .ok (.iastore, 1) := by decide +kernel
theorem dX12_drawn_94 : decode cX12_drawn 94 = .ok (.aload_n 0, 1) := by decide +kernel
theorem dX12_drawn_95 : decode cX12_drawn 95 = .ok (.invokevirtual 180, 3) := by decide +kernel
theorem dX12_drawn_98 : decode cX12_drawn 98 = .ok (.iinc 6 1, 3) := by decide +kernel
theorem dX12_drawn_101 : decode cX12_drawn 101 = .ok (.goto (-43), 3) := by decide +kernel
theorem dX12_drawn_104 : decode cX12_drawn 104 = .ok (.iload_n 3, 1) := by decide +kernel
theorem dX12_drawn_105 : decode cX12_drawn 105 = .ok (.ifCond .ne 12, 3) := by decide +kernel
theorem dX12_drawn_108 : decode cX12_drawn 108 = .ok (.aload_n 0, 1) := by decide +kernel
theorem dX12_drawn_109 : decode cX12_drawn 109 = .ok (.getfield 19, 3) := by decide +kernel
theorem dX12_drawn_112 : decode cX12_drawn 112 = .ok (.iconst 1, 1) := by decide +kernel
theorem dX12_drawn_113 : decode cX12_drawn 113 = .ok (.iaload, 1) := by decide +kernel
theorem dX12_drawn_114 : decode cX12_drawn 114 = .ok (.goto 7, 3) := by decide +kernel
theorem dX12_drawn_117 : decode cX12_drawn 117 = .ok (.aload_n 0, 1) := by decide +kernel
theorem dX12_drawn_118 : decode cX12_drawn 118 = .ok (.invokevirtual 207, 3) := by decide +kernel
theorem dX12_drawn_121 : decode cX12_drawn 121 = .ok (.istore 6, 2) := by decide +kernel
theorem dX12_drawn_123 : decode cX12_drawn 123 = .ok (.aload_n 0, 1) := by decide +kernel
theorem dX12_drawn_124 : decode cX12_drawn 124 = .ok (.invokevirtual 189, 3) := by decide +kernel
theorem dX12_drawn_127 : decode cX12_drawn 127 = .ok (.iload 6, 2) := by decide +kernel
theorem dX12_drawn_129 : decode cX12_drawn 129 = .ok (.ireturn, 1) := by decide +kernel
theorem dX12_image_0 : decode cX12_image 0 = .ok (.iload_n 1, 1) := by decide +kernel
theorem dX12_image_1 : decode cX12_image 1 = .ok (.i2l, 1) := by decide +kernel
theorem dX12_image_2 : decode cX12_image 2 = .ok (.lconst 0, 1) := by decide +kernel
theorem dX12_image_3 : decode cX12_image 3 = .ok (.lconst 1, 1) := by decide +kernel
theorem dX12_image_4 : decode cX12_image 4 = .ok (.invokestatic 60, 3) := by decide +kernel
theorem dX12_image_7 : decode cX12_image 7 = .ok (.ifCond .ne 6, 3) := by decide +kernel
theorem dX12_image_10 : decode cX12_image 10 = .ok (.ldc 70, 2) := by decide +kernel
theorem dX12_image_12 : decode cX12_image 12 = .ok (.ireturn, 1) := by decide +kernel
theorem dX12_image_13 : decode cX12_image 13 = .ok (.aload_n 0, 1) := by decide +kernel
theorem dX12_image_14 : decode cX12_image 14 = .ok (.getfield 138, 3) := by decide +kernel
theorem dX12_image_17 : decode cX12_image 17 = .ok (.ifCond .ne 6, 3) := by decide +kernel
theorem dX12_image_20 : decode cX12_image 20 = .ok (.ldc 154, 2) := by decide +kernel
theorem dX12_image_22 : decode cX12_image 22 = .ok (.ireturn, 1) := by decide +kernel
theorem dX12_image_23 : decode cX12_image 23 = .ok (.iconst 0, 1) := by decide +kernel
theorem dX12_image_24 : decode cX12_image 24 = .ok (.istore_n 2, 1) := by decide +kernel
theorem dX12_image_25 : decode cX12_image 25 = .ok (.iload_n 2, 1) := by decide +kernel
theorem dX12_image_26 : decode cX12_image 26 = .ok (.bipush 48, 2) := by decide +kernel
theorem dX12_image_28 : decode cX12_image 28 = .ok (.if_icmp .ge 26, 3) := by decide +kernel
theorem dX12_image_31 : decode cX12_image 31 = .ok (.aload_n 0, 1) := by decide +kernel
theorem dX12_image_32 : decode cX12_image 32 = .ok (.getfield 47, 3) := by decide +kernel
theorem dX12_image_35 : decode cX12_image 35 = .ok (.bipush 48, 2) := by decide +kernel
theorem dX12_image_37 : decode cX12_image 37 = .ok (.iload_n 1, 1) := by decide +kernel
theorem dX12_image_38 : decode cX12_image 38 = .ok (.imul, 1) := by decide +kernel
theorem dX12_image_39 : decode cX12_image 39 = .ok (.iload_n 2, 1) := by decide +kernel
theorem dX12_image_40 : decode cX12_image 40 = .ok (.iadd, 1) := by decide +kernel
theorem dX12_image_41 : decode cX12_image 41 = .ok (.aload_n 0, 1) := by decide +kernel
theorem dX12_image_42 : decode cX12_image 42 = .ok (.getfield 19, 3) := by decide +kernel
theorem dX12_image_45 : decode cX12_image 45 = .ok (.iload_n 2, 1) := by decide +kernel
theorem dX12_image_46 : decode cX12_image 46 = .ok (.iaload, 1) := by decide +kernel
theorem dX12_image_47 : decode cX12_image 47 = .ok (.iastore, 1) := by decide +kernel
theorem dX12_image_48 : decode cX12_image 48 = .ok (.iinc 2 1, 3) := by decide +kernel
theorem dX12_image_51 : decode cX12_image 51 = .ok (.goto (-26), 3) := by decide +kernel
theorem dX12_image_54 : decode cX12_image 54 = .ok (.aload_n 0, 1) := by decide +kernel
theorem dX12_image_55 : decode cX12_image 55 = .ok (.getfield 43, 3) := by decide +kernel
theorem dX12_image_58 : decode cX12_image 58 = .ok (.iload_n 1, 1) := by decide +kernel
theorem dX12_image_59 : decode cX12_image 59 = .ok (.iconst 1, 1) := by decide +kernel
theorem dX12_image_60 : decode cX12_image 60 = .ok (.bastore, 1) := by decide +kernel
theorem dX12_image_61 : decode cX12_image 61 = .ok (.iconst 1, 1) := by decide +kernel
theorem dX12_image_62 : decode cX12_image 62 = .ok (.ireturn, 1) := by decide +kernel
theorem dX12_restore_0 : decode cX12_restore 0 = .ok (.iload_n 1, 1) := by decide +kernel
theorem dX12_restore_1 : decode cX12_restore 1 = .ok (.i2l, 1) := by decide +kernel
theorem dX12_restore_2 : decode cX12_restore 2 = .ok (.lconst 0, 1) := by decide +kernel
theorem dX12_restore_3 : decode cX12_restore 3 = .ok (.lconst 1, 1) := by decide +kernel
theorem dX12_restore_4 : decode cX12_restore 4 = .ok (.invokestatic 60, 3) := by decide +kernel
theorem dX12_restore_7 : decode cX12_restore 7 = .ok (.ifCond .ne 6, 3) := by decide +kernel
theorem dX12_restore_10 : decode cX12_restore 10 = .ok (.ldc 70, 2) := by decide +kernel
theorem dX12_restore_12 : decode cX12_restore 12 = .ok (.ireturn, 1) := by decide +kernel
theorem dX12_restore_13 : decode cX12_restore 13 = .ok (.aload_n 0, 1) := by decide +kernel
theorem dX12_restore_14 : decode cX12_restore 14 = .ok (.getfield 43, 3) := by decide +kernel
theorem dX12_restore_17 : decode cX12_restore 17 = .ok (.iload_n 1, 1) := by decide +kernel
theorem dX12_restore_18 : decode cX12_restore 18 = .ok (.baload, 1) := by decide +kernel
theorem dX12_restore_19 : decode cX12_restore 19 = .ok (.ifCond .ne 6, 3) := by decide +kernel
theorem dX12_restore_22 : decode cX12_restore 22 = .ok (.ldc 154, 2) := by decide +kernel
theorem dX12_restore_24 : decode cX12_restore 24 = .ok (.ireturn, 1) := by decide +kernel
theorem dX12_restore_25 : decode cX12_restore 25 = .ok (.iconst 0, 1) := by decide +kernel
theorem dX12_restore_26 : decode cX12_restore 26 = .ok (.istore_n 2, 1) := by decide +kernel
theorem dX12_restore_27 : decode cX12_restore 27 = .ok (.iload_n 2, 1) := by decide +kernel
theorem dX12_restore_28 : decode cX12_restore 28 = .ok (.bipush 48, 2) := by decide +kernel
theorem dX12_restore_30 : decode cX12_restore 30 = .ok (.if_icmp .ge 26, 3) := by decide +kernel
theorem dX12_restore_33 : decode cX12_restore 33 = .ok (.aload_n 0, 1) := by decide +kernel
theorem dX12_restore_34 : decode cX12_restore 34 = .ok (.getfield 19, 3) := by decide +kernel
theorem dX12_restore_37 : decode cX12_restore 37 = .ok (.iload_n 2, 1) := by decide +kernel
theorem dX12_restore_38 : decode cX12_restore 38 = .ok (.aload_n 0, 1) := by decide +kernel
theorem dX12_restore_39 : decode cX12_restore 39 = .ok (.getfield 47, 3) := by decide +kernel
theorem dX12_restore_42 : decode cX12_restore 42 = .ok (.bipush 48, 2) := by decide +kernel
theorem dX12_restore_44 : decode cX12_restore 44 = .ok (.iload_n 1, 1) := by decide +kernel
theorem dX12_restore_45 : decode cX12_restore 45 = .ok (.imul, 1) := by decide +kernel
theorem dX12_restore_46 : decode cX12_restore 46 = .ok (.iload_n 2, 1) := by decide +kernel
theorem dX12_restore_47 : decode cX12_restore 47 = .ok (.iadd, 1) := by decide +kernel
theorem dX12_restore_48 : decode cX12_restore 48 = .ok (.iaload, 1) := by decide +kernel
theorem dX12_restore_49 : decode cX12_restore 49 = .ok (.iastore, 1) := by decide +kernel
theorem dX12_restore_50 : decode cX12_restore 50 = .ok (.iinc 2 1, 3) := by decide +kernel
theorem dX12_restore_53 : decode cX12_restore 53 = .ok (.goto (-26), 3) := by decide +kernel
theorem dX12_restore_56 : decode cX12_restore 56 = .ok (.aload_n 0, 1) := by decide +kernel
theorem dX12_restore_57 : decode cX12_restore 57 = .ok (.iconst 0, 1) := by decide +kernel
theorem dX12_restore_58 : decode cX12_restore 58 = .ok (.putfield 142, 3) := by decide +kernel
theorem dX12_restore_61 : decode cX12_restore 61 = .ok (.iconst 1, 1) := by decide +kernel
theorem dX12_restore_62 : decode cX12_restore 62 = .ok (.ireturn, 1) := by decide +kernel
theorem dX12_kind_0 : decode cX12_kind 0 = .ok (.aload_n 0, 1) := by decide +kernel
theorem dX12_kind_1 : decode cX12_kind 1 = .ok (.iload_n 1, 1) := by decide +kernel
theorem dX12_kind_2 : decode cX12_kind 2 = .ok (.invokevirtual 155, 3) := by decide +kernel
theorem dX12_kind_5 : decode cX12_kind 5 = .ok (.ifCond .eq 15, 3) := by decide +kernel
theorem dX12_kind_8 : decode cX12_kind 8 = .ok (.aload_n 0, 1) := by decide +kernel
theorem dX12_kind_9 : decode cX12_kind 9 = .ok (.getfield 19, 3) := by decide +kernel
theorem dX12_kind_12 : decode cX12_kind 12 = .ok (.bipush 8, 2) := by decide +kernel
theorem dX12_kind_14 : decode cX12_kind 14 = .ok (.iload_n 1, 1) := by decide +kernel
theorem dX12_kind_15 : decode cX12_kind 15 = .ok (.iadd, 1) := by decide +kernel
theorem dX12_kind_16 : decode cX12_kind 16 = .ok (.iaload, 1) := by decide +kernel
theorem dX12_kind_17 : decode cX12_kind 17 = .ok (.goto 5, 3) := by decide +kernel
theorem dX12_kind_20 : decode cX12_kind 20 = .ok (.ldc 70, 2) := by decide +kernel
theorem dX12_kind_22 : decode cX12_kind 22 = .ok (.ireturn, 1) := by decide +kernel
theorem dX12_isKind_0 : decode cX12_isKind 0 = .ok (.iload_n 1, 1) := by decide +kernel
theorem dX12_isKind_1 : decode cX12_isKind 1 = .ok (.ifCond .eq 28, 3) := by decide +kernel
theorem dX12_isKind_4 : decode cX12_isKind 4 = .ok (.iload_n 0, 1) := by decide +kernel
theorem dX12_isKind_5 : decode cX12_isKind 5 = .ok (.iload_n 1, 1) := by decide +kernel
theorem dX12_isKind_6 : decode cX12_isKind 6 = .ok (.if_icmp .eq 23, 3) := by decide +kernel
theorem dX12_isKind_9 : decode cX12_isKind 9 = .ok (.iload_n 1, 1) := by decide +kernel
theorem dX12_isKind_10 : decode cX12_isKind 10 = .ok (.iconst 1, 1) := by decide +kernel
theorem dX12_isKind_11 : decode cX12_isKind 11 = .ok (.if_icmp .ne 8, 3) := by decide +kernel
theorem dX12_isKind_14 : decode cX12_isKind 14 = .ok (.iload_n 0, 1) := by decide +kernel
theorem dX12_isKind_15 : decode cX12_isKind 15 = .ok (.iconst 4, 1) := by decide +kernel
theorem dX12_isKind_16 : decode cX12_isKind 16 = .ok (.if_icmp .lt 13, 3) := by decide +kernel
theorem dX12_isKind_19 : decode cX12_isKind 19 = .ok (.iload_n 1, 1) := by decide +kernel
theorem dX12_isKind_20 : decode cX12_isKind 20 = .ok (.iconst 4, 1) := by decide +kernel
theorem dX12_isKind_21 : decode cX12_isKind 21 = .ok (.if_icmp .ne 12, 3) := by decide +kernel
theorem dX12_isKind_24 : decode cX12_isKind 24 = .ok (.iload_n 0, 1) := by decide +kernel
theorem dX12_isKind_25 : decode cX12_isKind 25 = .ok (.iconst 5, 1) := by decide +kernel
theorem dX12_isKind_26 : decode cX12_isKind 26 = .ok (.if_icmp .ne 7, 3) := by decide +kernel
theorem dX12_isKind_29 : decode cX12_isKind 29 = .ok (.iconst 1, 1) := by decide +kernel
theorem dX12_isKind_30 : decode cX12_isKind 30 = .ok (.goto 4, 3) := by decide +kernel
theorem dX12_isKind_33 : decode cX12_isKind 33 = .ok (.iconst 0, 1) := by decide +kernel
theorem dX12_isKind_34 : decode cX12_isKind 34 = .ok (.ireturn, 1) := by decide +kernel
theorem dX12_as_0 : decode cX12_as 0 = .ok (.aload_n 0, 1) := by decide +kernel
theorem dX12_as_1 : decode cX12_as 1 = .ok (.iload_n 1, 1) := by decide +kernel
theorem dX12_as_2 : decode cX12_as 2 = .ok (.invokevirtual 155, 3) := by decide +kernel
theorem dX12_as_5 : decode cX12_as 5 = .ok (.ifCond .eq 15, 3) := by decide +kernel
theorem dX12_as_8 : decode cX12_as 8 = .ok (.iload_n 2, 1) := by decide +kernel
theorem dX12_as_9 : decode cX12_as 9 = .ok (.i2l, 1) := by decide +kernel
theorem dX12_as_10 : decode cX12_as 10 = .ok (.lconst 0, 1) := by decide +kernel
theorem dX12_as_11 : decode cX12_as 11 = .ok (.ldc2_w 235, 3) := by decide +kernel
theorem dX12_as_14 : decode cX12_as 14 = .ok (.invokestatic 60, 3) := by decide +kernel
theorem dX12_as_17 : decode cX12_as 17 = .ok (.ifCond .ne 6, 3) := by decide +kernel
theorem dX12_as_20 : decode cX12_as 20 = .ok (.ldc 70, 2) := by decide +kernel
theorem dX12_as_22 : decode cX12_as 22 = .ok (.ireturn, 1) := by decide +kernel
theorem dX12_as_23 : decode cX12_as 23 = .ok (.aload_n 0, 1) := by decide +kernel
theorem dX12_as_24 : decode cX12_as 24 = .ok (.getfield 19, 3) := by decide +kernel
theorem dX12_as_27 : decode cX12_as 27 = .ok (.bipush 8, 2) := by decide +kernel
theorem dX12_as_29 : decode cX12_as 29 = .ok (.iload_n 1, 1) := by decide +kernel
theorem dX12_as_30 : decode cX12_as 30 = .ok (.iadd, 1) := by decide +kernel
theorem dX12_as_31 : decode cX12_as 31 = .ok (.iaload, 1) := by decide +kernel
theorem dX12_as_32 : decode cX12_as 32 = .ok (.iload_n 2, 1) := by decide +kernel
theorem dX12_as_33 : decode cX12_as 33 = .ok (.invokestatic 237, 3) := by decide +kernel
theorem dX12_as_36 : decode cX12_as 36 = .ok (.ifCond .eq 11, 3) := by decide +kernel
theorem dX12_as_39 : decode cX12_as 39 = .ok (.aload_n 0, 1) := by decide +kernel
theorem dX12_as_40 : decode cX12_as 40 = .ok (.iload_n 1, 1) := by decide +kernel
theorem dX12_as_41 : decode cX12_as 41 = .ok (.invokevirtual 75, 3) := by decide +kernel
theorem dX12_as_44 : decode cX12_as 44 = .ok (.goto 8, 3) := by decide +kernel
theorem dX12_as_47 : decode cX12_as 47 = .ok (.aload_n 0, 1) := by decide +kernel
theorem dX12_as_48 : decode cX12_as 48 = .ok (.iconst 3, 1) := by decide +kernel
theorem dX12_as_49 : decode cX12_as 49 = .ok (.invokevirtual 71, 3) := by decide +kernel
theorem dX12_as_52 : decode cX12_as 52 = .ok (.ireturn, 1) := by decide +kernel
theorem dX12_begin_0 : decode cX12_begin 0 = .ok (.aload_n 0, 1) := by decide +kernel
theorem dX12_begin_1 : decode cX12_begin 1 = .ok (.getfield 240, 3) := by decide +kernel
theorem dX12_begin_4 : decode cX12_begin 4 = .ok (.bipush 16, 2) := by decide +kernel
theorem dX12_begin_6 : decode cX12_begin 6 = .ok (.if_icmp .ge 23, 3) := by decide +kernel
theorem dX12_begin_9 : decode cX12_begin 9 = .ok (.aload_n 0, 1) := by decide +kernel
theorem dX12_begin_10 : decode cX12_begin 10 = .ok (.getfield 50, 3) := by decide +kernel
theorem dX12_begin_13 : decode cX12_begin 13 = .ok (.aload_n 0, 1) := by decide +kernel
theorem dX12_begin_14 : decode cX12_begin 14 = .ok (.getfield 240, 3) := by decide +kernel
theorem dX12_begin_17 : decode cX12_begin 17 = .ok (.iload_n 1, 1) := by decide +kernel
theorem dX12_begin_18 : decode cX12_begin 18 = .ok (.iastore, 1) := by decide +kernel
theorem dX12_begin_19 : decode cX12_begin 19 = .ok (.aload_n 0, 1) := by decide +kernel
theorem dX12_begin_20 : decode cX12_begin 20 = .ok (.dup, 1) := by decide +kernel
theorem dX12_begin_21 : decode cX12_begin 21 = .ok (.getfield 240, 3) := by decide +kernel
theorem dX12_begin_24 : decode cX12_begin 24 = .ok (.iconst 1, 1) := by decide +kernel
theorem dX12_begin_25 : decode cX12_begin 25 = .ok (.iadd, 1) := by decide +kernel
theorem dX12_begin_26 : decode cX12_begin 26 = .ok (.putfield 240, 3) := by decide +kernel
theorem dX12_begin_29 : decode cX12_begin 29 = .ok (.return_, 1) := by decide +kernel
theorem dX12_lent_0 : decode cX12_lent 0 = .ok (.aload_n 0, 1) := by decide +kernel
theorem dX12_lent_1 : decode cX12_lent 1 = .ok (.iload_n 2, 1) := by decide +kernel
theorem dX12_lent_2 : decode cX12_lent 2 = .ok (.invokevirtual 243, 3) := by decide +kernel
theorem dX12_lent_5 : decode cX12_lent 5 = .ok (.iload_n 2, 1) := by decide +kernel
theorem dX12_lent_6 : decode cX12_lent 6 = .ok (.bipush 10, 2) := by decide +kernel
theorem dX12_lent_8 : decode cX12_lent 8 = .ok (.if_icmp .ne 15, 3) := by decide +kernel
theorem dX12_lent_11 : decode cX12_lent 11 = .ok (.aload_n 0, 1) := by decide +kernel
theorem dX12_lent_12 : decode cX12_lent 12 = .ok (.getfield 19, 3) := by decide +kernel
theorem dX12_lent_15 : decode cX12_lent 15 = .ok (.bipush 12, 2) := by decide +kernel
theorem dX12_lent_17 : decode cX12_lent 17 = .ok (.iload_n 1, 1) := by decide +kernel
theorem dX12_lent_18 : decode cX12_lent 18 = .ok (.iadd, 1) := by decide +kernel
theorem dX12_lent_19 : decode cX12_lent 19 = .ok (.iaload, 1) := by decide +kernel
theorem dX12_lent_20 : decode cX12_lent 20 = .ok (.goto 4, 3) := by decide +kernel
theorem dX12_lent_23 : decode cX12_lent 23 = .ok (.iload_n 1, 1) := by decide +kernel
theorem dX12_lent_24 : decode cX12_lent 24 = .ok (.ireturn, 1) := by decide +kernel
theorem dX12_plainMark_0 : decode cX12_plainMark 0 = .ok (.aload_n 0, 1) := by decide +kernel
theorem dX12_plainMark_1 : decode cX12_plainMark 1 = .ok (.bipush 21, 2) := by decide +kernel
theorem dX12_plainMark_3 : decode cX12_plainMark 3 = .ok (.invokevirtual 243, 3) := by decide +kernel
theorem dX12_plainMark_6 : decode cX12_plainMark 6 = .ok (.aload_n 0, 1) := by decide +kernel
theorem dX12_plainMark_7 : decode cX12_plainMark 7 = .ok (.iload_n 1, 1) := by decide +kernel
theorem dX12_plainMark_8 : decode cX12_plainMark 8 = .ok (.bipush 20, 2) := by decide +kernel
theorem dX12_plainMark_10 : decode cX12_plainMark 10 = .ok (.invokevirtual 246, 3) := by decide +kernel
theorem dX12_plainMark_13 : decode cX12_plainMark 13 = .ok (.aload_n 0, 1) := by decide +kernel
theorem dX12_plainMark_14 : decode cX12_plainMark 14 = .ok (.getfield 19, 3) := by decide +kernel
theorem dX12_plainMark_17 : decode cX12_plainMark 17 = .ok (.bipush 16, 2) := by decide +kernel
theorem dX12_plainMark_19 : decode cX12_plainMark 19 = .ok (.iload_n 1, 1) := by decide +kernel
theorem dX12_plainMark_20 : decode cX12_plainMark 20 = .ok (.iadd, 1) := by decide +kernel
theorem dX12_plainMark_21 : decode cX12_plainMark 21 = .ok (.iaload, 1) := by decide +kernel
theorem dX12_plainMark_22 : decode cX12_plainMark 22 = .ok (.iadd, 1) := by decide +kernel
theorem dX12_plainMark_23 : decode cX12_plainMark 23 = .ok (.ireturn, 1) := by decide +kernel
theorem dX12_silentSize_0 : decode cX12_silentSize 0 = .ok (.aload_n 0, 1) := by decide +kernel
theorem dX12_silentSize_1 : decode cX12_silentSize 1 = .ok (.bipush 13, 2) := by decide +kernel
theorem dX12_silentSize_3 : decode cX12_silentSize 3 = .ok (.invokevirtual 243, 3) := by decide +kernel
theorem dX12_silentSize_6 : decode cX12_silentSize 6 = .ok (.aload_n 0, 1) := by decide +kernel
theorem dX12_silentSize_7 : decode cX12_silentSize 7 = .ok (.iload_n 1, 1) := by decide +kernel
theorem dX12_silentSize_8 : decode cX12_silentSize 8 = .ok (.bipush 10, 2) := by decide +kernel
theorem dX12_silentSize_10 : decode cX12_silentSize 10 = .ok (.invokevirtual 246, 3) := by decide +kernel
theorem dX12_silentSize_13 : decode cX12_silentSize 13 = .ok (.bipush 100, 2) := by decide +kernel
theorem dX12_silentSize_15 : decode cX12_silentSize 15 = .ok (.isub, 1) := by decide +kernel
theorem dX12_silentSize_16 : decode cX12_silentSize 16 = .ok (.ireturn, 1) := by decide +kernel
theorem dX12_sizeOfSilent_0 : decode cX12_sizeOfSilent 0 = .ok (.aload_n 0, 1) := by decide +kernel
theorem dX12_sizeOfSilent_1 : decode cX12_sizeOfSilent 1 = .ok (.getfield 19, 3) := by decide +kernel
theorem dX12_sizeOfSilent_4 : decode cX12_sizeOfSilent 4 = .ok (.bipush 8, 2) := by decide +kernel
theorem dX12_sizeOfSilent_6 : decode cX12_sizeOfSilent 6 = .ok (.iload_n 1, 1) := by decide +kernel
theorem dX12_sizeOfSilent_7 : decode cX12_sizeOfSilent 7 = .ok (.iadd, 1) := by decide +kernel
theorem dX12_sizeOfSilent_8 : decode cX12_sizeOfSilent 8 = .ok (.iaload, 1) := by decide +kernel
theorem dX12_sizeOfSilent_9 : decode cX12_sizeOfSilent 9 = .ok (.iconst 5, 1) := by decide +kernel
theorem dX12_sizeOfSilent_10 : decode cX12_sizeOfSilent 10 = .ok (.if_icmp .ne 17, 3) := by decide +kernel
theorem dX12_sizeOfSilent_13 : decode cX12_sizeOfSilent 13 = .ok (.aload_n 0, 1) := by decide +kernel
theorem dX12_sizeOfSilent_14 : decode cX12_sizeOfSilent 14 = .ok (.bipush 14, 2) := by decide +kernel
theorem dX12_sizeOfSilent_16 : decode cX12_sizeOfSilent 16 = .ok (.invokevirtual 243, 3) := by decide +kernel
theorem dX12_sizeOfSilent_19 : decode cX12_sizeOfSilent 19 = .ok (.iconst 2, 1) := by decide +kernel
theorem dX12_sizeOfSilent_20 : decode cX12_sizeOfSilent 20 = .ok (.aload_n 0, 1) := by decide +kernel
theorem dX12_sizeOfSilent_21 : decode cX12_sizeOfSilent 21 = .ok (.iload_n 1, 1) := by decide +kernel
theorem dX12_sizeOfSilent_22 : decode cX12_sizeOfSilent 22 = .ok (.invokevirtual 249, 3) := by decide +kernel
theorem dX12_sizeOfSilent_25 : decode cX12_sizeOfSilent 25 = .ok (.imul, 1) := by decide +kernel
theorem dX12_sizeOfSilent_26 : decode cX12_sizeOfSilent 26 = .ok (.ireturn, 1) := by decide +kernel
theorem dX12_sizeOfSilent_27 : decode cX12_sizeOfSilent 27 = .ok (.aload_n 0, 1) := by decide +kernel
theorem dX12_sizeOfSilent_28 : decode cX12_sizeOfSilent 28 = .ok (.iload_n 1, 1) := by decide +kernel
theorem dX12_sizeOfSilent_29 : decode cX12_sizeOfSilent 29 = .ok (.invokevirtual 249, 3) := by decide +kernel
theorem dX12_sizeOfSilent_32 : decode cX12_sizeOfSilent 32 = .ok (.ireturn, 1) := by decide +kernel
theorem dX12_markOf_0 : decode cX12_markOf 0 = .ok (.aload_n 0, 1) := by decide +kernel
theorem dX12_markOf_1 : decode cX12_markOf 1 = .ok (.getfield 19, 3) := by decide +kernel
theorem dX12_markOf_4 : decode cX12_markOf 4 = .ok (.bipush 8, 2) := by decide +kernel
theorem dX12_markOf_6 : decode cX12_markOf 6 = .ok (.iload_n 1, 1) := by decide +kernel
theorem dX12_markOf_7 : decode cX12_markOf 7 = .ok (.iadd, 1) := by decide +kernel
theorem dX12_markOf_8 : decode cX12_markOf 8 = .ok (.iaload, 1) := by decide +kernel
theorem dX12_markOf_9 : decode cX12_markOf 9 = .ok (.istore_n 2, 1) := by decide +kernel
theorem dX12_markOf_10 : decode cX12_markOf 10 = .ok (.iload_n 2, 1) := by decide +kernel
theorem dX12_markOf_11 : decode cX12_markOf 11 = .ok (.iconst 2, 1) := by decide +kernel
theorem dX12_markOf_12 : decode cX12_markOf 12 = .ok (.if_icmp .ne 17, 3) := by decide +kernel
theorem dX12_markOf_15 : decode cX12_markOf 15 = .ok (.aload_n 0, 1) := by decide +kernel
theorem dX12_markOf_16 : decode cX12_markOf 16 = .ok (.bipush 24, 2) := by decide +kernel
theorem dX12_markOf_18 : decode cX12_markOf 18 = .ok (.invokevirtual 243, 3) := by decide +kernel
theorem dX12_markOf_21 : decode cX12_markOf 21 = .ok (.iconst 2, 1) := by decide +kernel
theorem dX12_markOf_22 : decode cX12_markOf 22 = .ok (.aload_n 0, 1) := by decide +kernel
theorem dX12_markOf_23 : decode cX12_markOf 23 = .ok (.iload_n 1, 1) := by decide +kernel
theorem dX12_markOf_24 : decode cX12_markOf 24 = .ok (.invokevirtual 252, 3) := by decide +kernel
theorem dX12_markOf_27 : decode cX12_markOf 27 = .ok (.imul, 1) := by decide +kernel
theorem dX12_markOf_28 : decode cX12_markOf 28 = .ok (.ireturn, 1) := by decide +kernel
theorem dX12_markOf_29 : decode cX12_markOf 29 = .ok (.iload_n 2, 1) := by decide +kernel
theorem dX12_markOf_30 : decode cX12_markOf 30 = .ok (.iconst 3, 1) := by decide +kernel
theorem dX12_markOf_31 : decode cX12_markOf 31 = .ok (.if_icmp .ne 19, 3) := by decide +kernel
theorem dX12_markOf_34 : decode cX12_markOf 34 = .ok (.aload_n 0, 1) := by decide +kernel
theorem dX12_markOf_35 : decode cX12_markOf 35 = .ok (.bipush 22, 2) := by decide +kernel
theorem dX12_markOf_37 : decode cX12_markOf 37 = .ok (.invokevirtual 243, 3) := by decide +kernel
theorem dX12_markOf_40 : decode cX12_markOf 40 = .ok (.aload_n 0, 1) := by decide +kernel
theorem dX12_markOf_41 : decode cX12_markOf 41 = .ok (.iload_n 1, 1) := by decide +kernel
theorem dX12_markOf_42 : decode cX12_markOf 42 = .ok (.invokevirtual 252, 3) := by decide +kernel
theorem dX12_markOf_45 : decode cX12_markOf 45 = .ok (.sipush 1000, 3) := by decide +kernel
theorem dX12_markOf_48 : decode cX12_markOf 48 = .ok (.isub, 1) := by decide +kernel
theorem dX12_markOf_49 : decode cX12_markOf 49 = .ok (.ireturn, 1) := by decide +kernel
theorem dX12_markOf_50 : decode cX12_markOf 50 = .ok (.iload_n 2, 1) := by decide +kernel
theorem dX12_markOf_51 : decode cX12_markOf 51 = .ok (.iconst 1, 1) := by decide +kernel
theorem dX12_markOf_52 : decode cX12_markOf 52 = .ok (.if_icmp .ne 9, 3) := by decide +kernel
theorem dX12_markOf_55 : decode cX12_markOf 55 = .ok (.aload_n 0, 1) := by decide +kernel
theorem dX12_markOf_56 : decode cX12_markOf 56 = .ok (.iload_n 1, 1) := by decide +kernel
theorem dX12_markOf_57 : decode cX12_markOf 57 = .ok (.invokevirtual 252, 3) := by decide +kernel
theorem dX12_markOf_60 : decode cX12_markOf 60 = .ok (.ireturn, 1) := by decide +kernel
theorem dX12_markOf_61 : decode cX12_markOf 61 = .ok (.aload_n 0, 1) := by decide +kernel
theorem dX12_markOf_62 : decode cX12_markOf 62 = .ok (.bipush 23, 2) := by decide +kernel
theorem dX12_markOf_64 : decode cX12_markOf 64 = .ok (.invokevirtual 243, 3) := by decide +kernel
theorem dX12_markOf_67 : decode cX12_markOf 67 = .ok (.aload_n 0, 1) := by decide +kernel
theorem dX12_markOf_68 : decode cX12_markOf 68 = .ok (.iload_n 1, 1) := by decide +kernel
theorem dX12_markOf_69 : decode cX12_markOf 69 = .ok (.bipush 20, 2) := by decide +kernel
theorem dX12_markOf_71 : decode cX12_markOf 71 = .ok (.invokevirtual 246, 3) := by decide +kernel
theorem dX12_markOf_74 : decode cX12_markOf 74 = .ok (.istore_n 3, 1) := by decide +kernel
theorem dX12_markOf_75 : decode cX12_markOf 75 = .ok (.iload_n 3, 1) := by decide +kernel
theorem dX12_markOf_76 : decode cX12_markOf 76 = .ok (.aload_n 0, 1) := by decide +kernel
theorem dX12_markOf_77 : decode cX12_markOf 77 = .ok (.iload_n 1, 1) := by decide +kernel
theorem dX12_markOf_78 : decode cX12_markOf 78 = .ok (.invokevirtual 255, 3) := by decide +kernel
theorem dX12_markOf_81 : decode cX12_markOf 81 = .ok (.isub, 1) := by decide +kernel
theorem dX12_markOf_82 : decode cX12_markOf 82 = .ok (.ireturn, 1) := by decide +kernel
theorem dX12_plainSize_0 : decode cX12_plainSize 0 = .ok (.aload_n 0, 1) := by decide +kernel
theorem dX12_plainSize_1 : decode cX12_plainSize 1 = .ok (.bipush 11, 2) := by decide +kernel
theorem dX12_plainSize_3 : decode cX12_plainSize 3 = .ok (.invokevirtual 243, 3) := by decide +kernel
theorem dX12_plainSize_6 : decode cX12_plainSize 6 = .ok (.aload_n 0, 1) := by decide +kernel
theorem dX12_plainSize_7 : decode cX12_plainSize 7 = .ok (.iload_n 1, 1) := by decide +kernel
theorem dX12_plainSize_8 : decode cX12_plainSize 8 = .ok (.bipush 10, 2) := by decide +kernel
theorem dX12_plainSize_10 : decode cX12_plainSize 10 = .ok (.invokevirtual 246, 3) := by decide +kernel
theorem dX12_plainSize_13 : decode cX12_plainSize 13 = .ok (.istore_n 2, 1) := by decide +kernel
theorem dX12_plainSize_14 : decode cX12_plainSize 14 = .ok (.iload_n 2, 1) := by decide +kernel
theorem dX12_plainSize_15 : decode cX12_plainSize 15 = .ok (.aload_n 0, 1) := by decide +kernel
theorem dX12_plainSize_16 : decode cX12_plainSize 16 = .ok (.iload_n 1, 1) := by decide +kernel
theorem dX12_plainSize_17 : decode cX12_plainSize 17 = .ok (.invokevirtual 258, 3) := by decide +kernel
theorem dX12_plainSize_20 : decode cX12_plainSize 20 = .ok (.iadd, 1) := by decide +kernel
theorem dX12_plainSize_21 : decode cX12_plainSize 21 = .ok (.ireturn, 1) := by decide +kernel
theorem dX12_sizeOf_0 : decode cX12_sizeOf 0 = .ok (.aload_n 0, 1) := by decide +kernel
theorem dX12_sizeOf_1 : decode cX12_sizeOf 1 = .ok (.getfield 19, 3) := by decide +kernel
theorem dX12_sizeOf_4 : decode cX12_sizeOf 4 = .ok (.bipush 8, 2) := by decide +kernel
theorem dX12_sizeOf_6 : decode cX12_sizeOf 6 = .ok (.iload_n 1, 1) := by decide +kernel
theorem dX12_sizeOf_7 : decode cX12_sizeOf 7 = .ok (.iadd, 1) := by decide +kernel
theorem dX12_sizeOf_8 : decode cX12_sizeOf 8 = .ok (.iaload, 1) := by decide +kernel
theorem dX12_sizeOf_9 : decode cX12_sizeOf 9 = .ok (.istore_n 2, 1) := by decide +kernel
theorem dX12_sizeOf_10 : decode cX12_sizeOf 10 = .ok (.iload_n 2, 1) := by decide +kernel
theorem dX12_sizeOf_11 : decode cX12_sizeOf 11 = .ok (.iconst 2, 1) := by decide +kernel
theorem dX12_sizeOf_12 : decode cX12_sizeOf 12 = .ok (.if_icmp .ne 16, 3) := by decide +kernel
theorem dX12_sizeOf_15 : decode cX12_sizeOf 15 = .ok (.aload_n 0, 1) := by decide +kernel
theorem dX12_sizeOf_16 : decode cX12_sizeOf 16 = .ok (.bipush 12, 2) := by decide +kernel
theorem dX12_sizeOf_18 : decode cX12_sizeOf 18 = .ok (.invokevirtual 243, 3) := by decide +kernel
theorem dX12_sizeOf_21 : decode cX12_sizeOf 21 = .ok (.aload_n 0, 1) := by decide +kernel
theorem dX12_sizeOf_22 : decode cX12_sizeOf 22 = .ok (.iload_n 1, 1) := by decide +kernel
theorem dX12_sizeOf_23 : decode cX12_sizeOf 23 = .ok (.invokevirtual 261, 3) := by decide +kernel
theorem dX12_sizeOf_26 : decode cX12_sizeOf 26 = .ok (.ineg, 1) := by decide +kernel
theorem dX12_sizeOf_27 : decode cX12_sizeOf 27 = .ok (.ireturn, 1) := by decide +kernel
theorem dX12_sizeOf_28 : decode cX12_sizeOf 28 = .ok (.iload_n 2, 1) := by decide +kernel
theorem dX12_sizeOf_29 : decode cX12_sizeOf 29 = .ok (.iconst 4, 1) := by decide +kernel
theorem dX12_sizeOf_30 : decode cX12_sizeOf 30 = .ok (.if_icmp .lt 11, 3) := by decide +kernel
theorem dX12_sizeOf_33 : decode cX12_sizeOf 33 = .ok (.aload_n 0, 1) := by decide +kernel
theorem dX12_sizeOf_34 : decode cX12_sizeOf 34 = .ok (.iload_n 1, 1) := by decide +kernel
theorem dX12_sizeOf_35 : decode cX12_sizeOf 35 = .ok (.invokevirtual 255, 3) := by decide +kernel
theorem dX12_sizeOf_38 : decode cX12_sizeOf 38 = .ok (.goto 8, 3) := by decide +kernel
theorem dX12_sizeOf_41 : decode cX12_sizeOf 41 = .ok (.aload_n 0, 1) := by decide +kernel
theorem dX12_sizeOf_42 : decode cX12_sizeOf 42 = .ok (.iload_n 1, 1) := by decide +kernel
theorem dX12_sizeOf_43 : decode cX12_sizeOf 43 = .ok (.invokevirtual 261, 3) := by decide +kernel
theorem dX12_sizeOf_46 : decode cX12_sizeOf 46 = .ok (.ireturn, 1) := by decide +kernel
theorem dX12_ask_0 : decode cX12_ask 0 = .ok (.aload_n 0, 1) := by decide +kernel
theorem dX12_ask_1 : decode cX12_ask 1 = .ok (.iload_n 1, 1) := by decide +kernel
theorem dX12_ask_2 : decode cX12_ask 2 = .ok (.invokevirtual 155, 3) := by decide +kernel
theorem dX12_ask_5 : decode cX12_ask 5 = .ok (.ifCond .eq 13, 3) := by decide +kernel
theorem dX12_ask_8 : decode cX12_ask 8 = .ok (.iload_n 2, 1) := by decide +kernel
theorem dX12_ask_9 : decode cX12_ask 9 = .ok (.i2l, 1) := by decide +kernel
theorem dX12_ask_10 : decode cX12_ask 10 = .ok (.lconst 0, 1) := by decide +kernel
theorem dX12_ask_11 : decode cX12_ask 11 = .ok (.lconst 1, 1) := by decide +kernel
theorem dX12_ask_12 : decode cX12_ask 12 = .ok (.invokestatic 60, 3) := by decide +kernel
theorem dX12_ask_15 : decode cX12_ask 15 = .ok (.ifCond .ne 6, 3) := by decide +kernel
theorem dX12_ask_18 : decode cX12_ask 18 = .ok (.ldc 70, 2) := by decide +kernel
theorem dX12_ask_20 : decode cX12_ask 20 = .ok (.ireturn, 1) := by decide +kernel
theorem dX12_ask_21 : decode cX12_ask 21 = .ok (.aload_n 0, 1) := by decide +kernel
theorem dX12_ask_22 : decode cX12_ask 22 = .ok (.iconst 0, 1) := by decide +kernel
theorem dX12_ask_23 : decode cX12_ask 23 = .ok (.putfield 240, 3) := by decide +kernel
theorem dX12_ask_26 : decode cX12_ask 26 = .ok (.iload_n 2, 1) := by decide +kernel
theorem dX12_ask_27 : decode cX12_ask 27 = .ok (.ifCond .ne 11, 3) := by decide +kernel
theorem dX12_ask_30 : decode cX12_ask 30 = .ok (.aload_n 0, 1) := by decide +kernel
theorem dX12_ask_31 : decode cX12_ask 31 = .ok (.iload_n 1, 1) := by decide +kernel
theorem dX12_ask_32 : decode cX12_ask 32 = .ok (.invokevirtual 264, 3) := by decide +kernel
theorem dX12_ask_35 : decode cX12_ask 35 = .ok (.goto 8, 3) := by decide +kernel
theorem dX12_ask_38 : decode cX12_ask 38 = .ok (.aload_n 0, 1) := by decide +kernel
theorem dX12_ask_39 : decode cX12_ask 39 = .ok (.iload_n 1, 1) := by decide +kernel
theorem dX12_ask_40 : decode cX12_ask 40 = .ok (.invokevirtual 258, 3) := by decide +kernel
theorem dX12_ask_43 : decode cX12_ask 43 = .ok (.ireturn, 1) := by decide +kernel
theorem dX12_trace_0 : decode cX12_trace 0 = .ok (.iload_n 1, 1) := by decide +kernel
theorem dX12_trace_1 : decode cX12_trace 1 = .ok (.i2l, 1) := by decide +kernel
theorem dX12_trace_2 : decode cX12_trace 2 = .ok (.lconst 0, 1) := by decide +kernel
theorem dX12_trace_3 : decode cX12_trace 3 = .ok (.aload_n 0, 1) := by decide +kernel
theorem dX12_trace_4 : decode cX12_trace 4 = .ok (.getfield 240, 3) := by decide +kernel
theorem dX12_trace_7 : decode cX12_trace 7 = .ok (.iconst 1, 1) := by decide +kernel
theorem dX12_trace_8 : decode cX12_trace 8 = .ok (.isub, 1) := by decide +kernel
theorem dX12_trace_9 : decode cX12_trace 9 = .ok (.i2l, 1) := by decide +kernel
theorem dX12_trace_10 : decode cX12_trace 10 = .ok (.invokestatic 60, 3) := by decide +kernel
theorem dX12_trace_13 : decode cX12_trace 13 = .ok (.ifCond .eq 12, 3) := by decide +kernel
theorem dX12_trace_16 : decode cX12_trace 16 = .ok (.aload_n 0, 1) := by decide +kernel
theorem dX12_trace_17 : decode cX12_trace 17 = .ok (.getfield 50, 3) := by decide +kernel
theorem dX12_trace_20 : decode cX12_trace 20 = .ok (.iload_n 1, 1) := by decide +kernel
theorem dX12_trace_21 : decode cX12_trace 21 = .ok (.iaload, 1) := by decide +kernel
theorem dX12_trace_22 : decode cX12_trace 22 = .ok (.goto 5, 3) := by decide +kernel
theorem dX12_trace_25 : decode cX12_trace 25 = .ok (.ldc 195, 2) := by decide +kernel
theorem dX12_trace_27 : decode cX12_trace 27 = .ok (.ireturn, 1) := by decide +kernel
theorem dX12_count_0 : decode cX12_count 0 = .ok (.iconst 0, 1) := by decide +kernel
theorem dX12_count_1 : decode cX12_count 1 = .ok (.istore_n 2, 1) := by decide +kernel
theorem dX12_count_2 : decode cX12_count 2 = .ok (.iconst 0, 1) := by decide +kernel
theorem dX12_count_3 : decode cX12_count 3 = .ok (.istore_n 3, 1) := by decide +kernel
theorem dX12_count_4 : decode cX12_count 4 = .ok (.iload_n 3, 1) := by decide +kernel
theorem dX12_count_5 : decode cX12_count 5 = .ok (.bipush 8, 2) := by decide +kernel
theorem dX12_count_7 : decode cX12_count 7 = .ok (.if_icmp .ge 26, 3) := by decide +kernel
theorem dX12_count_10 : decode cX12_count 10 = .ok (.iload_n 2, 1) := by decide +kernel
theorem dX12_count_11 : decode cX12_count 11 = .ok (.aload_n 0, 1) := by decide +kernel
theorem dX12_count_12 : decode cX12_count 12 = .ok (.getfield 13, 3) := by decide +kernel
theorem dX12_count_15 : decode cX12_count 15 = .ok (.iload_n 3, 1) := by decide +kernel
theorem dX12_count_16 : decode cX12_count 16 = .ok (.iaload, 1) := by decide +kernel
theorem dX12_count_17 : decode cX12_count 17 = .ok (.ifCond .lt 7, 3) := by decide +kernel
theorem dX12_count_20 : decode cX12_count 20 = .ok (.iconst 1, 1) := by decide +kernel
theorem dX12_count_21 : decode cX12_count 21 = .ok (.goto 4, 3) := by decide +kernel
theorem dX12_count_24 : decode cX12_count 24 = .ok (.iconst 0, 1) := by decide +kernel
theorem dX12_count_25 : decode cX12_count 25 = .ok (.iadd, 1) := by decide +kernel
theorem dX12_count_26 : decode cX12_count 26 = .ok (.istore_n 2, 1) := by decide +kernel
theorem dX12_count_27 : decode cX12_count 27 = .ok (.iinc 3 1, 3) := by decide +kernel
theorem dX12_count_30 : decode cX12_count 30 = .ok (.goto (-26), 3) := by decide +kernel
theorem dX12_count_33 : decode cX12_count 33 = .ok (.iload_n 1, 1) := by decide +kernel
theorem dX12_count_34 : decode cX12_count 34 = .ok (.tableswitch 102 0 8 #[50, 52, 59, 66, 73, 80, 87, 92, 97], 50) := by decide +kernel
theorem dX12_count_84 : decode cX12_count 84 = .ok (.iload_n 2, 1) := by decide +kernel
theorem dX12_count_85 : decode cX12_count 85 = .ok (.ireturn, 1) := by decide +kernel
theorem dX12_count_86 : decode cX12_count 86 = .ok (.aload_n 0, 1) := by decide +kernel
theorem dX12_count_87 : decode cX12_count 87 = .ok (.getfield 19, 3) := by decide +kernel
theorem dX12_count_90 : decode cX12_count 90 = .ok (.iconst 4, 1) := by decide +kernel
theorem dX12_count_91 : decode cX12_count 91 = .ok (.iaload, 1) := by decide +kernel
theorem dX12_count_92 : decode cX12_count 92 = .ok (.ireturn, 1) := by decide +kernel
theorem dX12_count_93 : decode cX12_count 93 = .ok (.aload_n 0, 1) := by decide +kernel
theorem dX12_count_94 : decode cX12_count 94 = .ok (.getfield 19, 3) := by decide +kernel
theorem dX12_count_97 : decode cX12_count 97 = .ok (.iconst 0, 1) := by decide +kernel
theorem dX12_count_98 : decode cX12_count 98 = .ok (.iaload, 1) := by decide +kernel
theorem dX12_count_99 : decode cX12_count 99 = .ok (.ireturn, 1) := by decide +kernel
theorem dX12_count_100 : decode cX12_count 100 = .ok (.aload_n 0, 1) := by decide +kernel
theorem dX12_count_101 : decode cX12_count 101 = .ok (.getfield 19, 3) := by decide +kernel
theorem dX12_count_104 : decode cX12_count 104 = .ok (.iconst 2, 1) := by decide +kernel
theorem dX12_count_105 : decode cX12_count 105 = .ok (.iaload, 1) := by decide +kernel
theorem dX12_count_106 : decode cX12_count 106 = .ok (.ireturn, 1) := by decide +kernel
theorem dX12_count_107 : decode cX12_count 107 = .ok (.aload_n 0, 1) := by decide +kernel
theorem dX12_count_108 : decode cX12_count 108 = .ok (.getfield 19, 3) := by decide +kernel
theorem dX12_count_111 : decode cX12_count 111 = .ok (.iconst 3, 1) := by decide +kernel
theorem dX12_count_112 : decode cX12_count 112 = .ok (.iaload, 1) := by decide +kernel
theorem dX12_count_113 : decode cX12_count 113 = .ok (.ireturn, 1) := by decide +kernel
theorem dX12_count_114 : decode cX12_count 114 = .ok (.aload_n 0, 1) := by decide +kernel
theorem dX12_count_115 : decode cX12_count 115 = .ok (.getfield 19, 3) := by decide +kernel
theorem dX12_count_118 : decode cX12_count 118 = .ok (.iconst 5, 1) := by decide +kernel
theorem dX12_count_119 : decode cX12_count 119 = .ok (.iaload, 1) := by decide +kernel
theorem dX12_count_120 : decode cX12_count 120 = .ok (.ireturn, 1) := by decide +kernel
theorem dX12_count_121 : decode cX12_count 121 = .ok (.aload_n 0, 1) := by decide +kernel
theorem dX12_count_122 : decode cX12_count 122 = .ok (.invokevirtual 207, 3) := by decide +kernel
theorem dX12_count_125 : decode cX12_count 125 = .ok (.ireturn, 1) := by decide +kernel
theorem dX12_count_126 : decode cX12_count 126 = .ok (.aload_n 0, 1) := by decide +kernel
theorem dX12_count_127 : decode cX12_count 127 = .ok (.getfield 142, 3) := by decide +kernel
theorem dX12_count_130 : decode cX12_count 130 = .ok (.ireturn, 1) := by decide +kernel
theorem dX12_count_131 : decode cX12_count 131 = .ok (.aload_n 0, 1) := by decide +kernel
theorem dX12_count_132 : decode cX12_count 132 = .ok (.getfield 84, 3) := by decide +kernel
theorem dX12_count_135 : decode cX12_count 135 = .ok (.ireturn, 1) := by decide +kernel
theorem dX12_count_136 : decode cX12_count 136 = .ok (.ldc 70, 2) := by decide +kernel
theorem dX12_count_138 : decode cX12_count 138 = .ok (.ireturn, 1) := by decide +kernel
theorem dX12_status_0 : decode cX12_status 0 = .ok (.aload_n 0, 1) := by decide +kernel
theorem dX12_status_1 : decode cX12_status 1 = .ok (.getfield 53, 3) := by decide +kernel
theorem dX12_status_4 : decode cX12_status 4 = .ok (.ireturn, 1) := by decide +kernel
