/-! decode rows of TimeKeeper$Row -/
theorem d_RW_init_0 : decode (mB m_RW_init) 0 = .ok (.aload_n 0, 1) := by decide +kernel
theorem d_RW_init_1 : decode (mB m_RW_init) 1 = .ok (.invokespecial 3, 3) := by decide +kernel
theorem d_RW_init_4 : decode (mB m_RW_init) 4 = .ok (.aload_n 0, 1) := by decide +kernel
theorem d_RW_init_5 : decode (mB m_RW_init) 5 = .ok (.bipush (8), 2) := by decide +kernel
theorem d_RW_init_7 : decode (mB m_RW_init) 7 = .ok (.newarray .int, 2) := by decide +kernel
theorem d_RW_init_9 : decode (mB m_RW_init) 9 = .ok (.putfield 9, 3) := by decide +kernel
theorem d_RW_init_12 : decode (mB m_RW_init) 12 = .ok (.aload_n 0, 1) := by decide +kernel
theorem d_RW_init_13 : decode (mB m_RW_init) 13 = .ok (.bipush (8), 2) := by decide +kernel
theorem d_RW_init_15 : decode (mB m_RW_init) 15 = .ok (.newarray .int, 2) := by decide +kernel
theorem d_RW_init_17 : decode (mB m_RW_init) 17 = .ok (.putfield 15, 3) := by decide +kernel
theorem d_RW_init_20 : decode (mB m_RW_init) 20 = .ok (.aload_n 0, 1) := by decide +kernel
theorem d_RW_init_21 : decode (mB m_RW_init) 21 = .ok (.bipush (8), 2) := by decide +kernel
theorem d_RW_init_23 : decode (mB m_RW_init) 23 = .ok (.newarray .long, 2) := by decide +kernel
theorem d_RW_init_25 : decode (mB m_RW_init) 25 = .ok (.putfield 18, 3) := by decide +kernel
theorem d_RW_init_28 : decode (mB m_RW_init) 28 = .ok (.aload_n 0, 1) := by decide +kernel
theorem d_RW_init_29 : decode (mB m_RW_init) 29 = .ok (.bipush (8), 2) := by decide +kernel
theorem d_RW_init_31 : decode (mB m_RW_init) 31 = .ok (.newarray .long, 2) := by decide +kernel
theorem d_RW_init_33 : decode (mB m_RW_init) 33 = .ok (.putfield 22, 3) := by decide +kernel
theorem d_RW_init_36 : decode (mB m_RW_init) 36 = .ok (.aload_n 0, 1) := by decide +kernel
theorem d_RW_init_37 : decode (mB m_RW_init) 37 = .ok (.bipush (8), 2) := by decide +kernel
theorem d_RW_init_39 : decode (mB m_RW_init) 39 = .ok (.newarray .long, 2) := by decide +kernel
theorem d_RW_init_41 : decode (mB m_RW_init) 41 = .ok (.putfield 25, 3) := by decide +kernel
theorem d_RW_init_44 : decode (mB m_RW_init) 44 = .ok (.return_, 1) := by decide +kernel
theorem d_RW_gather_0 : decode (mB m_RW_gather) 0 = .ok (.aload_n 0, 1) := by decide +kernel
theorem d_RW_gather_1 : decode (mB m_RW_gather) 1 = .ok (.iconst 0, 1) := by decide +kernel
theorem d_RW_gather_2 : decode (mB m_RW_gather) 2 = .ok (.putfield 28, 3) := by decide +kernel
theorem d_RW_gather_5 : decode (mB m_RW_gather) 5 = .ok (.iconst 0, 1) := by decide +kernel
theorem d_RW_gather_6 : decode (mB m_RW_gather) 6 = .ok (.istore_n 3, 1) := by decide +kernel
theorem d_RW_gather_7 : decode (mB m_RW_gather) 7 = .ok (.iload_n 3, 1) := by decide +kernel
theorem d_RW_gather_8 : decode (mB m_RW_gather) 8 = .ok (.bipush (8), 2) := by decide +kernel
theorem d_RW_gather_10 : decode (mB m_RW_gather) 10 = .ok (.if_icmp .ge (139), 3) := by decide +kernel
theorem d_RW_gather_13 : decode (mB m_RW_gather) 13 = .ok (.aload_n 1, 1) := by decide +kernel
theorem d_RW_gather_14 : decode (mB m_RW_gather) 14 = .ok (.iload_n 3, 1) := by decide +kernel
theorem d_RW_gather_15 : decode (mB m_RW_gather) 15 = .ok (.aaload, 1) := by decide +kernel
theorem d_RW_gather_16 : decode (mB m_RW_gather) 16 = .ok (.astore 4, 2) := by decide +kernel
theorem d_RW_gather_18 : decode (mB m_RW_gather) 18 = .ok (.aload 4, 2) := by decide +kernel
theorem d_RW_gather_20 : decode (mB m_RW_gather) 20 = .ok (.getfield 32, 3) := by decide +kernel
theorem d_RW_gather_23 : decode (mB m_RW_gather) 23 = .ok (.ifCond .le (15), 3) := by decide +kernel
theorem d_RW_gather_26 : decode (mB m_RW_gather) 26 = .ok (.aload 4, 2) := by decide +kernel
theorem d_RW_gather_28 : decode (mB m_RW_gather) 28 = .ok (.getfield 37, 3) := by decide +kernel
theorem d_RW_gather_31 : decode (mB m_RW_gather) 31 = .ok (.ifCond .eq (7), 3) := by decide +kernel
theorem d_RW_gather_34 : decode (mB m_RW_gather) 34 = .ok (.iconst 1, 1) := by decide +kernel
theorem d_RW_gather_35 : decode (mB m_RW_gather) 35 = .ok (.goto (4), 3) := by decide +kernel
theorem d_RW_gather_38 : decode (mB m_RW_gather) 38 = .ok (.iconst 0, 1) := by decide +kernel
theorem d_RW_gather_39 : decode (mB m_RW_gather) 39 = .ok (.istore 5, 2) := by decide +kernel
theorem d_RW_gather_41 : decode (mB m_RW_gather) 41 = .ok (.iload 5, 2) := by decide +kernel
theorem d_RW_gather_43 : decode (mB m_RW_gather) 43 = .ok (.ifCond .eq (12), 3) := by decide +kernel
theorem d_RW_gather_46 : decode (mB m_RW_gather) 46 = .ok (.aload 4, 2) := by decide +kernel
theorem d_RW_gather_48 : decode (mB m_RW_gather) 48 = .ok (.iload_n 2, 1) := by decide +kernel
theorem d_RW_gather_49 : decode (mB m_RW_gather) 49 = .ok (.invokevirtual 40, 3) := by decide +kernel
theorem d_RW_gather_52 : decode (mB m_RW_gather) 52 = .ok (.goto (6), 3) := by decide +kernel
theorem d_RW_gather_55 : decode (mB m_RW_gather) 55 = .ok (.ldc2_w 44, 3) := by decide +kernel
theorem d_RW_gather_58 : decode (mB m_RW_gather) 58 = .ok (.lstore 6, 2) := by decide +kernel
theorem d_RW_gather_60 : decode (mB m_RW_gather) 60 = .ok (.lload 6, 2) := by decide +kernel
theorem d_RW_gather_62 : decode (mB m_RW_gather) 62 = .ok (.ldc2_w 44, 3) := by decide +kernel
theorem d_RW_gather_65 : decode (mB m_RW_gather) 65 = .ok (.lcmp, 1) := by decide +kernel
theorem d_RW_gather_66 : decode (mB m_RW_gather) 66 = .ok (.ifCond .ge (77), 3) := by decide +kernel
theorem d_RW_gather_69 : decode (mB m_RW_gather) 69 = .ok (.aload_n 0, 1) := by decide +kernel
theorem d_RW_gather_70 : decode (mB m_RW_gather) 70 = .ok (.getfield 9, 3) := by decide +kernel
theorem d_RW_gather_73 : decode (mB m_RW_gather) 73 = .ok (.aload_n 0, 1) := by decide +kernel
theorem d_RW_gather_74 : decode (mB m_RW_gather) 74 = .ok (.getfield 28, 3) := by decide +kernel
theorem d_RW_gather_77 : decode (mB m_RW_gather) 77 = .ok (.iload_n 3, 1) := by decide +kernel
theorem d_RW_gather_78 : decode (mB m_RW_gather) 78 = .ok (.iastore, 1) := by decide +kernel
theorem d_RW_gather_79 : decode (mB m_RW_gather) 79 = .ok (.aload_n 0, 1) := by decide +kernel
theorem d_RW_gather_80 : decode (mB m_RW_gather) 80 = .ok (.getfield 15, 3) := by decide +kernel
theorem d_RW_gather_83 : decode (mB m_RW_gather) 83 = .ok (.aload_n 0, 1) := by decide +kernel
theorem d_RW_gather_84 : decode (mB m_RW_gather) 84 = .ok (.getfield 28, 3) := by decide +kernel
theorem d_RW_gather_87 : decode (mB m_RW_gather) 87 = .ok (.aload 4, 2) := by decide +kernel
theorem d_RW_gather_89 : decode (mB m_RW_gather) 89 = .ok (.getfield 46, 3) := by decide +kernel
theorem d_RW_gather_92 : decode (mB m_RW_gather) 92 = .ok (.iastore, 1) := by decide +kernel
theorem d_RW_gather_93 : decode (mB m_RW_gather) 93 = .ok (.aload_n 0, 1) := by decide +kernel
theorem d_RW_gather_94 : decode (mB m_RW_gather) 94 = .ok (.getfield 18, 3) := by decide +kernel
theorem d_RW_gather_97 : decode (mB m_RW_gather) 97 = .ok (.aload_n 0, 1) := by decide +kernel
theorem d_RW_gather_98 : decode (mB m_RW_gather) 98 = .ok (.getfield 28, 3) := by decide +kernel
theorem d_RW_gather_101 : decode (mB m_RW_gather) 101 = .ok (.aload 4, 2) := by decide +kernel
theorem d_RW_gather_103 : decode (mB m_RW_gather) 103 = .ok (.iconst 0, 1) := by decide +kernel
theorem d_RW_gather_104 : decode (mB m_RW_gather) 104 = .ok (.invokevirtual 49, 3) := by decide +kernel
theorem d_RW_gather_107 : decode (mB m_RW_gather) 107 = .ok (.lastore, 1) := by decide +kernel
theorem d_RW_gather_108 : decode (mB m_RW_gather) 108 = .ok (.aload_n 0, 1) := by decide +kernel
theorem d_RW_gather_109 : decode (mB m_RW_gather) 109 = .ok (.getfield 22, 3) := by decide +kernel
theorem d_RW_gather_112 : decode (mB m_RW_gather) 112 = .ok (.aload_n 0, 1) := by decide +kernel
theorem d_RW_gather_113 : decode (mB m_RW_gather) 113 = .ok (.getfield 28, 3) := by decide +kernel
theorem d_RW_gather_116 : decode (mB m_RW_gather) 116 = .ok (.lload 6, 2) := by decide +kernel
theorem d_RW_gather_118 : decode (mB m_RW_gather) 118 = .ok (.lastore, 1) := by decide +kernel
theorem d_RW_gather_119 : decode (mB m_RW_gather) 119 = .ok (.aload_n 0, 1) := by decide +kernel
theorem d_RW_gather_120 : decode (mB m_RW_gather) 120 = .ok (.getfield 25, 3) := by decide +kernel
theorem d_RW_gather_123 : decode (mB m_RW_gather) 123 = .ok (.aload_n 0, 1) := by decide +kernel
theorem d_RW_gather_124 : decode (mB m_RW_gather) 124 = .ok (.getfield 28, 3) := by decide +kernel
theorem d_RW_gather_127 : decode (mB m_RW_gather) 127 = .ok (.aload 4, 2) := by decide +kernel
theorem d_RW_gather_129 : decode (mB m_RW_gather) 129 = .ok (.getfield 52, 3) := by decide +kernel
theorem d_RW_gather_132 : decode (mB m_RW_gather) 132 = .ok (.lastore, 1) := by decide +kernel
theorem d_RW_gather_133 : decode (mB m_RW_gather) 133 = .ok (.aload_n 0, 1) := by decide +kernel
theorem d_RW_gather_134 : decode (mB m_RW_gather) 134 = .ok (.dup, 1) := by decide +kernel
theorem d_RW_gather_135 : decode (mB m_RW_gather) 135 = .ok (.getfield 28, 3) := by decide +kernel
theorem d_RW_gather_138 : decode (mB m_RW_gather) 138 = .ok (.iconst 1, 1) := by decide +kernel
theorem d_RW_gather_139 : decode (mB m_RW_gather) 139 = .ok (.iadd, 1) := by decide +kernel
theorem d_RW_gather_140 : decode (mB m_RW_gather) 140 = .ok (.putfield 28, 3) := by decide +kernel
theorem d_RW_gather_143 : decode (mB m_RW_gather) 143 = .ok (.iinc 3 (1), 3) := by decide +kernel
theorem d_RW_gather_146 : decode (mB m_RW_gather) 146 = .ok (.goto (-139), 3) := by decide +kernel
theorem d_RW_gather_149 : decode (mB m_RW_gather) 149 = .ok (.return_, 1) := by decide +kernel
theorem d_RW_bits_0 : decode (mB m_RW_bits) 0 = .ok (.iconst 0, 1) := by decide +kernel
theorem d_RW_bits_1 : decode (mB m_RW_bits) 1 = .ok (.istore_n 1, 1) := by decide +kernel
theorem d_RW_bits_2 : decode (mB m_RW_bits) 2 = .ok (.iconst 0, 1) := by decide +kernel
theorem d_RW_bits_3 : decode (mB m_RW_bits) 3 = .ok (.istore_n 2, 1) := by decide +kernel
theorem d_RW_bits_4 : decode (mB m_RW_bits) 4 = .ok (.iload_n 2, 1) := by decide +kernel
theorem d_RW_bits_5 : decode (mB m_RW_bits) 5 = .ok (.aload_n 0, 1) := by decide +kernel
theorem d_RW_bits_6 : decode (mB m_RW_bits) 6 = .ok (.getfield 28, 3) := by decide +kernel
theorem d_RW_bits_9 : decode (mB m_RW_bits) 9 = .ok (.if_icmp .ge (20), 3) := by decide +kernel
theorem d_RW_bits_12 : decode (mB m_RW_bits) 12 = .ok (.iload_n 1, 1) := by decide +kernel
theorem d_RW_bits_13 : decode (mB m_RW_bits) 13 = .ok (.iconst 1, 1) := by decide +kernel
theorem d_RW_bits_14 : decode (mB m_RW_bits) 14 = .ok (.aload_n 0, 1) := by decide +kernel
theorem d_RW_bits_15 : decode (mB m_RW_bits) 15 = .ok (.getfield 9, 3) := by decide +kernel
theorem d_RW_bits_18 : decode (mB m_RW_bits) 18 = .ok (.iload_n 2, 1) := by decide +kernel
theorem d_RW_bits_19 : decode (mB m_RW_bits) 19 = .ok (.iaload, 1) := by decide +kernel
theorem d_RW_bits_20 : decode (mB m_RW_bits) 20 = .ok (.ishl, 1) := by decide +kernel
theorem d_RW_bits_21 : decode (mB m_RW_bits) 21 = .ok (.ior, 1) := by decide +kernel
theorem d_RW_bits_22 : decode (mB m_RW_bits) 22 = .ok (.istore_n 1, 1) := by decide +kernel
theorem d_RW_bits_23 : decode (mB m_RW_bits) 23 = .ok (.iinc 2 (1), 3) := by decide +kernel
theorem d_RW_bits_26 : decode (mB m_RW_bits) 26 = .ok (.goto (-22), 3) := by decide +kernel
theorem d_RW_bits_29 : decode (mB m_RW_bits) 29 = .ok (.iload_n 1, 1) := by decide +kernel
theorem d_RW_bits_30 : decode (mB m_RW_bits) 30 = .ok (.ireturn, 1) := by decide +kernel
theorem d_RW_lower_0 : decode (mB m_RW_lower) 0 = .ok (.aload_n 0, 1) := by decide +kernel
theorem d_RW_lower_1 : decode (mB m_RW_lower) 1 = .ok (.getfield 18, 3) := by decide +kernel
theorem d_RW_lower_4 : decode (mB m_RW_lower) 4 = .ok (.iload_n 1, 1) := by decide +kernel
theorem d_RW_lower_5 : decode (mB m_RW_lower) 5 = .ok (.laload, 1) := by decide +kernel
theorem d_RW_lower_6 : decode (mB m_RW_lower) 6 = .ok (.aload_n 0, 1) := by decide +kernel
theorem d_RW_lower_7 : decode (mB m_RW_lower) 7 = .ok (.getfield 22, 3) := by decide +kernel
theorem d_RW_lower_10 : decode (mB m_RW_lower) 10 = .ok (.iload_n 1, 1) := by decide +kernel
theorem d_RW_lower_11 : decode (mB m_RW_lower) 11 = .ok (.laload, 1) := by decide +kernel
theorem d_RW_lower_12 : decode (mB m_RW_lower) 12 = .ok (.lsub, 1) := by decide +kernel
theorem d_RW_lower_13 : decode (mB m_RW_lower) 13 = .ok (.lreturn, 1) := by decide +kernel
theorem d_RW_upper_0 : decode (mB m_RW_upper) 0 = .ok (.aload_n 0, 1) := by decide +kernel
theorem d_RW_upper_1 : decode (mB m_RW_upper) 1 = .ok (.getfield 18, 3) := by decide +kernel
theorem d_RW_upper_4 : decode (mB m_RW_upper) 4 = .ok (.iload_n 1, 1) := by decide +kernel
theorem d_RW_upper_5 : decode (mB m_RW_upper) 5 = .ok (.laload, 1) := by decide +kernel
theorem d_RW_upper_6 : decode (mB m_RW_upper) 6 = .ok (.aload_n 0, 1) := by decide +kernel
theorem d_RW_upper_7 : decode (mB m_RW_upper) 7 = .ok (.getfield 22, 3) := by decide +kernel
theorem d_RW_upper_10 : decode (mB m_RW_upper) 10 = .ok (.iload_n 1, 1) := by decide +kernel
theorem d_RW_upper_11 : decode (mB m_RW_upper) 11 = .ok (.laload, 1) := by decide +kernel
theorem d_RW_upper_12 : decode (mB m_RW_upper) 12 = .ok (.ladd, 1) := by decide +kernel
theorem d_RW_upper_13 : decode (mB m_RW_upper) 13 = .ok (.lreturn, 1) := by decide +kernel
theorem d_RW_intervalsAround_0 : decode (mB m_RW_intervalsAround) 0 = .ok (.iconst 0, 1) := by decide +kernel
theorem d_RW_intervalsAround_1 : decode (mB m_RW_intervalsAround) 1 = .ok (.istore_n 3, 1) := by decide +kernel
theorem d_RW_intervalsAround_2 : decode (mB m_RW_intervalsAround) 2 = .ok (.iconst 0, 1) := by decide +kernel
theorem d_RW_intervalsAround_3 : decode (mB m_RW_intervalsAround) 3 = .ok (.istore 4, 2) := by decide +kernel
theorem d_RW_intervalsAround_5 : decode (mB m_RW_intervalsAround) 5 = .ok (.iload 4, 2) := by decide +kernel
theorem d_RW_intervalsAround_7 : decode (mB m_RW_intervalsAround) 7 = .ok (.aload_n 0, 1) := by decide +kernel
theorem d_RW_intervalsAround_8 : decode (mB m_RW_intervalsAround) 8 = .ok (.getfield 28, 3) := by decide +kernel
theorem d_RW_intervalsAround_11 : decode (mB m_RW_intervalsAround) 11 = .ok (.if_icmp .ge (34), 3) := by decide +kernel
theorem d_RW_intervalsAround_14 : decode (mB m_RW_intervalsAround) 14 = .ok (.aload_n 0, 1) := by decide +kernel
theorem d_RW_intervalsAround_15 : decode (mB m_RW_intervalsAround) 15 = .ok (.iload 4, 2) := by decide +kernel
theorem d_RW_intervalsAround_17 : decode (mB m_RW_intervalsAround) 17 = .ok (.invokevirtual 56, 3) := by decide +kernel
theorem d_RW_intervalsAround_20 : decode (mB m_RW_intervalsAround) 20 = .ok (.lload_n 1, 1) := by decide +kernel
theorem d_RW_intervalsAround_21 : decode (mB m_RW_intervalsAround) 21 = .ok (.lcmp, 1) := by decide +kernel
theorem d_RW_intervalsAround_22 : decode (mB m_RW_intervalsAround) 22 = .ok (.ifCond .gt (17), 3) := by decide +kernel
theorem d_RW_intervalsAround_25 : decode (mB m_RW_intervalsAround) 25 = .ok (.lload_n 1, 1) := by decide +kernel
theorem d_RW_intervalsAround_26 : decode (mB m_RW_intervalsAround) 26 = .ok (.aload_n 0, 1) := by decide +kernel
theorem d_RW_intervalsAround_27 : decode (mB m_RW_intervalsAround) 27 = .ok (.iload 4, 2) := by decide +kernel
theorem d_RW_intervalsAround_29 : decode (mB m_RW_intervalsAround) 29 = .ok (.invokevirtual 59, 3) := by decide +kernel
theorem d_RW_intervalsAround_32 : decode (mB m_RW_intervalsAround) 32 = .ok (.lcmp, 1) := by decide +kernel
theorem d_RW_intervalsAround_33 : decode (mB m_RW_intervalsAround) 33 = .ok (.ifCond .gt (6), 3) := by decide +kernel
theorem d_RW_intervalsAround_36 : decode (mB m_RW_intervalsAround) 36 = .ok (.iinc 3 (1), 3) := by decide +kernel
theorem d_RW_intervalsAround_39 : decode (mB m_RW_intervalsAround) 39 = .ok (.iinc 4 (1), 3) := by decide +kernel
theorem d_RW_intervalsAround_42 : decode (mB m_RW_intervalsAround) 42 = .ok (.goto (-37), 3) := by decide +kernel
theorem d_RW_intervalsAround_45 : decode (mB m_RW_intervalsAround) 45 = .ok (.iload_n 3, 1) := by decide +kernel
theorem d_RW_intervalsAround_46 : decode (mB m_RW_intervalsAround) 46 = .ok (.ireturn, 1) := by decide +kernel
theorem d_RW_offsetsWithin_0 : decode (mB m_RW_offsetsWithin) 0 = .ok (.iconst 0, 1) := by decide +kernel
theorem d_RW_offsetsWithin_1 : decode (mB m_RW_offsetsWithin) 1 = .ok (.istore 5, 2) := by decide +kernel
theorem d_RW_offsetsWithin_3 : decode (mB m_RW_offsetsWithin) 3 = .ok (.iconst 0, 1) := by decide +kernel
theorem d_RW_offsetsWithin_4 : decode (mB m_RW_offsetsWithin) 4 = .ok (.istore 6, 2) := by decide +kernel
theorem d_RW_offsetsWithin_6 : decode (mB m_RW_offsetsWithin) 6 = .ok (.iload 6, 2) := by decide +kernel
theorem d_RW_offsetsWithin_8 : decode (mB m_RW_offsetsWithin) 8 = .ok (.aload_n 0, 1) := by decide +kernel
theorem d_RW_offsetsWithin_9 : decode (mB m_RW_offsetsWithin) 9 = .ok (.getfield 28, 3) := by decide +kernel
theorem d_RW_offsetsWithin_12 : decode (mB m_RW_offsetsWithin) 12 = .ok (.if_icmp .ge (36), 3) := by decide +kernel
theorem d_RW_offsetsWithin_15 : decode (mB m_RW_offsetsWithin) 15 = .ok (.lload_n 1, 1) := by decide +kernel
theorem d_RW_offsetsWithin_16 : decode (mB m_RW_offsetsWithin) 16 = .ok (.aload_n 0, 1) := by decide +kernel
theorem d_RW_offsetsWithin_17 : decode (mB m_RW_offsetsWithin) 17 = .ok (.getfield 18, 3) := by decide +kernel
theorem d_RW_offsetsWithin_20 : decode (mB m_RW_offsetsWithin) 20 = .ok (.iload 6, 2) := by decide +kernel
theorem d_RW_offsetsWithin_22 : decode (mB m_RW_offsetsWithin) 22 = .ok (.laload, 1) := by decide +kernel
theorem d_RW_offsetsWithin_23 : decode (mB m_RW_offsetsWithin) 23 = .ok (.lcmp, 1) := by decide +kernel
theorem d_RW_offsetsWithin_24 : decode (mB m_RW_offsetsWithin) 24 = .ok (.ifCond .gt (18), 3) := by decide +kernel
theorem d_RW_offsetsWithin_27 : decode (mB m_RW_offsetsWithin) 27 = .ok (.aload_n 0, 1) := by decide +kernel
theorem d_RW_offsetsWithin_28 : decode (mB m_RW_offsetsWithin) 28 = .ok (.getfield 18, 3) := by decide +kernel
theorem d_RW_offsetsWithin_31 : decode (mB m_RW_offsetsWithin) 31 = .ok (.iload 6, 2) := by decide +kernel
theorem d_RW_offsetsWithin_33 : decode (mB m_RW_offsetsWithin) 33 = .ok (.laload, 1) := by decide +kernel
theorem d_RW_offsetsWithin_34 : decode (mB m_RW_offsetsWithin) 34 = .ok (.lload_n 3, 1) := by decide +kernel
theorem d_RW_offsetsWithin_35 : decode (mB m_RW_offsetsWithin) 35 = .ok (.lcmp, 1) := by decide +kernel
theorem d_RW_offsetsWithin_36 : decode (mB m_RW_offsetsWithin) 36 = .ok (.ifCond .gt (6), 3) := by decide +kernel
theorem d_RW_offsetsWithin_39 : decode (mB m_RW_offsetsWithin) 39 = .ok (.iinc 5 (1), 3) := by decide +kernel
theorem d_RW_offsetsWithin_42 : decode (mB m_RW_offsetsWithin) 42 = .ok (.iinc 6 (1), 3) := by decide +kernel
theorem d_RW_offsetsWithin_45 : decode (mB m_RW_offsetsWithin) 45 = .ok (.goto (-39), 3) := by decide +kernel
theorem d_RW_offsetsWithin_48 : decode (mB m_RW_offsetsWithin) 48 = .ok (.iload 5, 2) := by decide +kernel
theorem d_RW_offsetsWithin_50 : decode (mB m_RW_offsetsWithin) 50 = .ok (.ireturn, 1) := by decide +kernel
theorem d_RW_keepWithin_0 : decode (mB m_RW_keepWithin) 0 = .ok (.aload_n 0, 1) := by decide +kernel
theorem d_RW_keepWithin_1 : decode (mB m_RW_keepWithin) 1 = .ok (.getfield 28, 3) := by decide +kernel
theorem d_RW_keepWithin_4 : decode (mB m_RW_keepWithin) 4 = .ok (.iconst 1, 1) := by decide +kernel
theorem d_RW_keepWithin_5 : decode (mB m_RW_keepWithin) 5 = .ok (.isub, 1) := by decide +kernel
theorem d_RW_keepWithin_6 : decode (mB m_RW_keepWithin) 6 = .ok (.istore 5, 2) := by decide +kernel
theorem d_RW_keepWithin_8 : decode (mB m_RW_keepWithin) 8 = .ok (.iload 5, 2) := by decide +kernel
theorem d_RW_keepWithin_10 : decode (mB m_RW_keepWithin) 10 = .ok (.ifCond .lt (39), 3) := by decide +kernel
theorem d_RW_keepWithin_13 : decode (mB m_RW_keepWithin) 13 = .ok (.aload_n 0, 1) := by decide +kernel
theorem d_RW_keepWithin_14 : decode (mB m_RW_keepWithin) 14 = .ok (.getfield 18, 3) := by decide +kernel
theorem d_RW_keepWithin_17 : decode (mB m_RW_keepWithin) 17 = .ok (.iload 5, 2) := by decide +kernel
theorem d_RW_keepWithin_19 : decode (mB m_RW_keepWithin) 19 = .ok (.laload, 1) := by decide +kernel
theorem d_RW_keepWithin_20 : decode (mB m_RW_keepWithin) 20 = .ok (.lload_n 1, 1) := by decide +kernel
theorem d_RW_keepWithin_21 : decode (mB m_RW_keepWithin) 21 = .ok (.lcmp, 1) := by decide +kernel
theorem d_RW_keepWithin_22 : decode (mB m_RW_keepWithin) 22 = .ok (.ifCond .lt (15), 3) := by decide +kernel
theorem d_RW_keepWithin_25 : decode (mB m_RW_keepWithin) 25 = .ok (.aload_n 0, 1) := by decide +kernel
theorem d_RW_keepWithin_26 : decode (mB m_RW_keepWithin) 26 = .ok (.getfield 18, 3) := by decide +kernel
theorem d_RW_keepWithin_29 : decode (mB m_RW_keepWithin) 29 = .ok (.iload 5, 2) := by decide +kernel
theorem d_RW_keepWithin_31 : decode (mB m_RW_keepWithin) 31 = .ok (.laload, 1) := by decide +kernel
theorem d_RW_keepWithin_32 : decode (mB m_RW_keepWithin) 32 = .ok (.lload_n 3, 1) := by decide +kernel
theorem d_RW_keepWithin_33 : decode (mB m_RW_keepWithin) 33 = .ok (.lcmp, 1) := by decide +kernel
theorem d_RW_keepWithin_34 : decode (mB m_RW_keepWithin) 34 = .ok (.ifCond .le (9), 3) := by decide +kernel
theorem d_RW_keepWithin_37 : decode (mB m_RW_keepWithin) 37 = .ok (.aload_n 0, 1) := by decide +kernel
theorem d_RW_keepWithin_38 : decode (mB m_RW_keepWithin) 38 = .ok (.iload 5, 2) := by decide +kernel
theorem d_RW_keepWithin_40 : decode (mB m_RW_keepWithin) 40 = .ok (.invokevirtual 62, 3) := by decide +kernel
theorem d_RW_keepWithin_43 : decode (mB m_RW_keepWithin) 43 = .ok (.iinc 5 (-1), 3) := by decide +kernel
theorem d_RW_keepWithin_46 : decode (mB m_RW_keepWithin) 46 = .ok (.goto (-38), 3) := by decide +kernel
theorem d_RW_keepWithin_49 : decode (mB m_RW_keepWithin) 49 = .ok (.return_, 1) := by decide +kernel
theorem d_RW_remove_0 : decode (mB m_RW_remove) 0 = .ok (.aload_n 0, 1) := by decide +kernel
theorem d_RW_remove_1 : decode (mB m_RW_remove) 1 = .ok (.dup, 1) := by decide +kernel
theorem d_RW_remove_2 : decode (mB m_RW_remove) 2 = .ok (.getfield 28, 3) := by decide +kernel
theorem d_RW_remove_5 : decode (mB m_RW_remove) 5 = .ok (.iconst 1, 1) := by decide +kernel
theorem d_RW_remove_6 : decode (mB m_RW_remove) 6 = .ok (.isub, 1) := by decide +kernel
theorem d_RW_remove_7 : decode (mB m_RW_remove) 7 = .ok (.putfield 28, 3) := by decide +kernel
theorem d_RW_remove_10 : decode (mB m_RW_remove) 10 = .ok (.iload_n 1, 1) := by decide +kernel
theorem d_RW_remove_11 : decode (mB m_RW_remove) 11 = .ok (.istore_n 2, 1) := by decide +kernel
theorem d_RW_remove_12 : decode (mB m_RW_remove) 12 = .ok (.iload_n 2, 1) := by decide +kernel
theorem d_RW_remove_13 : decode (mB m_RW_remove) 13 = .ok (.aload_n 0, 1) := by decide +kernel
theorem d_RW_remove_14 : decode (mB m_RW_remove) 14 = .ok (.getfield 28, 3) := by decide +kernel
theorem d_RW_remove_17 : decode (mB m_RW_remove) 17 = .ok (.if_icmp .ge (79), 3) := by decide +kernel
theorem d_RW_remove_20 : decode (mB m_RW_remove) 20 = .ok (.aload_n 0, 1) := by decide +kernel
theorem d_RW_remove_21 : decode (mB m_RW_remove) 21 = .ok (.getfield 9, 3) := by decide +kernel
theorem d_RW_remove_24 : decode (mB m_RW_remove) 24 = .ok (.iload_n 2, 1) := by decide +kernel
theorem d_RW_remove_25 : decode (mB m_RW_remove) 25 = .ok (.aload_n 0, 1) := by decide +kernel
theorem d_RW_remove_26 : decode (mB m_RW_remove) 26 = .ok (.getfield 9, 3) := by decide +kernel
theorem d_RW_remove_29 : decode (mB m_RW_remove) 29 = .ok (.iload_n 2, 1) := by decide +kernel
theorem d_RW_remove_30 : decode (mB m_RW_remove) 30 = .ok (.iconst 1, 1) := by decide +kernel
theorem d_RW_remove_31 : decode (mB m_RW_remove) 31 = .ok (.iadd, 1) := by decide +kernel
theorem d_RW_remove_32 : decode (mB m_RW_remove) 32 = .ok (.iaload, 1) := by decide +kernel
theorem d_RW_remove_33 : decode (mB m_RW_remove) 33 = .ok (.iastore, 1) := by decide +kernel
theorem d_RW_remove_34 : decode (mB m_RW_remove) 34 = .ok (.aload_n 0, 1) := by decide +kernel
theorem d_RW_remove_35 : decode (mB m_RW_remove) 35 = .ok (.getfield 15, 3) := by decide +kernel
theorem d_RW_remove_38 : decode (mB m_RW_remove) 38 = .ok (.iload_n 2, 1) := by decide +kernel
theorem d_RW_remove_39 : decode (mB m_RW_remove) 39 = .ok (.aload_n 0, 1) := by decide +kernel
theorem d_RW_remove_40 : decode (mB m_RW_remove) 40 = .ok (.getfield 15, 3) := by decide +kernel
theorem d_RW_remove_43 : decode (mB m_RW_remove) 43 = .ok (.iload_n 2, 1) := by decide +kernel
theorem d_RW_remove_44 : decode (mB m_RW_remove) 44 = .ok (.iconst 1, 1) := by decide +kernel
theorem d_RW_remove_45 : decode (mB m_RW_remove) 45 = .ok (.iadd, 1) := by decide +kernel
theorem d_RW_remove_46 : decode (mB m_RW_remove) 46 = .ok (.iaload, 1) := by decide +kernel
theorem d_RW_remove_47 : decode (mB m_RW_remove) 47 = .ok (.iastore, 1) := by decide +kernel
theorem d_RW_remove_48 : decode (mB m_RW_remove) 48 = .ok (.aload_n 0, 1) := by decide +kernel
theorem d_RW_remove_49 : decode (mB m_RW_remove) 49 = .ok (.getfield 18, 3) := by decide +kernel
theorem d_RW_remove_52 : decode (mB m_RW_remove) 52 = .ok (.iload_n 2, 1) := by decide +kernel
theorem d_RW_remove_53 : decode (mB m_RW_remove) 53 = .ok (.aload_n 0, 1) := by decide +kernel
theorem d_RW_remove_54 : decode (mB m_RW_remove) 54 = .ok (.getfield 18, 3) := by decide +kernel
theorem d_RW_remove_57 : decode (mB m_RW_remove) 57 = .ok (.iload_n 2, 1) := by decide +kernel
theorem d_RW_remove_58 : decode (mB m_RW_remove) 58 = .ok (.iconst 1, 1) := by decide +kernel
theorem d_RW_remove_59 : decode (mB m_RW_remove) 59 = .ok (.iadd, 1) := by decide +kernel
theorem d_RW_remove_60 : decode (mB m_RW_remove) 60 = .ok (.laload, 1) := by decide +kernel
theorem d_RW_remove_61 : decode (mB m_RW_remove) 61 = .ok (.lastore, 1) := by decide +kernel
theorem d_RW_remove_62 : decode (mB m_RW_remove) 62 = .ok (.aload_n 0, 1) := by decide +kernel
theorem d_RW_remove_63 : decode (mB m_RW_remove) 63 = .ok (.getfield 22, 3) := by decide +kernel
theorem d_RW_remove_66 : decode (mB m_RW_remove) 66 = .ok (.iload_n 2, 1) := by decide +kernel
theorem d_RW_remove_67 : decode (mB m_RW_remove) 67 = .ok (.aload_n 0, 1) := by decide +kernel
theorem d_RW_remove_68 : decode (mB m_RW_remove) 68 = .ok (.getfield 22, 3) := by decide +kernel
theorem d_RW_remove_71 : decode (mB m_RW_remove) 71 = .ok (.iload_n 2, 1) := by decide +kernel
theorem d_RW_remove_72 : decode (mB m_RW_remove) 72 = .ok (.iconst 1, 1) := by decide +kernel
theorem d_RW_remove_73 : decode (mB m_RW_remove) 73 = .ok (.iadd, 1) := by decide +kernel
theorem d_RW_remove_74 : decode (mB m_RW_remove) 74 = .ok (.laload, 1) := by decide +kernel
theorem d_RW_remove_75 : decode (mB m_RW_remove) 75 = .ok (.lastore, 1) := by decide +kernel
theorem d_RW_remove_76 : decode (mB m_RW_remove) 76 = .ok (.aload_n 0, 1) := by decide +kernel
theorem d_RW_remove_77 : decode (mB m_RW_remove) 77 = .ok (.getfield 25, 3) := by decide +kernel
theorem d_RW_remove_80 : decode (mB m_RW_remove) 80 = .ok (.iload_n 2, 1) := by decide +kernel
theorem d_RW_remove_81 : decode (mB m_RW_remove) 81 = .ok (.aload_n 0, 1) := by decide +kernel
theorem d_RW_remove_82 : decode (mB m_RW_remove) 82 = .ok (.getfield 25, 3) := by decide +kernel
theorem d_RW_remove_85 : decode (mB m_RW_remove) 85 = .ok (.iload_n 2, 1) := by decide +kernel
theorem d_RW_remove_86 : decode (mB m_RW_remove) 86 = .ok (.iconst 1, 1) := by decide +kernel
theorem d_RW_remove_87 : decode (mB m_RW_remove) 87 = .ok (.iadd, 1) := by decide +kernel
theorem d_RW_remove_88 : decode (mB m_RW_remove) 88 = .ok (.laload, 1) := by decide +kernel
theorem d_RW_remove_89 : decode (mB m_RW_remove) 89 = .ok (.lastore, 1) := by decide +kernel
theorem d_RW_remove_90 : decode (mB m_RW_remove) 90 = .ok (.iinc 2 (1), 3) := by decide +kernel
theorem d_RW_remove_93 : decode (mB m_RW_remove) 93 = .ok (.goto (-81), 3) := by decide +kernel
theorem d_RW_remove_96 : decode (mB m_RW_remove) 96 = .ok (.return_, 1) := by decide +kernel
theorem d_RW_sortByRank_0 : decode (mB m_RW_sortByRank) 0 = .ok (.iconst 1, 1) := by decide +kernel
theorem d_RW_sortByRank_1 : decode (mB m_RW_sortByRank) 1 = .ok (.istore_n 1, 1) := by decide +kernel
theorem d_RW_sortByRank_2 : decode (mB m_RW_sortByRank) 2 = .ok (.iload_n 1, 1) := by decide +kernel
theorem d_RW_sortByRank_3 : decode (mB m_RW_sortByRank) 3 = .ok (.aload_n 0, 1) := by decide +kernel
theorem d_RW_sortByRank_4 : decode (mB m_RW_sortByRank) 4 = .ok (.getfield 28, 3) := by decide +kernel
theorem d_RW_sortByRank_7 : decode (mB m_RW_sortByRank) 7 = .ok (.if_icmp .ge (44), 3) := by decide +kernel
theorem d_RW_sortByRank_10 : decode (mB m_RW_sortByRank) 10 = .ok (.iload_n 1, 1) := by decide +kernel
theorem d_RW_sortByRank_11 : decode (mB m_RW_sortByRank) 11 = .ok (.istore_n 2, 1) := by decide +kernel
theorem d_RW_sortByRank_12 : decode (mB m_RW_sortByRank) 12 = .ok (.iload_n 2, 1) := by decide +kernel
theorem d_RW_sortByRank_13 : decode (mB m_RW_sortByRank) 13 = .ok (.ifCond .le (32), 3) := by decide +kernel
theorem d_RW_sortByRank_16 : decode (mB m_RW_sortByRank) 16 = .ok (.aload_n 0, 1) := by decide +kernel
theorem d_RW_sortByRank_17 : decode (mB m_RW_sortByRank) 17 = .ok (.iload_n 2, 1) := by decide +kernel
theorem d_RW_sortByRank_18 : decode (mB m_RW_sortByRank) 18 = .ok (.iconst 1, 1) := by decide +kernel
theorem d_RW_sortByRank_19 : decode (mB m_RW_sortByRank) 19 = .ok (.isub, 1) := by decide +kernel
theorem d_RW_sortByRank_20 : decode (mB m_RW_sortByRank) 20 = .ok (.invokevirtual 66, 3) := by decide +kernel
theorem d_RW_sortByRank_23 : decode (mB m_RW_sortByRank) 23 = .ok (.aload_n 0, 1) := by decide +kernel
theorem d_RW_sortByRank_24 : decode (mB m_RW_sortByRank) 24 = .ok (.iload_n 2, 1) := by decide +kernel
theorem d_RW_sortByRank_25 : decode (mB m_RW_sortByRank) 25 = .ok (.invokevirtual 66, 3) := by decide +kernel
theorem d_RW_sortByRank_28 : decode (mB m_RW_sortByRank) 28 = .ok (.lcmp, 1) := by decide +kernel
theorem d_RW_sortByRank_29 : decode (mB m_RW_sortByRank) 29 = .ok (.ifCond .le (16), 3) := by decide +kernel
theorem d_RW_sortByRank_32 : decode (mB m_RW_sortByRank) 32 = .ok (.aload_n 0, 1) := by decide +kernel
theorem d_RW_sortByRank_33 : decode (mB m_RW_sortByRank) 33 = .ok (.iload_n 2, 1) := by decide +kernel
theorem d_RW_sortByRank_34 : decode (mB m_RW_sortByRank) 34 = .ok (.iconst 1, 1) := by decide +kernel
theorem d_RW_sortByRank_35 : decode (mB m_RW_sortByRank) 35 = .ok (.isub, 1) := by decide +kernel
theorem d_RW_sortByRank_36 : decode (mB m_RW_sortByRank) 36 = .ok (.invokevirtual 69, 3) := by decide +kernel
theorem d_RW_sortByRank_39 : decode (mB m_RW_sortByRank) 39 = .ok (.iinc 2 (-1), 3) := by decide +kernel
theorem d_RW_sortByRank_42 : decode (mB m_RW_sortByRank) 42 = .ok (.goto (-30), 3) := by decide +kernel
theorem d_RW_sortByRank_45 : decode (mB m_RW_sortByRank) 45 = .ok (.iinc 1 (1), 3) := by decide +kernel
theorem d_RW_sortByRank_48 : decode (mB m_RW_sortByRank) 48 = .ok (.goto (-46), 3) := by decide +kernel
theorem d_RW_sortByRank_51 : decode (mB m_RW_sortByRank) 51 = .ok (.return_, 1) := by decide +kernel
theorem d_RW_rank_0 : decode (mB m_RW_rank) 0 = .ok (.aload_n 0, 1) := by decide +kernel
theorem d_RW_rank_1 : decode (mB m_RW_rank) 1 = .ok (.getfield 15, 3) := by decide +kernel
theorem d_RW_rank_4 : decode (mB m_RW_rank) 4 = .ok (.iload_n 1, 1) := by decide +kernel
theorem d_RW_rank_5 : decode (mB m_RW_rank) 5 = .ok (.iaload, 1) := by decide +kernel
theorem d_RW_rank_6 : decode (mB m_RW_rank) 6 = .ok (.i2l, 1) := by decide +kernel
theorem d_RW_rank_7 : decode (mB m_RW_rank) 7 = .ok (.ldc2_w 44, 3) := by decide +kernel
theorem d_RW_rank_10 : decode (mB m_RW_rank) 10 = .ok (.lmul, 1) := by decide +kernel
theorem d_RW_rank_11 : decode (mB m_RW_rank) 11 = .ok (.aload_n 0, 1) := by decide +kernel
theorem d_RW_rank_12 : decode (mB m_RW_rank) 12 = .ok (.getfield 22, 3) := by decide +kernel
theorem d_RW_rank_15 : decode (mB m_RW_rank) 15 = .ok (.iload_n 1, 1) := by decide +kernel
theorem d_RW_rank_16 : decode (mB m_RW_rank) 16 = .ok (.laload, 1) := by decide +kernel
theorem d_RW_rank_17 : decode (mB m_RW_rank) 17 = .ok (.ladd, 1) := by decide +kernel
theorem d_RW_rank_18 : decode (mB m_RW_rank) 18 = .ok (.lreturn, 1) := by decide +kernel
theorem d_RW_swapWithNext_0 : decode (mB m_RW_swapWithNext) 0 = .ok (.aload_n 0, 1) := by decide +kernel
theorem d_RW_swapWithNext_1 : decode (mB m_RW_swapWithNext) 1 = .ok (.getfield 9, 3) := by decide +kernel
theorem d_RW_swapWithNext_4 : decode (mB m_RW_swapWithNext) 4 = .ok (.iload_n 1, 1) := by decide +kernel
theorem d_RW_swapWithNext_5 : decode (mB m_RW_swapWithNext) 5 = .ok (.invokestatic 72, 3) := by decide +kernel
theorem d_RW_swapWithNext_8 : decode (mB m_RW_swapWithNext) 8 = .ok (.aload_n 0, 1) := by decide +kernel
theorem d_RW_swapWithNext_9 : decode (mB m_RW_swapWithNext) 9 = .ok (.getfield 15, 3) := by decide +kernel
theorem d_RW_swapWithNext_12 : decode (mB m_RW_swapWithNext) 12 = .ok (.iload_n 1, 1) := by decide +kernel
theorem d_RW_swapWithNext_13 : decode (mB m_RW_swapWithNext) 13 = .ok (.invokestatic 72, 3) := by decide +kernel
theorem d_RW_swapWithNext_16 : decode (mB m_RW_swapWithNext) 16 = .ok (.aload_n 0, 1) := by decide +kernel
theorem d_RW_swapWithNext_17 : decode (mB m_RW_swapWithNext) 17 = .ok (.getfield 18, 3) := by decide +kernel
theorem d_RW_swapWithNext_20 : decode (mB m_RW_swapWithNext) 20 = .ok (.iload_n 1, 1) := by decide +kernel
theorem d_RW_swapWithNext_21 : decode (mB m_RW_swapWithNext) 21 = .ok (.invokestatic 76, 3) := by decide +kernel
theorem d_RW_swapWithNext_24 : decode (mB m_RW_swapWithNext) 24 = .ok (.aload_n 0, 1) := by decide +kernel
theorem d_RW_swapWithNext_25 : decode (mB m_RW_swapWithNext) 25 = .ok (.getfield 22, 3) := by decide +kernel
theorem d_RW_swapWithNext_28 : decode (mB m_RW_swapWithNext) 28 = .ok (.iload_n 1, 1) := by decide +kernel
theorem d_RW_swapWithNext_29 : decode (mB m_RW_swapWithNext) 29 = .ok (.invokestatic 76, 3) := by decide +kernel
theorem d_RW_swapWithNext_32 : decode (mB m_RW_swapWithNext) 32 = .ok (.aload_n 0, 1) := by decide +kernel
theorem d_RW_swapWithNext_33 : decode (mB m_RW_swapWithNext) 33 = .ok (.getfield 25, 3) := by decide +kernel
theorem d_RW_swapWithNext_36 : decode (mB m_RW_swapWithNext) 36 = .ok (.iload_n 1, 1) := by decide +kernel
theorem d_RW_swapWithNext_37 : decode (mB m_RW_swapWithNext) 37 = .ok (.invokestatic 76, 3) := by decide +kernel
theorem d_RW_swapWithNext_40 : decode (mB m_RW_swapWithNext) 40 = .ok (.return_, 1) := by decide +kernel
theorem d_RW_swap_aII_0 : decode (mB m_RW_swap_aII) 0 = .ok (.aload_n 0, 1) := by decide +kernel
theorem d_RW_swap_aII_1 : decode (mB m_RW_swap_aII) 1 = .ok (.iload_n 1, 1) := by decide +kernel
theorem d_RW_swap_aII_2 : decode (mB m_RW_swap_aII) 2 = .ok (.iaload, 1) := by decide +kernel
theorem d_RW_swap_aII_3 : decode (mB m_RW_swap_aII) 3 = .ok (.istore_n 2, 1) := by decide +kernel
theorem d_RW_swap_aII_4 : decode (mB m_RW_swap_aII) 4 = .ok (.aload_n 0, 1) := by decide +kernel
theorem d_RW_swap_aII_5 : decode (mB m_RW_swap_aII) 5 = .ok (.iload_n 1, 1) := by decide +kernel
theorem d_RW_swap_aII_6 : decode (mB m_RW_swap_aII) 6 = .ok (.aload_n 0, 1) := by decide +kernel
theorem d_RW_swap_aII_7 : decode (mB m_RW_swap_aII) 7 = .ok (.iload_n 1, 1) := by decide +kernel
theorem d_RW_swap_aII_8 : decode (mB m_RW_swap_aII) 8 = .ok (.iconst 1, 1) := by decide +kernel
theorem d_RW_swap_aII_9 : decode (mB m_RW_swap_aII) 9 = .ok (.iadd, 1) := by decide +kernel
theorem d_RW_swap_aII_10 : decode (mB m_RW_swap_aII) 10 = .ok (.iaload, 1) := by decide +kernel
theorem d_RW_swap_aII_11 : decode (mB m_RW_swap_aII) 11 = .ok (.iastore, 1) := by decide +kernel
theorem d_RW_swap_aII_12 : decode (mB m_RW_swap_aII) 12 = .ok (.aload_n 0, 1) := by decide +kernel
theorem d_RW_swap_aII_13 : decode (mB m_RW_swap_aII) 13 = .ok (.iload_n 1, 1) := by decide +kernel
theorem d_RW_swap_aII_14 : decode (mB m_RW_swap_aII) 14 = .ok (.iconst 1, 1) := by decide +kernel
theorem d_RW_swap_aII_15 : decode (mB m_RW_swap_aII) 15 = .ok (.iadd, 1) := by decide +kernel
theorem d_RW_swap_aII_16 : decode (mB m_RW_swap_aII) 16 = .ok (.iload_n 2, 1) := by decide +kernel
theorem d_RW_swap_aII_17 : decode (mB m_RW_swap_aII) 17 = .ok (.iastore, 1) := by decide +kernel
theorem d_RW_swap_aII_18 : decode (mB m_RW_swap_aII) 18 = .ok (.return_, 1) := by decide +kernel
theorem d_RW_swap_aJI_0 : decode (mB m_RW_swap_aJI) 0 = .ok (.aload_n 0, 1) := by decide +kernel
theorem d_RW_swap_aJI_1 : decode (mB m_RW_swap_aJI) 1 = .ok (.iload_n 1, 1) := by decide +kernel
theorem d_RW_swap_aJI_2 : decode (mB m_RW_swap_aJI) 2 = .ok (.laload, 1) := by decide +kernel
theorem d_RW_swap_aJI_3 : decode (mB m_RW_swap_aJI) 3 = .ok (.lstore_n 2, 1) := by decide +kernel
theorem d_RW_swap_aJI_4 : decode (mB m_RW_swap_aJI) 4 = .ok (.aload_n 0, 1) := by decide +kernel
theorem d_RW_swap_aJI_5 : decode (mB m_RW_swap_aJI) 5 = .ok (.iload_n 1, 1) := by decide +kernel
theorem d_RW_swap_aJI_6 : decode (mB m_RW_swap_aJI) 6 = .ok (.aload_n 0, 1) := by decide +kernel
theorem d_RW_swap_aJI_7 : decode (mB m_RW_swap_aJI) 7 = .ok (.iload_n 1, 1) := by decide +kernel
theorem d_RW_swap_aJI_8 : decode (mB m_RW_swap_aJI) 8 = .ok (.iconst 1, 1) := by decide +kernel
theorem d_RW_swap_aJI_9 : decode (mB m_RW_swap_aJI) 9 = .ok (.iadd, 1) := by decide +kernel
theorem d_RW_swap_aJI_10 : decode (mB m_RW_swap_aJI) 10 = .ok (.laload, 1) := by decide +kernel
theorem d_RW_swap_aJI_11 : decode (mB m_RW_swap_aJI) 11 = .ok (.lastore, 1) := by decide +kernel
theorem d_RW_swap_aJI_12 : decode (mB m_RW_swap_aJI) 12 = .ok (.aload_n 0, 1) := by decide +kernel
theorem d_RW_swap_aJI_13 : decode (mB m_RW_swap_aJI) 13 = .ok (.iload_n 1, 1) := by decide +kernel
theorem d_RW_swap_aJI_14 : decode (mB m_RW_swap_aJI) 14 = .ok (.iconst 1, 1) := by decide +kernel
theorem d_RW_swap_aJI_15 : decode (mB m_RW_swap_aJI) 15 = .ok (.iadd, 1) := by decide +kernel
theorem d_RW_swap_aJI_16 : decode (mB m_RW_swap_aJI) 16 = .ok (.lload_n 2, 1) := by decide +kernel
theorem d_RW_swap_aJI_17 : decode (mB m_RW_swap_aJI) 17 = .ok (.lastore, 1) := by decide +kernel
theorem d_RW_swap_aJI_18 : decode (mB m_RW_swap_aJI) 18 = .ok (.return_, 1) := by decide +kernel
theorem d_RW_spreadAround_0 : decode (mB m_RW_spreadAround) 0 = .ok (.aload_n 0, 1) := by decide +kernel
theorem d_RW_spreadAround_1 : decode (mB m_RW_spreadAround) 1 = .ok (.getfield 18, 3) := by decide +kernel
theorem d_RW_spreadAround_4 : decode (mB m_RW_spreadAround) 4 = .ok (.aload_n 0, 1) := by decide +kernel
theorem d_RW_spreadAround_5 : decode (mB m_RW_spreadAround) 5 = .ok (.getfield 28, 3) := by decide +kernel
theorem d_RW_spreadAround_8 : decode (mB m_RW_spreadAround) 8 = .ok (.aload_n 0, 1) := by decide +kernel
theorem d_RW_spreadAround_9 : decode (mB m_RW_spreadAround) 9 = .ok (.getfield 18, 3) := by decide +kernel
theorem d_RW_spreadAround_12 : decode (mB m_RW_spreadAround) 12 = .ok (.iload_n 1, 1) := by decide +kernel
theorem d_RW_spreadAround_13 : decode (mB m_RW_spreadAround) 13 = .ok (.laload, 1) := by decide +kernel
theorem d_RW_spreadAround_14 : decode (mB m_RW_spreadAround) 14 = .ok (.iload_n 1, 1) := by decide +kernel
theorem d_RW_spreadAround_15 : decode (mB m_RW_spreadAround) 15 = .ok (.invokestatic 79, 3) := by decide +kernel
theorem d_RW_spreadAround_18 : decode (mB m_RW_spreadAround) 18 = .ok (.lreturn, 1) := by decide +kernel
theorem d_RW_placeOfGreatestSpread_0 : decode (mB m_RW_placeOfGreatestSpread) 0 = .ok (.iconst 0, 1) := by decide +kernel
theorem d_RW_placeOfGreatestSpread_1 : decode (mB m_RW_placeOfGreatestSpread) 1 = .ok (.istore_n 1, 1) := by decide +kernel
theorem d_RW_placeOfGreatestSpread_2 : decode (mB m_RW_placeOfGreatestSpread) 2 = .ok (.aload_n 0, 1) := by decide +kernel
theorem d_RW_placeOfGreatestSpread_3 : decode (mB m_RW_placeOfGreatestSpread) 3 = .ok (.iconst 0, 1) := by decide +kernel
theorem d_RW_placeOfGreatestSpread_4 : decode (mB m_RW_placeOfGreatestSpread) 4 = .ok (.invokevirtual 83, 3) := by decide +kernel
theorem d_RW_placeOfGreatestSpread_7 : decode (mB m_RW_placeOfGreatestSpread) 7 = .ok (.lstore_n 2, 1) := by decide +kernel
theorem d_RW_placeOfGreatestSpread_8 : decode (mB m_RW_placeOfGreatestSpread) 8 = .ok (.iconst 1, 1) := by decide +kernel
theorem d_RW_placeOfGreatestSpread_9 : decode (mB m_RW_placeOfGreatestSpread) 9 = .ok (.istore 4, 2) := by decide +kernel
theorem d_RW_placeOfGreatestSpread_11 : decode (mB m_RW_placeOfGreatestSpread) 11 = .ok (.iload 4, 2) := by decide +kernel
theorem d_RW_placeOfGreatestSpread_13 : decode (mB m_RW_placeOfGreatestSpread) 13 = .ok (.aload_n 0, 1) := by decide +kernel
theorem d_RW_placeOfGreatestSpread_14 : decode (mB m_RW_placeOfGreatestSpread) 14 = .ok (.getfield 28, 3) := by decide +kernel
theorem d_RW_placeOfGreatestSpread_17 : decode (mB m_RW_placeOfGreatestSpread) 17 = .ok (.if_icmp .ge (30), 3) := by decide +kernel
theorem d_RW_placeOfGreatestSpread_20 : decode (mB m_RW_placeOfGreatestSpread) 20 = .ok (.aload_n 0, 1) := by decide +kernel
theorem d_RW_placeOfGreatestSpread_21 : decode (mB m_RW_placeOfGreatestSpread) 21 = .ok (.iload 4, 2) := by decide +kernel
theorem d_RW_placeOfGreatestSpread_23 : decode (mB m_RW_placeOfGreatestSpread) 23 = .ok (.invokevirtual 83, 3) := by decide +kernel
theorem d_RW_placeOfGreatestSpread_26 : decode (mB m_RW_placeOfGreatestSpread) 26 = .ok (.lstore 5, 2) := by decide +kernel
theorem d_RW_placeOfGreatestSpread_28 : decode (mB m_RW_placeOfGreatestSpread) 28 = .ok (.lload 5, 2) := by decide +kernel
theorem d_RW_placeOfGreatestSpread_30 : decode (mB m_RW_placeOfGreatestSpread) 30 = .ok (.lload_n 2, 1) := by decide +kernel
theorem d_RW_placeOfGreatestSpread_31 : decode (mB m_RW_placeOfGreatestSpread) 31 = .ok (.lcmp, 1) := by decide +kernel
theorem d_RW_placeOfGreatestSpread_32 : decode (mB m_RW_placeOfGreatestSpread) 32 = .ok (.ifCond .lt (9), 3) := by decide +kernel
theorem d_RW_placeOfGreatestSpread_35 : decode (mB m_RW_placeOfGreatestSpread) 35 = .ok (.lload 5, 2) := by decide +kernel
theorem d_RW_placeOfGreatestSpread_37 : decode (mB m_RW_placeOfGreatestSpread) 37 = .ok (.lstore_n 2, 1) := by decide +kernel
theorem d_RW_placeOfGreatestSpread_38 : decode (mB m_RW_placeOfGreatestSpread) 38 = .ok (.iload 4, 2) := by decide +kernel
theorem d_RW_placeOfGreatestSpread_40 : decode (mB m_RW_placeOfGreatestSpread) 40 = .ok (.istore_n 1, 1) := by decide +kernel
theorem d_RW_placeOfGreatestSpread_41 : decode (mB m_RW_placeOfGreatestSpread) 41 = .ok (.iinc 4 (1), 3) := by decide +kernel
theorem d_RW_placeOfGreatestSpread_44 : decode (mB m_RW_placeOfGreatestSpread) 44 = .ok (.goto (-33), 3) := by decide +kernel
theorem d_RW_placeOfGreatestSpread_47 : decode (mB m_RW_placeOfGreatestSpread) 47 = .ok (.iload_n 1, 1) := by decide +kernel
theorem d_RW_placeOfGreatestSpread_48 : decode (mB m_RW_placeOfGreatestSpread) 48 = .ok (.ireturn, 1) := by decide +kernel
theorem d_RW_leastJitter_0 : decode (mB m_RW_leastJitter) 0 = .ok (.aload_n 0, 1) := by decide +kernel
theorem d_RW_leastJitter_1 : decode (mB m_RW_leastJitter) 1 = .ok (.getfield 25, 3) := by decide +kernel
theorem d_RW_leastJitter_4 : decode (mB m_RW_leastJitter) 4 = .ok (.iconst 0, 1) := by decide +kernel
theorem d_RW_leastJitter_5 : decode (mB m_RW_leastJitter) 5 = .ok (.laload, 1) := by decide +kernel
theorem d_RW_leastJitter_6 : decode (mB m_RW_leastJitter) 6 = .ok (.lstore_n 1, 1) := by decide +kernel
theorem d_RW_leastJitter_7 : decode (mB m_RW_leastJitter) 7 = .ok (.iconst 1, 1) := by decide +kernel
theorem d_RW_leastJitter_8 : decode (mB m_RW_leastJitter) 8 = .ok (.istore_n 3, 1) := by decide +kernel
theorem d_RW_leastJitter_9 : decode (mB m_RW_leastJitter) 9 = .ok (.iload_n 3, 1) := by decide +kernel
theorem d_RW_leastJitter_10 : decode (mB m_RW_leastJitter) 10 = .ok (.aload_n 0, 1) := by decide +kernel
theorem d_RW_leastJitter_11 : decode (mB m_RW_leastJitter) 11 = .ok (.getfield 28, 3) := by decide +kernel
theorem d_RW_leastJitter_14 : decode (mB m_RW_leastJitter) 14 = .ok (.if_icmp .ge (20), 3) := by decide +kernel
theorem d_RW_leastJitter_17 : decode (mB m_RW_leastJitter) 17 = .ok (.lload_n 1, 1) := by decide +kernel
theorem d_RW_leastJitter_18 : decode (mB m_RW_leastJitter) 18 = .ok (.aload_n 0, 1) := by decide +kernel
theorem d_RW_leastJitter_19 : decode (mB m_RW_leastJitter) 19 = .ok (.getfield 25, 3) := by decide +kernel
theorem d_RW_leastJitter_22 : decode (mB m_RW_leastJitter) 22 = .ok (.iload_n 3, 1) := by decide +kernel
theorem d_RW_leastJitter_23 : decode (mB m_RW_leastJitter) 23 = .ok (.laload, 1) := by decide +kernel
theorem d_RW_leastJitter_24 : decode (mB m_RW_leastJitter) 24 = .ok (.invokestatic 86, 3) := by decide +kernel
theorem d_RW_leastJitter_27 : decode (mB m_RW_leastJitter) 27 = .ok (.lstore_n 1, 1) := by decide +kernel
theorem d_RW_leastJitter_28 : decode (mB m_RW_leastJitter) 28 = .ok (.iinc 3 (1), 3) := by decide +kernel
theorem d_RW_leastJitter_31 : decode (mB m_RW_leastJitter) 31 = .ok (.goto (-22), 3) := by decide +kernel
theorem d_RW_leastJitter_34 : decode (mB m_RW_leastJitter) 34 = .ok (.lload_n 1, 1) := by decide +kernel
theorem d_RW_leastJitter_35 : decode (mB m_RW_leastJitter) 35 = .ok (.lreturn, 1) := by decide +kernel
theorem d_RW_meanOffset_0 : decode (mB m_RW_meanOffset) 0 = .ok (.lconst 0, 1) := by decide +kernel
theorem d_RW_meanOffset_1 : decode (mB m_RW_meanOffset) 1 = .ok (.lstore_n 1, 1) := by decide +kernel
theorem d_RW_meanOffset_2 : decode (mB m_RW_meanOffset) 2 = .ok (.lconst 0, 1) := by decide +kernel
theorem d_RW_meanOffset_3 : decode (mB m_RW_meanOffset) 3 = .ok (.lstore_n 3, 1) := by decide +kernel
theorem d_RW_meanOffset_4 : decode (mB m_RW_meanOffset) 4 = .ok (.iconst 0, 1) := by decide +kernel
theorem d_RW_meanOffset_5 : decode (mB m_RW_meanOffset) 5 = .ok (.istore 5, 2) := by decide +kernel
theorem d_RW_meanOffset_7 : decode (mB m_RW_meanOffset) 7 = .ok (.iload 5, 2) := by decide +kernel
theorem d_RW_meanOffset_9 : decode (mB m_RW_meanOffset) 9 = .ok (.aload_n 0, 1) := by decide +kernel
theorem d_RW_meanOffset_10 : decode (mB m_RW_meanOffset) 10 = .ok (.getfield 28, 3) := by decide +kernel
theorem d_RW_meanOffset_13 : decode (mB m_RW_meanOffset) 13 = .ok (.if_icmp .ge (62), 3) := by decide +kernel
theorem d_RW_meanOffset_16 : decode (mB m_RW_meanOffset) 16 = .ok (.aload_n 0, 1) := by decide +kernel
theorem d_RW_meanOffset_17 : decode (mB m_RW_meanOffset) 17 = .ok (.getfield 22, 3) := by decide +kernel
theorem d_RW_meanOffset_20 : decode (mB m_RW_meanOffset) 20 = .ok (.iload 5, 2) := by decide +kernel
theorem d_RW_meanOffset_22 : decode (mB m_RW_meanOffset) 22 = .ok (.laload, 1) := by decide +kernel
theorem d_RW_meanOffset_23 : decode (mB m_RW_meanOffset) 23 = .ok (.lconst 0, 1) := by decide +kernel
theorem d_RW_meanOffset_24 : decode (mB m_RW_meanOffset) 24 = .ok (.lcmp, 1) := by decide +kernel
theorem d_RW_meanOffset_25 : decode (mB m_RW_meanOffset) 25 = .ok (.ifCond .le (17), 3) := by decide +kernel
theorem d_RW_meanOffset_28 : decode (mB m_RW_meanOffset) 28 = .ok (.ldc2_w 92, 3) := by decide +kernel
theorem d_RW_meanOffset_31 : decode (mB m_RW_meanOffset) 31 = .ok (.aload_n 0, 1) := by decide +kernel
theorem d_RW_meanOffset_32 : decode (mB m_RW_meanOffset) 32 = .ok (.getfield 22, 3) := by decide +kernel
theorem d_RW_meanOffset_35 : decode (mB m_RW_meanOffset) 35 = .ok (.iload 5, 2) := by decide +kernel
theorem d_RW_meanOffset_37 : decode (mB m_RW_meanOffset) 37 = .ok (.laload, 1) := by decide +kernel
theorem d_RW_meanOffset_38 : decode (mB m_RW_meanOffset) 38 = .ok (.ldiv, 1) := by decide +kernel
theorem d_RW_meanOffset_39 : decode (mB m_RW_meanOffset) 39 = .ok (.goto (4), 3) := by decide +kernel
theorem d_RW_meanOffset_42 : decode (mB m_RW_meanOffset) 42 = .ok (.lconst 0, 1) := by decide +kernel
theorem d_RW_meanOffset_43 : decode (mB m_RW_meanOffset) 43 = .ok (.lstore 6, 2) := by decide +kernel
theorem d_RW_meanOffset_45 : decode (mB m_RW_meanOffset) 45 = .ok (.lload_n 1, 1) := by decide +kernel
theorem d_RW_meanOffset_46 : decode (mB m_RW_meanOffset) 46 = .ok (.aload_n 0, 1) := by decide +kernel
theorem d_RW_meanOffset_47 : decode (mB m_RW_meanOffset) 47 = .ok (.getfield 18, 3) := by decide +kernel
theorem d_RW_meanOffset_50 : decode (mB m_RW_meanOffset) 50 = .ok (.iload 5, 2) := by decide +kernel
theorem d_RW_meanOffset_52 : decode (mB m_RW_meanOffset) 52 = .ok (.laload, 1) := by decide +kernel
theorem d_RW_meanOffset_53 : decode (mB m_RW_meanOffset) 53 = .ok (.ldc2_w 94, 3) := by decide +kernel
theorem d_RW_meanOffset_56 : decode (mB m_RW_meanOffset) 56 = .ok (.invokestatic 96, 3) := by decide +kernel
theorem d_RW_meanOffset_59 : decode (mB m_RW_meanOffset) 59 = .ok (.lload 6, 2) := by decide +kernel
theorem d_RW_meanOffset_61 : decode (mB m_RW_meanOffset) 61 = .ok (.lmul, 1) := by decide +kernel
theorem d_RW_meanOffset_62 : decode (mB m_RW_meanOffset) 62 = .ok (.ladd, 1) := by decide +kernel
theorem d_RW_meanOffset_63 : decode (mB m_RW_meanOffset) 63 = .ok (.lstore_n 1, 1) := by decide +kernel
theorem d_RW_meanOffset_64 : decode (mB m_RW_meanOffset) 64 = .ok (.lload_n 3, 1) := by decide +kernel
theorem d_RW_meanOffset_65 : decode (mB m_RW_meanOffset) 65 = .ok (.lload 6, 2) := by decide +kernel
theorem d_RW_meanOffset_67 : decode (mB m_RW_meanOffset) 67 = .ok (.ladd, 1) := by decide +kernel
theorem d_RW_meanOffset_68 : decode (mB m_RW_meanOffset) 68 = .ok (.lstore_n 3, 1) := by decide +kernel
theorem d_RW_meanOffset_69 : decode (mB m_RW_meanOffset) 69 = .ok (.iinc 5 (1), 3) := by decide +kernel
theorem d_RW_meanOffset_72 : decode (mB m_RW_meanOffset) 72 = .ok (.goto (-65), 3) := by decide +kernel
theorem d_RW_meanOffset_75 : decode (mB m_RW_meanOffset) 75 = .ok (.lload_n 3, 1) := by decide +kernel
theorem d_RW_meanOffset_76 : decode (mB m_RW_meanOffset) 76 = .ok (.lconst 0, 1) := by decide +kernel
theorem d_RW_meanOffset_77 : decode (mB m_RW_meanOffset) 77 = .ok (.lcmp, 1) := by decide +kernel
theorem d_RW_meanOffset_78 : decode (mB m_RW_meanOffset) 78 = .ok (.ifCond .le (15), 3) := by decide +kernel
theorem d_RW_meanOffset_81 : decode (mB m_RW_meanOffset) 81 = .ok (.lload_n 1, 1) := by decide +kernel
theorem d_RW_meanOffset_82 : decode (mB m_RW_meanOffset) 82 = .ok (.lload_n 3, 1) := by decide +kernel
theorem d_RW_meanOffset_83 : decode (mB m_RW_meanOffset) 83 = .ok (.invokestatic 96, 3) := by decide +kernel
theorem d_RW_meanOffset_86 : decode (mB m_RW_meanOffset) 86 = .ok (.ldc2_w 94, 3) := by decide +kernel
theorem d_RW_meanOffset_89 : decode (mB m_RW_meanOffset) 89 = .ok (.lmul, 1) := by decide +kernel
theorem d_RW_meanOffset_90 : decode (mB m_RW_meanOffset) 90 = .ok (.goto (4), 3) := by decide +kernel
theorem d_RW_meanOffset_93 : decode (mB m_RW_meanOffset) 93 = .ok (.lconst 0, 1) := by decide +kernel
theorem d_RW_meanOffset_94 : decode (mB m_RW_meanOffset) 94 = .ok (.lreturn, 1) := by decide +kernel
