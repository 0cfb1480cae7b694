/-! decode rows of TimeKeeper$Peer -/
theorem d_PE_init_0 : decode (mB m_PE_init) 0 = .ok (.aload_n 0, 1) := by decide +kernel
theorem d_PE_init_1 : decode (mB m_PE_init) 1 = .ok (.invokespecial 3, 3) := by decide +kernel
theorem d_PE_init_4 : decode (mB m_PE_init) 4 = .ok (.aload_n 0, 1) := by decide +kernel
theorem d_PE_init_5 : decode (mB m_PE_init) 5 = .ok (.bipush (8), 2) := by decide +kernel
theorem d_PE_init_7 : decode (mB m_PE_init) 7 = .ok (.newarray .long, 2) := by decide +kernel
theorem d_PE_init_9 : decode (mB m_PE_init) 9 = .ok (.putfield 9, 3) := by decide +kernel
theorem d_PE_init_12 : decode (mB m_PE_init) 12 = .ok (.aload_n 0, 1) := by decide +kernel
theorem d_PE_init_13 : decode (mB m_PE_init) 13 = .ok (.bipush (8), 2) := by decide +kernel
theorem d_PE_init_15 : decode (mB m_PE_init) 15 = .ok (.newarray .long, 2) := by decide +kernel
theorem d_PE_init_17 : decode (mB m_PE_init) 17 = .ok (.putfield 15, 3) := by decide +kernel
theorem d_PE_init_20 : decode (mB m_PE_init) 20 = .ok (.aload_n 0, 1) := by decide +kernel
theorem d_PE_init_21 : decode (mB m_PE_init) 21 = .ok (.bipush (8), 2) := by decide +kernel
theorem d_PE_init_23 : decode (mB m_PE_init) 23 = .ok (.newarray .long, 2) := by decide +kernel
theorem d_PE_init_25 : decode (mB m_PE_init) 25 = .ok (.putfield 18, 3) := by decide +kernel
theorem d_PE_init_28 : decode (mB m_PE_init) 28 = .ok (.aload_n 0, 1) := by decide +kernel
theorem d_PE_init_29 : decode (mB m_PE_init) 29 = .ok (.bipush (8), 2) := by decide +kernel
theorem d_PE_init_31 : decode (mB m_PE_init) 31 = .ok (.newarray .int, 2) := by decide +kernel
theorem d_PE_init_33 : decode (mB m_PE_init) 33 = .ok (.putfield 21, 3) := by decide +kernel
theorem d_PE_init_36 : decode (mB m_PE_init) 36 = .ok (.aload_n 0, 1) := by decide +kernel
theorem d_PE_init_37 : decode (mB m_PE_init) 37 = .ok (.bipush (8), 2) := by decide +kernel
theorem d_PE_init_39 : decode (mB m_PE_init) 39 = .ok (.newarray .int, 2) := by decide +kernel
theorem d_PE_init_41 : decode (mB m_PE_init) 41 = .ok (.putfield 25, 3) := by decide +kernel
theorem d_PE_init_44 : decode (mB m_PE_init) 44 = .ok (.aload_n 0, 1) := by decide +kernel
theorem d_PE_init_45 : decode (mB m_PE_init) 45 = .ok (.iconst (-1), 1) := by decide +kernel
theorem d_PE_init_46 : decode (mB m_PE_init) 46 = .ok (.putfield 28, 3) := by decide +kernel
theorem d_PE_init_49 : decode (mB m_PE_init) 49 = .ok (.return_, 1) := by decide +kernel
theorem d_PE_ask_0 : decode (mB m_PE_ask) 0 = .ok (.aload_n 0, 1) := by decide +kernel
theorem d_PE_ask_1 : decode (mB m_PE_ask) 1 = .ok (.aload_n 0, 1) := by decide +kernel
theorem d_PE_ask_2 : decode (mB m_PE_ask) 2 = .ok (.getfield 32, 3) := by decide +kernel
theorem d_PE_ask_5 : decode (mB m_PE_ask) 5 = .ok (.iconst 1, 1) := by decide +kernel
theorem d_PE_ask_6 : decode (mB m_PE_ask) 6 = .ok (.ishl, 1) := by decide +kernel
theorem d_PE_ask_7 : decode (mB m_PE_ask) 7 = .ok (.sipush (255), 3) := by decide +kernel
theorem d_PE_ask_10 : decode (mB m_PE_ask) 10 = .ok (.iand, 1) := by decide +kernel
theorem d_PE_ask_11 : decode (mB m_PE_ask) 11 = .ok (.putfield 32, 3) := by decide +kernel
theorem d_PE_ask_14 : decode (mB m_PE_ask) 14 = .ok (.aload_n 0, 1) := by decide +kernel
theorem d_PE_ask_15 : decode (mB m_PE_ask) 15 = .ok (.lload_n 1, 1) := by decide +kernel
theorem d_PE_ask_16 : decode (mB m_PE_ask) 16 = .ok (.lconst 0, 1) := by decide +kernel
theorem d_PE_ask_17 : decode (mB m_PE_ask) 17 = .ok (.lcmp, 1) := by decide +kernel
theorem d_PE_ask_18 : decode (mB m_PE_ask) 18 = .ok (.ifCond .ne (7), 3) := by decide +kernel
theorem d_PE_ask_21 : decode (mB m_PE_ask) 21 = .ok (.lconst 1, 1) := by decide +kernel
theorem d_PE_ask_22 : decode (mB m_PE_ask) 22 = .ok (.goto (4), 3) := by decide +kernel
theorem d_PE_ask_25 : decode (mB m_PE_ask) 25 = .ok (.lload_n 1, 1) := by decide +kernel
theorem d_PE_ask_26 : decode (mB m_PE_ask) 26 = .ok (.putfield 35, 3) := by decide +kernel
theorem d_PE_ask_29 : decode (mB m_PE_ask) 29 = .ok (.return_, 1) := by decide +kernel
theorem d_PE_addSample_0 : decode (mB m_PE_addSample) 0 = .ok (.aload_n 0, 1) := by decide +kernel
theorem d_PE_addSample_1 : decode (mB m_PE_addSample) 1 = .ok (.bipush (8), 2) := by decide +kernel
theorem d_PE_addSample_3 : decode (mB m_PE_addSample) 3 = .ok (.aload_n 0, 1) := by decide +kernel
theorem d_PE_addSample_4 : decode (mB m_PE_addSample) 4 = .ok (.getfield 39, 3) := by decide +kernel
theorem d_PE_addSample_7 : decode (mB m_PE_addSample) 7 = .ok (.iconst 1, 1) := by decide +kernel
theorem d_PE_addSample_8 : decode (mB m_PE_addSample) 8 = .ok (.iadd, 1) := by decide +kernel
theorem d_PE_addSample_9 : decode (mB m_PE_addSample) 9 = .ok (.invokestatic 42, 3) := by decide +kernel
theorem d_PE_addSample_12 : decode (mB m_PE_addSample) 12 = .ok (.putfield 39, 3) := by decide +kernel
theorem d_PE_addSample_15 : decode (mB m_PE_addSample) 15 = .ok (.aload_n 0, 1) := by decide +kernel
theorem d_PE_addSample_16 : decode (mB m_PE_addSample) 16 = .ok (.getfield 39, 3) := by decide +kernel
theorem d_PE_addSample_19 : decode (mB m_PE_addSample) 19 = .ok (.iconst 1, 1) := by decide +kernel
theorem d_PE_addSample_20 : decode (mB m_PE_addSample) 20 = .ok (.isub, 1) := by decide +kernel
theorem d_PE_addSample_21 : decode (mB m_PE_addSample) 21 = .ok (.istore 6, 2) := by decide +kernel
theorem d_PE_addSample_23 : decode (mB m_PE_addSample) 23 = .ok (.iload 6, 2) := by decide +kernel
theorem d_PE_addSample_25 : decode (mB m_PE_addSample) 25 = .ok (.ifCond .le (73), 3) := by decide +kernel
theorem d_PE_addSample_28 : decode (mB m_PE_addSample) 28 = .ok (.aload_n 0, 1) := by decide +kernel
theorem d_PE_addSample_29 : decode (mB m_PE_addSample) 29 = .ok (.getfield 9, 3) := by decide +kernel
theorem d_PE_addSample_32 : decode (mB m_PE_addSample) 32 = .ok (.iload 6, 2) := by decide +kernel
theorem d_PE_addSample_34 : decode (mB m_PE_addSample) 34 = .ok (.aload_n 0, 1) := by decide +kernel
theorem d_PE_addSample_35 : decode (mB m_PE_addSample) 35 = .ok (.getfield 9, 3) := by decide +kernel
theorem d_PE_addSample_38 : decode (mB m_PE_addSample) 38 = .ok (.iload 6, 2) := by decide +kernel
theorem d_PE_addSample_40 : decode (mB m_PE_addSample) 40 = .ok (.iconst 1, 1) := by decide +kernel
theorem d_PE_addSample_41 : decode (mB m_PE_addSample) 41 = .ok (.isub, 1) := by decide +kernel
theorem d_PE_addSample_42 : decode (mB m_PE_addSample) 42 = .ok (.laload, 1) := by decide +kernel
theorem d_PE_addSample_43 : decode (mB m_PE_addSample) 43 = .ok (.lastore, 1) := by decide +kernel
theorem d_PE_addSample_44 : decode (mB m_PE_addSample) 44 = .ok (.aload_n 0, 1) := by decide +kernel
theorem d_PE_addSample_45 : decode (mB m_PE_addSample) 45 = .ok (.getfield 15, 3) := by decide +kernel
theorem d_PE_addSample_48 : decode (mB m_PE_addSample) 48 = .ok (.iload 6, 2) := by decide +kernel
theorem d_PE_addSample_50 : decode (mB m_PE_addSample) 50 = .ok (.aload_n 0, 1) := by decide +kernel
theorem d_PE_addSample_51 : decode (mB m_PE_addSample) 51 = .ok (.getfield 15, 3) := by decide +kernel
theorem d_PE_addSample_54 : decode (mB m_PE_addSample) 54 = .ok (.iload 6, 2) := by decide +kernel
theorem d_PE_addSample_56 : decode (mB m_PE_addSample) 56 = .ok (.iconst 1, 1) := by decide +kernel
theorem d_PE_addSample_57 : decode (mB m_PE_addSample) 57 = .ok (.isub, 1) := by decide +kernel
theorem d_PE_addSample_58 : decode (mB m_PE_addSample) 58 = .ok (.laload, 1) := by decide +kernel
theorem d_PE_addSample_59 : decode (mB m_PE_addSample) 59 = .ok (.lastore, 1) := by decide +kernel
theorem d_PE_addSample_60 : decode (mB m_PE_addSample) 60 = .ok (.aload_n 0, 1) := by decide +kernel
theorem d_PE_addSample_61 : decode (mB m_PE_addSample) 61 = .ok (.getfield 18, 3) := by decide +kernel
theorem d_PE_addSample_64 : decode (mB m_PE_addSample) 64 = .ok (.iload 6, 2) := by decide +kernel
theorem d_PE_addSample_66 : decode (mB m_PE_addSample) 66 = .ok (.aload_n 0, 1) := by decide +kernel
theorem d_PE_addSample_67 : decode (mB m_PE_addSample) 67 = .ok (.getfield 18, 3) := by decide +kernel
theorem d_PE_addSample_70 : decode (mB m_PE_addSample) 70 = .ok (.iload 6, 2) := by decide +kernel
theorem d_PE_addSample_72 : decode (mB m_PE_addSample) 72 = .ok (.iconst 1, 1) := by decide +kernel
theorem d_PE_addSample_73 : decode (mB m_PE_addSample) 73 = .ok (.isub, 1) := by decide +kernel
theorem d_PE_addSample_74 : decode (mB m_PE_addSample) 74 = .ok (.laload, 1) := by decide +kernel
theorem d_PE_addSample_75 : decode (mB m_PE_addSample) 75 = .ok (.lastore, 1) := by decide +kernel
theorem d_PE_addSample_76 : decode (mB m_PE_addSample) 76 = .ok (.aload_n 0, 1) := by decide +kernel
theorem d_PE_addSample_77 : decode (mB m_PE_addSample) 77 = .ok (.getfield 21, 3) := by decide +kernel
theorem d_PE_addSample_80 : decode (mB m_PE_addSample) 80 = .ok (.iload 6, 2) := by decide +kernel
theorem d_PE_addSample_82 : decode (mB m_PE_addSample) 82 = .ok (.aload_n 0, 1) := by decide +kernel
theorem d_PE_addSample_83 : decode (mB m_PE_addSample) 83 = .ok (.getfield 21, 3) := by decide +kernel
theorem d_PE_addSample_86 : decode (mB m_PE_addSample) 86 = .ok (.iload 6, 2) := by decide +kernel
theorem d_PE_addSample_88 : decode (mB m_PE_addSample) 88 = .ok (.iconst 1, 1) := by decide +kernel
theorem d_PE_addSample_89 : decode (mB m_PE_addSample) 89 = .ok (.isub, 1) := by decide +kernel
theorem d_PE_addSample_90 : decode (mB m_PE_addSample) 90 = .ok (.iaload, 1) := by decide +kernel
theorem d_PE_addSample_91 : decode (mB m_PE_addSample) 91 = .ok (.iastore, 1) := by decide +kernel
theorem d_PE_addSample_92 : decode (mB m_PE_addSample) 92 = .ok (.iinc 6 (-1), 3) := by decide +kernel
theorem d_PE_addSample_95 : decode (mB m_PE_addSample) 95 = .ok (.goto (-72), 3) := by decide +kernel
theorem d_PE_addSample_98 : decode (mB m_PE_addSample) 98 = .ok (.aload_n 0, 1) := by decide +kernel
theorem d_PE_addSample_99 : decode (mB m_PE_addSample) 99 = .ok (.getfield 9, 3) := by decide +kernel
theorem d_PE_addSample_102 : decode (mB m_PE_addSample) 102 = .ok (.iconst 0, 1) := by decide +kernel
theorem d_PE_addSample_103 : decode (mB m_PE_addSample) 103 = .ok (.lload_n 1, 1) := by decide +kernel
theorem d_PE_addSample_104 : decode (mB m_PE_addSample) 104 = .ok (.lastore, 1) := by decide +kernel
theorem d_PE_addSample_105 : decode (mB m_PE_addSample) 105 = .ok (.aload_n 0, 1) := by decide +kernel
theorem d_PE_addSample_106 : decode (mB m_PE_addSample) 106 = .ok (.getfield 15, 3) := by decide +kernel
theorem d_PE_addSample_109 : decode (mB m_PE_addSample) 109 = .ok (.iconst 0, 1) := by decide +kernel
theorem d_PE_addSample_110 : decode (mB m_PE_addSample) 110 = .ok (.lload_n 3, 1) := by decide +kernel
theorem d_PE_addSample_111 : decode (mB m_PE_addSample) 111 = .ok (.lastore, 1) := by decide +kernel
theorem d_PE_addSample_112 : decode (mB m_PE_addSample) 112 = .ok (.aload_n 0, 1) := by decide +kernel
theorem d_PE_addSample_113 : decode (mB m_PE_addSample) 113 = .ok (.getfield 18, 3) := by decide +kernel
theorem d_PE_addSample_116 : decode (mB m_PE_addSample) 116 = .ok (.iconst 0, 1) := by decide +kernel
theorem d_PE_addSample_117 : decode (mB m_PE_addSample) 117 = .ok (.ldc2_w 48, 3) := by decide +kernel
theorem d_PE_addSample_120 : decode (mB m_PE_addSample) 120 = .ok (.lload_n 3, 1) := by decide +kernel
theorem d_PE_addSample_121 : decode (mB m_PE_addSample) 121 = .ok (.ldc2_w 50, 3) := by decide +kernel
theorem d_PE_addSample_124 : decode (mB m_PE_addSample) 124 = .ok (.ldiv, 1) := by decide +kernel
theorem d_PE_addSample_125 : decode (mB m_PE_addSample) 125 = .ok (.ladd, 1) := by decide +kernel
theorem d_PE_addSample_126 : decode (mB m_PE_addSample) 126 = .ok (.lastore, 1) := by decide +kernel
theorem d_PE_addSample_127 : decode (mB m_PE_addSample) 127 = .ok (.aload_n 0, 1) := by decide +kernel
theorem d_PE_addSample_128 : decode (mB m_PE_addSample) 128 = .ok (.getfield 21, 3) := by decide +kernel
theorem d_PE_addSample_131 : decode (mB m_PE_addSample) 131 = .ok (.iconst 0, 1) := by decide +kernel
theorem d_PE_addSample_132 : decode (mB m_PE_addSample) 132 = .ok (.iload 5, 2) := by decide +kernel
theorem d_PE_addSample_134 : decode (mB m_PE_addSample) 134 = .ok (.iastore, 1) := by decide +kernel
theorem d_PE_addSample_135 : decode (mB m_PE_addSample) 135 = .ok (.aload_n 0, 1) := by decide +kernel
theorem d_PE_addSample_136 : decode (mB m_PE_addSample) 136 = .ok (.invokevirtual 52, 3) := by decide +kernel
theorem d_PE_addSample_139 : decode (mB m_PE_addSample) 139 = .ok (.aload_n 0, 1) := by decide +kernel
theorem d_PE_addSample_140 : decode (mB m_PE_addSample) 140 = .ok (.ldc2_w 48, 3) := by decide +kernel
theorem d_PE_addSample_143 : decode (mB m_PE_addSample) 143 = .ok (.aload_n 0, 1) := by decide +kernel
theorem d_PE_addSample_144 : decode (mB m_PE_addSample) 144 = .ok (.getfield 9, 3) := by decide +kernel
theorem d_PE_addSample_147 : decode (mB m_PE_addSample) 147 = .ok (.aload_n 0, 1) := by decide +kernel
theorem d_PE_addSample_148 : decode (mB m_PE_addSample) 148 = .ok (.getfield 39, 3) := by decide +kernel
theorem d_PE_addSample_151 : decode (mB m_PE_addSample) 151 = .ok (.aload_n 0, 1) := by decide +kernel
theorem d_PE_addSample_152 : decode (mB m_PE_addSample) 152 = .ok (.iconst 0, 1) := by decide +kernel
theorem d_PE_addSample_153 : decode (mB m_PE_addSample) 153 = .ok (.invokevirtual 55, 3) := by decide +kernel
theorem d_PE_addSample_156 : decode (mB m_PE_addSample) 156 = .ok (.aload_n 0, 1) := by decide +kernel
theorem d_PE_addSample_157 : decode (mB m_PE_addSample) 157 = .ok (.getfield 25, 3) := by decide +kernel
theorem d_PE_addSample_160 : decode (mB m_PE_addSample) 160 = .ok (.iconst 0, 1) := by decide +kernel
theorem d_PE_addSample_161 : decode (mB m_PE_addSample) 161 = .ok (.iaload, 1) := by decide +kernel
theorem d_PE_addSample_162 : decode (mB m_PE_addSample) 162 = .ok (.invokestatic 59, 3) := by decide +kernel
theorem d_PE_addSample_165 : decode (mB m_PE_addSample) 165 = .ok (.invokestatic 63, 3) := by decide +kernel
theorem d_PE_addSample_168 : decode (mB m_PE_addSample) 168 = .ok (.putfield 67, 3) := by decide +kernel
theorem d_PE_addSample_171 : decode (mB m_PE_addSample) 171 = .ok (.return_, 1) := by decide +kernel
theorem d_PE_sortSamples_0 : decode (mB m_PE_sortSamples) 0 = .ok (.iconst 0, 1) := by decide +kernel
theorem d_PE_sortSamples_1 : decode (mB m_PE_sortSamples) 1 = .ok (.istore_n 1, 1) := by decide +kernel
theorem d_PE_sortSamples_2 : decode (mB m_PE_sortSamples) 2 = .ok (.iload_n 1, 1) := by decide +kernel
theorem d_PE_sortSamples_3 : decode (mB m_PE_sortSamples) 3 = .ok (.aload_n 0, 1) := by decide +kernel
theorem d_PE_sortSamples_4 : decode (mB m_PE_sortSamples) 4 = .ok (.getfield 39, 3) := by decide +kernel
theorem d_PE_sortSamples_7 : decode (mB m_PE_sortSamples) 7 = .ok (.if_icmp .ge (65), 3) := by decide +kernel
theorem d_PE_sortSamples_10 : decode (mB m_PE_sortSamples) 10 = .ok (.iload_n 1, 1) := by decide +kernel
theorem d_PE_sortSamples_11 : decode (mB m_PE_sortSamples) 11 = .ok (.istore_n 2, 1) := by decide +kernel
theorem d_PE_sortSamples_12 : decode (mB m_PE_sortSamples) 12 = .ok (.iload_n 2, 1) := by decide +kernel
theorem d_PE_sortSamples_13 : decode (mB m_PE_sortSamples) 13 = .ok (.ifCond .le (46), 3) := by decide +kernel
theorem d_PE_sortSamples_16 : decode (mB m_PE_sortSamples) 16 = .ok (.aload_n 0, 1) := by decide +kernel
theorem d_PE_sortSamples_17 : decode (mB m_PE_sortSamples) 17 = .ok (.getfield 15, 3) := by decide +kernel
theorem d_PE_sortSamples_20 : decode (mB m_PE_sortSamples) 20 = .ok (.aload_n 0, 1) := by decide +kernel
theorem d_PE_sortSamples_21 : decode (mB m_PE_sortSamples) 21 = .ok (.getfield 25, 3) := by decide +kernel
theorem d_PE_sortSamples_24 : decode (mB m_PE_sortSamples) 24 = .ok (.iload_n 2, 1) := by decide +kernel
theorem d_PE_sortSamples_25 : decode (mB m_PE_sortSamples) 25 = .ok (.iconst 1, 1) := by decide +kernel
theorem d_PE_sortSamples_26 : decode (mB m_PE_sortSamples) 26 = .ok (.isub, 1) := by decide +kernel
theorem d_PE_sortSamples_27 : decode (mB m_PE_sortSamples) 27 = .ok (.iaload, 1) := by decide +kernel
theorem d_PE_sortSamples_28 : decode (mB m_PE_sortSamples) 28 = .ok (.laload, 1) := by decide +kernel
theorem d_PE_sortSamples_29 : decode (mB m_PE_sortSamples) 29 = .ok (.aload_n 0, 1) := by decide +kernel
theorem d_PE_sortSamples_30 : decode (mB m_PE_sortSamples) 30 = .ok (.getfield 15, 3) := by decide +kernel
theorem d_PE_sortSamples_33 : decode (mB m_PE_sortSamples) 33 = .ok (.iload_n 1, 1) := by decide +kernel
theorem d_PE_sortSamples_34 : decode (mB m_PE_sortSamples) 34 = .ok (.laload, 1) := by decide +kernel
theorem d_PE_sortSamples_35 : decode (mB m_PE_sortSamples) 35 = .ok (.lcmp, 1) := by decide +kernel
theorem d_PE_sortSamples_36 : decode (mB m_PE_sortSamples) 36 = .ok (.ifCond .le (23), 3) := by decide +kernel
theorem d_PE_sortSamples_39 : decode (mB m_PE_sortSamples) 39 = .ok (.aload_n 0, 1) := by decide +kernel
theorem d_PE_sortSamples_40 : decode (mB m_PE_sortSamples) 40 = .ok (.getfield 25, 3) := by decide +kernel
theorem d_PE_sortSamples_43 : decode (mB m_PE_sortSamples) 43 = .ok (.iload_n 2, 1) := by decide +kernel
theorem d_PE_sortSamples_44 : decode (mB m_PE_sortSamples) 44 = .ok (.aload_n 0, 1) := by decide +kernel
theorem d_PE_sortSamples_45 : decode (mB m_PE_sortSamples) 45 = .ok (.getfield 25, 3) := by decide +kernel
theorem d_PE_sortSamples_48 : decode (mB m_PE_sortSamples) 48 = .ok (.iload_n 2, 1) := by decide +kernel
theorem d_PE_sortSamples_49 : decode (mB m_PE_sortSamples) 49 = .ok (.iconst 1, 1) := by decide +kernel
theorem d_PE_sortSamples_50 : decode (mB m_PE_sortSamples) 50 = .ok (.isub, 1) := by decide +kernel
theorem d_PE_sortSamples_51 : decode (mB m_PE_sortSamples) 51 = .ok (.iaload, 1) := by decide +kernel
theorem d_PE_sortSamples_52 : decode (mB m_PE_sortSamples) 52 = .ok (.iastore, 1) := by decide +kernel
theorem d_PE_sortSamples_53 : decode (mB m_PE_sortSamples) 53 = .ok (.iinc 2 (-1), 3) := by decide +kernel
theorem d_PE_sortSamples_56 : decode (mB m_PE_sortSamples) 56 = .ok (.goto (-44), 3) := by decide +kernel
theorem d_PE_sortSamples_59 : decode (mB m_PE_sortSamples) 59 = .ok (.aload_n 0, 1) := by decide +kernel
theorem d_PE_sortSamples_60 : decode (mB m_PE_sortSamples) 60 = .ok (.getfield 25, 3) := by decide +kernel
theorem d_PE_sortSamples_63 : decode (mB m_PE_sortSamples) 63 = .ok (.iload_n 2, 1) := by decide +kernel
theorem d_PE_sortSamples_64 : decode (mB m_PE_sortSamples) 64 = .ok (.iload_n 1, 1) := by decide +kernel
theorem d_PE_sortSamples_65 : decode (mB m_PE_sortSamples) 65 = .ok (.iastore, 1) := by decide +kernel
theorem d_PE_sortSamples_66 : decode (mB m_PE_sortSamples) 66 = .ok (.iinc 1 (1), 3) := by decide +kernel
theorem d_PE_sortSamples_69 : decode (mB m_PE_sortSamples) 69 = .ok (.goto (-67), 3) := by decide +kernel
theorem d_PE_sortSamples_72 : decode (mB m_PE_sortSamples) 72 = .ok (.return_, 1) := by decide +kernel
theorem d_PE_hasNews_0 : decode (mB m_PE_hasNews) 0 = .ok (.aload_n 0, 1) := by decide +kernel
theorem d_PE_hasNews_1 : decode (mB m_PE_hasNews) 1 = .ok (.getfield 21, 3) := by decide +kernel
theorem d_PE_hasNews_4 : decode (mB m_PE_hasNews) 4 = .ok (.aload_n 0, 1) := by decide +kernel
theorem d_PE_hasNews_5 : decode (mB m_PE_hasNews) 5 = .ok (.getfield 25, 3) := by decide +kernel
theorem d_PE_hasNews_8 : decode (mB m_PE_hasNews) 8 = .ok (.iconst 0, 1) := by decide +kernel
theorem d_PE_hasNews_9 : decode (mB m_PE_hasNews) 9 = .ok (.iaload, 1) := by decide +kernel
theorem d_PE_hasNews_10 : decode (mB m_PE_hasNews) 10 = .ok (.iaload, 1) := by decide +kernel
theorem d_PE_hasNews_11 : decode (mB m_PE_hasNews) 11 = .ok (.istore_n 1, 1) := by decide +kernel
theorem d_PE_hasNews_12 : decode (mB m_PE_hasNews) 12 = .ok (.iload_n 1, 1) := by decide +kernel
theorem d_PE_hasNews_13 : decode (mB m_PE_hasNews) 13 = .ok (.aload_n 0, 1) := by decide +kernel
theorem d_PE_hasNews_14 : decode (mB m_PE_hasNews) 14 = .ok (.getfield 28, 3) := by decide +kernel
theorem d_PE_hasNews_17 : decode (mB m_PE_hasNews) 17 = .ok (.if_icmp .gt (5), 3) := by decide +kernel
theorem d_PE_hasNews_20 : decode (mB m_PE_hasNews) 20 = .ok (.iconst 0, 1) := by decide +kernel
theorem d_PE_hasNews_21 : decode (mB m_PE_hasNews) 21 = .ok (.ireturn, 1) := by decide +kernel
theorem d_PE_hasNews_22 : decode (mB m_PE_hasNews) 22 = .ok (.aload_n 0, 1) := by decide +kernel
theorem d_PE_hasNews_23 : decode (mB m_PE_hasNews) 23 = .ok (.iload_n 1, 1) := by decide +kernel
theorem d_PE_hasNews_24 : decode (mB m_PE_hasNews) 24 = .ok (.putfield 28, 3) := by decide +kernel
theorem d_PE_hasNews_27 : decode (mB m_PE_hasNews) 27 = .ok (.iconst 1, 1) := by decide +kernel
theorem d_PE_hasNews_28 : decode (mB m_PE_hasNews) 28 = .ok (.ireturn, 1) := by decide +kernel
theorem d_PE_offsetAt_0 : decode (mB m_PE_offsetAt) 0 = .ok (.aload_n 0, 1) := by decide +kernel
theorem d_PE_offsetAt_1 : decode (mB m_PE_offsetAt) 1 = .ok (.getfield 9, 3) := by decide +kernel
theorem d_PE_offsetAt_4 : decode (mB m_PE_offsetAt) 4 = .ok (.aload_n 0, 1) := by decide +kernel
theorem d_PE_offsetAt_5 : decode (mB m_PE_offsetAt) 5 = .ok (.getfield 25, 3) := by decide +kernel
theorem d_PE_offsetAt_8 : decode (mB m_PE_offsetAt) 8 = .ok (.iload_n 1, 1) := by decide +kernel
theorem d_PE_offsetAt_9 : decode (mB m_PE_offsetAt) 9 = .ok (.iaload, 1) := by decide +kernel
theorem d_PE_offsetAt_10 : decode (mB m_PE_offsetAt) 10 = .ok (.laload, 1) := by decide +kernel
theorem d_PE_offsetAt_11 : decode (mB m_PE_offsetAt) 11 = .ok (.lreturn, 1) := by decide +kernel
theorem d_PE_delayAt_0 : decode (mB m_PE_delayAt) 0 = .ok (.aload_n 0, 1) := by decide +kernel
theorem d_PE_delayAt_1 : decode (mB m_PE_delayAt) 1 = .ok (.getfield 15, 3) := by decide +kernel
theorem d_PE_delayAt_4 : decode (mB m_PE_delayAt) 4 = .ok (.aload_n 0, 1) := by decide +kernel
theorem d_PE_delayAt_5 : decode (mB m_PE_delayAt) 5 = .ok (.getfield 25, 3) := by decide +kernel
theorem d_PE_delayAt_8 : decode (mB m_PE_delayAt) 8 = .ok (.iload_n 1, 1) := by decide +kernel
theorem d_PE_delayAt_9 : decode (mB m_PE_delayAt) 9 = .ok (.iaload, 1) := by decide +kernel
theorem d_PE_delayAt_10 : decode (mB m_PE_delayAt) 10 = .ok (.laload, 1) := by decide +kernel
theorem d_PE_delayAt_11 : decode (mB m_PE_delayAt) 11 = .ok (.lreturn, 1) := by decide +kernel
theorem d_PE_dispersionAt_0 : decode (mB m_PE_dispersionAt) 0 = .ok (.aload_n 0, 1) := by decide +kernel
theorem d_PE_dispersionAt_1 : decode (mB m_PE_dispersionAt) 1 = .ok (.getfield 25, 3) := by decide +kernel
theorem d_PE_dispersionAt_4 : decode (mB m_PE_dispersionAt) 4 = .ok (.iload_n 1, 1) := by decide +kernel
theorem d_PE_dispersionAt_5 : decode (mB m_PE_dispersionAt) 5 = .ok (.iaload, 1) := by decide +kernel
theorem d_PE_dispersionAt_6 : decode (mB m_PE_dispersionAt) 6 = .ok (.istore_n 3, 1) := by decide +kernel
theorem d_PE_dispersionAt_7 : decode (mB m_PE_dispersionAt) 7 = .ok (.ldc2_w 70, 3) := by decide +kernel
theorem d_PE_dispersionAt_10 : decode (mB m_PE_dispersionAt) 10 = .ok (.aload_n 0, 1) := by decide +kernel
theorem d_PE_dispersionAt_11 : decode (mB m_PE_dispersionAt) 11 = .ok (.getfield 18, 3) := by decide +kernel
theorem d_PE_dispersionAt_14 : decode (mB m_PE_dispersionAt) 14 = .ok (.iload_n 3, 1) := by decide +kernel
theorem d_PE_dispersionAt_15 : decode (mB m_PE_dispersionAt) 15 = .ok (.laload, 1) := by decide +kernel
theorem d_PE_dispersionAt_16 : decode (mB m_PE_dispersionAt) 16 = .ok (.ldc2_w 72, 3) := by decide +kernel
theorem d_PE_dispersionAt_19 : decode (mB m_PE_dispersionAt) 19 = .ok (.iload_n 2, 1) := by decide +kernel
theorem d_PE_dispersionAt_20 : decode (mB m_PE_dispersionAt) 20 = .ok (.aload_n 0, 1) := by decide +kernel
theorem d_PE_dispersionAt_21 : decode (mB m_PE_dispersionAt) 21 = .ok (.getfield 21, 3) := by decide +kernel
theorem d_PE_dispersionAt_24 : decode (mB m_PE_dispersionAt) 24 = .ok (.iload_n 3, 1) := by decide +kernel
theorem d_PE_dispersionAt_25 : decode (mB m_PE_dispersionAt) 25 = .ok (.iaload, 1) := by decide +kernel
theorem d_PE_dispersionAt_26 : decode (mB m_PE_dispersionAt) 26 = .ok (.isub, 1) := by decide +kernel
theorem d_PE_dispersionAt_27 : decode (mB m_PE_dispersionAt) 27 = .ok (.i2l, 1) := by decide +kernel
theorem d_PE_dispersionAt_28 : decode (mB m_PE_dispersionAt) 28 = .ok (.lmul, 1) := by decide +kernel
theorem d_PE_dispersionAt_29 : decode (mB m_PE_dispersionAt) 29 = .ok (.ladd, 1) := by decide +kernel
theorem d_PE_dispersionAt_30 : decode (mB m_PE_dispersionAt) 30 = .ok (.invokestatic 74, 3) := by decide +kernel
theorem d_PE_dispersionAt_33 : decode (mB m_PE_dispersionAt) 33 = .ok (.lreturn, 1) := by decide +kernel
theorem d_PE_dispersion_0 : decode (mB m_PE_dispersion) 0 = .ok (.lconst 0, 1) := by decide +kernel
theorem d_PE_dispersion_1 : decode (mB m_PE_dispersion) 1 = .ok (.lstore_n 2, 1) := by decide +kernel
theorem d_PE_dispersion_2 : decode (mB m_PE_dispersion) 2 = .ok (.iconst 0, 1) := by decide +kernel
theorem d_PE_dispersion_3 : decode (mB m_PE_dispersion) 3 = .ok (.istore 4, 2) := by decide +kernel
theorem d_PE_dispersion_5 : decode (mB m_PE_dispersion) 5 = .ok (.iload 4, 2) := by decide +kernel
theorem d_PE_dispersion_7 : decode (mB m_PE_dispersion) 7 = .ok (.bipush (8), 2) := by decide +kernel
theorem d_PE_dispersion_9 : decode (mB m_PE_dispersion) 9 = .ok (.if_icmp .ge (43), 3) := by decide +kernel
theorem d_PE_dispersion_12 : decode (mB m_PE_dispersion) 12 = .ok (.iload 4, 2) := by decide +kernel
theorem d_PE_dispersion_14 : decode (mB m_PE_dispersion) 14 = .ok (.aload_n 0, 1) := by decide +kernel
theorem d_PE_dispersion_15 : decode (mB m_PE_dispersion) 15 = .ok (.getfield 39, 3) := by decide +kernel
theorem d_PE_dispersion_18 : decode (mB m_PE_dispersion) 18 = .ok (.if_icmp .ge (13), 3) := by decide +kernel
theorem d_PE_dispersion_21 : decode (mB m_PE_dispersion) 21 = .ok (.aload_n 0, 1) := by decide +kernel
theorem d_PE_dispersion_22 : decode (mB m_PE_dispersion) 22 = .ok (.iload 4, 2) := by decide +kernel
theorem d_PE_dispersion_24 : decode (mB m_PE_dispersion) 24 = .ok (.iload_n 1, 1) := by decide +kernel
theorem d_PE_dispersion_25 : decode (mB m_PE_dispersion) 25 = .ok (.invokevirtual 76, 3) := by decide +kernel
theorem d_PE_dispersion_28 : decode (mB m_PE_dispersion) 28 = .ok (.goto (6), 3) := by decide +kernel
theorem d_PE_dispersion_31 : decode (mB m_PE_dispersion) 31 = .ok (.ldc2_w 70, 3) := by decide +kernel
theorem d_PE_dispersion_34 : decode (mB m_PE_dispersion) 34 = .ok (.lstore 5, 2) := by decide +kernel
theorem d_PE_dispersion_36 : decode (mB m_PE_dispersion) 36 = .ok (.lload_n 2, 1) := by decide +kernel
theorem d_PE_dispersion_37 : decode (mB m_PE_dispersion) 37 = .ok (.lload 5, 2) := by decide +kernel
theorem d_PE_dispersion_39 : decode (mB m_PE_dispersion) 39 = .ok (.iload 4, 2) := by decide +kernel
theorem d_PE_dispersion_41 : decode (mB m_PE_dispersion) 41 = .ok (.iconst 1, 1) := by decide +kernel
theorem d_PE_dispersion_42 : decode (mB m_PE_dispersion) 42 = .ok (.iadd, 1) := by decide +kernel
theorem d_PE_dispersion_43 : decode (mB m_PE_dispersion) 43 = .ok (.lshr, 1) := by decide +kernel
theorem d_PE_dispersion_44 : decode (mB m_PE_dispersion) 44 = .ok (.ladd, 1) := by decide +kernel
theorem d_PE_dispersion_45 : decode (mB m_PE_dispersion) 45 = .ok (.lstore_n 2, 1) := by decide +kernel
theorem d_PE_dispersion_46 : decode (mB m_PE_dispersion) 46 = .ok (.iinc 4 (1), 3) := by decide +kernel
theorem d_PE_dispersion_49 : decode (mB m_PE_dispersion) 49 = .ok (.goto (-44), 3) := by decide +kernel
theorem d_PE_dispersion_52 : decode (mB m_PE_dispersion) 52 = .ok (.lload_n 2, 1) := by decide +kernel
theorem d_PE_dispersion_53 : decode (mB m_PE_dispersion) 53 = .ok (.lreturn, 1) := by decide +kernel
theorem d_PE_distance_0 : decode (mB m_PE_distance) 0 = .ok (.ldc2_w 48, 3) := by decide +kernel
theorem d_PE_distance_3 : decode (mB m_PE_distance) 3 = .ok (.aload_n 0, 1) := by decide +kernel
theorem d_PE_distance_4 : decode (mB m_PE_distance) 4 = .ok (.getfield 80, 3) := by decide +kernel
theorem d_PE_distance_7 : decode (mB m_PE_distance) 7 = .ok (.aload_n 0, 1) := by decide +kernel
theorem d_PE_distance_8 : decode (mB m_PE_distance) 8 = .ok (.iconst 0, 1) := by decide +kernel
theorem d_PE_distance_9 : decode (mB m_PE_distance) 9 = .ok (.invokevirtual 83, 3) := by decide +kernel
theorem d_PE_distance_12 : decode (mB m_PE_distance) 12 = .ok (.ladd, 1) := by decide +kernel
theorem d_PE_distance_13 : decode (mB m_PE_distance) 13 = .ok (.invokestatic 63, 3) := by decide +kernel
theorem d_PE_distance_16 : decode (mB m_PE_distance) 16 = .ok (.lstore_n 2, 1) := by decide +kernel
theorem d_PE_distance_17 : decode (mB m_PE_distance) 17 = .ok (.lload_n 2, 1) := by decide +kernel
theorem d_PE_distance_18 : decode (mB m_PE_distance) 18 = .ok (.ldc2_w 86, 3) := by decide +kernel
theorem d_PE_distance_21 : decode (mB m_PE_distance) 21 = .ok (.ldiv, 1) := by decide +kernel
theorem d_PE_distance_22 : decode (mB m_PE_distance) 22 = .ok (.aload_n 0, 1) := by decide +kernel
theorem d_PE_distance_23 : decode (mB m_PE_distance) 23 = .ok (.getfield 88, 3) := by decide +kernel
theorem d_PE_distance_26 : decode (mB m_PE_distance) 26 = .ok (.ladd, 1) := by decide +kernel
theorem d_PE_distance_27 : decode (mB m_PE_distance) 27 = .ok (.aload_n 0, 1) := by decide +kernel
theorem d_PE_distance_28 : decode (mB m_PE_distance) 28 = .ok (.iload_n 1, 1) := by decide +kernel
theorem d_PE_distance_29 : decode (mB m_PE_distance) 29 = .ok (.invokevirtual 91, 3) := by decide +kernel
theorem d_PE_distance_32 : decode (mB m_PE_distance) 32 = .ok (.ladd, 1) := by decide +kernel
theorem d_PE_distance_33 : decode (mB m_PE_distance) 33 = .ok (.aload_n 0, 1) := by decide +kernel
theorem d_PE_distance_34 : decode (mB m_PE_distance) 34 = .ok (.getfield 67, 3) := by decide +kernel
theorem d_PE_distance_37 : decode (mB m_PE_distance) 37 = .ok (.ladd, 1) := by decide +kernel
theorem d_PE_distance_38 : decode (mB m_PE_distance) 38 = .ok (.lreturn, 1) := by decide +kernel
