/-! decode rows of TimeKeeperModel -/
theorem d_MO_init_0 : decode (mB m_MO_init) 0 = .ok (.aload_n 0, 1) := by decide +kernel
theorem d_MO_init_1 : decode (mB m_MO_init) 1 = .ok (.invokespecial 1, 3) := by decide +kernel
theorem d_MO_init_4 : decode (mB m_MO_init) 4 = .ok (.aload_n 0, 1) := by decide +kernel
theorem d_MO_init_5 : decode (mB m_MO_init) 5 = .ok (.bipush (64), 2) := by decide +kernel
theorem d_MO_init_7 : decode (mB m_MO_init) 7 = .ok (.newarray .int, 2) := by decide +kernel
theorem d_MO_init_9 : decode (mB m_MO_init) 9 = .ok (.putfield 7, 3) := by decide +kernel
theorem d_MO_init_12 : decode (mB m_MO_init) 12 = .ok (.aload_n 0, 1) := by decide +kernel
theorem d_MO_init_13 : decode (mB m_MO_init) 13 = .ok (.bipush (48), 2) := by decide +kernel
theorem d_MO_init_15 : decode (mB m_MO_init) 15 = .ok (.newarray .int, 2) := by decide +kernel
theorem d_MO_init_17 : decode (mB m_MO_init) 17 = .ok (.putfield 13, 3) := by decide +kernel
theorem d_MO_init_20 : decode (mB m_MO_init) 20 = .ok (.aload_n 0, 1) := by decide +kernel
theorem d_MO_init_21 : decode (mB m_MO_init) 21 = .ok (.bipush (8), 2) := by decide +kernel
theorem d_MO_init_23 : decode (mB m_MO_init) 23 = .ok (.newarray .long, 2) := by decide +kernel
theorem d_MO_init_25 : decode (mB m_MO_init) 25 = .ok (.putfield 16, 3) := by decide +kernel
theorem d_MO_init_28 : decode (mB m_MO_init) 28 = .ok (.aload_n 0, 1) := by decide +kernel
theorem d_MO_init_29 : decode (mB m_MO_init) 29 = .ok (.bipush (8), 2) := by decide +kernel
theorem d_MO_init_31 : decode (mB m_MO_init) 31 = .ok (.newarray .long, 2) := by decide +kernel
theorem d_MO_init_33 : decode (mB m_MO_init) 33 = .ok (.putfield 20, 3) := by decide +kernel
theorem d_MO_init_36 : decode (mB m_MO_init) 36 = .ok (.aload_n 0, 1) := by decide +kernel
theorem d_MO_init_37 : decode (mB m_MO_init) 37 = .ok (.bipush (8), 2) := by decide +kernel
theorem d_MO_init_39 : decode (mB m_MO_init) 39 = .ok (.newarray .int, 2) := by decide +kernel
theorem d_MO_init_41 : decode (mB m_MO_init) 41 = .ok (.putfield 23, 3) := by decide +kernel
theorem d_MO_init_44 : decode (mB m_MO_init) 44 = .ok (.aload_n 0, 1) := by decide +kernel
theorem d_MO_init_45 : decode (mB m_MO_init) 45 = .ok (.bipush (8), 2) := by decide +kernel
theorem d_MO_init_47 : decode (mB m_MO_init) 47 = .ok (.newarray .int, 2) := by decide +kernel
theorem d_MO_init_49 : decode (mB m_MO_init) 49 = .ok (.putfield 26, 3) := by decide +kernel
theorem d_MO_init_52 : decode (mB m_MO_init) 52 = .ok (.aload_n 0, 1) := by decide +kernel
theorem d_MO_init_53 : decode (mB m_MO_init) 53 = .ok (.bipush (8), 2) := by decide +kernel
theorem d_MO_init_55 : decode (mB m_MO_init) 55 = .ok (.newarray .long, 2) := by decide +kernel
theorem d_MO_init_57 : decode (mB m_MO_init) 57 = .ok (.putfield 29, 3) := by decide +kernel
theorem d_MO_init_60 : decode (mB m_MO_init) 60 = .ok (.aload_n 0, 1) := by decide +kernel
theorem d_MO_init_61 : decode (mB m_MO_init) 61 = .ok (.bipush (8), 2) := by decide +kernel
theorem d_MO_init_63 : decode (mB m_MO_init) 63 = .ok (.newarray .long, 2) := by decide +kernel
theorem d_MO_init_65 : decode (mB m_MO_init) 65 = .ok (.putfield 32, 3) := by decide +kernel
theorem d_MO_init_68 : decode (mB m_MO_init) 68 = .ok (.aload_n 0, 1) := by decide +kernel
theorem d_MO_init_69 : decode (mB m_MO_init) 69 = .ok (.bipush (8), 2) := by decide +kernel
theorem d_MO_init_71 : decode (mB m_MO_init) 71 = .ok (.newarray .int, 2) := by decide +kernel
theorem d_MO_init_73 : decode (mB m_MO_init) 73 = .ok (.putfield 35, 3) := by decide +kernel
theorem d_MO_init_76 : decode (mB m_MO_init) 76 = .ok (.aload_n 0, 1) := by decide +kernel
theorem d_MO_init_77 : decode (mB m_MO_init) 77 = .ok (.bipush (8), 2) := by decide +kernel
theorem d_MO_init_79 : decode (mB m_MO_init) 79 = .ok (.newarray .int, 2) := by decide +kernel
theorem d_MO_init_81 : decode (mB m_MO_init) 81 = .ok (.putfield 38, 3) := by decide +kernel
theorem d_MO_init_84 : decode (mB m_MO_init) 84 = .ok (.aload_n 0, 1) := by decide +kernel
theorem d_MO_init_85 : decode (mB m_MO_init) 85 = .ok (.bipush (64), 2) := by decide +kernel
theorem d_MO_init_87 : decode (mB m_MO_init) 87 = .ok (.newarray .long, 2) := by decide +kernel
theorem d_MO_init_89 : decode (mB m_MO_init) 89 = .ok (.putfield 41, 3) := by decide +kernel
theorem d_MO_init_92 : decode (mB m_MO_init) 92 = .ok (.aload_n 0, 1) := by decide +kernel
theorem d_MO_init_93 : decode (mB m_MO_init) 93 = .ok (.bipush (64), 2) := by decide +kernel
theorem d_MO_init_95 : decode (mB m_MO_init) 95 = .ok (.newarray .long, 2) := by decide +kernel
theorem d_MO_init_97 : decode (mB m_MO_init) 97 = .ok (.putfield 44, 3) := by decide +kernel
theorem d_MO_init_100 : decode (mB m_MO_init) 100 = .ok (.aload_n 0, 1) := by decide +kernel
theorem d_MO_init_101 : decode (mB m_MO_init) 101 = .ok (.bipush (64), 2) := by decide +kernel
theorem d_MO_init_103 : decode (mB m_MO_init) 103 = .ok (.newarray .long, 2) := by decide +kernel
theorem d_MO_init_105 : decode (mB m_MO_init) 105 = .ok (.putfield 47, 3) := by decide +kernel
theorem d_MO_init_108 : decode (mB m_MO_init) 108 = .ok (.aload_n 0, 1) := by decide +kernel
theorem d_MO_init_109 : decode (mB m_MO_init) 109 = .ok (.bipush (64), 2) := by decide +kernel
theorem d_MO_init_111 : decode (mB m_MO_init) 111 = .ok (.newarray .int, 2) := by decide +kernel
theorem d_MO_init_113 : decode (mB m_MO_init) 113 = .ok (.putfield 50, 3) := by decide +kernel
theorem d_MO_init_116 : decode (mB m_MO_init) 116 = .ok (.aload_n 0, 1) := by decide +kernel
theorem d_MO_init_117 : decode (mB m_MO_init) 117 = .ok (.bipush (8), 2) := by decide +kernel
theorem d_MO_init_119 : decode (mB m_MO_init) 119 = .ok (.newarray .int, 2) := by decide +kernel
theorem d_MO_init_121 : decode (mB m_MO_init) 121 = .ok (.putfield 53, 3) := by decide +kernel
theorem d_MO_init_124 : decode (mB m_MO_init) 124 = .ok (.aload_n 0, 1) := by decide +kernel
theorem d_MO_init_125 : decode (mB m_MO_init) 125 = .ok (.bipush (6), 2) := by decide +kernel
theorem d_MO_init_127 : decode (mB m_MO_init) 127 = .ok (.putfield 56, 3) := by decide +kernel
theorem d_MO_init_130 : decode (mB m_MO_init) 130 = .ok (.iconst 0, 1) := by decide +kernel
theorem d_MO_init_131 : decode (mB m_MO_init) 131 = .ok (.istore_n 1, 1) := by decide +kernel
theorem d_MO_init_132 : decode (mB m_MO_init) 132 = .ok (.iload_n 1, 1) := by decide +kernel
theorem d_MO_init_133 : decode (mB m_MO_init) 133 = .ok (.bipush (8), 2) := by decide +kernel
theorem d_MO_init_135 : decode (mB m_MO_init) 135 = .ok (.if_icmp .ge (16), 3) := by decide +kernel
theorem d_MO_init_138 : decode (mB m_MO_init) 138 = .ok (.aload_n 0, 1) := by decide +kernel
theorem d_MO_init_139 : decode (mB m_MO_init) 139 = .ok (.getfield 38, 3) := by decide +kernel
theorem d_MO_init_142 : decode (mB m_MO_init) 142 = .ok (.iload_n 1, 1) := by decide +kernel
theorem d_MO_init_143 : decode (mB m_MO_init) 143 = .ok (.iconst (-1), 1) := by decide +kernel
theorem d_MO_init_144 : decode (mB m_MO_init) 144 = .ok (.iastore, 1) := by decide +kernel
theorem d_MO_init_145 : decode (mB m_MO_init) 145 = .ok (.iinc 1 (1), 3) := by decide +kernel
theorem d_MO_init_148 : decode (mB m_MO_init) 148 = .ok (.goto (-16), 3) := by decide +kernel
theorem d_MO_init_151 : decode (mB m_MO_init) 151 = .ok (.return_, 1) := by decide +kernel
theorem d_MO_thrown_0 : decode (mB m_MO_thrown) 0 = .ok (.aload_n 0, 1) := by decide +kernel
theorem d_MO_thrown_1 : decode (mB m_MO_thrown) 1 = .ok (.getfield 60, 3) := by decide +kernel
theorem d_MO_thrown_4 : decode (mB m_MO_thrown) 4 = .ok (.ireturn, 1) := by decide +kernel
theorem d_MO_type_0 : decode (mB m_MO_type) 0 = .ok (.aload_n 0, 1) := by decide +kernel
theorem d_MO_type_1 : decode (mB m_MO_type) 1 = .ok (.iload_n 3, 1) := by decide +kernel
theorem d_MO_type_2 : decode (mB m_MO_type) 2 = .ok (.iconst 1, 1) := by decide +kernel
theorem d_MO_type_3 : decode (mB m_MO_type) 3 = .ok (.if_icmp .lt (9), 3) := by decide +kernel
theorem d_MO_type_6 : decode (mB m_MO_type) 6 = .ok (.iload_n 3, 1) := by decide +kernel
theorem d_MO_type_7 : decode (mB m_MO_type) 7 = .ok (.bipush (8), 2) := by decide +kernel
theorem d_MO_type_9 : decode (mB m_MO_type) 9 = .ok (.if_icmp .le (7), 3) := by decide +kernel
theorem d_MO_type_12 : decode (mB m_MO_type) 12 = .ok (.iconst 1, 1) := by decide +kernel
theorem d_MO_type_13 : decode (mB m_MO_type) 13 = .ok (.goto (19), 3) := by decide +kernel
theorem d_MO_type_16 : decode (mB m_MO_type) 16 = .ok (.aload_n 0, 1) := by decide +kernel
theorem d_MO_type_17 : decode (mB m_MO_type) 17 = .ok (.getfield 63, 3) := by decide +kernel
theorem d_MO_type_20 : decode (mB m_MO_type) 20 = .ok (.iload_n 3, 1) := by decide +kernel
theorem d_MO_type_21 : decode (mB m_MO_type) 21 = .ok (.iadd, 1) := by decide +kernel
theorem d_MO_type_22 : decode (mB m_MO_type) 22 = .ok (.bipush (64), 2) := by decide +kernel
theorem d_MO_type_24 : decode (mB m_MO_type) 24 = .ok (.if_icmp .le (7), 3) := by decide +kernel
theorem d_MO_type_27 : decode (mB m_MO_type) 27 = .ok (.iconst 2, 1) := by decide +kernel
theorem d_MO_type_28 : decode (mB m_MO_type) 28 = .ok (.goto (4), 3) := by decide +kernel
theorem d_MO_type_31 : decode (mB m_MO_type) 31 = .ok (.iconst 0, 1) := by decide +kernel
theorem d_MO_type_32 : decode (mB m_MO_type) 32 = .ok (.putfield 60, 3) := by decide +kernel
theorem d_MO_type_35 : decode (mB m_MO_type) 35 = .ok (.aload_n 0, 1) := by decide +kernel
theorem d_MO_type_36 : decode (mB m_MO_type) 36 = .ok (.getfield 60, 3) := by decide +kernel
theorem d_MO_type_39 : decode (mB m_MO_type) 39 = .ok (.ifCond .le (5), 3) := by decide +kernel
theorem d_MO_type_42 : decode (mB m_MO_type) 42 = .ok (.iconst 0, 1) := by decide +kernel
theorem d_MO_type_43 : decode (mB m_MO_type) 43 = .ok (.ireturn, 1) := by decide +kernel
theorem d_MO_type_44 : decode (mB m_MO_type) 44 = .ok (.iconst 0, 1) := by decide +kernel
theorem d_MO_type_45 : decode (mB m_MO_type) 45 = .ok (.istore 4, 2) := by decide +kernel
theorem d_MO_type_47 : decode (mB m_MO_type) 47 = .ok (.iload 4, 2) := by decide +kernel
theorem d_MO_type_49 : decode (mB m_MO_type) 49 = .ok (.iload_n 3, 1) := by decide +kernel
theorem d_MO_type_50 : decode (mB m_MO_type) 50 = .ok (.if_icmp .ge (40), 3) := by decide +kernel
theorem d_MO_type_53 : decode (mB m_MO_type) 53 = .ok (.aload_n 0, 1) := by decide +kernel
theorem d_MO_type_54 : decode (mB m_MO_type) 54 = .ok (.getfield 7, 3) := by decide +kernel
theorem d_MO_type_57 : decode (mB m_MO_type) 57 = .ok (.aload_n 0, 1) := by decide +kernel
theorem d_MO_type_58 : decode (mB m_MO_type) 58 = .ok (.getfield 63, 3) := by decide +kernel
theorem d_MO_type_61 : decode (mB m_MO_type) 61 = .ok (.lload_n 1, 1) := by decide +kernel
theorem d_MO_type_62 : decode (mB m_MO_type) 62 = .ok (.bipush (8), 2) := by decide +kernel
theorem d_MO_type_64 : decode (mB m_MO_type) 64 = .ok (.iload 4, 2) := by decide +kernel
theorem d_MO_type_66 : decode (mB m_MO_type) 66 = .ok (.imul, 1) := by decide +kernel
theorem d_MO_type_67 : decode (mB m_MO_type) 67 = .ok (.lshr, 1) := by decide +kernel
theorem d_MO_type_68 : decode (mB m_MO_type) 68 = .ok (.ldc2_w 66, 3) := by decide +kernel
theorem d_MO_type_71 : decode (mB m_MO_type) 71 = .ok (.land, 1) := by decide +kernel
theorem d_MO_type_72 : decode (mB m_MO_type) 72 = .ok (.l2i, 1) := by decide +kernel
theorem d_MO_type_73 : decode (mB m_MO_type) 73 = .ok (.iastore, 1) := by decide +kernel
theorem d_MO_type_74 : decode (mB m_MO_type) 74 = .ok (.aload_n 0, 1) := by decide +kernel
theorem d_MO_type_75 : decode (mB m_MO_type) 75 = .ok (.dup, 1) := by decide +kernel
theorem d_MO_type_76 : decode (mB m_MO_type) 76 = .ok (.getfield 63, 3) := by decide +kernel
theorem d_MO_type_79 : decode (mB m_MO_type) 79 = .ok (.iconst 1, 1) := by decide +kernel
theorem d_MO_type_80 : decode (mB m_MO_type) 80 = .ok (.iadd, 1) := by decide +kernel
theorem d_MO_type_81 : decode (mB m_MO_type) 81 = .ok (.putfield 63, 3) := by decide +kernel
theorem d_MO_type_84 : decode (mB m_MO_type) 84 = .ok (.iinc 4 (1), 3) := by decide +kernel
theorem d_MO_type_87 : decode (mB m_MO_type) 87 = .ok (.goto (-40), 3) := by decide +kernel
theorem d_MO_type_90 : decode (mB m_MO_type) 90 = .ok (.aload_n 0, 1) := by decide +kernel
theorem d_MO_type_91 : decode (mB m_MO_type) 91 = .ok (.getfield 63, 3) := by decide +kernel
theorem d_MO_type_94 : decode (mB m_MO_type) 94 = .ok (.ireturn, 1) := by decide +kernel
theorem d_MO_wipe_0 : decode (mB m_MO_wipe) 0 = .ok (.aload_n 0, 1) := by decide +kernel
theorem d_MO_wipe_1 : decode (mB m_MO_wipe) 1 = .ok (.iconst 0, 1) := by decide +kernel
theorem d_MO_wipe_2 : decode (mB m_MO_wipe) 2 = .ok (.putfield 60, 3) := by decide +kernel
theorem d_MO_wipe_5 : decode (mB m_MO_wipe) 5 = .ok (.aload_n 0, 1) := by decide +kernel
theorem d_MO_wipe_6 : decode (mB m_MO_wipe) 6 = .ok (.iconst 0, 1) := by decide +kernel
theorem d_MO_wipe_7 : decode (mB m_MO_wipe) 7 = .ok (.putfield 63, 3) := by decide +kernel
theorem d_MO_wipe_10 : decode (mB m_MO_wipe) 10 = .ok (.return_, 1) := by decide +kernel
theorem d_MO_put_0 : decode (mB m_MO_put) 0 = .ok (.aload_n 0, 1) := by decide +kernel
theorem d_MO_put_1 : decode (mB m_MO_put) 1 = .ok (.iload_n 1, 1) := by decide +kernel
theorem d_MO_put_2 : decode (mB m_MO_put) 2 = .ok (.ifCond .lt (11), 3) := by decide +kernel
theorem d_MO_put_5 : decode (mB m_MO_put) 5 = .ok (.iload_n 1, 1) := by decide +kernel
theorem d_MO_put_6 : decode (mB m_MO_put) 6 = .ok (.aload_n 0, 1) := by decide +kernel
theorem d_MO_put_7 : decode (mB m_MO_put) 7 = .ok (.getfield 63, 3) := by decide +kernel
theorem d_MO_put_10 : decode (mB m_MO_put) 10 = .ok (.if_icmp .lt (7), 3) := by decide +kernel
theorem d_MO_put_13 : decode (mB m_MO_put) 13 = .ok (.iconst 1, 1) := by decide +kernel
theorem d_MO_put_14 : decode (mB m_MO_put) 14 = .ok (.goto (19), 3) := by decide +kernel
theorem d_MO_put_17 : decode (mB m_MO_put) 17 = .ok (.iload_n 2, 1) := by decide +kernel
theorem d_MO_put_18 : decode (mB m_MO_put) 18 = .ok (.ifCond .lt (10), 3) := by decide +kernel
theorem d_MO_put_21 : decode (mB m_MO_put) 21 = .ok (.iload_n 2, 1) := by decide +kernel
theorem d_MO_put_22 : decode (mB m_MO_put) 22 = .ok (.sipush (255), 3) := by decide +kernel
theorem d_MO_put_25 : decode (mB m_MO_put) 25 = .ok (.if_icmp .le (7), 3) := by decide +kernel
theorem d_MO_put_28 : decode (mB m_MO_put) 28 = .ok (.iconst 2, 1) := by decide +kernel
theorem d_MO_put_29 : decode (mB m_MO_put) 29 = .ok (.goto (4), 3) := by decide +kernel
theorem d_MO_put_32 : decode (mB m_MO_put) 32 = .ok (.iconst 0, 1) := by decide +kernel
theorem d_MO_put_33 : decode (mB m_MO_put) 33 = .ok (.putfield 60, 3) := by decide +kernel
theorem d_MO_put_36 : decode (mB m_MO_put) 36 = .ok (.aload_n 0, 1) := by decide +kernel
theorem d_MO_put_37 : decode (mB m_MO_put) 37 = .ok (.getfield 60, 3) := by decide +kernel
theorem d_MO_put_40 : decode (mB m_MO_put) 40 = .ok (.ifCond .ne (10), 3) := by decide +kernel
theorem d_MO_put_43 : decode (mB m_MO_put) 43 = .ok (.aload_n 0, 1) := by decide +kernel
theorem d_MO_put_44 : decode (mB m_MO_put) 44 = .ok (.getfield 7, 3) := by decide +kernel
theorem d_MO_put_47 : decode (mB m_MO_put) 47 = .ok (.iload_n 1, 1) := by decide +kernel
theorem d_MO_put_48 : decode (mB m_MO_put) 48 = .ok (.iload_n 2, 1) := by decide +kernel
theorem d_MO_put_49 : decode (mB m_MO_put) 49 = .ok (.iastore, 1) := by decide +kernel
theorem d_MO_put_50 : decode (mB m_MO_put) 50 = .ok (.return_, 1) := by decide +kernel
theorem d_MO_number_0 : decode (mB m_MO_number) 0 = .ok (.lconst 0, 1) := by decide +kernel
theorem d_MO_number_1 : decode (mB m_MO_number) 1 = .ok (.lstore_n 3, 1) := by decide +kernel
theorem d_MO_number_2 : decode (mB m_MO_number) 2 = .ok (.iconst 0, 1) := by decide +kernel
theorem d_MO_number_3 : decode (mB m_MO_number) 3 = .ok (.istore 5, 2) := by decide +kernel
theorem d_MO_number_5 : decode (mB m_MO_number) 5 = .ok (.iload 5, 2) := by decide +kernel
theorem d_MO_number_7 : decode (mB m_MO_number) 7 = .ok (.iload_n 2, 1) := by decide +kernel
theorem d_MO_number_8 : decode (mB m_MO_number) 8 = .ok (.if_icmp .ge (26), 3) := by decide +kernel
theorem d_MO_number_11 : decode (mB m_MO_number) 11 = .ok (.ldc2_w 68, 3) := by decide +kernel
theorem d_MO_number_14 : decode (mB m_MO_number) 14 = .ok (.lload_n 3, 1) := by decide +kernel
theorem d_MO_number_15 : decode (mB m_MO_number) 15 = .ok (.lmul, 1) := by decide +kernel
theorem d_MO_number_16 : decode (mB m_MO_number) 16 = .ok (.aload_n 0, 1) := by decide +kernel
theorem d_MO_number_17 : decode (mB m_MO_number) 17 = .ok (.getfield 7, 3) := by decide +kernel
theorem d_MO_number_20 : decode (mB m_MO_number) 20 = .ok (.iload_n 1, 1) := by decide +kernel
theorem d_MO_number_21 : decode (mB m_MO_number) 21 = .ok (.iload 5, 2) := by decide +kernel
theorem d_MO_number_23 : decode (mB m_MO_number) 23 = .ok (.iadd, 1) := by decide +kernel
theorem d_MO_number_24 : decode (mB m_MO_number) 24 = .ok (.iaload, 1) := by decide +kernel
theorem d_MO_number_25 : decode (mB m_MO_number) 25 = .ok (.i2l, 1) := by decide +kernel
theorem d_MO_number_26 : decode (mB m_MO_number) 26 = .ok (.ladd, 1) := by decide +kernel
theorem d_MO_number_27 : decode (mB m_MO_number) 27 = .ok (.lstore_n 3, 1) := by decide +kernel
theorem d_MO_number_28 : decode (mB m_MO_number) 28 = .ok (.iinc 5 (1), 3) := by decide +kernel
theorem d_MO_number_31 : decode (mB m_MO_number) 31 = .ok (.goto (-26), 3) := by decide +kernel
theorem d_MO_number_34 : decode (mB m_MO_number) 34 = .ok (.lload_n 3, 1) := by decide +kernel
theorem d_MO_number_35 : decode (mB m_MO_number) 35 = .ok (.lreturn, 1) := by decide +kernel
theorem d_MO_lay_0 : decode (mB m_MO_lay) 0 = .ok (.iconst 0, 1) := by decide +kernel
theorem d_MO_lay_1 : decode (mB m_MO_lay) 1 = .ok (.istore 5, 2) := by decide +kernel
theorem d_MO_lay_3 : decode (mB m_MO_lay) 3 = .ok (.iload 5, 2) := by decide +kernel
theorem d_MO_lay_5 : decode (mB m_MO_lay) 5 = .ok (.iload_n 2, 1) := by decide +kernel
theorem d_MO_lay_6 : decode (mB m_MO_lay) 6 = .ok (.if_icmp .ge (31), 3) := by decide +kernel
theorem d_MO_lay_9 : decode (mB m_MO_lay) 9 = .ok (.aload_n 0, 1) := by decide +kernel
theorem d_MO_lay_10 : decode (mB m_MO_lay) 10 = .ok (.iload_n 1, 1) := by decide +kernel
theorem d_MO_lay_11 : decode (mB m_MO_lay) 11 = .ok (.iload 5, 2) := by decide +kernel
theorem d_MO_lay_13 : decode (mB m_MO_lay) 13 = .ok (.iadd, 1) := by decide +kernel
theorem d_MO_lay_14 : decode (mB m_MO_lay) 14 = .ok (.lload_n 3, 1) := by decide +kernel
theorem d_MO_lay_15 : decode (mB m_MO_lay) 15 = .ok (.bipush (8), 2) := by decide +kernel
theorem d_MO_lay_17 : decode (mB m_MO_lay) 17 = .ok (.iload_n 2, 1) := by decide +kernel
theorem d_MO_lay_18 : decode (mB m_MO_lay) 18 = .ok (.iconst 1, 1) := by decide +kernel
theorem d_MO_lay_19 : decode (mB m_MO_lay) 19 = .ok (.isub, 1) := by decide +kernel
theorem d_MO_lay_20 : decode (mB m_MO_lay) 20 = .ok (.iload 5, 2) := by decide +kernel
theorem d_MO_lay_22 : decode (mB m_MO_lay) 22 = .ok (.isub, 1) := by decide +kernel
theorem d_MO_lay_23 : decode (mB m_MO_lay) 23 = .ok (.imul, 1) := by decide +kernel
theorem d_MO_lay_24 : decode (mB m_MO_lay) 24 = .ok (.lshr, 1) := by decide +kernel
theorem d_MO_lay_25 : decode (mB m_MO_lay) 25 = .ok (.ldc2_w 66, 3) := by decide +kernel
theorem d_MO_lay_28 : decode (mB m_MO_lay) 28 = .ok (.land, 1) := by decide +kernel
theorem d_MO_lay_29 : decode (mB m_MO_lay) 29 = .ok (.l2i, 1) := by decide +kernel
theorem d_MO_lay_30 : decode (mB m_MO_lay) 30 = .ok (.iastore, 1) := by decide +kernel
theorem d_MO_lay_31 : decode (mB m_MO_lay) 31 = .ok (.iinc 5 (1), 3) := by decide +kernel
theorem d_MO_lay_34 : decode (mB m_MO_lay) 34 = .ok (.goto (-31), 3) := by decide +kernel
theorem d_MO_lay_37 : decode (mB m_MO_lay) 37 = .ok (.return_, 1) := by decide +kernel
theorem d_MO_clearOut_0 : decode (mB m_MO_clearOut) 0 = .ok (.iconst 0, 1) := by decide +kernel
theorem d_MO_clearOut_1 : decode (mB m_MO_clearOut) 1 = .ok (.istore_n 1, 1) := by decide +kernel
theorem d_MO_clearOut_2 : decode (mB m_MO_clearOut) 2 = .ok (.iload_n 1, 1) := by decide +kernel
theorem d_MO_clearOut_3 : decode (mB m_MO_clearOut) 3 = .ok (.bipush (48), 2) := by decide +kernel
theorem d_MO_clearOut_5 : decode (mB m_MO_clearOut) 5 = .ok (.if_icmp .ge (16), 3) := by decide +kernel
theorem d_MO_clearOut_8 : decode (mB m_MO_clearOut) 8 = .ok (.aload_n 0, 1) := by decide +kernel
theorem d_MO_clearOut_9 : decode (mB m_MO_clearOut) 9 = .ok (.getfield 13, 3) := by decide +kernel
theorem d_MO_clearOut_12 : decode (mB m_MO_clearOut) 12 = .ok (.iload_n 1, 1) := by decide +kernel
theorem d_MO_clearOut_13 : decode (mB m_MO_clearOut) 13 = .ok (.iconst 0, 1) := by decide +kernel
theorem d_MO_clearOut_14 : decode (mB m_MO_clearOut) 14 = .ok (.iastore, 1) := by decide +kernel
theorem d_MO_clearOut_15 : decode (mB m_MO_clearOut) 15 = .ok (.iinc 1 (1), 3) := by decide +kernel
theorem d_MO_clearOut_18 : decode (mB m_MO_clearOut) 18 = .ok (.goto (-16), 3) := by decide +kernel
theorem d_MO_clearOut_21 : decode (mB m_MO_clearOut) 21 = .ok (.aload_n 0, 1) := by decide +kernel
theorem d_MO_clearOut_22 : decode (mB m_MO_clearOut) 22 = .ok (.bipush (48), 2) := by decide +kernel
theorem d_MO_clearOut_24 : decode (mB m_MO_clearOut) 24 = .ok (.putfield 70, 3) := by decide +kernel
theorem d_MO_clearOut_27 : decode (mB m_MO_clearOut) 27 = .ok (.return_, 1) := by decide +kernel
theorem d_MO_size__0 : decode (mB m_MO_size_) 0 = .ok (.aload_n 0, 1) := by decide +kernel
theorem d_MO_size__1 : decode (mB m_MO_size_) 1 = .ok (.iconst 0, 1) := by decide +kernel
theorem d_MO_size__2 : decode (mB m_MO_size_) 2 = .ok (.putfield 60, 3) := by decide +kernel
theorem d_MO_size__5 : decode (mB m_MO_size_) 5 = .ok (.aload_n 0, 1) := by decide +kernel
theorem d_MO_size__6 : decode (mB m_MO_size_) 6 = .ok (.getfield 70, 3) := by decide +kernel
theorem d_MO_size__9 : decode (mB m_MO_size_) 9 = .ok (.ireturn, 1) := by decide +kernel
theorem d_MO_out_0 : decode (mB m_MO_out) 0 = .ok (.aload_n 0, 1) := by decide +kernel
theorem d_MO_out_1 : decode (mB m_MO_out) 1 = .ok (.iload_n 1, 1) := by decide +kernel
theorem d_MO_out_2 : decode (mB m_MO_out) 2 = .ok (.ifCond .lt (11), 3) := by decide +kernel
theorem d_MO_out_5 : decode (mB m_MO_out) 5 = .ok (.iload_n 1, 1) := by decide +kernel
theorem d_MO_out_6 : decode (mB m_MO_out) 6 = .ok (.aload_n 0, 1) := by decide +kernel
theorem d_MO_out_7 : decode (mB m_MO_out) 7 = .ok (.getfield 70, 3) := by decide +kernel
theorem d_MO_out_10 : decode (mB m_MO_out) 10 = .ok (.if_icmp .lt (7), 3) := by decide +kernel
theorem d_MO_out_13 : decode (mB m_MO_out) 13 = .ok (.iconst 1, 1) := by decide +kernel
theorem d_MO_out_14 : decode (mB m_MO_out) 14 = .ok (.goto (4), 3) := by decide +kernel
theorem d_MO_out_17 : decode (mB m_MO_out) 17 = .ok (.iconst 0, 1) := by decide +kernel
theorem d_MO_out_18 : decode (mB m_MO_out) 18 = .ok (.putfield 60, 3) := by decide +kernel
theorem d_MO_out_21 : decode (mB m_MO_out) 21 = .ok (.aload_n 0, 1) := by decide +kernel
theorem d_MO_out_22 : decode (mB m_MO_out) 22 = .ok (.getfield 60, 3) := by decide +kernel
theorem d_MO_out_25 : decode (mB m_MO_out) 25 = .ok (.ifCond .le (7), 3) := by decide +kernel
theorem d_MO_out_28 : decode (mB m_MO_out) 28 = .ok (.iconst 0, 1) := by decide +kernel
theorem d_MO_out_29 : decode (mB m_MO_out) 29 = .ok (.goto (9), 3) := by decide +kernel
theorem d_MO_out_32 : decode (mB m_MO_out) 32 = .ok (.aload_n 0, 1) := by decide +kernel
theorem d_MO_out_33 : decode (mB m_MO_out) 33 = .ok (.getfield 13, 3) := by decide +kernel
theorem d_MO_out_36 : decode (mB m_MO_out) 36 = .ok (.iload_n 1, 1) := by decide +kernel
theorem d_MO_out_37 : decode (mB m_MO_out) 37 = .ok (.iaload, 1) := by decide +kernel
theorem d_MO_out_38 : decode (mB m_MO_out) 38 = .ok (.ireturn, 1) := by decide +kernel
theorem d_MO_turn_0 : decode (mB m_MO_turn) 0 = .ok (.aload_n 0, 1) := by decide +kernel
theorem d_MO_turn_1 : decode (mB m_MO_turn) 1 = .ok (.iconst 0, 1) := by decide +kernel
theorem d_MO_turn_2 : decode (mB m_MO_turn) 2 = .ok (.putfield 60, 3) := by decide +kernel
theorem d_MO_turn_5 : decode (mB m_MO_turn) 5 = .ok (.iconst 0, 1) := by decide +kernel
theorem d_MO_turn_6 : decode (mB m_MO_turn) 6 = .ok (.istore_n 1, 1) := by decide +kernel
theorem d_MO_turn_7 : decode (mB m_MO_turn) 7 = .ok (.iload_n 1, 1) := by decide +kernel
theorem d_MO_turn_8 : decode (mB m_MO_turn) 8 = .ok (.aload_n 0, 1) := by decide +kernel
theorem d_MO_turn_9 : decode (mB m_MO_turn) 9 = .ok (.getfield 70, 3) := by decide +kernel
theorem d_MO_turn_12 : decode (mB m_MO_turn) 12 = .ok (.if_icmp .ge (21), 3) := by decide +kernel
theorem d_MO_turn_15 : decode (mB m_MO_turn) 15 = .ok (.aload_n 0, 1) := by decide +kernel
theorem d_MO_turn_16 : decode (mB m_MO_turn) 16 = .ok (.getfield 7, 3) := by decide +kernel
theorem d_MO_turn_19 : decode (mB m_MO_turn) 19 = .ok (.iload_n 1, 1) := by decide +kernel
theorem d_MO_turn_20 : decode (mB m_MO_turn) 20 = .ok (.aload_n 0, 1) := by decide +kernel
theorem d_MO_turn_21 : decode (mB m_MO_turn) 21 = .ok (.getfield 13, 3) := by decide +kernel
theorem d_MO_turn_24 : decode (mB m_MO_turn) 24 = .ok (.iload_n 1, 1) := by decide +kernel
theorem d_MO_turn_25 : decode (mB m_MO_turn) 25 = .ok (.iaload, 1) := by decide +kernel
theorem d_MO_turn_26 : decode (mB m_MO_turn) 26 = .ok (.iastore, 1) := by decide +kernel
theorem d_MO_turn_27 : decode (mB m_MO_turn) 27 = .ok (.iinc 1 (1), 3) := by decide +kernel
theorem d_MO_turn_30 : decode (mB m_MO_turn) 30 = .ok (.goto (-23), 3) := by decide +kernel
theorem d_MO_turn_33 : decode (mB m_MO_turn) 33 = .ok (.aload_n 0, 1) := by decide +kernel
theorem d_MO_turn_34 : decode (mB m_MO_turn) 34 = .ok (.aload_n 0, 1) := by decide +kernel
theorem d_MO_turn_35 : decode (mB m_MO_turn) 35 = .ok (.getfield 70, 3) := by decide +kernel
theorem d_MO_turn_38 : decode (mB m_MO_turn) 38 = .ok (.putfield 63, 3) := by decide +kernel
theorem d_MO_turn_41 : decode (mB m_MO_turn) 41 = .ok (.return_, 1) := by decide +kernel
theorem d_MO_pass_0 : decode (mB m_MO_pass) 0 = .ok (.aload_n 0, 1) := by decide +kernel
theorem d_MO_pass_1 : decode (mB m_MO_pass) 1 = .ok (.iload_n 1, 1) := by decide +kernel
theorem d_MO_pass_2 : decode (mB m_MO_pass) 2 = .ok (.ifCond .lt (10), 3) := by decide +kernel
theorem d_MO_pass_5 : decode (mB m_MO_pass) 5 = .ok (.iload_n 1, 1) := by decide +kernel
theorem d_MO_pass_6 : decode (mB m_MO_pass) 6 = .ok (.sipush (4096), 3) := by decide +kernel
theorem d_MO_pass_9 : decode (mB m_MO_pass) 9 = .ok (.if_icmp .le (7), 3) := by decide +kernel
theorem d_MO_pass_12 : decode (mB m_MO_pass) 12 = .ok (.iconst 1, 1) := by decide +kernel
theorem d_MO_pass_13 : decode (mB m_MO_pass) 13 = .ok (.goto (4), 3) := by decide +kernel
theorem d_MO_pass_16 : decode (mB m_MO_pass) 16 = .ok (.iconst 0, 1) := by decide +kernel
theorem d_MO_pass_17 : decode (mB m_MO_pass) 17 = .ok (.putfield 60, 3) := by decide +kernel
theorem d_MO_pass_20 : decode (mB m_MO_pass) 20 = .ok (.iconst 0, 1) := by decide +kernel
theorem d_MO_pass_21 : decode (mB m_MO_pass) 21 = .ok (.istore_n 2, 1) := by decide +kernel
theorem d_MO_pass_22 : decode (mB m_MO_pass) 22 = .ok (.iload_n 2, 1) := by decide +kernel
theorem d_MO_pass_23 : decode (mB m_MO_pass) 23 = .ok (.iload_n 1, 1) := by decide +kernel
theorem d_MO_pass_24 : decode (mB m_MO_pass) 24 = .ok (.if_icmp .ge (89), 3) := by decide +kernel
theorem d_MO_pass_27 : decode (mB m_MO_pass) 27 = .ok (.aload_n 0, 1) := by decide +kernel
theorem d_MO_pass_28 : decode (mB m_MO_pass) 28 = .ok (.getfield 60, 3) := by decide +kernel
theorem d_MO_pass_31 : decode (mB m_MO_pass) 31 = .ok (.ifCond .ne (82), 3) := by decide +kernel
theorem d_MO_pass_34 : decode (mB m_MO_pass) 34 = .ok (.aload_n 0, 1) := by decide +kernel
theorem d_MO_pass_35 : decode (mB m_MO_pass) 35 = .ok (.getfield 73, 3) := by decide +kernel
theorem d_MO_pass_38 : decode (mB m_MO_pass) 38 = .ok (.ldc2_w 77, 3) := by decide +kernel
theorem d_MO_pass_41 : decode (mB m_MO_pass) 41 = .ok (.ldiv, 1) := by decide +kernel
theorem d_MO_pass_42 : decode (mB m_MO_pass) 42 = .ok (.lconst 0, 1) := by decide +kernel
theorem d_MO_pass_43 : decode (mB m_MO_pass) 43 = .ok (.lcmp, 1) := by decide +kernel
theorem d_MO_pass_44 : decode (mB m_MO_pass) 44 = .ok (.ifCond .ne (10), 3) := by decide +kernel
theorem d_MO_pass_47 : decode (mB m_MO_pass) 47 = .ok (.aload_n 0, 1) := by decide +kernel
theorem d_MO_pass_48 : decode (mB m_MO_pass) 48 = .ok (.getfield 73, 3) := by decide +kernel
theorem d_MO_pass_51 : decode (mB m_MO_pass) 51 = .ok (.goto (11), 3) := by decide +kernel
theorem d_MO_pass_54 : decode (mB m_MO_pass) 54 = .ok (.aload_n 0, 1) := by decide +kernel
theorem d_MO_pass_55 : decode (mB m_MO_pass) 55 = .ok (.getfield 73, 3) := by decide +kernel
theorem d_MO_pass_58 : decode (mB m_MO_pass) 58 = .ok (.ldc2_w 77, 3) := by decide +kernel
theorem d_MO_pass_61 : decode (mB m_MO_pass) 61 = .ok (.ldiv, 1) := by decide +kernel
theorem d_MO_pass_62 : decode (mB m_MO_pass) 62 = .ok (.lstore_n 3, 1) := by decide +kernel
theorem d_MO_pass_63 : decode (mB m_MO_pass) 63 = .ok (.aload_n 0, 1) := by decide +kernel
theorem d_MO_pass_64 : decode (mB m_MO_pass) 64 = .ok (.dup, 1) := by decide +kernel
theorem d_MO_pass_65 : decode (mB m_MO_pass) 65 = .ok (.getfield 79, 3) := by decide +kernel
theorem d_MO_pass_68 : decode (mB m_MO_pass) 68 = .ok (.ldc2_w 82, 3) := by decide +kernel
theorem d_MO_pass_71 : decode (mB m_MO_pass) 71 = .ok (.aload_n 0, 1) := by decide +kernel
theorem d_MO_pass_72 : decode (mB m_MO_pass) 72 = .ok (.getfield 84, 3) := by decide +kernel
theorem d_MO_pass_75 : decode (mB m_MO_pass) 75 = .ok (.ladd, 1) := by decide +kernel
theorem d_MO_pass_76 : decode (mB m_MO_pass) 76 = .ok (.aload_n 0, 1) := by decide +kernel
theorem d_MO_pass_77 : decode (mB m_MO_pass) 77 = .ok (.getfield 87, 3) := by decide +kernel
theorem d_MO_pass_80 : decode (mB m_MO_pass) 80 = .ok (.ladd, 1) := by decide +kernel
theorem d_MO_pass_81 : decode (mB m_MO_pass) 81 = .ok (.lload_n 3, 1) := by decide +kernel
theorem d_MO_pass_82 : decode (mB m_MO_pass) 82 = .ok (.ladd, 1) := by decide +kernel
theorem d_MO_pass_83 : decode (mB m_MO_pass) 83 = .ok (.ladd, 1) := by decide +kernel
theorem d_MO_pass_84 : decode (mB m_MO_pass) 84 = .ok (.putfield 79, 3) := by decide +kernel
theorem d_MO_pass_87 : decode (mB m_MO_pass) 87 = .ok (.aload_n 0, 1) := by decide +kernel
theorem d_MO_pass_88 : decode (mB m_MO_pass) 88 = .ok (.dup, 1) := by decide +kernel
theorem d_MO_pass_89 : decode (mB m_MO_pass) 89 = .ok (.getfield 73, 3) := by decide +kernel
theorem d_MO_pass_92 : decode (mB m_MO_pass) 92 = .ok (.lload_n 3, 1) := by decide +kernel
theorem d_MO_pass_93 : decode (mB m_MO_pass) 93 = .ok (.lsub, 1) := by decide +kernel
theorem d_MO_pass_94 : decode (mB m_MO_pass) 94 = .ok (.putfield 73, 3) := by decide +kernel
theorem d_MO_pass_97 : decode (mB m_MO_pass) 97 = .ok (.aload_n 0, 1) := by decide +kernel
theorem d_MO_pass_98 : decode (mB m_MO_pass) 98 = .ok (.dup, 1) := by decide +kernel
theorem d_MO_pass_99 : decode (mB m_MO_pass) 99 = .ok (.getfield 90, 3) := by decide +kernel
theorem d_MO_pass_102 : decode (mB m_MO_pass) 102 = .ok (.iconst 1, 1) := by decide +kernel
theorem d_MO_pass_103 : decode (mB m_MO_pass) 103 = .ok (.iadd, 1) := by decide +kernel
theorem d_MO_pass_104 : decode (mB m_MO_pass) 104 = .ok (.putfield 90, 3) := by decide +kernel
theorem d_MO_pass_107 : decode (mB m_MO_pass) 107 = .ok (.iinc 2 (1), 3) := by decide +kernel
theorem d_MO_pass_110 : decode (mB m_MO_pass) 110 = .ok (.goto (-88), 3) := by decide +kernel
theorem d_MO_pass_113 : decode (mB m_MO_pass) 113 = .ok (.aload_n 0, 1) := by decide +kernel
theorem d_MO_pass_114 : decode (mB m_MO_pass) 114 = .ok (.getfield 60, 3) := by decide +kernel
theorem d_MO_pass_117 : decode (mB m_MO_pass) 117 = .ok (.ifCond .le (7), 3) := by decide +kernel
theorem d_MO_pass_120 : decode (mB m_MO_pass) 120 = .ok (.iconst 0, 1) := by decide +kernel
theorem d_MO_pass_121 : decode (mB m_MO_pass) 121 = .ok (.goto (7), 3) := by decide +kernel
theorem d_MO_pass_124 : decode (mB m_MO_pass) 124 = .ok (.aload_n 0, 1) := by decide +kernel
theorem d_MO_pass_125 : decode (mB m_MO_pass) 125 = .ok (.getfield 90, 3) := by decide +kernel
theorem d_MO_pass_128 : decode (mB m_MO_pass) 128 = .ok (.ireturn, 1) := by decide +kernel
theorem d_MO_clock_0 : decode (mB m_MO_clock) 0 = .ok (.aload_n 0, 1) := by decide +kernel
theorem d_MO_clock_1 : decode (mB m_MO_clock) 1 = .ok (.iconst 0, 1) := by decide +kernel
theorem d_MO_clock_2 : decode (mB m_MO_clock) 2 = .ok (.putfield 60, 3) := by decide +kernel
theorem d_MO_clock_5 : decode (mB m_MO_clock) 5 = .ok (.aload_n 0, 1) := by decide +kernel
theorem d_MO_clock_6 : decode (mB m_MO_clock) 6 = .ok (.getfield 79, 3) := by decide +kernel
theorem d_MO_clock_9 : decode (mB m_MO_clock) 9 = .ok (.lreturn, 1) := by decide +kernel
theorem d_MO_set_0 : decode (mB m_MO_set) 0 = .ok (.aload_n 0, 1) := by decide +kernel
theorem d_MO_set_1 : decode (mB m_MO_set) 1 = .ok (.iconst 0, 1) := by decide +kernel
theorem d_MO_set_2 : decode (mB m_MO_set) 2 = .ok (.putfield 60, 3) := by decide +kernel
theorem d_MO_set_5 : decode (mB m_MO_set) 5 = .ok (.aload_n 0, 1) := by decide +kernel
theorem d_MO_set_6 : decode (mB m_MO_set) 6 = .ok (.lload_n 1, 1) := by decide +kernel
theorem d_MO_set_7 : decode (mB m_MO_set) 7 = .ok (.putfield 79, 3) := by decide +kernel
theorem d_MO_set_10 : decode (mB m_MO_set) 10 = .ok (.return_, 1) := by decide +kernel
theorem d_MO_drift_0 : decode (mB m_MO_drift) 0 = .ok (.aload_n 0, 1) := by decide +kernel
theorem d_MO_drift_1 : decode (mB m_MO_drift) 1 = .ok (.iload_n 1, 1) := by decide +kernel
theorem d_MO_drift_2 : decode (mB m_MO_drift) 2 = .ok (.ldc 93, 2) := by decide +kernel
theorem d_MO_drift_4 : decode (mB m_MO_drift) 4 = .ok (.if_icmp .lt (9), 3) := by decide +kernel
theorem d_MO_drift_7 : decode (mB m_MO_drift) 7 = .ok (.iload_n 1, 1) := by decide +kernel
theorem d_MO_drift_8 : decode (mB m_MO_drift) 8 = .ok (.ldc 94, 2) := by decide +kernel
theorem d_MO_drift_10 : decode (mB m_MO_drift) 10 = .ok (.if_icmp .le (7), 3) := by decide +kernel
theorem d_MO_drift_13 : decode (mB m_MO_drift) 13 = .ok (.iconst 1, 1) := by decide +kernel
theorem d_MO_drift_14 : decode (mB m_MO_drift) 14 = .ok (.goto (4), 3) := by decide +kernel
theorem d_MO_drift_17 : decode (mB m_MO_drift) 17 = .ok (.iconst 0, 1) := by decide +kernel
theorem d_MO_drift_18 : decode (mB m_MO_drift) 18 = .ok (.putfield 60, 3) := by decide +kernel
theorem d_MO_drift_21 : decode (mB m_MO_drift) 21 = .ok (.aload_n 0, 1) := by decide +kernel
theorem d_MO_drift_22 : decode (mB m_MO_drift) 22 = .ok (.getfield 60, 3) := by decide +kernel
theorem d_MO_drift_25 : decode (mB m_MO_drift) 25 = .ok (.ifCond .ne (9), 3) := by decide +kernel
theorem d_MO_drift_28 : decode (mB m_MO_drift) 28 = .ok (.aload_n 0, 1) := by decide +kernel
theorem d_MO_drift_29 : decode (mB m_MO_drift) 29 = .ok (.iload_n 1, 1) := by decide +kernel
theorem d_MO_drift_30 : decode (mB m_MO_drift) 30 = .ok (.i2l, 1) := by decide +kernel
theorem d_MO_drift_31 : decode (mB m_MO_drift) 31 = .ok (.putfield 84, 3) := by decide +kernel
theorem d_MO_drift_34 : decode (mB m_MO_drift) 34 = .ok (.return_, 1) := by decide +kernel
theorem d_MO_size_J_0 : decode (mB m_MO_size_J) 0 = .ok (.lload_n 0, 1) := by decide +kernel
theorem d_MO_size_J_1 : decode (mB m_MO_size_J) 1 = .ok (.lconst 0, 1) := by decide +kernel
theorem d_MO_size_J_2 : decode (mB m_MO_size_J) 2 = .ok (.lcmp, 1) := by decide +kernel
theorem d_MO_size_J_3 : decode (mB m_MO_size_J) 3 = .ok (.ifCond .ge (8), 3) := by decide +kernel
theorem d_MO_size_J_6 : decode (mB m_MO_size_J) 6 = .ok (.lload_n 0, 1) := by decide +kernel
theorem d_MO_size_J_7 : decode (mB m_MO_size_J) 7 = .ok (.lneg, 1) := by decide +kernel
theorem d_MO_size_J_8 : decode (mB m_MO_size_J) 8 = .ok (.goto (4), 3) := by decide +kernel
theorem d_MO_size_J_11 : decode (mB m_MO_size_J) 11 = .ok (.lload_n 0, 1) := by decide +kernel
theorem d_MO_size_J_12 : decode (mB m_MO_size_J) 12 = .ok (.lreturn, 1) := by decide +kernel
theorem d_MO_floor_0 : decode (mB m_MO_floor) 0 = .ok (.lload_n 0, 1) := by decide +kernel
theorem d_MO_floor_1 : decode (mB m_MO_floor) 1 = .ok (.lload_n 2, 1) := by decide +kernel
theorem d_MO_floor_2 : decode (mB m_MO_floor) 2 = .ok (.ldiv, 1) := by decide +kernel
theorem d_MO_floor_3 : decode (mB m_MO_floor) 3 = .ok (.lstore 4, 2) := by decide +kernel
theorem d_MO_floor_5 : decode (mB m_MO_floor) 5 = .ok (.lload_n 0, 1) := by decide +kernel
theorem d_MO_floor_6 : decode (mB m_MO_floor) 6 = .ok (.lconst 0, 1) := by decide +kernel
theorem d_MO_floor_7 : decode (mB m_MO_floor) 7 = .ok (.lcmp, 1) := by decide +kernel
theorem d_MO_floor_8 : decode (mB m_MO_floor) 8 = .ok (.ifCond .ge (19), 3) := by decide +kernel
theorem d_MO_floor_11 : decode (mB m_MO_floor) 11 = .ok (.lload 4, 2) := by decide +kernel
theorem d_MO_floor_13 : decode (mB m_MO_floor) 13 = .ok (.lload_n 2, 1) := by decide +kernel
theorem d_MO_floor_14 : decode (mB m_MO_floor) 14 = .ok (.lmul, 1) := by decide +kernel
theorem d_MO_floor_15 : decode (mB m_MO_floor) 15 = .ok (.lload_n 0, 1) := by decide +kernel
theorem d_MO_floor_16 : decode (mB m_MO_floor) 16 = .ok (.lcmp, 1) := by decide +kernel
theorem d_MO_floor_17 : decode (mB m_MO_floor) 17 = .ok (.ifCond .eq (10), 3) := by decide +kernel
theorem d_MO_floor_20 : decode (mB m_MO_floor) 20 = .ok (.lload 4, 2) := by decide +kernel
theorem d_MO_floor_22 : decode (mB m_MO_floor) 22 = .ok (.lconst 1, 1) := by decide +kernel
theorem d_MO_floor_23 : decode (mB m_MO_floor) 23 = .ok (.lsub, 1) := by decide +kernel
theorem d_MO_floor_24 : decode (mB m_MO_floor) 24 = .ok (.goto (5), 3) := by decide +kernel
theorem d_MO_floor_27 : decode (mB m_MO_floor) 27 = .ok (.lload 4, 2) := by decide +kernel
theorem d_MO_floor_29 : decode (mB m_MO_floor) 29 = .ok (.lreturn, 1) := by decide +kernel
theorem d_MO_root_0 : decode (mB m_MO_root) 0 = .ok (.lconst 0, 1) := by decide +kernel
theorem d_MO_root_1 : decode (mB m_MO_root) 1 = .ok (.lstore_n 2, 1) := by decide +kernel
theorem d_MO_root_2 : decode (mB m_MO_root) 2 = .ok (.ldc2_w 95, 3) := by decide +kernel
theorem d_MO_root_5 : decode (mB m_MO_root) 5 = .ok (.lstore 4, 2) := by decide +kernel
theorem d_MO_root_7 : decode (mB m_MO_root) 7 = .ok (.lload_n 2, 1) := by decide +kernel
theorem d_MO_root_8 : decode (mB m_MO_root) 8 = .ok (.lload 4, 2) := by decide +kernel
theorem d_MO_root_10 : decode (mB m_MO_root) 10 = .ok (.lcmp, 1) := by decide +kernel
theorem d_MO_root_11 : decode (mB m_MO_root) 11 = .ok (.ifCond .ge (40), 3) := by decide +kernel
theorem d_MO_root_14 : decode (mB m_MO_root) 14 = .ok (.lload_n 2, 1) := by decide +kernel
theorem d_MO_root_15 : decode (mB m_MO_root) 15 = .ok (.lload 4, 2) := by decide +kernel
theorem d_MO_root_17 : decode (mB m_MO_root) 17 = .ok (.ladd, 1) := by decide +kernel
theorem d_MO_root_18 : decode (mB m_MO_root) 18 = .ok (.lconst 1, 1) := by decide +kernel
theorem d_MO_root_19 : decode (mB m_MO_root) 19 = .ok (.ladd, 1) := by decide +kernel
theorem d_MO_root_20 : decode (mB m_MO_root) 20 = .ok (.ldc2_w 97, 3) := by decide +kernel
theorem d_MO_root_23 : decode (mB m_MO_root) 23 = .ok (.ldiv, 1) := by decide +kernel
theorem d_MO_root_24 : decode (mB m_MO_root) 24 = .ok (.lstore 6, 2) := by decide +kernel
theorem d_MO_root_26 : decode (mB m_MO_root) 26 = .ok (.lload 6, 2) := by decide +kernel
theorem d_MO_root_28 : decode (mB m_MO_root) 28 = .ok (.lload 6, 2) := by decide +kernel
theorem d_MO_root_30 : decode (mB m_MO_root) 30 = .ok (.lmul, 1) := by decide +kernel
theorem d_MO_root_31 : decode (mB m_MO_root) 31 = .ok (.lload_n 0, 1) := by decide +kernel
theorem d_MO_root_32 : decode (mB m_MO_root) 32 = .ok (.lcmp, 1) := by decide +kernel
theorem d_MO_root_33 : decode (mB m_MO_root) 33 = .ok (.ifCond .gt (9), 3) := by decide +kernel
theorem d_MO_root_36 : decode (mB m_MO_root) 36 = .ok (.lload 6, 2) := by decide +kernel
theorem d_MO_root_38 : decode (mB m_MO_root) 38 = .ok (.lstore_n 2, 1) := by decide +kernel
theorem d_MO_root_39 : decode (mB m_MO_root) 39 = .ok (.goto (9), 3) := by decide +kernel
theorem d_MO_root_42 : decode (mB m_MO_root) 42 = .ok (.lload 6, 2) := by decide +kernel
theorem d_MO_root_44 : decode (mB m_MO_root) 44 = .ok (.lconst 1, 1) := by decide +kernel
theorem d_MO_root_45 : decode (mB m_MO_root) 45 = .ok (.lsub, 1) := by decide +kernel
theorem d_MO_root_46 : decode (mB m_MO_root) 46 = .ok (.lstore 4, 2) := by decide +kernel
theorem d_MO_root_48 : decode (mB m_MO_root) 48 = .ok (.goto (-41), 3) := by decide +kernel
theorem d_MO_root_51 : decode (mB m_MO_root) 51 = .ok (.lload_n 2, 1) := by decide +kernel
theorem d_MO_root_52 : decode (mB m_MO_root) 52 = .ok (.lreturn, 1) := by decide +kernel
theorem d_MO_square_0 : decode (mB m_MO_square) 0 = .ok (.lload_n 0, 1) := by decide +kernel
theorem d_MO_square_1 : decode (mB m_MO_square) 1 = .ok (.ldc2_w 99, 3) := by decide +kernel
theorem d_MO_square_4 : decode (mB m_MO_square) 4 = .ok (.invokestatic 101, 3) := by decide +kernel
theorem d_MO_square_7 : decode (mB m_MO_square) 7 = .ok (.lstore_n 2, 1) := by decide +kernel
theorem d_MO_square_8 : decode (mB m_MO_square) 8 = .ok (.lload_n 2, 1) := by decide +kernel
theorem d_MO_square_9 : decode (mB m_MO_square) 9 = .ok (.lload_n 2, 1) := by decide +kernel
theorem d_MO_square_10 : decode (mB m_MO_square) 10 = .ok (.lmul, 1) := by decide +kernel
theorem d_MO_square_11 : decode (mB m_MO_square) 11 = .ok (.lreturn, 1) := by decide +kernel
theorem d_MO_sampleAt_0 : decode (mB m_MO_sampleAt) 0 = .ok (.bipush (8), 2) := by decide +kernel
theorem d_MO_sampleAt_2 : decode (mB m_MO_sampleAt) 2 = .ok (.iload_n 1, 1) := by decide +kernel
theorem d_MO_sampleAt_3 : decode (mB m_MO_sampleAt) 3 = .ok (.imul, 1) := by decide +kernel
theorem d_MO_sampleAt_4 : decode (mB m_MO_sampleAt) 4 = .ok (.iload_n 2, 1) := by decide +kernel
theorem d_MO_sampleAt_5 : decode (mB m_MO_sampleAt) 5 = .ok (.iadd, 1) := by decide +kernel
theorem d_MO_sampleAt_6 : decode (mB m_MO_sampleAt) 6 = .ok (.ireturn, 1) := by decide +kernel
theorem d_MO_ordered_0 : decode (mB m_MO_ordered) 0 = .ok (.iconst (-1), 1) := by decide +kernel
theorem d_MO_ordered_1 : decode (mB m_MO_ordered) 1 = .ok (.istore_n 3, 1) := by decide +kernel
theorem d_MO_ordered_2 : decode (mB m_MO_ordered) 2 = .ok (.iconst 0, 1) := by decide +kernel
theorem d_MO_ordered_3 : decode (mB m_MO_ordered) 3 = .ok (.istore 4, 2) := by decide +kernel
theorem d_MO_ordered_5 : decode (mB m_MO_ordered) 5 = .ok (.iload 4, 2) := by decide +kernel
theorem d_MO_ordered_7 : decode (mB m_MO_ordered) 7 = .ok (.aload_n 0, 1) := by decide +kernel
theorem d_MO_ordered_8 : decode (mB m_MO_ordered) 8 = .ok (.getfield 35, 3) := by decide +kernel
theorem d_MO_ordered_11 : decode (mB m_MO_ordered) 11 = .ok (.iload_n 1, 1) := by decide +kernel
theorem d_MO_ordered_12 : decode (mB m_MO_ordered) 12 = .ok (.iaload, 1) := by decide +kernel
theorem d_MO_ordered_13 : decode (mB m_MO_ordered) 13 = .ok (.if_icmp .ge (112), 3) := by decide +kernel
theorem d_MO_ordered_16 : decode (mB m_MO_ordered) 16 = .ok (.iconst 0, 1) := by decide +kernel
theorem d_MO_ordered_17 : decode (mB m_MO_ordered) 17 = .ok (.istore 5, 2) := by decide +kernel
theorem d_MO_ordered_19 : decode (mB m_MO_ordered) 19 = .ok (.iconst 0, 1) := by decide +kernel
theorem d_MO_ordered_20 : decode (mB m_MO_ordered) 20 = .ok (.istore 6, 2) := by decide +kernel
theorem d_MO_ordered_22 : decode (mB m_MO_ordered) 22 = .ok (.iload 6, 2) := by decide +kernel
theorem d_MO_ordered_24 : decode (mB m_MO_ordered) 24 = .ok (.aload_n 0, 1) := by decide +kernel
theorem d_MO_ordered_25 : decode (mB m_MO_ordered) 25 = .ok (.getfield 35, 3) := by decide +kernel
theorem d_MO_ordered_28 : decode (mB m_MO_ordered) 28 = .ok (.iload_n 1, 1) := by decide +kernel
theorem d_MO_ordered_29 : decode (mB m_MO_ordered) 29 = .ok (.iaload, 1) := by decide +kernel
theorem d_MO_ordered_30 : decode (mB m_MO_ordered) 30 = .ok (.if_icmp .ge (71), 3) := by decide +kernel
theorem d_MO_ordered_33 : decode (mB m_MO_ordered) 33 = .ok (.aload_n 0, 1) := by decide +kernel
theorem d_MO_ordered_34 : decode (mB m_MO_ordered) 34 = .ok (.getfield 44, 3) := by decide +kernel
theorem d_MO_ordered_37 : decode (mB m_MO_ordered) 37 = .ok (.aload_n 0, 1) := by decide +kernel
theorem d_MO_ordered_38 : decode (mB m_MO_ordered) 38 = .ok (.iload_n 1, 1) := by decide +kernel
theorem d_MO_ordered_39 : decode (mB m_MO_ordered) 39 = .ok (.iload 6, 2) := by decide +kernel
theorem d_MO_ordered_41 : decode (mB m_MO_ordered) 41 = .ok (.invokevirtual 105, 3) := by decide +kernel
theorem d_MO_ordered_44 : decode (mB m_MO_ordered) 44 = .ok (.laload, 1) := by decide +kernel
theorem d_MO_ordered_45 : decode (mB m_MO_ordered) 45 = .ok (.lstore 7, 2) := by decide +kernel
theorem d_MO_ordered_47 : decode (mB m_MO_ordered) 47 = .ok (.aload_n 0, 1) := by decide +kernel
theorem d_MO_ordered_48 : decode (mB m_MO_ordered) 48 = .ok (.getfield 44, 3) := by decide +kernel
theorem d_MO_ordered_51 : decode (mB m_MO_ordered) 51 = .ok (.aload_n 0, 1) := by decide +kernel
theorem d_MO_ordered_52 : decode (mB m_MO_ordered) 52 = .ok (.iload_n 1, 1) := by decide +kernel
theorem d_MO_ordered_53 : decode (mB m_MO_ordered) 53 = .ok (.iload 4, 2) := by decide +kernel
theorem d_MO_ordered_55 : decode (mB m_MO_ordered) 55 = .ok (.invokevirtual 105, 3) := by decide +kernel
theorem d_MO_ordered_58 : decode (mB m_MO_ordered) 58 = .ok (.laload, 1) := by decide +kernel
theorem d_MO_ordered_59 : decode (mB m_MO_ordered) 59 = .ok (.lstore 9, 2) := by decide +kernel
theorem d_MO_ordered_61 : decode (mB m_MO_ordered) 61 = .ok (.lload 7, 2) := by decide +kernel
theorem d_MO_ordered_63 : decode (mB m_MO_ordered) 63 = .ok (.lload 9, 2) := by decide +kernel
theorem d_MO_ordered_65 : decode (mB m_MO_ordered) 65 = .ok (.lcmp, 1) := by decide +kernel
theorem d_MO_ordered_66 : decode (mB m_MO_ordered) 66 = .ok (.ifCond .lt (18), 3) := by decide +kernel
theorem d_MO_ordered_69 : decode (mB m_MO_ordered) 69 = .ok (.lload 7, 2) := by decide +kernel
theorem d_MO_ordered_71 : decode (mB m_MO_ordered) 71 = .ok (.lload 9, 2) := by decide +kernel
theorem d_MO_ordered_73 : decode (mB m_MO_ordered) 73 = .ok (.lcmp, 1) := by decide +kernel
theorem d_MO_ordered_74 : decode (mB m_MO_ordered) 74 = .ok (.ifCond .ne (17), 3) := by decide +kernel
theorem d_MO_ordered_77 : decode (mB m_MO_ordered) 77 = .ok (.iload 6, 2) := by decide +kernel
theorem d_MO_ordered_79 : decode (mB m_MO_ordered) 79 = .ok (.iload 4, 2) := by decide +kernel
theorem d_MO_ordered_81 : decode (mB m_MO_ordered) 81 = .ok (.if_icmp .le (10), 3) := by decide +kernel
theorem d_MO_ordered_84 : decode (mB m_MO_ordered) 84 = .ok (.iload 5, 2) := by decide +kernel
theorem d_MO_ordered_86 : decode (mB m_MO_ordered) 86 = .ok (.iconst 1, 1) := by decide +kernel
theorem d_MO_ordered_87 : decode (mB m_MO_ordered) 87 = .ok (.iadd, 1) := by decide +kernel
theorem d_MO_ordered_88 : decode (mB m_MO_ordered) 88 = .ok (.goto (5), 3) := by decide +kernel
theorem d_MO_ordered_91 : decode (mB m_MO_ordered) 91 = .ok (.iload 5, 2) := by decide +kernel
theorem d_MO_ordered_93 : decode (mB m_MO_ordered) 93 = .ok (.istore 5, 2) := by decide +kernel
theorem d_MO_ordered_95 : decode (mB m_MO_ordered) 95 = .ok (.iinc 6 (1), 3) := by decide +kernel
theorem d_MO_ordered_98 : decode (mB m_MO_ordered) 98 = .ok (.goto (-76), 3) := by decide +kernel
theorem d_MO_ordered_101 : decode (mB m_MO_ordered) 101 = .ok (.iload 5, 2) := by decide +kernel
theorem d_MO_ordered_103 : decode (mB m_MO_ordered) 103 = .ok (.iload_n 2, 1) := by decide +kernel
theorem d_MO_ordered_104 : decode (mB m_MO_ordered) 104 = .ok (.if_icmp .ne (13), 3) := by decide +kernel
theorem d_MO_ordered_107 : decode (mB m_MO_ordered) 107 = .ok (.aload_n 0, 1) := by decide +kernel
theorem d_MO_ordered_108 : decode (mB m_MO_ordered) 108 = .ok (.iload_n 1, 1) := by decide +kernel
theorem d_MO_ordered_109 : decode (mB m_MO_ordered) 109 = .ok (.iload 4, 2) := by decide +kernel
theorem d_MO_ordered_111 : decode (mB m_MO_ordered) 111 = .ok (.invokevirtual 105, 3) := by decide +kernel
theorem d_MO_ordered_114 : decode (mB m_MO_ordered) 114 = .ok (.goto (4), 3) := by decide +kernel
theorem d_MO_ordered_117 : decode (mB m_MO_ordered) 117 = .ok (.iload_n 3, 1) := by decide +kernel
theorem d_MO_ordered_118 : decode (mB m_MO_ordered) 118 = .ok (.istore_n 3, 1) := by decide +kernel
theorem d_MO_ordered_119 : decode (mB m_MO_ordered) 119 = .ok (.iinc 4 (1), 3) := by decide +kernel
theorem d_MO_ordered_122 : decode (mB m_MO_ordered) 122 = .ok (.goto (-117), 3) := by decide +kernel
theorem d_MO_ordered_125 : decode (mB m_MO_ordered) 125 = .ok (.iload_n 3, 1) := by decide +kernel
theorem d_MO_ordered_126 : decode (mB m_MO_ordered) 126 = .ok (.ireturn, 1) := by decide +kernel
theorem d_MO_now_0 : decode (mB m_MO_now) 0 = .ok (.aload_n 0, 1) := by decide +kernel
theorem d_MO_now_1 : decode (mB m_MO_now) 1 = .ok (.getfield 47, 3) := by decide +kernel
theorem d_MO_now_4 : decode (mB m_MO_now) 4 = .ok (.iload_n 1, 1) := by decide +kernel
theorem d_MO_now_5 : decode (mB m_MO_now) 5 = .ok (.laload, 1) := by decide +kernel
theorem d_MO_now_6 : decode (mB m_MO_now) 6 = .ok (.ldc2_w 109, 3) := by decide +kernel
theorem d_MO_now_9 : decode (mB m_MO_now) 9 = .ok (.aload_n 0, 1) := by decide +kernel
theorem d_MO_now_10 : decode (mB m_MO_now) 10 = .ok (.getfield 90, 3) := by decide +kernel
theorem d_MO_now_13 : decode (mB m_MO_now) 13 = .ok (.aload_n 0, 1) := by decide +kernel
theorem d_MO_now_14 : decode (mB m_MO_now) 14 = .ok (.getfield 50, 3) := by decide +kernel
theorem d_MO_now_17 : decode (mB m_MO_now) 17 = .ok (.iload_n 1, 1) := by decide +kernel
theorem d_MO_now_18 : decode (mB m_MO_now) 18 = .ok (.iaload, 1) := by decide +kernel
theorem d_MO_now_19 : decode (mB m_MO_now) 19 = .ok (.isub, 1) := by decide +kernel
theorem d_MO_now_20 : decode (mB m_MO_now) 20 = .ok (.i2l, 1) := by decide +kernel
theorem d_MO_now_21 : decode (mB m_MO_now) 21 = .ok (.lmul, 1) := by decide +kernel
theorem d_MO_now_22 : decode (mB m_MO_now) 22 = .ok (.ladd, 1) := by decide +kernel
theorem d_MO_now_23 : decode (mB m_MO_now) 23 = .ok (.lstore_n 2, 1) := by decide +kernel
theorem d_MO_now_24 : decode (mB m_MO_now) 24 = .ok (.lload_n 2, 1) := by decide +kernel
theorem d_MO_now_25 : decode (mB m_MO_now) 25 = .ok (.ldc2_w 111, 3) := by decide +kernel
theorem d_MO_now_28 : decode (mB m_MO_now) 28 = .ok (.lcmp, 1) := by decide +kernel
theorem d_MO_now_29 : decode (mB m_MO_now) 29 = .ok (.ifCond .le (9), 3) := by decide +kernel
theorem d_MO_now_32 : decode (mB m_MO_now) 32 = .ok (.ldc2_w 111, 3) := by decide +kernel
theorem d_MO_now_35 : decode (mB m_MO_now) 35 = .ok (.goto (4), 3) := by decide +kernel
theorem d_MO_now_38 : decode (mB m_MO_now) 38 = .ok (.lload_n 2, 1) := by decide +kernel
theorem d_MO_now_39 : decode (mB m_MO_now) 39 = .ok (.lreturn, 1) := by decide +kernel
theorem d_MO_offsetOf_0 : decode (mB m_MO_offsetOf) 0 = .ok (.aload_n 0, 1) := by decide +kernel
theorem d_MO_offsetOf_1 : decode (mB m_MO_offsetOf) 1 = .ok (.getfield 41, 3) := by decide +kernel
theorem d_MO_offsetOf_4 : decode (mB m_MO_offsetOf) 4 = .ok (.aload_n 0, 1) := by decide +kernel
theorem d_MO_offsetOf_5 : decode (mB m_MO_offsetOf) 5 = .ok (.iload_n 1, 1) := by decide +kernel
theorem d_MO_offsetOf_6 : decode (mB m_MO_offsetOf) 6 = .ok (.iconst 0, 1) := by decide +kernel
theorem d_MO_offsetOf_7 : decode (mB m_MO_offsetOf) 7 = .ok (.invokevirtual 113, 3) := by decide +kernel
theorem d_MO_offsetOf_10 : decode (mB m_MO_offsetOf) 10 = .ok (.laload, 1) := by decide +kernel
theorem d_MO_offsetOf_11 : decode (mB m_MO_offsetOf) 11 = .ok (.lreturn, 1) := by decide +kernel
theorem d_MO_delayOf_0 : decode (mB m_MO_delayOf) 0 = .ok (.aload_n 0, 1) := by decide +kernel
theorem d_MO_delayOf_1 : decode (mB m_MO_delayOf) 1 = .ok (.getfield 44, 3) := by decide +kernel
theorem d_MO_delayOf_4 : decode (mB m_MO_delayOf) 4 = .ok (.aload_n 0, 1) := by decide +kernel
theorem d_MO_delayOf_5 : decode (mB m_MO_delayOf) 5 = .ok (.iload_n 1, 1) := by decide +kernel
theorem d_MO_delayOf_6 : decode (mB m_MO_delayOf) 6 = .ok (.iconst 0, 1) := by decide +kernel
theorem d_MO_delayOf_7 : decode (mB m_MO_delayOf) 7 = .ok (.invokevirtual 113, 3) := by decide +kernel
theorem d_MO_delayOf_10 : decode (mB m_MO_delayOf) 10 = .ok (.laload, 1) := by decide +kernel
theorem d_MO_delayOf_11 : decode (mB m_MO_delayOf) 11 = .ok (.lreturn, 1) := by decide +kernel
theorem d_MO_dispersionOf_0 : decode (mB m_MO_dispersionOf) 0 = .ok (.lconst 0, 1) := by decide +kernel
theorem d_MO_dispersionOf_1 : decode (mB m_MO_dispersionOf) 1 = .ok (.lstore_n 2, 1) := by decide +kernel
theorem d_MO_dispersionOf_2 : decode (mB m_MO_dispersionOf) 2 = .ok (.ldc2_w 97, 3) := by decide +kernel
theorem d_MO_dispersionOf_5 : decode (mB m_MO_dispersionOf) 5 = .ok (.lstore 4, 2) := by decide +kernel
theorem d_MO_dispersionOf_7 : decode (mB m_MO_dispersionOf) 7 = .ok (.iconst 0, 1) := by decide +kernel
theorem d_MO_dispersionOf_8 : decode (mB m_MO_dispersionOf) 8 = .ok (.istore 6, 2) := by decide +kernel
theorem d_MO_dispersionOf_10 : decode (mB m_MO_dispersionOf) 10 = .ok (.iload 6, 2) := by decide +kernel
theorem d_MO_dispersionOf_12 : decode (mB m_MO_dispersionOf) 12 = .ok (.bipush (8), 2) := by decide +kernel
theorem d_MO_dispersionOf_14 : decode (mB m_MO_dispersionOf) 14 = .ok (.if_icmp .ge (55), 3) := by decide +kernel
theorem d_MO_dispersionOf_17 : decode (mB m_MO_dispersionOf) 17 = .ok (.iload 6, 2) := by decide +kernel
theorem d_MO_dispersionOf_19 : decode (mB m_MO_dispersionOf) 19 = .ok (.aload_n 0, 1) := by decide +kernel
theorem d_MO_dispersionOf_20 : decode (mB m_MO_dispersionOf) 20 = .ok (.getfield 35, 3) := by decide +kernel
theorem d_MO_dispersionOf_23 : decode (mB m_MO_dispersionOf) 23 = .ok (.iload_n 1, 1) := by decide +kernel
theorem d_MO_dispersionOf_24 : decode (mB m_MO_dispersionOf) 24 = .ok (.iaload, 1) := by decide +kernel
theorem d_MO_dispersionOf_25 : decode (mB m_MO_dispersionOf) 25 = .ok (.if_icmp .ge (17), 3) := by decide +kernel
theorem d_MO_dispersionOf_28 : decode (mB m_MO_dispersionOf) 28 = .ok (.aload_n 0, 1) := by decide +kernel
theorem d_MO_dispersionOf_29 : decode (mB m_MO_dispersionOf) 29 = .ok (.aload_n 0, 1) := by decide +kernel
theorem d_MO_dispersionOf_30 : decode (mB m_MO_dispersionOf) 30 = .ok (.iload_n 1, 1) := by decide +kernel
theorem d_MO_dispersionOf_31 : decode (mB m_MO_dispersionOf) 31 = .ok (.iload 6, 2) := by decide +kernel
theorem d_MO_dispersionOf_33 : decode (mB m_MO_dispersionOf) 33 = .ok (.invokevirtual 113, 3) := by decide +kernel
theorem d_MO_dispersionOf_36 : decode (mB m_MO_dispersionOf) 36 = .ok (.invokevirtual 116, 3) := by decide +kernel
theorem d_MO_dispersionOf_39 : decode (mB m_MO_dispersionOf) 39 = .ok (.goto (6), 3) := by decide +kernel
theorem d_MO_dispersionOf_42 : decode (mB m_MO_dispersionOf) 42 = .ok (.ldc2_w 111, 3) := by decide +kernel
theorem d_MO_dispersionOf_45 : decode (mB m_MO_dispersionOf) 45 = .ok (.lstore 7, 2) := by decide +kernel
theorem d_MO_dispersionOf_47 : decode (mB m_MO_dispersionOf) 47 = .ok (.lload_n 2, 1) := by decide +kernel
theorem d_MO_dispersionOf_48 : decode (mB m_MO_dispersionOf) 48 = .ok (.lload 7, 2) := by decide +kernel
theorem d_MO_dispersionOf_50 : decode (mB m_MO_dispersionOf) 50 = .ok (.lload 4, 2) := by decide +kernel
theorem d_MO_dispersionOf_52 : decode (mB m_MO_dispersionOf) 52 = .ok (.ldiv, 1) := by decide +kernel
theorem d_MO_dispersionOf_53 : decode (mB m_MO_dispersionOf) 53 = .ok (.ladd, 1) := by decide +kernel
theorem d_MO_dispersionOf_54 : decode (mB m_MO_dispersionOf) 54 = .ok (.lstore_n 2, 1) := by decide +kernel
theorem d_MO_dispersionOf_55 : decode (mB m_MO_dispersionOf) 55 = .ok (.ldc2_w 97, 3) := by decide +kernel
theorem d_MO_dispersionOf_58 : decode (mB m_MO_dispersionOf) 58 = .ok (.lload 4, 2) := by decide +kernel
theorem d_MO_dispersionOf_60 : decode (mB m_MO_dispersionOf) 60 = .ok (.lmul, 1) := by decide +kernel
theorem d_MO_dispersionOf_61 : decode (mB m_MO_dispersionOf) 61 = .ok (.lstore 4, 2) := by decide +kernel
theorem d_MO_dispersionOf_63 : decode (mB m_MO_dispersionOf) 63 = .ok (.iinc 6 (1), 3) := by decide +kernel
theorem d_MO_dispersionOf_66 : decode (mB m_MO_dispersionOf) 66 = .ok (.goto (-56), 3) := by decide +kernel
theorem d_MO_dispersionOf_69 : decode (mB m_MO_dispersionOf) 69 = .ok (.lload_n 2, 1) := by decide +kernel
theorem d_MO_dispersionOf_70 : decode (mB m_MO_dispersionOf) 70 = .ok (.lreturn, 1) := by decide +kernel
theorem d_MO_jitterOf_0 : decode (mB m_MO_jitterOf) 0 = .ok (.lconst 0, 1) := by decide +kernel
theorem d_MO_jitterOf_1 : decode (mB m_MO_jitterOf) 1 = .ok (.lstore_n 2, 1) := by decide +kernel
theorem d_MO_jitterOf_2 : decode (mB m_MO_jitterOf) 2 = .ok (.aload_n 0, 1) := by decide +kernel
theorem d_MO_jitterOf_3 : decode (mB m_MO_jitterOf) 3 = .ok (.iload_n 1, 1) := by decide +kernel
theorem d_MO_jitterOf_4 : decode (mB m_MO_jitterOf) 4 = .ok (.invokevirtual 120, 3) := by decide +kernel
theorem d_MO_jitterOf_7 : decode (mB m_MO_jitterOf) 7 = .ok (.lstore 4, 2) := by decide +kernel
theorem d_MO_jitterOf_9 : decode (mB m_MO_jitterOf) 9 = .ok (.iconst 1, 1) := by decide +kernel
theorem d_MO_jitterOf_10 : decode (mB m_MO_jitterOf) 10 = .ok (.istore 6, 2) := by decide +kernel
theorem d_MO_jitterOf_12 : decode (mB m_MO_jitterOf) 12 = .ok (.iload 6, 2) := by decide +kernel
theorem d_MO_jitterOf_14 : decode (mB m_MO_jitterOf) 14 = .ok (.aload_n 0, 1) := by decide +kernel
theorem d_MO_jitterOf_15 : decode (mB m_MO_jitterOf) 15 = .ok (.getfield 35, 3) := by decide +kernel
theorem d_MO_jitterOf_18 : decode (mB m_MO_jitterOf) 18 = .ok (.iload_n 1, 1) := by decide +kernel
theorem d_MO_jitterOf_19 : decode (mB m_MO_jitterOf) 19 = .ok (.iaload, 1) := by decide +kernel
theorem d_MO_jitterOf_20 : decode (mB m_MO_jitterOf) 20 = .ok (.if_icmp .ge (30), 3) := by decide +kernel
theorem d_MO_jitterOf_23 : decode (mB m_MO_jitterOf) 23 = .ok (.lload_n 2, 1) := by decide +kernel
theorem d_MO_jitterOf_24 : decode (mB m_MO_jitterOf) 24 = .ok (.aload_n 0, 1) := by decide +kernel
theorem d_MO_jitterOf_25 : decode (mB m_MO_jitterOf) 25 = .ok (.getfield 41, 3) := by decide +kernel
theorem d_MO_jitterOf_28 : decode (mB m_MO_jitterOf) 28 = .ok (.aload_n 0, 1) := by decide +kernel
theorem d_MO_jitterOf_29 : decode (mB m_MO_jitterOf) 29 = .ok (.iload_n 1, 1) := by decide +kernel
theorem d_MO_jitterOf_30 : decode (mB m_MO_jitterOf) 30 = .ok (.iload 6, 2) := by decide +kernel
theorem d_MO_jitterOf_32 : decode (mB m_MO_jitterOf) 32 = .ok (.invokevirtual 113, 3) := by decide +kernel
theorem d_MO_jitterOf_35 : decode (mB m_MO_jitterOf) 35 = .ok (.laload, 1) := by decide +kernel
theorem d_MO_jitterOf_36 : decode (mB m_MO_jitterOf) 36 = .ok (.lload 4, 2) := by decide +kernel
theorem d_MO_jitterOf_38 : decode (mB m_MO_jitterOf) 38 = .ok (.lsub, 1) := by decide +kernel
theorem d_MO_jitterOf_39 : decode (mB m_MO_jitterOf) 39 = .ok (.invokestatic 123, 3) := by decide +kernel
theorem d_MO_jitterOf_42 : decode (mB m_MO_jitterOf) 42 = .ok (.ladd, 1) := by decide +kernel
theorem d_MO_jitterOf_43 : decode (mB m_MO_jitterOf) 43 = .ok (.lstore_n 2, 1) := by decide +kernel
theorem d_MO_jitterOf_44 : decode (mB m_MO_jitterOf) 44 = .ok (.iinc 6 (1), 3) := by decide +kernel
theorem d_MO_jitterOf_47 : decode (mB m_MO_jitterOf) 47 = .ok (.goto (-35), 3) := by decide +kernel
theorem d_MO_jitterOf_50 : decode (mB m_MO_jitterOf) 50 = .ok (.aload_n 0, 1) := by decide +kernel
theorem d_MO_jitterOf_51 : decode (mB m_MO_jitterOf) 51 = .ok (.getfield 35, 3) := by decide +kernel
theorem d_MO_jitterOf_54 : decode (mB m_MO_jitterOf) 54 = .ok (.iload_n 1, 1) := by decide +kernel
theorem d_MO_jitterOf_55 : decode (mB m_MO_jitterOf) 55 = .ok (.iaload, 1) := by decide +kernel
theorem d_MO_jitterOf_56 : decode (mB m_MO_jitterOf) 56 = .ok (.iconst 1, 1) := by decide +kernel
theorem d_MO_jitterOf_57 : decode (mB m_MO_jitterOf) 57 = .ok (.if_icmp .le (24), 3) := by decide +kernel
theorem d_MO_jitterOf_60 : decode (mB m_MO_jitterOf) 60 = .ok (.ldc2_w 99, 3) := by decide +kernel
theorem d_MO_jitterOf_63 : decode (mB m_MO_jitterOf) 63 = .ok (.lload_n 2, 1) := by decide +kernel
theorem d_MO_jitterOf_64 : decode (mB m_MO_jitterOf) 64 = .ok (.aload_n 0, 1) := by decide +kernel
theorem d_MO_jitterOf_65 : decode (mB m_MO_jitterOf) 65 = .ok (.getfield 35, 3) := by decide +kernel
theorem d_MO_jitterOf_68 : decode (mB m_MO_jitterOf) 68 = .ok (.iload_n 1, 1) := by decide +kernel
theorem d_MO_jitterOf_69 : decode (mB m_MO_jitterOf) 69 = .ok (.iaload, 1) := by decide +kernel
theorem d_MO_jitterOf_70 : decode (mB m_MO_jitterOf) 70 = .ok (.iconst 1, 1) := by decide +kernel
theorem d_MO_jitterOf_71 : decode (mB m_MO_jitterOf) 71 = .ok (.isub, 1) := by decide +kernel
theorem d_MO_jitterOf_72 : decode (mB m_MO_jitterOf) 72 = .ok (.i2l, 1) := by decide +kernel
theorem d_MO_jitterOf_73 : decode (mB m_MO_jitterOf) 73 = .ok (.ldiv, 1) := by decide +kernel
theorem d_MO_jitterOf_74 : decode (mB m_MO_jitterOf) 74 = .ok (.invokestatic 127, 3) := by decide +kernel
theorem d_MO_jitterOf_77 : decode (mB m_MO_jitterOf) 77 = .ok (.lmul, 1) := by decide +kernel
theorem d_MO_jitterOf_78 : decode (mB m_MO_jitterOf) 78 = .ok (.goto (4), 3) := by decide +kernel
theorem d_MO_jitterOf_81 : decode (mB m_MO_jitterOf) 81 = .ok (.lconst 0, 1) := by decide +kernel
theorem d_MO_jitterOf_82 : decode (mB m_MO_jitterOf) 82 = .ok (.lstore 6, 2) := by decide +kernel
theorem d_MO_jitterOf_84 : decode (mB m_MO_jitterOf) 84 = .ok (.lload 6, 2) := by decide +kernel
theorem d_MO_jitterOf_86 : decode (mB m_MO_jitterOf) 86 = .ok (.ldc2_w 130, 3) := by decide +kernel
theorem d_MO_jitterOf_89 : decode (mB m_MO_jitterOf) 89 = .ok (.lcmp, 1) := by decide +kernel
theorem d_MO_jitterOf_90 : decode (mB m_MO_jitterOf) 90 = .ok (.ifCond .ge (9), 3) := by decide +kernel
theorem d_MO_jitterOf_93 : decode (mB m_MO_jitterOf) 93 = .ok (.ldc2_w 130, 3) := by decide +kernel
theorem d_MO_jitterOf_96 : decode (mB m_MO_jitterOf) 96 = .ok (.goto (5), 3) := by decide +kernel
theorem d_MO_jitterOf_99 : decode (mB m_MO_jitterOf) 99 = .ok (.lload 6, 2) := by decide +kernel
theorem d_MO_jitterOf_101 : decode (mB m_MO_jitterOf) 101 = .ok (.lreturn, 1) := by decide +kernel
theorem d_MO_distanceOf_0 : decode (mB m_MO_distanceOf) 0 = .ok (.aload_n 0, 1) := by decide +kernel
theorem d_MO_distanceOf_1 : decode (mB m_MO_distanceOf) 1 = .ok (.getfield 29, 3) := by decide +kernel
theorem d_MO_distanceOf_4 : decode (mB m_MO_distanceOf) 4 = .ok (.iload_n 1, 1) := by decide +kernel
theorem d_MO_distanceOf_5 : decode (mB m_MO_distanceOf) 5 = .ok (.laload, 1) := by decide +kernel
theorem d_MO_distanceOf_6 : decode (mB m_MO_distanceOf) 6 = .ok (.aload_n 0, 1) := by decide +kernel
theorem d_MO_distanceOf_7 : decode (mB m_MO_distanceOf) 7 = .ok (.iload_n 1, 1) := by decide +kernel
theorem d_MO_distanceOf_8 : decode (mB m_MO_distanceOf) 8 = .ok (.invokevirtual 132, 3) := by decide +kernel
theorem d_MO_distanceOf_11 : decode (mB m_MO_distanceOf) 11 = .ok (.ladd, 1) := by decide +kernel
theorem d_MO_distanceOf_12 : decode (mB m_MO_distanceOf) 12 = .ok (.lstore_n 2, 1) := by decide +kernel
theorem d_MO_distanceOf_13 : decode (mB m_MO_distanceOf) 13 = .ok (.lload_n 2, 1) := by decide +kernel
theorem d_MO_distanceOf_14 : decode (mB m_MO_distanceOf) 14 = .ok (.ldc2_w 130, 3) := by decide +kernel
theorem d_MO_distanceOf_17 : decode (mB m_MO_distanceOf) 17 = .ok (.lcmp, 1) := by decide +kernel
theorem d_MO_distanceOf_18 : decode (mB m_MO_distanceOf) 18 = .ok (.ifCond .ge (9), 3) := by decide +kernel
theorem d_MO_distanceOf_21 : decode (mB m_MO_distanceOf) 21 = .ok (.ldc2_w 130, 3) := by decide +kernel
theorem d_MO_distanceOf_24 : decode (mB m_MO_distanceOf) 24 = .ok (.goto (4), 3) := by decide +kernel
theorem d_MO_distanceOf_27 : decode (mB m_MO_distanceOf) 27 = .ok (.lload_n 2, 1) := by decide +kernel
theorem d_MO_distanceOf_28 : decode (mB m_MO_distanceOf) 28 = .ok (.ldc2_w 97, 3) := by decide +kernel
theorem d_MO_distanceOf_31 : decode (mB m_MO_distanceOf) 31 = .ok (.ldiv, 1) := by decide +kernel
theorem d_MO_distanceOf_32 : decode (mB m_MO_distanceOf) 32 = .ok (.aload_n 0, 1) := by decide +kernel
theorem d_MO_distanceOf_33 : decode (mB m_MO_distanceOf) 33 = .ok (.getfield 32, 3) := by decide +kernel
theorem d_MO_distanceOf_36 : decode (mB m_MO_distanceOf) 36 = .ok (.iload_n 1, 1) := by decide +kernel
theorem d_MO_distanceOf_37 : decode (mB m_MO_distanceOf) 37 = .ok (.laload, 1) := by decide +kernel
theorem d_MO_distanceOf_38 : decode (mB m_MO_distanceOf) 38 = .ok (.ladd, 1) := by decide +kernel
theorem d_MO_distanceOf_39 : decode (mB m_MO_distanceOf) 39 = .ok (.aload_n 0, 1) := by decide +kernel
theorem d_MO_distanceOf_40 : decode (mB m_MO_distanceOf) 40 = .ok (.iload_n 1, 1) := by decide +kernel
theorem d_MO_distanceOf_41 : decode (mB m_MO_distanceOf) 41 = .ok (.invokevirtual 135, 3) := by decide +kernel
theorem d_MO_distanceOf_44 : decode (mB m_MO_distanceOf) 44 = .ok (.ladd, 1) := by decide +kernel
theorem d_MO_distanceOf_45 : decode (mB m_MO_distanceOf) 45 = .ok (.aload_n 0, 1) := by decide +kernel
theorem d_MO_distanceOf_46 : decode (mB m_MO_distanceOf) 46 = .ok (.iload_n 1, 1) := by decide +kernel
theorem d_MO_distanceOf_47 : decode (mB m_MO_distanceOf) 47 = .ok (.invokevirtual 138, 3) := by decide +kernel
theorem d_MO_distanceOf_50 : decode (mB m_MO_distanceOf) 50 = .ok (.ladd, 1) := by decide +kernel
theorem d_MO_distanceOf_51 : decode (mB m_MO_distanceOf) 51 = .ok (.lreturn, 1) := by decide +kernel
theorem d_MO_noPeer_0 : decode (mB m_MO_noPeer) 0 = .ok (.aload_n 0, 1) := by decide +kernel
theorem d_MO_noPeer_1 : decode (mB m_MO_noPeer) 1 = .ok (.iload_n 1, 1) := by decide +kernel
theorem d_MO_noPeer_2 : decode (mB m_MO_noPeer) 2 = .ok (.ifCond .lt (9), 3) := by decide +kernel
theorem d_MO_noPeer_5 : decode (mB m_MO_noPeer) 5 = .ok (.iload_n 1, 1) := by decide +kernel
theorem d_MO_noPeer_6 : decode (mB m_MO_noPeer) 6 = .ok (.bipush (8), 2) := by decide +kernel
theorem d_MO_noPeer_8 : decode (mB m_MO_noPeer) 8 = .ok (.if_icmp .lt (7), 3) := by decide +kernel
theorem d_MO_noPeer_11 : decode (mB m_MO_noPeer) 11 = .ok (.iconst 1, 1) := by decide +kernel
theorem d_MO_noPeer_12 : decode (mB m_MO_noPeer) 12 = .ok (.goto (4), 3) := by decide +kernel
theorem d_MO_noPeer_15 : decode (mB m_MO_noPeer) 15 = .ok (.iconst 0, 1) := by decide +kernel
theorem d_MO_noPeer_16 : decode (mB m_MO_noPeer) 16 = .ok (.putfield 60, 3) := by decide +kernel
theorem d_MO_noPeer_19 : decode (mB m_MO_noPeer) 19 = .ok (.aload_n 0, 1) := by decide +kernel
theorem d_MO_noPeer_20 : decode (mB m_MO_noPeer) 20 = .ok (.getfield 60, 3) := by decide +kernel
theorem d_MO_noPeer_23 : decode (mB m_MO_noPeer) 23 = .ok (.ifCond .le (7), 3) := by decide +kernel
theorem d_MO_noPeer_26 : decode (mB m_MO_noPeer) 26 = .ok (.iconst 1, 1) := by decide +kernel
theorem d_MO_noPeer_27 : decode (mB m_MO_noPeer) 27 = .ok (.goto (4), 3) := by decide +kernel
theorem d_MO_noPeer_30 : decode (mB m_MO_noPeer) 30 = .ok (.iconst 0, 1) := by decide +kernel
theorem d_MO_noPeer_31 : decode (mB m_MO_noPeer) 31 = .ok (.ireturn, 1) := by decide +kernel
theorem d_MO_request_0 : decode (mB m_MO_request) 0 = .ok (.aload_n 0, 1) := by decide +kernel
theorem d_MO_request_1 : decode (mB m_MO_request) 1 = .ok (.iload_n 1, 1) := by decide +kernel
theorem d_MO_request_2 : decode (mB m_MO_request) 2 = .ok (.invokevirtual 141, 3) := by decide +kernel
theorem d_MO_request_5 : decode (mB m_MO_request) 5 = .ok (.ifCond .eq (5), 3) := by decide +kernel
theorem d_MO_request_8 : decode (mB m_MO_request) 8 = .ok (.lconst 0, 1) := by decide +kernel
theorem d_MO_request_9 : decode (mB m_MO_request) 9 = .ok (.lreturn, 1) := by decide +kernel
theorem d_MO_request_10 : decode (mB m_MO_request) 10 = .ok (.aload_n 0, 1) := by decide +kernel
theorem d_MO_request_11 : decode (mB m_MO_request) 11 = .ok (.getfield 23, 3) := by decide +kernel
theorem d_MO_request_14 : decode (mB m_MO_request) 14 = .ok (.iload_n 1, 1) := by decide +kernel
theorem d_MO_request_15 : decode (mB m_MO_request) 15 = .ok (.iconst 2, 1) := by decide +kernel
theorem d_MO_request_16 : decode (mB m_MO_request) 16 = .ok (.aload_n 0, 1) := by decide +kernel
theorem d_MO_request_17 : decode (mB m_MO_request) 17 = .ok (.getfield 23, 3) := by decide +kernel
theorem d_MO_request_20 : decode (mB m_MO_request) 20 = .ok (.iload_n 1, 1) := by decide +kernel
theorem d_MO_request_21 : decode (mB m_MO_request) 21 = .ok (.iaload, 1) := by decide +kernel
theorem d_MO_request_22 : decode (mB m_MO_request) 22 = .ok (.imul, 1) := by decide +kernel
theorem d_MO_request_23 : decode (mB m_MO_request) 23 = .ok (.sipush (256), 3) := by decide +kernel
theorem d_MO_request_26 : decode (mB m_MO_request) 26 = .ok (.irem, 1) := by decide +kernel
theorem d_MO_request_27 : decode (mB m_MO_request) 27 = .ok (.iastore, 1) := by decide +kernel
theorem d_MO_request_28 : decode (mB m_MO_request) 28 = .ok (.aload_n 0, 1) := by decide +kernel
theorem d_MO_request_29 : decode (mB m_MO_request) 29 = .ok (.getfield 16, 3) := by decide +kernel
theorem d_MO_request_32 : decode (mB m_MO_request) 32 = .ok (.iload_n 1, 1) := by decide +kernel
theorem d_MO_request_33 : decode (mB m_MO_request) 33 = .ok (.aload_n 0, 1) := by decide +kernel
theorem d_MO_request_34 : decode (mB m_MO_request) 34 = .ok (.getfield 79, 3) := by decide +kernel
theorem d_MO_request_37 : decode (mB m_MO_request) 37 = .ok (.lconst 0, 1) := by decide +kernel
theorem d_MO_request_38 : decode (mB m_MO_request) 38 = .ok (.lcmp, 1) := by decide +kernel
theorem d_MO_request_39 : decode (mB m_MO_request) 39 = .ok (.ifCond .ne (7), 3) := by decide +kernel
theorem d_MO_request_42 : decode (mB m_MO_request) 42 = .ok (.lconst 1, 1) := by decide +kernel
theorem d_MO_request_43 : decode (mB m_MO_request) 43 = .ok (.goto (7), 3) := by decide +kernel
theorem d_MO_request_46 : decode (mB m_MO_request) 46 = .ok (.aload_n 0, 1) := by decide +kernel
theorem d_MO_request_47 : decode (mB m_MO_request) 47 = .ok (.getfield 79, 3) := by decide +kernel
theorem d_MO_request_50 : decode (mB m_MO_request) 50 = .ok (.lastore, 1) := by decide +kernel
theorem d_MO_request_51 : decode (mB m_MO_request) 51 = .ok (.aload_n 0, 1) := by decide +kernel
theorem d_MO_request_52 : decode (mB m_MO_request) 52 = .ok (.invokevirtual 145, 3) := by decide +kernel
theorem d_MO_request_55 : decode (mB m_MO_request) 55 = .ok (.aload_n 0, 1) := by decide +kernel
theorem d_MO_request_56 : decode (mB m_MO_request) 56 = .ok (.getfield 13, 3) := by decide +kernel
theorem d_MO_request_59 : decode (mB m_MO_request) 59 = .ok (.iconst 0, 1) := by decide +kernel
theorem d_MO_request_60 : decode (mB m_MO_request) 60 = .ok (.bipush (35), 2) := by decide +kernel
theorem d_MO_request_62 : decode (mB m_MO_request) 62 = .ok (.iastore, 1) := by decide +kernel
theorem d_MO_request_63 : decode (mB m_MO_request) 63 = .ok (.aload_n 0, 1) := by decide +kernel
theorem d_MO_request_64 : decode (mB m_MO_request) 64 = .ok (.getfield 13, 3) := by decide +kernel
theorem d_MO_request_67 : decode (mB m_MO_request) 67 = .ok (.iconst 2, 1) := by decide +kernel
theorem d_MO_request_68 : decode (mB m_MO_request) 68 = .ok (.aload_n 0, 1) := by decide +kernel
theorem d_MO_request_69 : decode (mB m_MO_request) 69 = .ok (.getfield 56, 3) := by decide +kernel
theorem d_MO_request_72 : decode (mB m_MO_request) 72 = .ok (.iastore, 1) := by decide +kernel
theorem d_MO_request_73 : decode (mB m_MO_request) 73 = .ok (.aload_n 0, 1) := by decide +kernel
theorem d_MO_request_74 : decode (mB m_MO_request) 74 = .ok (.getfield 13, 3) := by decide +kernel
theorem d_MO_request_77 : decode (mB m_MO_request) 77 = .ok (.iconst 3, 1) := by decide +kernel
theorem d_MO_request_78 : decode (mB m_MO_request) 78 = .ok (.sipush (238), 3) := by decide +kernel
theorem d_MO_request_81 : decode (mB m_MO_request) 81 = .ok (.iastore, 1) := by decide +kernel
theorem d_MO_request_82 : decode (mB m_MO_request) 82 = .ok (.aload_n 0, 1) := by decide +kernel
theorem d_MO_request_83 : decode (mB m_MO_request) 83 = .ok (.getfield 13, 3) := by decide +kernel
theorem d_MO_request_86 : decode (mB m_MO_request) 86 = .ok (.bipush (40), 2) := by decide +kernel
theorem d_MO_request_88 : decode (mB m_MO_request) 88 = .ok (.bipush (8), 2) := by decide +kernel
theorem d_MO_request_90 : decode (mB m_MO_request) 90 = .ok (.aload_n 0, 1) := by decide +kernel
theorem d_MO_request_91 : decode (mB m_MO_request) 91 = .ok (.getfield 16, 3) := by decide +kernel
theorem d_MO_request_94 : decode (mB m_MO_request) 94 = .ok (.iload_n 1, 1) := by decide +kernel
theorem d_MO_request_95 : decode (mB m_MO_request) 95 = .ok (.laload, 1) := by decide +kernel
theorem d_MO_request_96 : decode (mB m_MO_request) 96 = .ok (.invokestatic 148, 3) := by decide +kernel
theorem d_MO_request_99 : decode (mB m_MO_request) 99 = .ok (.aload_n 0, 1) := by decide +kernel
theorem d_MO_request_100 : decode (mB m_MO_request) 100 = .ok (.getfield 16, 3) := by decide +kernel
theorem d_MO_request_103 : decode (mB m_MO_request) 103 = .ok (.iload_n 1, 1) := by decide +kernel
theorem d_MO_request_104 : decode (mB m_MO_request) 104 = .ok (.laload, 1) := by decide +kernel
theorem d_MO_request_105 : decode (mB m_MO_request) 105 = .ok (.lreturn, 1) := by decide +kernel
theorem d_MO_version_0 : decode (mB m_MO_version) 0 = .ok (.aload_n 0, 1) := by decide +kernel
theorem d_MO_version_1 : decode (mB m_MO_version) 1 = .ok (.getfield 7, 3) := by decide +kernel
theorem d_MO_version_4 : decode (mB m_MO_version) 4 = .ok (.iconst 0, 1) := by decide +kernel
theorem d_MO_version_5 : decode (mB m_MO_version) 5 = .ok (.iaload, 1) := by decide +kernel
theorem d_MO_version_6 : decode (mB m_MO_version) 6 = .ok (.bipush (8), 2) := by decide +kernel
theorem d_MO_version_8 : decode (mB m_MO_version) 8 = .ok (.idiv, 1) := by decide +kernel
theorem d_MO_version_9 : decode (mB m_MO_version) 9 = .ok (.bipush (8), 2) := by decide +kernel
theorem d_MO_version_11 : decode (mB m_MO_version) 11 = .ok (.irem, 1) := by decide +kernel
theorem d_MO_version_12 : decode (mB m_MO_version) 12 = .ok (.ireturn, 1) := by decide +kernel
theorem d_MO_failed_0 : decode (mB m_MO_failed) 0 = .ok (.aload_n 0, 1) := by decide +kernel
theorem d_MO_failed_1 : decode (mB m_MO_failed) 1 = .ok (.getfield 63, 3) := by decide +kernel
theorem d_MO_failed_4 : decode (mB m_MO_failed) 4 = .ok (.bipush (48), 2) := by decide +kernel
theorem d_MO_failed_6 : decode (mB m_MO_failed) 6 = .ok (.if_icmp .eq (5), 3) := by decide +kernel
theorem d_MO_failed_9 : decode (mB m_MO_failed) 9 = .ok (.iconst 1, 1) := by decide +kernel
theorem d_MO_failed_10 : decode (mB m_MO_failed) 10 = .ok (.ireturn, 1) := by decide +kernel
theorem d_MO_failed_11 : decode (mB m_MO_failed) 11 = .ok (.aload_n 0, 1) := by decide +kernel
theorem d_MO_failed_12 : decode (mB m_MO_failed) 12 = .ok (.invokevirtual 152, 3) := by decide +kernel
theorem d_MO_failed_15 : decode (mB m_MO_failed) 15 = .ok (.iconst 1, 1) := by decide +kernel
theorem d_MO_failed_16 : decode (mB m_MO_failed) 16 = .ok (.if_icmp .lt (24), 3) := by decide +kernel
theorem d_MO_failed_19 : decode (mB m_MO_failed) 19 = .ok (.aload_n 0, 1) := by decide +kernel
theorem d_MO_failed_20 : decode (mB m_MO_failed) 20 = .ok (.invokevirtual 152, 3) := by decide +kernel
theorem d_MO_failed_23 : decode (mB m_MO_failed) 23 = .ok (.iconst 4, 1) := by decide +kernel
theorem d_MO_failed_24 : decode (mB m_MO_failed) 24 = .ok (.if_icmp .gt (16), 3) := by decide +kernel
theorem d_MO_failed_27 : decode (mB m_MO_failed) 27 = .ok (.aload_n 0, 1) := by decide +kernel
theorem d_MO_failed_28 : decode (mB m_MO_failed) 28 = .ok (.getfield 7, 3) := by decide +kernel
theorem d_MO_failed_31 : decode (mB m_MO_failed) 31 = .ok (.iconst 0, 1) := by decide +kernel
theorem d_MO_failed_32 : decode (mB m_MO_failed) 32 = .ok (.iaload, 1) := by decide +kernel
theorem d_MO_failed_33 : decode (mB m_MO_failed) 33 = .ok (.bipush (8), 2) := by decide +kernel
theorem d_MO_failed_35 : decode (mB m_MO_failed) 35 = .ok (.irem, 1) := by decide +kernel
theorem d_MO_failed_36 : decode (mB m_MO_failed) 36 = .ok (.iconst 4, 1) := by decide +kernel
theorem d_MO_failed_37 : decode (mB m_MO_failed) 37 = .ok (.if_icmp .eq (5), 3) := by decide +kernel
theorem d_MO_failed_40 : decode (mB m_MO_failed) 40 = .ok (.iconst 2, 1) := by decide +kernel
theorem d_MO_failed_41 : decode (mB m_MO_failed) 41 = .ok (.ireturn, 1) := by decide +kernel
theorem d_MO_failed_42 : decode (mB m_MO_failed) 42 = .ok (.aload_n 0, 1) := by decide +kernel
theorem d_MO_failed_43 : decode (mB m_MO_failed) 43 = .ok (.bipush (24), 2) := by decide +kernel
theorem d_MO_failed_45 : decode (mB m_MO_failed) 45 = .ok (.bipush (8), 2) := by decide +kernel
theorem d_MO_failed_47 : decode (mB m_MO_failed) 47 = .ok (.invokevirtual 156, 3) := by decide +kernel
theorem d_MO_failed_50 : decode (mB m_MO_failed) 50 = .ok (.lstore_n 2, 1) := by decide +kernel
theorem d_MO_failed_51 : decode (mB m_MO_failed) 51 = .ok (.aload_n 0, 1) := by decide +kernel
theorem d_MO_failed_52 : decode (mB m_MO_failed) 52 = .ok (.bipush (32), 2) := by decide +kernel
theorem d_MO_failed_54 : decode (mB m_MO_failed) 54 = .ok (.bipush (8), 2) := by decide +kernel
theorem d_MO_failed_56 : decode (mB m_MO_failed) 56 = .ok (.invokevirtual 156, 3) := by decide +kernel
theorem d_MO_failed_59 : decode (mB m_MO_failed) 59 = .ok (.lstore 4, 2) := by decide +kernel
theorem d_MO_failed_61 : decode (mB m_MO_failed) 61 = .ok (.aload_n 0, 1) := by decide +kernel
theorem d_MO_failed_62 : decode (mB m_MO_failed) 62 = .ok (.bipush (40), 2) := by decide +kernel
theorem d_MO_failed_64 : decode (mB m_MO_failed) 64 = .ok (.bipush (8), 2) := by decide +kernel
theorem d_MO_failed_66 : decode (mB m_MO_failed) 66 = .ok (.invokevirtual 156, 3) := by decide +kernel
theorem d_MO_failed_69 : decode (mB m_MO_failed) 69 = .ok (.lstore 6, 2) := by decide +kernel
theorem d_MO_failed_71 : decode (mB m_MO_failed) 71 = .ok (.lload 6, 2) := by decide +kernel
theorem d_MO_failed_73 : decode (mB m_MO_failed) 73 = .ok (.aload_n 0, 1) := by decide +kernel
theorem d_MO_failed_74 : decode (mB m_MO_failed) 74 = .ok (.getfield 20, 3) := by decide +kernel
theorem d_MO_failed_77 : decode (mB m_MO_failed) 77 = .ok (.iload_n 1, 1) := by decide +kernel
theorem d_MO_failed_78 : decode (mB m_MO_failed) 78 = .ok (.laload, 1) := by decide +kernel
theorem d_MO_failed_79 : decode (mB m_MO_failed) 79 = .ok (.lcmp, 1) := by decide +kernel
theorem d_MO_failed_80 : decode (mB m_MO_failed) 80 = .ok (.ifCond .ne (12), 3) := by decide +kernel
theorem d_MO_failed_83 : decode (mB m_MO_failed) 83 = .ok (.lload 6, 2) := by decide +kernel
theorem d_MO_failed_85 : decode (mB m_MO_failed) 85 = .ok (.lconst 0, 1) := by decide +kernel
theorem d_MO_failed_86 : decode (mB m_MO_failed) 86 = .ok (.lcmp, 1) := by decide +kernel
theorem d_MO_failed_87 : decode (mB m_MO_failed) 87 = .ok (.ifCond .eq (5), 3) := by decide +kernel
theorem d_MO_failed_90 : decode (mB m_MO_failed) 90 = .ok (.iconst 3, 1) := by decide +kernel
theorem d_MO_failed_91 : decode (mB m_MO_failed) 91 = .ok (.ireturn, 1) := by decide +kernel
theorem d_MO_failed_92 : decode (mB m_MO_failed) 92 = .ok (.aload_n 0, 1) := by decide +kernel
theorem d_MO_failed_93 : decode (mB m_MO_failed) 93 = .ok (.getfield 16, 3) := by decide +kernel
theorem d_MO_failed_96 : decode (mB m_MO_failed) 96 = .ok (.iload_n 1, 1) := by decide +kernel
theorem d_MO_failed_97 : decode (mB m_MO_failed) 97 = .ok (.laload, 1) := by decide +kernel
theorem d_MO_failed_98 : decode (mB m_MO_failed) 98 = .ok (.lconst 0, 1) := by decide +kernel
theorem d_MO_failed_99 : decode (mB m_MO_failed) 99 = .ok (.lcmp, 1) := by decide +kernel
theorem d_MO_failed_100 : decode (mB m_MO_failed) 100 = .ok (.ifCond .eq (14), 3) := by decide +kernel
theorem d_MO_failed_103 : decode (mB m_MO_failed) 103 = .ok (.lload_n 2, 1) := by decide +kernel
theorem d_MO_failed_104 : decode (mB m_MO_failed) 104 = .ok (.aload_n 0, 1) := by decide +kernel
theorem d_MO_failed_105 : decode (mB m_MO_failed) 105 = .ok (.getfield 16, 3) := by decide +kernel
theorem d_MO_failed_108 : decode (mB m_MO_failed) 108 = .ok (.iload_n 1, 1) := by decide +kernel
theorem d_MO_failed_109 : decode (mB m_MO_failed) 109 = .ok (.laload, 1) := by decide +kernel
theorem d_MO_failed_110 : decode (mB m_MO_failed) 110 = .ok (.lcmp, 1) := by decide +kernel
theorem d_MO_failed_111 : decode (mB m_MO_failed) 111 = .ok (.ifCond .eq (5), 3) := by decide +kernel
theorem d_MO_failed_114 : decode (mB m_MO_failed) 114 = .ok (.iconst 4, 1) := by decide +kernel
theorem d_MO_failed_115 : decode (mB m_MO_failed) 115 = .ok (.ireturn, 1) := by decide +kernel
theorem d_MO_failed_116 : decode (mB m_MO_failed) 116 = .ok (.lload 4, 2) := by decide +kernel
theorem d_MO_failed_118 : decode (mB m_MO_failed) 118 = .ok (.lconst 0, 1) := by decide +kernel
theorem d_MO_failed_119 : decode (mB m_MO_failed) 119 = .ok (.lcmp, 1) := by decide +kernel
theorem d_MO_failed_120 : decode (mB m_MO_failed) 120 = .ok (.ifCond .eq (10), 3) := by decide +kernel
theorem d_MO_failed_123 : decode (mB m_MO_failed) 123 = .ok (.lload 6, 2) := by decide +kernel
theorem d_MO_failed_125 : decode (mB m_MO_failed) 125 = .ok (.lconst 0, 1) := by decide +kernel
theorem d_MO_failed_126 : decode (mB m_MO_failed) 126 = .ok (.lcmp, 1) := by decide +kernel
theorem d_MO_failed_127 : decode (mB m_MO_failed) 127 = .ok (.ifCond .ne (5), 3) := by decide +kernel
theorem d_MO_failed_130 : decode (mB m_MO_failed) 130 = .ok (.iconst 5, 1) := by decide +kernel
theorem d_MO_failed_131 : decode (mB m_MO_failed) 131 = .ok (.ireturn, 1) := by decide +kernel
theorem d_MO_failed_132 : decode (mB m_MO_failed) 132 = .ok (.aload_n 0, 1) := by decide +kernel
theorem d_MO_failed_133 : decode (mB m_MO_failed) 133 = .ok (.getfield 7, 3) := by decide +kernel
theorem d_MO_failed_136 : decode (mB m_MO_failed) 136 = .ok (.iconst 0, 1) := by decide +kernel
theorem d_MO_failed_137 : decode (mB m_MO_failed) 137 = .ok (.iaload, 1) := by decide +kernel
theorem d_MO_failed_138 : decode (mB m_MO_failed) 138 = .ok (.bipush (64), 2) := by decide +kernel
theorem d_MO_failed_140 : decode (mB m_MO_failed) 140 = .ok (.idiv, 1) := by decide +kernel
theorem d_MO_failed_141 : decode (mB m_MO_failed) 141 = .ok (.iconst 3, 1) := by decide +kernel
theorem d_MO_failed_142 : decode (mB m_MO_failed) 142 = .ok (.if_icmp .eq (23), 3) := by decide +kernel
theorem d_MO_failed_145 : decode (mB m_MO_failed) 145 = .ok (.aload_n 0, 1) := by decide +kernel
theorem d_MO_failed_146 : decode (mB m_MO_failed) 146 = .ok (.getfield 7, 3) := by decide +kernel
theorem d_MO_failed_149 : decode (mB m_MO_failed) 149 = .ok (.iconst 1, 1) := by decide +kernel
theorem d_MO_failed_150 : decode (mB m_MO_failed) 150 = .ok (.iaload, 1) := by decide +kernel
theorem d_MO_failed_151 : decode (mB m_MO_failed) 151 = .ok (.ifCond .eq (14), 3) := by decide +kernel
theorem d_MO_failed_154 : decode (mB m_MO_failed) 154 = .ok (.aload_n 0, 1) := by decide +kernel
theorem d_MO_failed_155 : decode (mB m_MO_failed) 155 = .ok (.getfield 7, 3) := by decide +kernel
theorem d_MO_failed_158 : decode (mB m_MO_failed) 158 = .ok (.iconst 1, 1) := by decide +kernel
theorem d_MO_failed_159 : decode (mB m_MO_failed) 159 = .ok (.iaload, 1) := by decide +kernel
theorem d_MO_failed_160 : decode (mB m_MO_failed) 160 = .ok (.bipush (15), 2) := by decide +kernel
theorem d_MO_failed_162 : decode (mB m_MO_failed) 162 = .ok (.if_icmp .le (6), 3) := by decide +kernel
theorem d_MO_failed_165 : decode (mB m_MO_failed) 165 = .ok (.bipush (6), 2) := by decide +kernel
theorem d_MO_failed_167 : decode (mB m_MO_failed) 167 = .ok (.ireturn, 1) := by decide +kernel
theorem d_MO_failed_168 : decode (mB m_MO_failed) 168 = .ok (.aload_n 0, 1) := by decide +kernel
theorem d_MO_failed_169 : decode (mB m_MO_failed) 169 = .ok (.iconst 4, 1) := by decide +kernel
theorem d_MO_failed_170 : decode (mB m_MO_failed) 170 = .ok (.iconst 4, 1) := by decide +kernel
theorem d_MO_failed_171 : decode (mB m_MO_failed) 171 = .ok (.invokevirtual 156, 3) := by decide +kernel
theorem d_MO_failed_174 : decode (mB m_MO_failed) 174 = .ok (.ldc2_w 160, 3) := by decide +kernel
theorem d_MO_failed_177 : decode (mB m_MO_failed) 177 = .ok (.lmul, 1) := by decide +kernel
theorem d_MO_failed_178 : decode (mB m_MO_failed) 178 = .ok (.ldc2_w 97, 3) := by decide +kernel
theorem d_MO_failed_181 : decode (mB m_MO_failed) 181 = .ok (.ldiv, 1) := by decide +kernel
theorem d_MO_failed_182 : decode (mB m_MO_failed) 182 = .ok (.aload_n 0, 1) := by decide +kernel
theorem d_MO_failed_183 : decode (mB m_MO_failed) 183 = .ok (.bipush (8), 2) := by decide +kernel
theorem d_MO_failed_185 : decode (mB m_MO_failed) 185 = .ok (.iconst 4, 1) := by decide +kernel
theorem d_MO_failed_186 : decode (mB m_MO_failed) 186 = .ok (.invokevirtual 156, 3) := by decide +kernel
theorem d_MO_failed_189 : decode (mB m_MO_failed) 189 = .ok (.ldc2_w 160, 3) := by decide +kernel
theorem d_MO_failed_192 : decode (mB m_MO_failed) 192 = .ok (.lmul, 1) := by decide +kernel
theorem d_MO_failed_193 : decode (mB m_MO_failed) 193 = .ok (.ladd, 1) := by decide +kernel
theorem d_MO_failed_194 : decode (mB m_MO_failed) 194 = .ok (.ldc2_w 111, 3) := by decide +kernel
theorem d_MO_failed_197 : decode (mB m_MO_failed) 197 = .ok (.lcmp, 1) := by decide +kernel
theorem d_MO_failed_198 : decode (mB m_MO_failed) 198 = .ok (.ifCond .le (6), 3) := by decide +kernel
theorem d_MO_failed_201 : decode (mB m_MO_failed) 201 = .ok (.bipush (7), 2) := by decide +kernel
theorem d_MO_failed_203 : decode (mB m_MO_failed) 203 = .ok (.ireturn, 1) := by decide +kernel
theorem d_MO_failed_204 : decode (mB m_MO_failed) 204 = .ok (.aload_n 0, 1) := by decide +kernel
theorem d_MO_failed_205 : decode (mB m_MO_failed) 205 = .ok (.iload_n 1, 1) := by decide +kernel
theorem d_MO_failed_206 : decode (mB m_MO_failed) 206 = .ok (.invokevirtual 162, 3) := by decide +kernel
theorem d_MO_failed_209 : decode (mB m_MO_failed) 209 = .ok (.lstore 8, 2) := by decide +kernel
theorem d_MO_failed_211 : decode (mB m_MO_failed) 211 = .ok (.lload 8, 2) := by decide +kernel
theorem d_MO_failed_213 : decode (mB m_MO_failed) 213 = .ok (.ldc2_w 165, 3) := by decide +kernel
theorem d_MO_failed_216 : decode (mB m_MO_failed) 216 = .ok (.lcmp, 1) := by decide +kernel
theorem d_MO_failed_217 : decode (mB m_MO_failed) 217 = .ok (.ifCond .ge (12), 3) := by decide +kernel
theorem d_MO_failed_220 : decode (mB m_MO_failed) 220 = .ok (.lload 8, 2) := by decide +kernel
theorem d_MO_failed_222 : decode (mB m_MO_failed) 222 = .ok (.ldc2_w 167, 3) := by decide +kernel
theorem d_MO_failed_225 : decode (mB m_MO_failed) 225 = .ok (.lcmp, 1) := by decide +kernel
theorem d_MO_failed_226 : decode (mB m_MO_failed) 226 = .ok (.ifCond .gt (8), 3) := by decide +kernel
theorem d_MO_failed_229 : decode (mB m_MO_failed) 229 = .ok (.bipush (8), 2) := by decide +kernel
theorem d_MO_failed_231 : decode (mB m_MO_failed) 231 = .ok (.goto (4), 3) := by decide +kernel
theorem d_MO_failed_234 : decode (mB m_MO_failed) 234 = .ok (.iconst 0, 1) := by decide +kernel
theorem d_MO_failed_235 : decode (mB m_MO_failed) 235 = .ok (.ireturn, 1) := by decide +kernel
theorem d_MO_offsetNow_0 : decode (mB m_MO_offsetNow) 0 = .ok (.aload_n 0, 1) := by decide +kernel
theorem d_MO_offsetNow_1 : decode (mB m_MO_offsetNow) 1 = .ok (.bipush (32), 2) := by decide +kernel
theorem d_MO_offsetNow_3 : decode (mB m_MO_offsetNow) 3 = .ok (.bipush (8), 2) := by decide +kernel
theorem d_MO_offsetNow_5 : decode (mB m_MO_offsetNow) 5 = .ok (.invokevirtual 156, 3) := by decide +kernel
theorem d_MO_offsetNow_8 : decode (mB m_MO_offsetNow) 8 = .ok (.aload_n 0, 1) := by decide +kernel
theorem d_MO_offsetNow_9 : decode (mB m_MO_offsetNow) 9 = .ok (.getfield 16, 3) := by decide +kernel
theorem d_MO_offsetNow_12 : decode (mB m_MO_offsetNow) 12 = .ok (.iload_n 1, 1) := by decide +kernel
theorem d_MO_offsetNow_13 : decode (mB m_MO_offsetNow) 13 = .ok (.laload, 1) := by decide +kernel
theorem d_MO_offsetNow_14 : decode (mB m_MO_offsetNow) 14 = .ok (.lsub, 1) := by decide +kernel
theorem d_MO_offsetNow_15 : decode (mB m_MO_offsetNow) 15 = .ok (.lstore_n 2, 1) := by decide +kernel
theorem d_MO_offsetNow_16 : decode (mB m_MO_offsetNow) 16 = .ok (.aload_n 0, 1) := by decide +kernel
theorem d_MO_offsetNow_17 : decode (mB m_MO_offsetNow) 17 = .ok (.bipush (40), 2) := by decide +kernel
theorem d_MO_offsetNow_19 : decode (mB m_MO_offsetNow) 19 = .ok (.bipush (8), 2) := by decide +kernel
theorem d_MO_offsetNow_21 : decode (mB m_MO_offsetNow) 21 = .ok (.invokevirtual 156, 3) := by decide +kernel
theorem d_MO_offsetNow_24 : decode (mB m_MO_offsetNow) 24 = .ok (.aload_n 0, 1) := by decide +kernel
theorem d_MO_offsetNow_25 : decode (mB m_MO_offsetNow) 25 = .ok (.getfield 79, 3) := by decide +kernel
theorem d_MO_offsetNow_28 : decode (mB m_MO_offsetNow) 28 = .ok (.lsub, 1) := by decide +kernel
theorem d_MO_offsetNow_29 : decode (mB m_MO_offsetNow) 29 = .ok (.lstore 4, 2) := by decide +kernel
theorem d_MO_offsetNow_31 : decode (mB m_MO_offsetNow) 31 = .ok (.lload_n 2, 1) := by decide +kernel
theorem d_MO_offsetNow_32 : decode (mB m_MO_offsetNow) 32 = .ok (.lload 4, 2) := by decide +kernel
theorem d_MO_offsetNow_34 : decode (mB m_MO_offsetNow) 34 = .ok (.ladd, 1) := by decide +kernel
theorem d_MO_offsetNow_35 : decode (mB m_MO_offsetNow) 35 = .ok (.ldc2_w 97, 3) := by decide +kernel
theorem d_MO_offsetNow_38 : decode (mB m_MO_offsetNow) 38 = .ok (.invokestatic 101, 3) := by decide +kernel
theorem d_MO_offsetNow_41 : decode (mB m_MO_offsetNow) 41 = .ok (.lreturn, 1) := by decide +kernel
theorem d_MO_take_0 : decode (mB m_MO_take) 0 = .ok (.aload_n 0, 1) := by decide +kernel
theorem d_MO_take_1 : decode (mB m_MO_take) 1 = .ok (.getfield 35, 3) := by decide +kernel
theorem d_MO_take_4 : decode (mB m_MO_take) 4 = .ok (.iload_n 1, 1) := by decide +kernel
theorem d_MO_take_5 : decode (mB m_MO_take) 5 = .ok (.iaload, 1) := by decide +kernel
theorem d_MO_take_6 : decode (mB m_MO_take) 6 = .ok (.bipush (8), 2) := by decide +kernel
theorem d_MO_take_8 : decode (mB m_MO_take) 8 = .ok (.if_icmp .ne (43), 3) := by decide +kernel
theorem d_MO_take_11 : decode (mB m_MO_take) 11 = .ok (.iconst 1, 1) := by decide +kernel
theorem d_MO_take_12 : decode (mB m_MO_take) 12 = .ok (.istore_n 2, 1) := by decide +kernel
theorem d_MO_take_13 : decode (mB m_MO_take) 13 = .ok (.iload_n 2, 1) := by decide +kernel
theorem d_MO_take_14 : decode (mB m_MO_take) 14 = .ok (.bipush (8), 2) := by decide +kernel
theorem d_MO_take_16 : decode (mB m_MO_take) 16 = .ok (.if_icmp .ge (27), 3) := by decide +kernel
theorem d_MO_take_19 : decode (mB m_MO_take) 19 = .ok (.aload_n 0, 1) := by decide +kernel
theorem d_MO_take_20 : decode (mB m_MO_take) 20 = .ok (.aload_n 0, 1) := by decide +kernel
theorem d_MO_take_21 : decode (mB m_MO_take) 21 = .ok (.iload_n 1, 1) := by decide +kernel
theorem d_MO_take_22 : decode (mB m_MO_take) 22 = .ok (.iload_n 2, 1) := by decide +kernel
theorem d_MO_take_23 : decode (mB m_MO_take) 23 = .ok (.invokevirtual 105, 3) := by decide +kernel
theorem d_MO_take_26 : decode (mB m_MO_take) 26 = .ok (.aload_n 0, 1) := by decide +kernel
theorem d_MO_take_27 : decode (mB m_MO_take) 27 = .ok (.iload_n 1, 1) := by decide +kernel
theorem d_MO_take_28 : decode (mB m_MO_take) 28 = .ok (.iload_n 2, 1) := by decide +kernel
theorem d_MO_take_29 : decode (mB m_MO_take) 29 = .ok (.iconst 1, 1) := by decide +kernel
theorem d_MO_take_30 : decode (mB m_MO_take) 30 = .ok (.isub, 1) := by decide +kernel
theorem d_MO_take_31 : decode (mB m_MO_take) 31 = .ok (.invokevirtual 105, 3) := by decide +kernel
theorem d_MO_take_34 : decode (mB m_MO_take) 34 = .ok (.invokevirtual 169, 3) := by decide +kernel
theorem d_MO_take_37 : decode (mB m_MO_take) 37 = .ok (.iinc 2 (1), 3) := by decide +kernel
theorem d_MO_take_40 : decode (mB m_MO_take) 40 = .ok (.goto (-27), 3) := by decide +kernel
theorem d_MO_take_43 : decode (mB m_MO_take) 43 = .ok (.aload_n 0, 1) := by decide +kernel
theorem d_MO_take_44 : decode (mB m_MO_take) 44 = .ok (.getfield 35, 3) := by decide +kernel
theorem d_MO_take_47 : decode (mB m_MO_take) 47 = .ok (.iload_n 1, 1) := by decide +kernel
theorem d_MO_take_48 : decode (mB m_MO_take) 48 = .ok (.bipush (7), 2) := by decide +kernel
theorem d_MO_take_50 : decode (mB m_MO_take) 50 = .ok (.iastore, 1) := by decide +kernel
theorem d_MO_take_51 : decode (mB m_MO_take) 51 = .ok (.aload_n 0, 1) := by decide +kernel
theorem d_MO_take_52 : decode (mB m_MO_take) 52 = .ok (.iload_n 1, 1) := by decide +kernel
theorem d_MO_take_53 : decode (mB m_MO_take) 53 = .ok (.aload_n 0, 1) := by decide +kernel
theorem d_MO_take_54 : decode (mB m_MO_take) 54 = .ok (.getfield 35, 3) := by decide +kernel
theorem d_MO_take_57 : decode (mB m_MO_take) 57 = .ok (.iload_n 1, 1) := by decide +kernel
theorem d_MO_take_58 : decode (mB m_MO_take) 58 = .ok (.iaload, 1) := by decide +kernel
theorem d_MO_take_59 : decode (mB m_MO_take) 59 = .ok (.invokevirtual 105, 3) := by decide +kernel
theorem d_MO_take_62 : decode (mB m_MO_take) 62 = .ok (.istore_n 2, 1) := by decide +kernel
theorem d_MO_take_63 : decode (mB m_MO_take) 63 = .ok (.aload_n 0, 1) := by decide +kernel
theorem d_MO_take_64 : decode (mB m_MO_take) 64 = .ok (.getfield 79, 3) := by decide +kernel
theorem d_MO_take_67 : decode (mB m_MO_take) 67 = .ok (.aload_n 0, 1) := by decide +kernel
theorem d_MO_take_68 : decode (mB m_MO_take) 68 = .ok (.getfield 16, 3) := by decide +kernel
theorem d_MO_take_71 : decode (mB m_MO_take) 71 = .ok (.iload_n 1, 1) := by decide +kernel
theorem d_MO_take_72 : decode (mB m_MO_take) 72 = .ok (.laload, 1) := by decide +kernel
theorem d_MO_take_73 : decode (mB m_MO_take) 73 = .ok (.lsub, 1) := by decide +kernel
theorem d_MO_take_74 : decode (mB m_MO_take) 74 = .ok (.lstore_n 3, 1) := by decide +kernel
theorem d_MO_take_75 : decode (mB m_MO_take) 75 = .ok (.aload_n 0, 1) := by decide +kernel
theorem d_MO_take_76 : decode (mB m_MO_take) 76 = .ok (.bipush (40), 2) := by decide +kernel
theorem d_MO_take_78 : decode (mB m_MO_take) 78 = .ok (.bipush (8), 2) := by decide +kernel
theorem d_MO_take_80 : decode (mB m_MO_take) 80 = .ok (.invokevirtual 156, 3) := by decide +kernel
theorem d_MO_take_83 : decode (mB m_MO_take) 83 = .ok (.aload_n 0, 1) := by decide +kernel
theorem d_MO_take_84 : decode (mB m_MO_take) 84 = .ok (.bipush (32), 2) := by decide +kernel
theorem d_MO_take_86 : decode (mB m_MO_take) 86 = .ok (.bipush (8), 2) := by decide +kernel
theorem d_MO_take_88 : decode (mB m_MO_take) 88 = .ok (.invokevirtual 156, 3) := by decide +kernel
theorem d_MO_take_91 : decode (mB m_MO_take) 91 = .ok (.lsub, 1) := by decide +kernel
theorem d_MO_take_92 : decode (mB m_MO_take) 92 = .ok (.lstore 5, 2) := by decide +kernel
theorem d_MO_take_94 : decode (mB m_MO_take) 94 = .ok (.lload_n 3, 1) := by decide +kernel
theorem d_MO_take_95 : decode (mB m_MO_take) 95 = .ok (.lload 5, 2) := by decide +kernel
theorem d_MO_take_97 : decode (mB m_MO_take) 97 = .ok (.lsub, 1) := by decide +kernel
theorem d_MO_take_98 : decode (mB m_MO_take) 98 = .ok (.lstore 7, 2) := by decide +kernel
theorem d_MO_take_100 : decode (mB m_MO_take) 100 = .ok (.lload 7, 2) := by decide +kernel
theorem d_MO_take_102 : decode (mB m_MO_take) 102 = .ok (.ldc2_w 130, 3) := by decide +kernel
theorem d_MO_take_105 : decode (mB m_MO_take) 105 = .ok (.lcmp, 1) := by decide +kernel
theorem d_MO_take_106 : decode (mB m_MO_take) 106 = .ok (.ifCond .ge (9), 3) := by decide +kernel
theorem d_MO_take_109 : decode (mB m_MO_take) 109 = .ok (.ldc2_w 130, 3) := by decide +kernel
theorem d_MO_take_112 : decode (mB m_MO_take) 112 = .ok (.goto (20), 3) := by decide +kernel
theorem d_MO_take_115 : decode (mB m_MO_take) 115 = .ok (.lload 7, 2) := by decide +kernel
theorem d_MO_take_117 : decode (mB m_MO_take) 117 = .ok (.ldc2_w 111, 3) := by decide +kernel
theorem d_MO_take_120 : decode (mB m_MO_take) 120 = .ok (.lcmp, 1) := by decide +kernel
theorem d_MO_take_121 : decode (mB m_MO_take) 121 = .ok (.ifCond .le (9), 3) := by decide +kernel
theorem d_MO_take_124 : decode (mB m_MO_take) 124 = .ok (.ldc2_w 111, 3) := by decide +kernel
theorem d_MO_take_127 : decode (mB m_MO_take) 127 = .ok (.goto (5), 3) := by decide +kernel
theorem d_MO_take_130 : decode (mB m_MO_take) 130 = .ok (.lload 7, 2) := by decide +kernel
theorem d_MO_take_132 : decode (mB m_MO_take) 132 = .ok (.lstore 7, 2) := by decide +kernel
theorem d_MO_take_134 : decode (mB m_MO_take) 134 = .ok (.aload_n 0, 1) := by decide +kernel
theorem d_MO_take_135 : decode (mB m_MO_take) 135 = .ok (.getfield 41, 3) := by decide +kernel
theorem d_MO_take_138 : decode (mB m_MO_take) 138 = .ok (.iload_n 2, 1) := by decide +kernel
theorem d_MO_take_139 : decode (mB m_MO_take) 139 = .ok (.aload_n 0, 1) := by decide +kernel
theorem d_MO_take_140 : decode (mB m_MO_take) 140 = .ok (.iload_n 1, 1) := by decide +kernel
theorem d_MO_take_141 : decode (mB m_MO_take) 141 = .ok (.invokevirtual 162, 3) := by decide +kernel
theorem d_MO_take_144 : decode (mB m_MO_take) 144 = .ok (.lastore, 1) := by decide +kernel
theorem d_MO_take_145 : decode (mB m_MO_take) 145 = .ok (.aload_n 0, 1) := by decide +kernel
theorem d_MO_take_146 : decode (mB m_MO_take) 146 = .ok (.getfield 44, 3) := by decide +kernel
theorem d_MO_take_149 : decode (mB m_MO_take) 149 = .ok (.iload_n 2, 1) := by decide +kernel
theorem d_MO_take_150 : decode (mB m_MO_take) 150 = .ok (.lload 7, 2) := by decide +kernel
theorem d_MO_take_152 : decode (mB m_MO_take) 152 = .ok (.lastore, 1) := by decide +kernel
theorem d_MO_take_153 : decode (mB m_MO_take) 153 = .ok (.aload_n 0, 1) := by decide +kernel
theorem d_MO_take_154 : decode (mB m_MO_take) 154 = .ok (.getfield 47, 3) := by decide +kernel
theorem d_MO_take_157 : decode (mB m_MO_take) 157 = .ok (.iload_n 2, 1) := by decide +kernel
theorem d_MO_take_158 : decode (mB m_MO_take) 158 = .ok (.ldc2_w 130, 3) := by decide +kernel
theorem d_MO_take_161 : decode (mB m_MO_take) 161 = .ok (.lload 7, 2) := by decide +kernel
theorem d_MO_take_163 : decode (mB m_MO_take) 163 = .ok (.ldc2_w 160, 3) := by decide +kernel
theorem d_MO_take_166 : decode (mB m_MO_take) 166 = .ok (.ldiv, 1) := by decide +kernel
theorem d_MO_take_167 : decode (mB m_MO_take) 167 = .ok (.ladd, 1) := by decide +kernel
theorem d_MO_take_168 : decode (mB m_MO_take) 168 = .ok (.lastore, 1) := by decide +kernel
theorem d_MO_take_169 : decode (mB m_MO_take) 169 = .ok (.aload_n 0, 1) := by decide +kernel
theorem d_MO_take_170 : decode (mB m_MO_take) 170 = .ok (.getfield 50, 3) := by decide +kernel
theorem d_MO_take_173 : decode (mB m_MO_take) 173 = .ok (.iload_n 2, 1) := by decide +kernel
theorem d_MO_take_174 : decode (mB m_MO_take) 174 = .ok (.aload_n 0, 1) := by decide +kernel
theorem d_MO_take_175 : decode (mB m_MO_take) 175 = .ok (.getfield 90, 3) := by decide +kernel
theorem d_MO_take_178 : decode (mB m_MO_take) 178 = .ok (.iastore, 1) := by decide +kernel
theorem d_MO_take_179 : decode (mB m_MO_take) 179 = .ok (.aload_n 0, 1) := by decide +kernel
theorem d_MO_take_180 : decode (mB m_MO_take) 180 = .ok (.getfield 35, 3) := by decide +kernel
theorem d_MO_take_183 : decode (mB m_MO_take) 183 = .ok (.iload_n 1, 1) := by decide +kernel
theorem d_MO_take_184 : decode (mB m_MO_take) 184 = .ok (.dup2, 1) := by decide +kernel
theorem d_MO_take_185 : decode (mB m_MO_take) 185 = .ok (.iaload, 1) := by decide +kernel
theorem d_MO_take_186 : decode (mB m_MO_take) 186 = .ok (.iconst 1, 1) := by decide +kernel
theorem d_MO_take_187 : decode (mB m_MO_take) 187 = .ok (.iadd, 1) := by decide +kernel
theorem d_MO_take_188 : decode (mB m_MO_take) 188 = .ok (.iastore, 1) := by decide +kernel
theorem d_MO_take_189 : decode (mB m_MO_take) 189 = .ok (.aload_n 0, 1) := by decide +kernel
theorem d_MO_take_190 : decode (mB m_MO_take) 190 = .ok (.getfield 20, 3) := by decide +kernel
theorem d_MO_take_193 : decode (mB m_MO_take) 193 = .ok (.iload_n 1, 1) := by decide +kernel
theorem d_MO_take_194 : decode (mB m_MO_take) 194 = .ok (.aload_n 0, 1) := by decide +kernel
theorem d_MO_take_195 : decode (mB m_MO_take) 195 = .ok (.bipush (40), 2) := by decide +kernel
theorem d_MO_take_197 : decode (mB m_MO_take) 197 = .ok (.bipush (8), 2) := by decide +kernel
theorem d_MO_take_199 : decode (mB m_MO_take) 199 = .ok (.invokevirtual 156, 3) := by decide +kernel
theorem d_MO_take_202 : decode (mB m_MO_take) 202 = .ok (.lastore, 1) := by decide +kernel
theorem d_MO_take_203 : decode (mB m_MO_take) 203 = .ok (.aload_n 0, 1) := by decide +kernel
theorem d_MO_take_204 : decode (mB m_MO_take) 204 = .ok (.getfield 26, 3) := by decide +kernel
theorem d_MO_take_207 : decode (mB m_MO_take) 207 = .ok (.iload_n 1, 1) := by decide +kernel
theorem d_MO_take_208 : decode (mB m_MO_take) 208 = .ok (.aload_n 0, 1) := by decide +kernel
theorem d_MO_take_209 : decode (mB m_MO_take) 209 = .ok (.getfield 7, 3) := by decide +kernel
theorem d_MO_take_212 : decode (mB m_MO_take) 212 = .ok (.iconst 1, 1) := by decide +kernel
theorem d_MO_take_213 : decode (mB m_MO_take) 213 = .ok (.iaload, 1) := by decide +kernel
theorem d_MO_take_214 : decode (mB m_MO_take) 214 = .ok (.iastore, 1) := by decide +kernel
theorem d_MO_take_215 : decode (mB m_MO_take) 215 = .ok (.aload_n 0, 1) := by decide +kernel
theorem d_MO_take_216 : decode (mB m_MO_take) 216 = .ok (.getfield 29, 3) := by decide +kernel
theorem d_MO_take_219 : decode (mB m_MO_take) 219 = .ok (.iload_n 1, 1) := by decide +kernel
theorem d_MO_take_220 : decode (mB m_MO_take) 220 = .ok (.aload_n 0, 1) := by decide +kernel
theorem d_MO_take_221 : decode (mB m_MO_take) 221 = .ok (.iconst 4, 1) := by decide +kernel
theorem d_MO_take_222 : decode (mB m_MO_take) 222 = .ok (.iconst 4, 1) := by decide +kernel
theorem d_MO_take_223 : decode (mB m_MO_take) 223 = .ok (.invokevirtual 156, 3) := by decide +kernel
theorem d_MO_take_226 : decode (mB m_MO_take) 226 = .ok (.ldc2_w 160, 3) := by decide +kernel
theorem d_MO_take_229 : decode (mB m_MO_take) 229 = .ok (.lmul, 1) := by decide +kernel
theorem d_MO_take_230 : decode (mB m_MO_take) 230 = .ok (.lastore, 1) := by decide +kernel
theorem d_MO_take_231 : decode (mB m_MO_take) 231 = .ok (.aload_n 0, 1) := by decide +kernel
theorem d_MO_take_232 : decode (mB m_MO_take) 232 = .ok (.getfield 32, 3) := by decide +kernel
theorem d_MO_take_235 : decode (mB m_MO_take) 235 = .ok (.iload_n 1, 1) := by decide +kernel
theorem d_MO_take_236 : decode (mB m_MO_take) 236 = .ok (.aload_n 0, 1) := by decide +kernel
theorem d_MO_take_237 : decode (mB m_MO_take) 237 = .ok (.bipush (8), 2) := by decide +kernel
theorem d_MO_take_239 : decode (mB m_MO_take) 239 = .ok (.iconst 4, 1) := by decide +kernel
theorem d_MO_take_240 : decode (mB m_MO_take) 240 = .ok (.invokevirtual 156, 3) := by decide +kernel
theorem d_MO_take_243 : decode (mB m_MO_take) 243 = .ok (.ldc2_w 160, 3) := by decide +kernel
theorem d_MO_take_246 : decode (mB m_MO_take) 246 = .ok (.lmul, 1) := by decide +kernel
theorem d_MO_take_247 : decode (mB m_MO_take) 247 = .ok (.lastore, 1) := by decide +kernel
theorem d_MO_take_248 : decode (mB m_MO_take) 248 = .ok (.aload_n 0, 1) := by decide +kernel
theorem d_MO_take_249 : decode (mB m_MO_take) 249 = .ok (.getfield 16, 3) := by decide +kernel
theorem d_MO_take_252 : decode (mB m_MO_take) 252 = .ok (.iload_n 1, 1) := by decide +kernel
theorem d_MO_take_253 : decode (mB m_MO_take) 253 = .ok (.lconst 0, 1) := by decide +kernel
theorem d_MO_take_254 : decode (mB m_MO_take) 254 = .ok (.lastore, 1) := by decide +kernel
theorem d_MO_take_255 : decode (mB m_MO_take) 255 = .ok (.aload_n 0, 1) := by decide +kernel
theorem d_MO_take_256 : decode (mB m_MO_take) 256 = .ok (.getfield 23, 3) := by decide +kernel
theorem d_MO_take_259 : decode (mB m_MO_take) 259 = .ok (.iload_n 1, 1) := by decide +kernel
theorem d_MO_take_260 : decode (mB m_MO_take) 260 = .ok (.aload_n 0, 1) := by decide +kernel
theorem d_MO_take_261 : decode (mB m_MO_take) 261 = .ok (.getfield 23, 3) := by decide +kernel
theorem d_MO_take_264 : decode (mB m_MO_take) 264 = .ok (.iload_n 1, 1) := by decide +kernel
theorem d_MO_take_265 : decode (mB m_MO_take) 265 = .ok (.iaload, 1) := by decide +kernel
theorem d_MO_take_266 : decode (mB m_MO_take) 266 = .ok (.iconst 2, 1) := by decide +kernel
theorem d_MO_take_267 : decode (mB m_MO_take) 267 = .ok (.idiv, 1) := by decide +kernel
theorem d_MO_take_268 : decode (mB m_MO_take) 268 = .ok (.iconst 2, 1) := by decide +kernel
theorem d_MO_take_269 : decode (mB m_MO_take) 269 = .ok (.imul, 1) := by decide +kernel
theorem d_MO_take_270 : decode (mB m_MO_take) 270 = .ok (.iconst 1, 1) := by decide +kernel
theorem d_MO_take_271 : decode (mB m_MO_take) 271 = .ok (.iadd, 1) := by decide +kernel
theorem d_MO_take_272 : decode (mB m_MO_take) 272 = .ok (.iastore, 1) := by decide +kernel
theorem d_MO_take_273 : decode (mB m_MO_take) 273 = .ok (.return_, 1) := by decide +kernel
theorem d_MO_move_0 : decode (mB m_MO_move) 0 = .ok (.aload_n 0, 1) := by decide +kernel
theorem d_MO_move_1 : decode (mB m_MO_move) 1 = .ok (.getfield 41, 3) := by decide +kernel
theorem d_MO_move_4 : decode (mB m_MO_move) 4 = .ok (.iload_n 2, 1) := by decide +kernel
theorem d_MO_move_5 : decode (mB m_MO_move) 5 = .ok (.aload_n 0, 1) := by decide +kernel
theorem d_MO_move_6 : decode (mB m_MO_move) 6 = .ok (.getfield 41, 3) := by decide +kernel
theorem d_MO_move_9 : decode (mB m_MO_move) 9 = .ok (.iload_n 1, 1) := by decide +kernel
theorem d_MO_move_10 : decode (mB m_MO_move) 10 = .ok (.laload, 1) := by decide +kernel
theorem d_MO_move_11 : decode (mB m_MO_move) 11 = .ok (.lastore, 1) := by decide +kernel
theorem d_MO_move_12 : decode (mB m_MO_move) 12 = .ok (.aload_n 0, 1) := by decide +kernel
theorem d_MO_move_13 : decode (mB m_MO_move) 13 = .ok (.getfield 44, 3) := by decide +kernel
theorem d_MO_move_16 : decode (mB m_MO_move) 16 = .ok (.iload_n 2, 1) := by decide +kernel
theorem d_MO_move_17 : decode (mB m_MO_move) 17 = .ok (.aload_n 0, 1) := by decide +kernel
theorem d_MO_move_18 : decode (mB m_MO_move) 18 = .ok (.getfield 44, 3) := by decide +kernel
theorem d_MO_move_21 : decode (mB m_MO_move) 21 = .ok (.iload_n 1, 1) := by decide +kernel
theorem d_MO_move_22 : decode (mB m_MO_move) 22 = .ok (.laload, 1) := by decide +kernel
theorem d_MO_move_23 : decode (mB m_MO_move) 23 = .ok (.lastore, 1) := by decide +kernel
theorem d_MO_move_24 : decode (mB m_MO_move) 24 = .ok (.aload_n 0, 1) := by decide +kernel
theorem d_MO_move_25 : decode (mB m_MO_move) 25 = .ok (.getfield 47, 3) := by decide +kernel
theorem d_MO_move_28 : decode (mB m_MO_move) 28 = .ok (.iload_n 2, 1) := by decide +kernel
theorem d_MO_move_29 : decode (mB m_MO_move) 29 = .ok (.aload_n 0, 1) := by decide +kernel
theorem d_MO_move_30 : decode (mB m_MO_move) 30 = .ok (.getfield 47, 3) := by decide +kernel
theorem d_MO_move_33 : decode (mB m_MO_move) 33 = .ok (.iload_n 1, 1) := by decide +kernel
theorem d_MO_move_34 : decode (mB m_MO_move) 34 = .ok (.laload, 1) := by decide +kernel
theorem d_MO_move_35 : decode (mB m_MO_move) 35 = .ok (.lastore, 1) := by decide +kernel
theorem d_MO_move_36 : decode (mB m_MO_move) 36 = .ok (.aload_n 0, 1) := by decide +kernel
theorem d_MO_move_37 : decode (mB m_MO_move) 37 = .ok (.getfield 50, 3) := by decide +kernel
theorem d_MO_move_40 : decode (mB m_MO_move) 40 = .ok (.iload_n 2, 1) := by decide +kernel
theorem d_MO_move_41 : decode (mB m_MO_move) 41 = .ok (.aload_n 0, 1) := by decide +kernel
theorem d_MO_move_42 : decode (mB m_MO_move) 42 = .ok (.getfield 50, 3) := by decide +kernel
theorem d_MO_move_45 : decode (mB m_MO_move) 45 = .ok (.iload_n 1, 1) := by decide +kernel
theorem d_MO_move_46 : decode (mB m_MO_move) 46 = .ok (.iaload, 1) := by decide +kernel
theorem d_MO_move_47 : decode (mB m_MO_move) 47 = .ok (.iastore, 1) := by decide +kernel
theorem d_MO_move_48 : decode (mB m_MO_move) 48 = .ok (.return_, 1) := by decide +kernel
theorem d_MO_hear_0 : decode (mB m_MO_hear) 0 = .ok (.aload_n 0, 1) := by decide +kernel
theorem d_MO_hear_1 : decode (mB m_MO_hear) 1 = .ok (.iload_n 1, 1) := by decide +kernel
theorem d_MO_hear_2 : decode (mB m_MO_hear) 2 = .ok (.invokevirtual 141, 3) := by decide +kernel
theorem d_MO_hear_5 : decode (mB m_MO_hear) 5 = .ok (.ifCond .eq (5), 3) := by decide +kernel
theorem d_MO_hear_8 : decode (mB m_MO_hear) 8 = .ok (.iconst 0, 1) := by decide +kernel
theorem d_MO_hear_9 : decode (mB m_MO_hear) 9 = .ok (.ireturn, 1) := by decide +kernel
theorem d_MO_hear_10 : decode (mB m_MO_hear) 10 = .ok (.aload_n 0, 1) := by decide +kernel
theorem d_MO_hear_11 : decode (mB m_MO_hear) 11 = .ok (.iload_n 1, 1) := by decide +kernel
theorem d_MO_hear_12 : decode (mB m_MO_hear) 12 = .ok (.invokevirtual 173, 3) := by decide +kernel
theorem d_MO_hear_15 : decode (mB m_MO_hear) 15 = .ok (.istore_n 2, 1) := by decide +kernel
theorem d_MO_hear_16 : decode (mB m_MO_hear) 16 = .ok (.iload_n 2, 1) := by decide +kernel
theorem d_MO_hear_17 : decode (mB m_MO_hear) 17 = .ok (.ifCond .le (5), 3) := by decide +kernel
theorem d_MO_hear_20 : decode (mB m_MO_hear) 20 = .ok (.iload_n 2, 1) := by decide +kernel
theorem d_MO_hear_21 : decode (mB m_MO_hear) 21 = .ok (.ireturn, 1) := by decide +kernel
theorem d_MO_hear_22 : decode (mB m_MO_hear) 22 = .ok (.aload_n 0, 1) := by decide +kernel
theorem d_MO_hear_23 : decode (mB m_MO_hear) 23 = .ok (.iload_n 1, 1) := by decide +kernel
theorem d_MO_hear_24 : decode (mB m_MO_hear) 24 = .ok (.invokevirtual 177, 3) := by decide +kernel
theorem d_MO_hear_27 : decode (mB m_MO_hear) 27 = .ok (.aload_n 0, 1) := by decide +kernel
theorem d_MO_hear_28 : decode (mB m_MO_hear) 28 = .ok (.getfield 50, 3) := by decide +kernel
theorem d_MO_hear_31 : decode (mB m_MO_hear) 31 = .ok (.aload_n 0, 1) := by decide +kernel
theorem d_MO_hear_32 : decode (mB m_MO_hear) 32 = .ok (.iload_n 1, 1) := by decide +kernel
theorem d_MO_hear_33 : decode (mB m_MO_hear) 33 = .ok (.iconst 0, 1) := by decide +kernel
theorem d_MO_hear_34 : decode (mB m_MO_hear) 34 = .ok (.invokevirtual 113, 3) := by decide +kernel
theorem d_MO_hear_37 : decode (mB m_MO_hear) 37 = .ok (.iaload, 1) := by decide +kernel
theorem d_MO_hear_38 : decode (mB m_MO_hear) 38 = .ok (.istore_n 3, 1) := by decide +kernel
theorem d_MO_hear_39 : decode (mB m_MO_hear) 39 = .ok (.iload_n 3, 1) := by decide +kernel
theorem d_MO_hear_40 : decode (mB m_MO_hear) 40 = .ok (.aload_n 0, 1) := by decide +kernel
theorem d_MO_hear_41 : decode (mB m_MO_hear) 41 = .ok (.getfield 38, 3) := by decide +kernel
theorem d_MO_hear_44 : decode (mB m_MO_hear) 44 = .ok (.iload_n 1, 1) := by decide +kernel
theorem d_MO_hear_45 : decode (mB m_MO_hear) 45 = .ok (.iaload, 1) := by decide +kernel
theorem d_MO_hear_46 : decode (mB m_MO_hear) 46 = .ok (.if_icmp .le (14), 3) := by decide +kernel
theorem d_MO_hear_49 : decode (mB m_MO_hear) 49 = .ok (.aload_n 0, 1) := by decide +kernel
theorem d_MO_hear_50 : decode (mB m_MO_hear) 50 = .ok (.getfield 38, 3) := by decide +kernel
theorem d_MO_hear_53 : decode (mB m_MO_hear) 53 = .ok (.iload_n 1, 1) := by decide +kernel
theorem d_MO_hear_54 : decode (mB m_MO_hear) 54 = .ok (.iload_n 3, 1) := by decide +kernel
theorem d_MO_hear_55 : decode (mB m_MO_hear) 55 = .ok (.iastore, 1) := by decide +kernel
theorem d_MO_hear_56 : decode (mB m_MO_hear) 56 = .ok (.aload_n 0, 1) := by decide +kernel
theorem d_MO_hear_57 : decode (mB m_MO_hear) 57 = .ok (.invokevirtual 181, 3) := by decide +kernel
theorem d_MO_hear_60 : decode (mB m_MO_hear) 60 = .ok (.iconst 0, 1) := by decide +kernel
theorem d_MO_hear_61 : decode (mB m_MO_hear) 61 = .ok (.ireturn, 1) := by decide +kernel
theorem d_MO_serve_0 : decode (mB m_MO_serve) 0 = .ok (.aload_n 0, 1) := by decide +kernel
theorem d_MO_serve_1 : decode (mB m_MO_serve) 1 = .ok (.iconst 0, 1) := by decide +kernel
theorem d_MO_serve_2 : decode (mB m_MO_serve) 2 = .ok (.putfield 60, 3) := by decide +kernel
theorem d_MO_serve_5 : decode (mB m_MO_serve) 5 = .ok (.aload_n 0, 1) := by decide +kernel
theorem d_MO_serve_6 : decode (mB m_MO_serve) 6 = .ok (.getfield 63, 3) := by decide +kernel
theorem d_MO_serve_9 : decode (mB m_MO_serve) 9 = .ok (.bipush (48), 2) := by decide +kernel
theorem d_MO_serve_11 : decode (mB m_MO_serve) 11 = .ok (.if_icmp .ne (32), 3) := by decide +kernel
theorem d_MO_serve_14 : decode (mB m_MO_serve) 14 = .ok (.aload_n 0, 1) := by decide +kernel
theorem d_MO_serve_15 : decode (mB m_MO_serve) 15 = .ok (.invokevirtual 152, 3) := by decide +kernel
theorem d_MO_serve_18 : decode (mB m_MO_serve) 18 = .ok (.iconst 1, 1) := by decide +kernel
theorem d_MO_serve_19 : decode (mB m_MO_serve) 19 = .ok (.if_icmp .lt (24), 3) := by decide +kernel
theorem d_MO_serve_22 : decode (mB m_MO_serve) 22 = .ok (.aload_n 0, 1) := by decide +kernel
theorem d_MO_serve_23 : decode (mB m_MO_serve) 23 = .ok (.invokevirtual 152, 3) := by decide +kernel
theorem d_MO_serve_26 : decode (mB m_MO_serve) 26 = .ok (.iconst 4, 1) := by decide +kernel
theorem d_MO_serve_27 : decode (mB m_MO_serve) 27 = .ok (.if_icmp .gt (16), 3) := by decide +kernel
theorem d_MO_serve_30 : decode (mB m_MO_serve) 30 = .ok (.aload_n 0, 1) := by decide +kernel
theorem d_MO_serve_31 : decode (mB m_MO_serve) 31 = .ok (.getfield 7, 3) := by decide +kernel
theorem d_MO_serve_34 : decode (mB m_MO_serve) 34 = .ok (.iconst 0, 1) := by decide +kernel
theorem d_MO_serve_35 : decode (mB m_MO_serve) 35 = .ok (.iaload, 1) := by decide +kernel
theorem d_MO_serve_36 : decode (mB m_MO_serve) 36 = .ok (.bipush (8), 2) := by decide +kernel
theorem d_MO_serve_38 : decode (mB m_MO_serve) 38 = .ok (.irem, 1) := by decide +kernel
theorem d_MO_serve_39 : decode (mB m_MO_serve) 39 = .ok (.iconst 3, 1) := by decide +kernel
theorem d_MO_serve_40 : decode (mB m_MO_serve) 40 = .ok (.if_icmp .eq (5), 3) := by decide +kernel
theorem d_MO_serve_43 : decode (mB m_MO_serve) 43 = .ok (.iconst 0, 1) := by decide +kernel
theorem d_MO_serve_44 : decode (mB m_MO_serve) 44 = .ok (.ireturn, 1) := by decide +kernel
theorem d_MO_serve_45 : decode (mB m_MO_serve) 45 = .ok (.aload_n 0, 1) := by decide +kernel
theorem d_MO_serve_46 : decode (mB m_MO_serve) 46 = .ok (.getfield 184, 3) := by decide +kernel
theorem d_MO_serve_49 : decode (mB m_MO_serve) 49 = .ok (.bipush (15), 2) := by decide +kernel
theorem d_MO_serve_51 : decode (mB m_MO_serve) 51 = .ok (.if_icmp .le (7), 3) := by decide +kernel
theorem d_MO_serve_54 : decode (mB m_MO_serve) 54 = .ok (.iconst 0, 1) := by decide +kernel
theorem d_MO_serve_55 : decode (mB m_MO_serve) 55 = .ok (.goto (7), 3) := by decide +kernel
theorem d_MO_serve_58 : decode (mB m_MO_serve) 58 = .ok (.aload_n 0, 1) := by decide +kernel
theorem d_MO_serve_59 : decode (mB m_MO_serve) 59 = .ok (.getfield 184, 3) := by decide +kernel
theorem d_MO_serve_62 : decode (mB m_MO_serve) 62 = .ok (.istore_n 1, 1) := by decide +kernel
theorem d_MO_serve_63 : decode (mB m_MO_serve) 63 = .ok (.aload_n 0, 1) := by decide +kernel
theorem d_MO_serve_64 : decode (mB m_MO_serve) 64 = .ok (.invokevirtual 152, 3) := by decide +kernel
theorem d_MO_serve_67 : decode (mB m_MO_serve) 67 = .ok (.istore_n 2, 1) := by decide +kernel
theorem d_MO_serve_68 : decode (mB m_MO_serve) 68 = .ok (.aload_n 0, 1) := by decide +kernel
theorem d_MO_serve_69 : decode (mB m_MO_serve) 69 = .ok (.getfield 7, 3) := by decide +kernel
theorem d_MO_serve_72 : decode (mB m_MO_serve) 72 = .ok (.iconst 2, 1) := by decide +kernel
theorem d_MO_serve_73 : decode (mB m_MO_serve) 73 = .ok (.iaload, 1) := by decide +kernel
theorem d_MO_serve_74 : decode (mB m_MO_serve) 74 = .ok (.istore_n 3, 1) := by decide +kernel
theorem d_MO_serve_75 : decode (mB m_MO_serve) 75 = .ok (.aload_n 0, 1) := by decide +kernel
theorem d_MO_serve_76 : decode (mB m_MO_serve) 76 = .ok (.bipush (40), 2) := by decide +kernel
theorem d_MO_serve_78 : decode (mB m_MO_serve) 78 = .ok (.bipush (8), 2) := by decide +kernel
theorem d_MO_serve_80 : decode (mB m_MO_serve) 80 = .ok (.invokevirtual 156, 3) := by decide +kernel
theorem d_MO_serve_83 : decode (mB m_MO_serve) 83 = .ok (.lstore 4, 2) := by decide +kernel
theorem d_MO_serve_85 : decode (mB m_MO_serve) 85 = .ok (.aload_n 0, 1) := by decide +kernel
theorem d_MO_serve_86 : decode (mB m_MO_serve) 86 = .ok (.invokevirtual 145, 3) := by decide +kernel
theorem d_MO_serve_89 : decode (mB m_MO_serve) 89 = .ok (.aload_n 0, 1) := by decide +kernel
theorem d_MO_serve_90 : decode (mB m_MO_serve) 90 = .ok (.getfield 13, 3) := by decide +kernel
theorem d_MO_serve_93 : decode (mB m_MO_serve) 93 = .ok (.iconst 0, 1) := by decide +kernel
theorem d_MO_serve_94 : decode (mB m_MO_serve) 94 = .ok (.bipush (8), 2) := by decide +kernel
theorem d_MO_serve_96 : decode (mB m_MO_serve) 96 = .ok (.iload_n 2, 1) := by decide +kernel
theorem d_MO_serve_97 : decode (mB m_MO_serve) 97 = .ok (.imul, 1) := by decide +kernel
theorem d_MO_serve_98 : decode (mB m_MO_serve) 98 = .ok (.iconst 4, 1) := by decide +kernel
theorem d_MO_serve_99 : decode (mB m_MO_serve) 99 = .ok (.iadd, 1) := by decide +kernel
theorem d_MO_serve_100 : decode (mB m_MO_serve) 100 = .ok (.iload_n 1, 1) := by decide +kernel
theorem d_MO_serve_101 : decode (mB m_MO_serve) 101 = .ok (.ifCond .ne (9), 3) := by decide +kernel
theorem d_MO_serve_104 : decode (mB m_MO_serve) 104 = .ok (.sipush (192), 3) := by decide +kernel
theorem d_MO_serve_107 : decode (mB m_MO_serve) 107 = .ok (.goto (4), 3) := by decide +kernel
theorem d_MO_serve_110 : decode (mB m_MO_serve) 110 = .ok (.iconst 0, 1) := by decide +kernel
theorem d_MO_serve_111 : decode (mB m_MO_serve) 111 = .ok (.iadd, 1) := by decide +kernel
theorem d_MO_serve_112 : decode (mB m_MO_serve) 112 = .ok (.iastore, 1) := by decide +kernel
theorem d_MO_serve_113 : decode (mB m_MO_serve) 113 = .ok (.aload_n 0, 1) := by decide +kernel
theorem d_MO_serve_114 : decode (mB m_MO_serve) 114 = .ok (.getfield 13, 3) := by decide +kernel
theorem d_MO_serve_117 : decode (mB m_MO_serve) 117 = .ok (.iconst 1, 1) := by decide +kernel
theorem d_MO_serve_118 : decode (mB m_MO_serve) 118 = .ok (.iload_n 1, 1) := by decide +kernel
theorem d_MO_serve_119 : decode (mB m_MO_serve) 119 = .ok (.iastore, 1) := by decide +kernel
theorem d_MO_serve_120 : decode (mB m_MO_serve) 120 = .ok (.aload_n 0, 1) := by decide +kernel
theorem d_MO_serve_121 : decode (mB m_MO_serve) 121 = .ok (.getfield 13, 3) := by decide +kernel
theorem d_MO_serve_124 : decode (mB m_MO_serve) 124 = .ok (.iconst 2, 1) := by decide +kernel
theorem d_MO_serve_125 : decode (mB m_MO_serve) 125 = .ok (.iload_n 3, 1) := by decide +kernel
theorem d_MO_serve_126 : decode (mB m_MO_serve) 126 = .ok (.iastore, 1) := by decide +kernel
theorem d_MO_serve_127 : decode (mB m_MO_serve) 127 = .ok (.aload_n 0, 1) := by decide +kernel
theorem d_MO_serve_128 : decode (mB m_MO_serve) 128 = .ok (.getfield 13, 3) := by decide +kernel
theorem d_MO_serve_131 : decode (mB m_MO_serve) 131 = .ok (.iconst 3, 1) := by decide +kernel
theorem d_MO_serve_132 : decode (mB m_MO_serve) 132 = .ok (.sipush (238), 3) := by decide +kernel
theorem d_MO_serve_135 : decode (mB m_MO_serve) 135 = .ok (.iastore, 1) := by decide +kernel
theorem d_MO_serve_136 : decode (mB m_MO_serve) 136 = .ok (.aload_n 0, 1) := by decide +kernel
theorem d_MO_serve_137 : decode (mB m_MO_serve) 137 = .ok (.getfield 13, 3) := by decide +kernel
theorem d_MO_serve_140 : decode (mB m_MO_serve) 140 = .ok (.bipush (24), 2) := by decide +kernel
theorem d_MO_serve_142 : decode (mB m_MO_serve) 142 = .ok (.bipush (8), 2) := by decide +kernel
theorem d_MO_serve_144 : decode (mB m_MO_serve) 144 = .ok (.lload 4, 2) := by decide +kernel
theorem d_MO_serve_146 : decode (mB m_MO_serve) 146 = .ok (.invokestatic 148, 3) := by decide +kernel
theorem d_MO_serve_149 : decode (mB m_MO_serve) 149 = .ok (.aload_n 0, 1) := by decide +kernel
theorem d_MO_serve_150 : decode (mB m_MO_serve) 150 = .ok (.getfield 13, 3) := by decide +kernel
theorem d_MO_serve_153 : decode (mB m_MO_serve) 153 = .ok (.bipush (32), 2) := by decide +kernel
theorem d_MO_serve_155 : decode (mB m_MO_serve) 155 = .ok (.bipush (8), 2) := by decide +kernel
theorem d_MO_serve_157 : decode (mB m_MO_serve) 157 = .ok (.aload_n 0, 1) := by decide +kernel
theorem d_MO_serve_158 : decode (mB m_MO_serve) 158 = .ok (.getfield 79, 3) := by decide +kernel
theorem d_MO_serve_161 : decode (mB m_MO_serve) 161 = .ok (.invokestatic 148, 3) := by decide +kernel
theorem d_MO_serve_164 : decode (mB m_MO_serve) 164 = .ok (.aload_n 0, 1) := by decide +kernel
theorem d_MO_serve_165 : decode (mB m_MO_serve) 165 = .ok (.getfield 13, 3) := by decide +kernel
theorem d_MO_serve_168 : decode (mB m_MO_serve) 168 = .ok (.bipush (40), 2) := by decide +kernel
theorem d_MO_serve_170 : decode (mB m_MO_serve) 170 = .ok (.bipush (8), 2) := by decide +kernel
theorem d_MO_serve_172 : decode (mB m_MO_serve) 172 = .ok (.aload_n 0, 1) := by decide +kernel
theorem d_MO_serve_173 : decode (mB m_MO_serve) 173 = .ok (.getfield 79, 3) := by decide +kernel
theorem d_MO_serve_176 : decode (mB m_MO_serve) 176 = .ok (.invokestatic 148, 3) := by decide +kernel
theorem d_MO_serve_179 : decode (mB m_MO_serve) 179 = .ok (.iconst 1, 1) := by decide +kernel
theorem d_MO_serve_180 : decode (mB m_MO_serve) 180 = .ok (.ireturn, 1) := by decide +kernel
theorem d_MO_isWay_0 : decode (mB m_MO_isWay) 0 = .ok (.lload_n 0, 1) := by decide +kernel
theorem d_MO_isWay_1 : decode (mB m_MO_isWay) 1 = .ok (.lconst 0, 1) := by decide +kernel
theorem d_MO_isWay_2 : decode (mB m_MO_isWay) 2 = .ok (.lcmp, 1) := by decide +kernel
theorem d_MO_isWay_3 : decode (mB m_MO_isWay) 3 = .ok (.ifCond .lt (15), 3) := by decide +kernel
theorem d_MO_isWay_6 : decode (mB m_MO_isWay) 6 = .ok (.lload_n 0, 1) := by decide +kernel
theorem d_MO_isWay_7 : decode (mB m_MO_isWay) 7 = .ok (.ldc2_w 165, 3) := by decide +kernel
theorem d_MO_isWay_10 : decode (mB m_MO_isWay) 10 = .ok (.lcmp, 1) := by decide +kernel
theorem d_MO_isWay_11 : decode (mB m_MO_isWay) 11 = .ok (.ifCond .gt (7), 3) := by decide +kernel
theorem d_MO_isWay_14 : decode (mB m_MO_isWay) 14 = .ok (.iconst 1, 1) := by decide +kernel
theorem d_MO_isWay_15 : decode (mB m_MO_isWay) 15 = .ok (.goto (4), 3) := by decide +kernel
theorem d_MO_isWay_18 : decode (mB m_MO_isWay) 18 = .ok (.iconst 0, 1) := by decide +kernel
theorem d_MO_isWay_19 : decode (mB m_MO_isWay) 19 = .ok (.ireturn, 1) := by decide +kernel
theorem d_MO_answer_0 : decode (mB m_MO_answer) 0 = .ok (.aload_n 0, 1) := by decide +kernel
theorem d_MO_answer_1 : decode (mB m_MO_answer) 1 = .ok (.iload_n 1, 1) := by decide +kernel
theorem d_MO_answer_2 : decode (mB m_MO_answer) 2 = .ok (.invokevirtual 141, 3) := by decide +kernel
theorem d_MO_answer_5 : decode (mB m_MO_answer) 5 = .ok (.ifCond .eq (5), 3) := by decide +kernel
theorem d_MO_answer_8 : decode (mB m_MO_answer) 8 = .ok (.lconst 0, 1) := by decide +kernel
theorem d_MO_answer_9 : decode (mB m_MO_answer) 9 = .ok (.lreturn, 1) := by decide +kernel
theorem d_MO_answer_10 : decode (mB m_MO_answer) 10 = .ok (.iload_n 2, 1) := by decide +kernel
theorem d_MO_answer_11 : decode (mB m_MO_answer) 11 = .ok (.ifCond .lt (47), 3) := by decide +kernel
theorem d_MO_answer_14 : decode (mB m_MO_answer) 14 = .ok (.iload_n 2, 1) := by decide +kernel
theorem d_MO_answer_15 : decode (mB m_MO_answer) 15 = .ok (.sipush (256), 3) := by decide +kernel
theorem d_MO_answer_18 : decode (mB m_MO_answer) 18 = .ok (.if_icmp .ge (40), 3) := by decide +kernel
theorem d_MO_answer_21 : decode (mB m_MO_answer) 21 = .ok (.iload_n 3, 1) := by decide +kernel
theorem d_MO_answer_22 : decode (mB m_MO_answer) 22 = .ok (.ifCond .lt (36), 3) := by decide +kernel
theorem d_MO_answer_25 : decode (mB m_MO_answer) 25 = .ok (.iload 4, 2) := by decide +kernel
theorem d_MO_answer_27 : decode (mB m_MO_answer) 27 = .ok (.ifCond .lt (31), 3) := by decide +kernel
theorem d_MO_answer_30 : decode (mB m_MO_answer) 30 = .ok (.lload 7, 2) := by decide +kernel
theorem d_MO_answer_32 : decode (mB m_MO_answer) 32 = .ok (.invokestatic 187, 3) := by decide +kernel
theorem d_MO_answer_35 : decode (mB m_MO_answer) 35 = .ok (.ifCond .eq (23), 3) := by decide +kernel
theorem d_MO_answer_38 : decode (mB m_MO_answer) 38 = .ok (.lload 9, 2) := by decide +kernel
theorem d_MO_answer_40 : decode (mB m_MO_answer) 40 = .ok (.invokestatic 187, 3) := by decide +kernel
theorem d_MO_answer_43 : decode (mB m_MO_answer) 43 = .ok (.ifCond .eq (15), 3) := by decide +kernel
theorem d_MO_answer_46 : decode (mB m_MO_answer) 46 = .ok (.lload 11, 2) := by decide +kernel
theorem d_MO_answer_48 : decode (mB m_MO_answer) 48 = .ok (.invokestatic 187, 3) := by decide +kernel
theorem d_MO_answer_51 : decode (mB m_MO_answer) 51 = .ok (.ifCond .eq (7), 3) := by decide +kernel
theorem d_MO_answer_54 : decode (mB m_MO_answer) 54 = .ok (.iconst 1, 1) := by decide +kernel
theorem d_MO_answer_55 : decode (mB m_MO_answer) 55 = .ok (.goto (4), 3) := by decide +kernel
theorem d_MO_answer_58 : decode (mB m_MO_answer) 58 = .ok (.iconst 0, 1) := by decide +kernel
theorem d_MO_answer_59 : decode (mB m_MO_answer) 59 = .ok (.istore 13, 2) := by decide +kernel
theorem d_MO_answer_61 : decode (mB m_MO_answer) 61 = .ok (.aload_n 0, 1) := by decide +kernel
theorem d_MO_answer_62 : decode (mB m_MO_answer) 62 = .ok (.iload 13, 2) := by decide +kernel
theorem d_MO_answer_64 : decode (mB m_MO_answer) 64 = .ok (.ifCond .eq (7), 3) := by decide +kernel
theorem d_MO_answer_67 : decode (mB m_MO_answer) 67 = .ok (.iconst 0, 1) := by decide +kernel
theorem d_MO_answer_68 : decode (mB m_MO_answer) 68 = .ok (.goto (4), 3) := by decide +kernel
theorem d_MO_answer_71 : decode (mB m_MO_answer) 71 = .ok (.iconst 2, 1) := by decide +kernel
theorem d_MO_answer_72 : decode (mB m_MO_answer) 72 = .ok (.putfield 60, 3) := by decide +kernel
theorem d_MO_answer_75 : decode (mB m_MO_answer) 75 = .ok (.aload_n 0, 1) := by decide +kernel
theorem d_MO_answer_76 : decode (mB m_MO_answer) 76 = .ok (.getfield 60, 3) := by decide +kernel
theorem d_MO_answer_79 : decode (mB m_MO_answer) 79 = .ok (.ifCond .le (5), 3) := by decide +kernel
theorem d_MO_answer_82 : decode (mB m_MO_answer) 82 = .ok (.lconst 0, 1) := by decide +kernel
theorem d_MO_answer_83 : decode (mB m_MO_answer) 83 = .ok (.lreturn, 1) := by decide +kernel
theorem d_MO_answer_84 : decode (mB m_MO_answer) 84 = .ok (.iconst 0, 1) := by decide +kernel
theorem d_MO_answer_85 : decode (mB m_MO_answer) 85 = .ok (.istore 14, 2) := by decide +kernel
theorem d_MO_answer_87 : decode (mB m_MO_answer) 87 = .ok (.iload 14, 2) := by decide +kernel
theorem d_MO_answer_89 : decode (mB m_MO_answer) 89 = .ok (.bipush (48), 2) := by decide +kernel
theorem d_MO_answer_91 : decode (mB m_MO_answer) 91 = .ok (.if_icmp .ge (17), 3) := by decide +kernel
theorem d_MO_answer_94 : decode (mB m_MO_answer) 94 = .ok (.aload_n 0, 1) := by decide +kernel
theorem d_MO_answer_95 : decode (mB m_MO_answer) 95 = .ok (.getfield 7, 3) := by decide +kernel
theorem d_MO_answer_98 : decode (mB m_MO_answer) 98 = .ok (.iload 14, 2) := by decide +kernel
theorem d_MO_answer_100 : decode (mB m_MO_answer) 100 = .ok (.iconst 0, 1) := by decide +kernel
theorem d_MO_answer_101 : decode (mB m_MO_answer) 101 = .ok (.iastore, 1) := by decide +kernel
theorem d_MO_answer_102 : decode (mB m_MO_answer) 102 = .ok (.iinc 14 (1), 3) := by decide +kernel
theorem d_MO_answer_105 : decode (mB m_MO_answer) 105 = .ok (.goto (-18), 3) := by decide +kernel
theorem d_MO_answer_108 : decode (mB m_MO_answer) 108 = .ok (.aload_n 0, 1) := by decide +kernel
theorem d_MO_answer_109 : decode (mB m_MO_answer) 109 = .ok (.bipush (48), 2) := by decide +kernel
theorem d_MO_answer_111 : decode (mB m_MO_answer) 111 = .ok (.putfield 63, 3) := by decide +kernel
theorem d_MO_answer_114 : decode (mB m_MO_answer) 114 = .ok (.aload_n 0, 1) := by decide +kernel
theorem d_MO_answer_115 : decode (mB m_MO_answer) 115 = .ok (.getfield 7, 3) := by decide +kernel
theorem d_MO_answer_118 : decode (mB m_MO_answer) 118 = .ok (.iconst 0, 1) := by decide +kernel
theorem d_MO_answer_119 : decode (mB m_MO_answer) 119 = .ok (.bipush (36), 2) := by decide +kernel
theorem d_MO_answer_121 : decode (mB m_MO_answer) 121 = .ok (.iastore, 1) := by decide +kernel
theorem d_MO_answer_122 : decode (mB m_MO_answer) 122 = .ok (.aload_n 0, 1) := by decide +kernel
theorem d_MO_answer_123 : decode (mB m_MO_answer) 123 = .ok (.getfield 7, 3) := by decide +kernel
theorem d_MO_answer_126 : decode (mB m_MO_answer) 126 = .ok (.iconst 1, 1) := by decide +kernel
theorem d_MO_answer_127 : decode (mB m_MO_answer) 127 = .ok (.iload_n 2, 1) := by decide +kernel
theorem d_MO_answer_128 : decode (mB m_MO_answer) 128 = .ok (.iastore, 1) := by decide +kernel
theorem d_MO_answer_129 : decode (mB m_MO_answer) 129 = .ok (.aload_n 0, 1) := by decide +kernel
theorem d_MO_answer_130 : decode (mB m_MO_answer) 130 = .ok (.getfield 7, 3) := by decide +kernel
theorem d_MO_answer_133 : decode (mB m_MO_answer) 133 = .ok (.iconst 4, 1) := by decide +kernel
theorem d_MO_answer_134 : decode (mB m_MO_answer) 134 = .ok (.iconst 4, 1) := by decide +kernel
theorem d_MO_answer_135 : decode (mB m_MO_answer) 135 = .ok (.iload_n 3, 1) := by decide +kernel
theorem d_MO_answer_136 : decode (mB m_MO_answer) 136 = .ok (.i2l, 1) := by decide +kernel
theorem d_MO_answer_137 : decode (mB m_MO_answer) 137 = .ok (.invokestatic 148, 3) := by decide +kernel
theorem d_MO_answer_140 : decode (mB m_MO_answer) 140 = .ok (.aload_n 0, 1) := by decide +kernel
theorem d_MO_answer_141 : decode (mB m_MO_answer) 141 = .ok (.getfield 7, 3) := by decide +kernel
theorem d_MO_answer_144 : decode (mB m_MO_answer) 144 = .ok (.bipush (8), 2) := by decide +kernel
theorem d_MO_answer_146 : decode (mB m_MO_answer) 146 = .ok (.iconst 4, 1) := by decide +kernel
theorem d_MO_answer_147 : decode (mB m_MO_answer) 147 = .ok (.iload 4, 2) := by decide +kernel
theorem d_MO_answer_149 : decode (mB m_MO_answer) 149 = .ok (.i2l, 1) := by decide +kernel
theorem d_MO_answer_150 : decode (mB m_MO_answer) 150 = .ok (.invokestatic 148, 3) := by decide +kernel
theorem d_MO_answer_153 : decode (mB m_MO_answer) 153 = .ok (.aload_n 0, 1) := by decide +kernel
theorem d_MO_answer_154 : decode (mB m_MO_answer) 154 = .ok (.getfield 7, 3) := by decide +kernel
theorem d_MO_answer_157 : decode (mB m_MO_answer) 157 = .ok (.bipush (24), 2) := by decide +kernel
theorem d_MO_answer_159 : decode (mB m_MO_answer) 159 = .ok (.bipush (8), 2) := by decide +kernel
theorem d_MO_answer_161 : decode (mB m_MO_answer) 161 = .ok (.aload_n 0, 1) := by decide +kernel
theorem d_MO_answer_162 : decode (mB m_MO_answer) 162 = .ok (.getfield 16, 3) := by decide +kernel
theorem d_MO_answer_165 : decode (mB m_MO_answer) 165 = .ok (.iload_n 1, 1) := by decide +kernel
theorem d_MO_answer_166 : decode (mB m_MO_answer) 166 = .ok (.laload, 1) := by decide +kernel
theorem d_MO_answer_167 : decode (mB m_MO_answer) 167 = .ok (.invokestatic 148, 3) := by decide +kernel
theorem d_MO_answer_170 : decode (mB m_MO_answer) 170 = .ok (.aload_n 0, 1) := by decide +kernel
theorem d_MO_answer_171 : decode (mB m_MO_answer) 171 = .ok (.getfield 7, 3) := by decide +kernel
theorem d_MO_answer_174 : decode (mB m_MO_answer) 174 = .ok (.bipush (32), 2) := by decide +kernel
theorem d_MO_answer_176 : decode (mB m_MO_answer) 176 = .ok (.bipush (8), 2) := by decide +kernel
theorem d_MO_answer_178 : decode (mB m_MO_answer) 178 = .ok (.aload_n 0, 1) := by decide +kernel
theorem d_MO_answer_179 : decode (mB m_MO_answer) 179 = .ok (.getfield 16, 3) := by decide +kernel
theorem d_MO_answer_182 : decode (mB m_MO_answer) 182 = .ok (.iload_n 1, 1) := by decide +kernel
theorem d_MO_answer_183 : decode (mB m_MO_answer) 183 = .ok (.laload, 1) := by decide +kernel
theorem d_MO_answer_184 : decode (mB m_MO_answer) 184 = .ok (.lload 5, 2) := by decide +kernel
theorem d_MO_answer_186 : decode (mB m_MO_answer) 186 = .ok (.ladd, 1) := by decide +kernel
theorem d_MO_answer_187 : decode (mB m_MO_answer) 187 = .ok (.lload 7, 2) := by decide +kernel
theorem d_MO_answer_189 : decode (mB m_MO_answer) 189 = .ok (.ladd, 1) := by decide +kernel
theorem d_MO_answer_190 : decode (mB m_MO_answer) 190 = .ok (.invokestatic 148, 3) := by decide +kernel
theorem d_MO_answer_193 : decode (mB m_MO_answer) 193 = .ok (.aload_n 0, 1) := by decide +kernel
theorem d_MO_answer_194 : decode (mB m_MO_answer) 194 = .ok (.getfield 7, 3) := by decide +kernel
theorem d_MO_answer_197 : decode (mB m_MO_answer) 197 = .ok (.bipush (40), 2) := by decide +kernel
theorem d_MO_answer_199 : decode (mB m_MO_answer) 199 = .ok (.bipush (8), 2) := by decide +kernel
theorem d_MO_answer_201 : decode (mB m_MO_answer) 201 = .ok (.aload_n 0, 1) := by decide +kernel
theorem d_MO_answer_202 : decode (mB m_MO_answer) 202 = .ok (.getfield 16, 3) := by decide +kernel
theorem d_MO_answer_205 : decode (mB m_MO_answer) 205 = .ok (.iload_n 1, 1) := by decide +kernel
theorem d_MO_answer_206 : decode (mB m_MO_answer) 206 = .ok (.laload, 1) := by decide +kernel
theorem d_MO_answer_207 : decode (mB m_MO_answer) 207 = .ok (.lload 5, 2) := by decide +kernel
theorem d_MO_answer_209 : decode (mB m_MO_answer) 209 = .ok (.ladd, 1) := by decide +kernel
theorem d_MO_answer_210 : decode (mB m_MO_answer) 210 = .ok (.lload 7, 2) := by decide +kernel
theorem d_MO_answer_212 : decode (mB m_MO_answer) 212 = .ok (.ladd, 1) := by decide +kernel
theorem d_MO_answer_213 : decode (mB m_MO_answer) 213 = .ok (.lload 9, 2) := by decide +kernel
theorem d_MO_answer_215 : decode (mB m_MO_answer) 215 = .ok (.ladd, 1) := by decide +kernel
theorem d_MO_answer_216 : decode (mB m_MO_answer) 216 = .ok (.invokestatic 148, 3) := by decide +kernel
theorem d_MO_answer_219 : decode (mB m_MO_answer) 219 = .ok (.aload_n 0, 1) := by decide +kernel
theorem d_MO_answer_220 : decode (mB m_MO_answer) 220 = .ok (.dup, 1) := by decide +kernel
theorem d_MO_answer_221 : decode (mB m_MO_answer) 221 = .ok (.getfield 79, 3) := by decide +kernel
theorem d_MO_answer_224 : decode (mB m_MO_answer) 224 = .ok (.lload 7, 2) := by decide +kernel
theorem d_MO_answer_226 : decode (mB m_MO_answer) 226 = .ok (.lload 9, 2) := by decide +kernel
theorem d_MO_answer_228 : decode (mB m_MO_answer) 228 = .ok (.ladd, 1) := by decide +kernel
theorem d_MO_answer_229 : decode (mB m_MO_answer) 229 = .ok (.lload 11, 2) := by decide +kernel
theorem d_MO_answer_231 : decode (mB m_MO_answer) 231 = .ok (.ladd, 1) := by decide +kernel
theorem d_MO_answer_232 : decode (mB m_MO_answer) 232 = .ok (.ladd, 1) := by decide +kernel
theorem d_MO_answer_233 : decode (mB m_MO_answer) 233 = .ok (.putfield 79, 3) := by decide +kernel
theorem d_MO_answer_236 : decode (mB m_MO_answer) 236 = .ok (.aload_n 0, 1) := by decide +kernel
theorem d_MO_answer_237 : decode (mB m_MO_answer) 237 = .ok (.getfield 79, 3) := by decide +kernel
theorem d_MO_answer_240 : decode (mB m_MO_answer) 240 = .ok (.lreturn, 1) := by decide +kernel
theorem d_MO_isCandidate_0 : decode (mB m_MO_isCandidate) 0 = .ok (.aload_n 0, 1) := by decide +kernel
theorem d_MO_isCandidate_1 : decode (mB m_MO_isCandidate) 1 = .ok (.getfield 35, 3) := by decide +kernel
theorem d_MO_isCandidate_4 : decode (mB m_MO_isCandidate) 4 = .ok (.iload_n 1, 1) := by decide +kernel
theorem d_MO_isCandidate_5 : decode (mB m_MO_isCandidate) 5 = .ok (.iaload, 1) := by decide +kernel
theorem d_MO_isCandidate_6 : decode (mB m_MO_isCandidate) 6 = .ok (.ifCond .le (28), 3) := by decide +kernel
theorem d_MO_isCandidate_9 : decode (mB m_MO_isCandidate) 9 = .ok (.aload_n 0, 1) := by decide +kernel
theorem d_MO_isCandidate_10 : decode (mB m_MO_isCandidate) 10 = .ok (.getfield 23, 3) := by decide +kernel
theorem d_MO_isCandidate_13 : decode (mB m_MO_isCandidate) 13 = .ok (.iload_n 1, 1) := by decide +kernel
theorem d_MO_isCandidate_14 : decode (mB m_MO_isCandidate) 14 = .ok (.iaload, 1) := by decide +kernel
theorem d_MO_isCandidate_15 : decode (mB m_MO_isCandidate) 15 = .ok (.ifCond .eq (19), 3) := by decide +kernel
theorem d_MO_isCandidate_18 : decode (mB m_MO_isCandidate) 18 = .ok (.aload_n 0, 1) := by decide +kernel
theorem d_MO_isCandidate_19 : decode (mB m_MO_isCandidate) 19 = .ok (.iload_n 1, 1) := by decide +kernel
theorem d_MO_isCandidate_20 : decode (mB m_MO_isCandidate) 20 = .ok (.invokevirtual 191, 3) := by decide +kernel
theorem d_MO_isCandidate_23 : decode (mB m_MO_isCandidate) 23 = .ok (.ldc2_w 194, 3) := by decide +kernel
theorem d_MO_isCandidate_26 : decode (mB m_MO_isCandidate) 26 = .ok (.lcmp, 1) := by decide +kernel
theorem d_MO_isCandidate_27 : decode (mB m_MO_isCandidate) 27 = .ok (.ifCond .ge (7), 3) := by decide +kernel
theorem d_MO_isCandidate_30 : decode (mB m_MO_isCandidate) 30 = .ok (.iconst 1, 1) := by decide +kernel
theorem d_MO_isCandidate_31 : decode (mB m_MO_isCandidate) 31 = .ok (.goto (4), 3) := by decide +kernel
theorem d_MO_isCandidate_34 : decode (mB m_MO_isCandidate) 34 = .ok (.iconst 0, 1) := by decide +kernel
theorem d_MO_isCandidate_35 : decode (mB m_MO_isCandidate) 35 = .ok (.ireturn, 1) := by decide +kernel
theorem d_MO_has_0 : decode (mB m_MO_has) 0 = .ok (.iload_n 0, 1) := by decide +kernel
theorem d_MO_has_1 : decode (mB m_MO_has) 1 = .ok (.iload_n 1, 1) := by decide +kernel
theorem d_MO_has_2 : decode (mB m_MO_has) 2 = .ok (.ishr, 1) := by decide +kernel
theorem d_MO_has_3 : decode (mB m_MO_has) 3 = .ok (.iconst 1, 1) := by decide +kernel
theorem d_MO_has_4 : decode (mB m_MO_has) 4 = .ok (.iand, 1) := by decide +kernel
theorem d_MO_has_5 : decode (mB m_MO_has) 5 = .ok (.iconst 1, 1) := by decide +kernel
theorem d_MO_has_6 : decode (mB m_MO_has) 6 = .ok (.if_icmp .ne (7), 3) := by decide +kernel
theorem d_MO_has_9 : decode (mB m_MO_has) 9 = .ok (.iconst 1, 1) := by decide +kernel
theorem d_MO_has_10 : decode (mB m_MO_has) 10 = .ok (.goto (4), 3) := by decide +kernel
theorem d_MO_has_13 : decode (mB m_MO_has) 13 = .ok (.iconst 0, 1) := by decide +kernel
theorem d_MO_has_14 : decode (mB m_MO_has) 14 = .ok (.ireturn, 1) := by decide +kernel
theorem d_MO_many_0 : decode (mB m_MO_many) 0 = .ok (.iconst 0, 1) := by decide +kernel
theorem d_MO_many_1 : decode (mB m_MO_many) 1 = .ok (.istore_n 1, 1) := by decide +kernel
theorem d_MO_many_2 : decode (mB m_MO_many) 2 = .ok (.iconst 0, 1) := by decide +kernel
theorem d_MO_many_3 : decode (mB m_MO_many) 3 = .ok (.istore_n 2, 1) := by decide +kernel
theorem d_MO_many_4 : decode (mB m_MO_many) 4 = .ok (.iload_n 2, 1) := by decide +kernel
theorem d_MO_many_5 : decode (mB m_MO_many) 5 = .ok (.bipush (8), 2) := by decide +kernel
theorem d_MO_many_7 : decode (mB m_MO_many) 7 = .ok (.if_icmp .ge (25), 3) := by decide +kernel
theorem d_MO_many_10 : decode (mB m_MO_many) 10 = .ok (.iload_n 0, 1) := by decide +kernel
theorem d_MO_many_11 : decode (mB m_MO_many) 11 = .ok (.iload_n 2, 1) := by decide +kernel
theorem d_MO_many_12 : decode (mB m_MO_many) 12 = .ok (.invokestatic 196, 3) := by decide +kernel
theorem d_MO_many_15 : decode (mB m_MO_many) 15 = .ok (.ifCond .eq (9), 3) := by decide +kernel
theorem d_MO_many_18 : decode (mB m_MO_many) 18 = .ok (.iload_n 1, 1) := by decide +kernel
theorem d_MO_many_19 : decode (mB m_MO_many) 19 = .ok (.iconst 1, 1) := by decide +kernel
theorem d_MO_many_20 : decode (mB m_MO_many) 20 = .ok (.iadd, 1) := by decide +kernel
theorem d_MO_many_21 : decode (mB m_MO_many) 21 = .ok (.goto (4), 3) := by decide +kernel
theorem d_MO_many_24 : decode (mB m_MO_many) 24 = .ok (.iload_n 1, 1) := by decide +kernel
theorem d_MO_many_25 : decode (mB m_MO_many) 25 = .ok (.istore_n 1, 1) := by decide +kernel
theorem d_MO_many_26 : decode (mB m_MO_many) 26 = .ok (.iinc 2 (1), 3) := by decide +kernel
theorem d_MO_many_29 : decode (mB m_MO_many) 29 = .ok (.goto (-25), 3) := by decide +kernel
theorem d_MO_many_32 : decode (mB m_MO_many) 32 = .ok (.iload_n 1, 1) := by decide +kernel
theorem d_MO_many_33 : decode (mB m_MO_many) 33 = .ok (.ireturn, 1) := by decide +kernel
theorem d_MO_holding_0 : decode (mB m_MO_holding) 0 = .ok (.iconst 0, 1) := by decide +kernel
theorem d_MO_holding_1 : decode (mB m_MO_holding) 1 = .ok (.istore_n 3, 1) := by decide +kernel
theorem d_MO_holding_2 : decode (mB m_MO_holding) 2 = .ok (.iconst 0, 1) := by decide +kernel
theorem d_MO_holding_3 : decode (mB m_MO_holding) 3 = .ok (.istore 4, 2) := by decide +kernel
theorem d_MO_holding_5 : decode (mB m_MO_holding) 5 = .ok (.iload 4, 2) := by decide +kernel
theorem d_MO_holding_7 : decode (mB m_MO_holding) 7 = .ok (.bipush (8), 2) := by decide +kernel
theorem d_MO_holding_9 : decode (mB m_MO_holding) 9 = .ok (.if_icmp .ge (77), 3) := by decide +kernel
theorem d_MO_holding_12 : decode (mB m_MO_holding) 12 = .ok (.aload_n 0, 1) := by decide +kernel
theorem d_MO_holding_13 : decode (mB m_MO_holding) 13 = .ok (.getfield 200, 3) := by decide +kernel
theorem d_MO_holding_16 : decode (mB m_MO_holding) 16 = .ok (.iload 4, 2) := by decide +kernel
theorem d_MO_holding_18 : decode (mB m_MO_holding) 18 = .ok (.invokestatic 196, 3) := by decide +kernel
theorem d_MO_holding_21 : decode (mB m_MO_holding) 21 = .ok (.ifCond .eq (43), 3) := by decide +kernel
theorem d_MO_holding_24 : decode (mB m_MO_holding) 24 = .ok (.aload_n 0, 1) := by decide +kernel
theorem d_MO_holding_25 : decode (mB m_MO_holding) 25 = .ok (.iload 4, 2) := by decide +kernel
theorem d_MO_holding_27 : decode (mB m_MO_holding) 27 = .ok (.invokevirtual 120, 3) := by decide +kernel
theorem d_MO_holding_30 : decode (mB m_MO_holding) 30 = .ok (.aload_n 0, 1) := by decide +kernel
theorem d_MO_holding_31 : decode (mB m_MO_holding) 31 = .ok (.iload 4, 2) := by decide +kernel
theorem d_MO_holding_33 : decode (mB m_MO_holding) 33 = .ok (.invokevirtual 191, 3) := by decide +kernel
theorem d_MO_holding_36 : decode (mB m_MO_holding) 36 = .ok (.lsub, 1) := by decide +kernel
theorem d_MO_holding_37 : decode (mB m_MO_holding) 37 = .ok (.lload_n 1, 1) := by decide +kernel
theorem d_MO_holding_38 : decode (mB m_MO_holding) 38 = .ok (.lcmp, 1) := by decide +kernel
theorem d_MO_holding_39 : decode (mB m_MO_holding) 39 = .ok (.ifCond .gt (25), 3) := by decide +kernel
theorem d_MO_holding_42 : decode (mB m_MO_holding) 42 = .ok (.aload_n 0, 1) := by decide +kernel
theorem d_MO_holding_43 : decode (mB m_MO_holding) 43 = .ok (.iload 4, 2) := by decide +kernel
theorem d_MO_holding_45 : decode (mB m_MO_holding) 45 = .ok (.invokevirtual 120, 3) := by decide +kernel
theorem d_MO_holding_48 : decode (mB m_MO_holding) 48 = .ok (.aload_n 0, 1) := by decide +kernel
theorem d_MO_holding_49 : decode (mB m_MO_holding) 49 = .ok (.iload 4, 2) := by decide +kernel
theorem d_MO_holding_51 : decode (mB m_MO_holding) 51 = .ok (.invokevirtual 191, 3) := by decide +kernel
theorem d_MO_holding_54 : decode (mB m_MO_holding) 54 = .ok (.ladd, 1) := by decide +kernel
theorem d_MO_holding_55 : decode (mB m_MO_holding) 55 = .ok (.lload_n 1, 1) := by decide +kernel
theorem d_MO_holding_56 : decode (mB m_MO_holding) 56 = .ok (.lcmp, 1) := by decide +kernel
theorem d_MO_holding_57 : decode (mB m_MO_holding) 57 = .ok (.ifCond .lt (7), 3) := by decide +kernel
theorem d_MO_holding_60 : decode (mB m_MO_holding) 60 = .ok (.iconst 1, 1) := by decide +kernel
theorem d_MO_holding_61 : decode (mB m_MO_holding) 61 = .ok (.goto (4), 3) := by decide +kernel
theorem d_MO_holding_64 : decode (mB m_MO_holding) 64 = .ok (.iconst 0, 1) := by decide +kernel
theorem d_MO_holding_65 : decode (mB m_MO_holding) 65 = .ok (.istore 5, 2) := by decide +kernel
theorem d_MO_holding_67 : decode (mB m_MO_holding) 67 = .ok (.iload 5, 2) := by decide +kernel
theorem d_MO_holding_69 : decode (mB m_MO_holding) 69 = .ok (.ifCond .eq (9), 3) := by decide +kernel
theorem d_MO_holding_72 : decode (mB m_MO_holding) 72 = .ok (.iload_n 3, 1) := by decide +kernel
theorem d_MO_holding_73 : decode (mB m_MO_holding) 73 = .ok (.iconst 1, 1) := by decide +kernel
theorem d_MO_holding_74 : decode (mB m_MO_holding) 74 = .ok (.iadd, 1) := by decide +kernel
theorem d_MO_holding_75 : decode (mB m_MO_holding) 75 = .ok (.goto (4), 3) := by decide +kernel
theorem d_MO_holding_78 : decode (mB m_MO_holding) 78 = .ok (.iload_n 3, 1) := by decide +kernel
theorem d_MO_holding_79 : decode (mB m_MO_holding) 79 = .ok (.istore_n 3, 1) := by decide +kernel
theorem d_MO_holding_80 : decode (mB m_MO_holding) 80 = .ok (.iinc 4 (1), 3) := by decide +kernel
theorem d_MO_holding_83 : decode (mB m_MO_holding) 83 = .ok (.goto (-78), 3) := by decide +kernel
theorem d_MO_holding_86 : decode (mB m_MO_holding) 86 = .ok (.iload_n 3, 1) := by decide +kernel
theorem d_MO_holding_87 : decode (mB m_MO_holding) 87 = .ok (.ireturn, 1) := by decide +kernel
theorem d_MO_intersect_0 : decode (mB m_MO_intersect) 0 = .ok (.aload_n 0, 1) := by decide +kernel
theorem d_MO_intersect_1 : decode (mB m_MO_intersect) 1 = .ok (.getfield 200, 3) := by decide +kernel
theorem d_MO_intersect_4 : decode (mB m_MO_intersect) 4 = .ok (.invokestatic 203, 3) := by decide +kernel
theorem d_MO_intersect_7 : decode (mB m_MO_intersect) 7 = .ok (.iload_n 1, 1) := by decide +kernel
theorem d_MO_intersect_8 : decode (mB m_MO_intersect) 8 = .ok (.isub, 1) := by decide +kernel
theorem d_MO_intersect_9 : decode (mB m_MO_intersect) 9 = .ok (.istore_n 2, 1) := by decide +kernel
theorem d_MO_intersect_10 : decode (mB m_MO_intersect) 10 = .ok (.iconst 0, 1) := by decide +kernel
theorem d_MO_intersect_11 : decode (mB m_MO_intersect) 11 = .ok (.istore_n 3, 1) := by decide +kernel
theorem d_MO_intersect_12 : decode (mB m_MO_intersect) 12 = .ok (.iconst 0, 1) := by decide +kernel
theorem d_MO_intersect_13 : decode (mB m_MO_intersect) 13 = .ok (.istore 4, 2) := by decide +kernel
theorem d_MO_intersect_15 : decode (mB m_MO_intersect) 15 = .ok (.lconst 0, 1) := by decide +kernel
theorem d_MO_intersect_16 : decode (mB m_MO_intersect) 16 = .ok (.lstore 5, 2) := by decide +kernel
theorem d_MO_intersect_18 : decode (mB m_MO_intersect) 18 = .ok (.lconst 0, 1) := by decide +kernel
theorem d_MO_intersect_19 : decode (mB m_MO_intersect) 19 = .ok (.lstore 7, 2) := by decide +kernel
theorem d_MO_intersect_21 : decode (mB m_MO_intersect) 21 = .ok (.iconst 0, 1) := by decide +kernel
theorem d_MO_intersect_22 : decode (mB m_MO_intersect) 22 = .ok (.istore 9, 2) := by decide +kernel
theorem d_MO_intersect_24 : decode (mB m_MO_intersect) 24 = .ok (.iload 9, 2) := by decide +kernel
theorem d_MO_intersect_26 : decode (mB m_MO_intersect) 26 = .ok (.bipush (8), 2) := by decide +kernel
theorem d_MO_intersect_28 : decode (mB m_MO_intersect) 28 = .ok (.if_icmp .ge (109), 3) := by decide +kernel
theorem d_MO_intersect_31 : decode (mB m_MO_intersect) 31 = .ok (.aload_n 0, 1) := by decide +kernel
theorem d_MO_intersect_32 : decode (mB m_MO_intersect) 32 = .ok (.getfield 200, 3) := by decide +kernel
theorem d_MO_intersect_35 : decode (mB m_MO_intersect) 35 = .ok (.iload 9, 2) := by decide +kernel
theorem d_MO_intersect_37 : decode (mB m_MO_intersect) 37 = .ok (.invokestatic 196, 3) := by decide +kernel
theorem d_MO_intersect_40 : decode (mB m_MO_intersect) 40 = .ok (.ifCond .eq (91), 3) := by decide +kernel
theorem d_MO_intersect_43 : decode (mB m_MO_intersect) 43 = .ok (.aload_n 0, 1) := by decide +kernel
theorem d_MO_intersect_44 : decode (mB m_MO_intersect) 44 = .ok (.iload 9, 2) := by decide +kernel
theorem d_MO_intersect_46 : decode (mB m_MO_intersect) 46 = .ok (.invokevirtual 120, 3) := by decide +kernel
theorem d_MO_intersect_49 : decode (mB m_MO_intersect) 49 = .ok (.aload_n 0, 1) := by decide +kernel
theorem d_MO_intersect_50 : decode (mB m_MO_intersect) 50 = .ok (.iload 9, 2) := by decide +kernel
theorem d_MO_intersect_52 : decode (mB m_MO_intersect) 52 = .ok (.invokevirtual 191, 3) := by decide +kernel
theorem d_MO_intersect_55 : decode (mB m_MO_intersect) 55 = .ok (.lsub, 1) := by decide +kernel
theorem d_MO_intersect_56 : decode (mB m_MO_intersect) 56 = .ok (.lstore 10, 2) := by decide +kernel
theorem d_MO_intersect_58 : decode (mB m_MO_intersect) 58 = .ok (.aload_n 0, 1) := by decide +kernel
theorem d_MO_intersect_59 : decode (mB m_MO_intersect) 59 = .ok (.iload 9, 2) := by decide +kernel
theorem d_MO_intersect_61 : decode (mB m_MO_intersect) 61 = .ok (.invokevirtual 120, 3) := by decide +kernel
theorem d_MO_intersect_64 : decode (mB m_MO_intersect) 64 = .ok (.aload_n 0, 1) := by decide +kernel
theorem d_MO_intersect_65 : decode (mB m_MO_intersect) 65 = .ok (.iload 9, 2) := by decide +kernel
theorem d_MO_intersect_67 : decode (mB m_MO_intersect) 67 = .ok (.invokevirtual 191, 3) := by decide +kernel
theorem d_MO_intersect_70 : decode (mB m_MO_intersect) 70 = .ok (.ladd, 1) := by decide +kernel
theorem d_MO_intersect_71 : decode (mB m_MO_intersect) 71 = .ok (.lstore 12, 2) := by decide +kernel
theorem d_MO_intersect_73 : decode (mB m_MO_intersect) 73 = .ok (.aload_n 0, 1) := by decide +kernel
theorem d_MO_intersect_74 : decode (mB m_MO_intersect) 74 = .ok (.lload 10, 2) := by decide +kernel
theorem d_MO_intersect_76 : decode (mB m_MO_intersect) 76 = .ok (.invokevirtual 206, 3) := by decide +kernel
theorem d_MO_intersect_79 : decode (mB m_MO_intersect) 79 = .ok (.iload_n 2, 1) := by decide +kernel
theorem d_MO_intersect_80 : decode (mB m_MO_intersect) 80 = .ok (.if_icmp .lt (21), 3) := by decide +kernel
theorem d_MO_intersect_83 : decode (mB m_MO_intersect) 83 = .ok (.iload_n 3, 1) := by decide +kernel
theorem d_MO_intersect_84 : decode (mB m_MO_intersect) 84 = .ok (.ifCond .eq (11), 3) := by decide +kernel
theorem d_MO_intersect_87 : decode (mB m_MO_intersect) 87 = .ok (.lload 10, 2) := by decide +kernel
theorem d_MO_intersect_89 : decode (mB m_MO_intersect) 89 = .ok (.lload 5, 2) := by decide +kernel
theorem d_MO_intersect_91 : decode (mB m_MO_intersect) 91 = .ok (.lcmp, 1) := by decide +kernel
theorem d_MO_intersect_92 : decode (mB m_MO_intersect) 92 = .ok (.ifCond .ge (9), 3) := by decide +kernel
theorem d_MO_intersect_95 : decode (mB m_MO_intersect) 95 = .ok (.lload 10, 2) := by decide +kernel
theorem d_MO_intersect_97 : decode (mB m_MO_intersect) 97 = .ok (.lstore 5, 2) := by decide +kernel
theorem d_MO_intersect_99 : decode (mB m_MO_intersect) 99 = .ok (.iconst 1, 1) := by decide +kernel
theorem d_MO_intersect_100 : decode (mB m_MO_intersect) 100 = .ok (.istore_n 3, 1) := by decide +kernel
theorem d_MO_intersect_101 : decode (mB m_MO_intersect) 101 = .ok (.aload_n 0, 1) := by decide +kernel
theorem d_MO_intersect_102 : decode (mB m_MO_intersect) 102 = .ok (.lload 12, 2) := by decide +kernel
theorem d_MO_intersect_104 : decode (mB m_MO_intersect) 104 = .ok (.invokevirtual 206, 3) := by decide +kernel
theorem d_MO_intersect_107 : decode (mB m_MO_intersect) 107 = .ok (.iload_n 2, 1) := by decide +kernel
theorem d_MO_intersect_108 : decode (mB m_MO_intersect) 108 = .ok (.if_icmp .lt (23), 3) := by decide +kernel
theorem d_MO_intersect_111 : decode (mB m_MO_intersect) 111 = .ok (.iload 4, 2) := by decide +kernel
theorem d_MO_intersect_113 : decode (mB m_MO_intersect) 113 = .ok (.ifCond .eq (11), 3) := by decide +kernel
theorem d_MO_intersect_116 : decode (mB m_MO_intersect) 116 = .ok (.lload 12, 2) := by decide +kernel
theorem d_MO_intersect_118 : decode (mB m_MO_intersect) 118 = .ok (.lload 7, 2) := by decide +kernel
theorem d_MO_intersect_120 : decode (mB m_MO_intersect) 120 = .ok (.lcmp, 1) := by decide +kernel
theorem d_MO_intersect_121 : decode (mB m_MO_intersect) 121 = .ok (.ifCond .le (10), 3) := by decide +kernel
theorem d_MO_intersect_124 : decode (mB m_MO_intersect) 124 = .ok (.lload 12, 2) := by decide +kernel
theorem d_MO_intersect_126 : decode (mB m_MO_intersect) 126 = .ok (.lstore 7, 2) := by decide +kernel
theorem d_MO_intersect_128 : decode (mB m_MO_intersect) 128 = .ok (.iconst 1, 1) := by decide +kernel
theorem d_MO_intersect_129 : decode (mB m_MO_intersect) 129 = .ok (.istore 4, 2) := by decide +kernel
theorem d_MO_intersect_131 : decode (mB m_MO_intersect) 131 = .ok (.iinc 9 (1), 3) := by decide +kernel
theorem d_MO_intersect_134 : decode (mB m_MO_intersect) 134 = .ok (.goto (-110), 3) := by decide +kernel
theorem d_MO_intersect_137 : decode (mB m_MO_intersect) 137 = .ok (.iload_n 3, 1) := by decide +kernel
theorem d_MO_intersect_138 : decode (mB m_MO_intersect) 138 = .ok (.ifCond .eq (16), 3) := by decide +kernel
theorem d_MO_intersect_141 : decode (mB m_MO_intersect) 141 = .ok (.iload 4, 2) := by decide +kernel
theorem d_MO_intersect_143 : decode (mB m_MO_intersect) 143 = .ok (.ifCond .eq (11), 3) := by decide +kernel
theorem d_MO_intersect_146 : decode (mB m_MO_intersect) 146 = .ok (.lload 5, 2) := by decide +kernel
theorem d_MO_intersect_148 : decode (mB m_MO_intersect) 148 = .ok (.lload 7, 2) := by decide +kernel
theorem d_MO_intersect_150 : decode (mB m_MO_intersect) 150 = .ok (.lcmp, 1) := by decide +kernel
theorem d_MO_intersect_151 : decode (mB m_MO_intersect) 151 = .ok (.ifCond .le (5), 3) := by decide +kernel
theorem d_MO_intersect_154 : decode (mB m_MO_intersect) 154 = .ok (.iconst 0, 1) := by decide +kernel
theorem d_MO_intersect_155 : decode (mB m_MO_intersect) 155 = .ok (.ireturn, 1) := by decide +kernel
theorem d_MO_intersect_156 : decode (mB m_MO_intersect) 156 = .ok (.iconst 0, 1) := by decide +kernel
theorem d_MO_intersect_157 : decode (mB m_MO_intersect) 157 = .ok (.istore 9, 2) := by decide +kernel
theorem d_MO_intersect_159 : decode (mB m_MO_intersect) 159 = .ok (.iconst 0, 1) := by decide +kernel
theorem d_MO_intersect_160 : decode (mB m_MO_intersect) 160 = .ok (.istore 10, 2) := by decide +kernel
theorem d_MO_intersect_162 : decode (mB m_MO_intersect) 162 = .ok (.iload 10, 2) := by decide +kernel
theorem d_MO_intersect_164 : decode (mB m_MO_intersect) 164 = .ok (.bipush (8), 2) := by decide +kernel
theorem d_MO_intersect_166 : decode (mB m_MO_intersect) 166 = .ok (.if_icmp .ge (59), 3) := by decide +kernel
theorem d_MO_intersect_169 : decode (mB m_MO_intersect) 169 = .ok (.aload_n 0, 1) := by decide +kernel
theorem d_MO_intersect_170 : decode (mB m_MO_intersect) 170 = .ok (.getfield 200, 3) := by decide +kernel
theorem d_MO_intersect_173 : decode (mB m_MO_intersect) 173 = .ok (.iload 10, 2) := by decide +kernel
theorem d_MO_intersect_175 : decode (mB m_MO_intersect) 175 = .ok (.invokestatic 196, 3) := by decide +kernel
theorem d_MO_intersect_178 : decode (mB m_MO_intersect) 178 = .ok (.ifCond .eq (37), 3) := by decide +kernel
theorem d_MO_intersect_181 : decode (mB m_MO_intersect) 181 = .ok (.aload_n 0, 1) := by decide +kernel
theorem d_MO_intersect_182 : decode (mB m_MO_intersect) 182 = .ok (.iload 10, 2) := by decide +kernel
theorem d_MO_intersect_184 : decode (mB m_MO_intersect) 184 = .ok (.invokevirtual 120, 3) := by decide +kernel
theorem d_MO_intersect_187 : decode (mB m_MO_intersect) 187 = .ok (.lload 5, 2) := by decide +kernel
theorem d_MO_intersect_189 : decode (mB m_MO_intersect) 189 = .ok (.lcmp, 1) := by decide +kernel
theorem d_MO_intersect_190 : decode (mB m_MO_intersect) 190 = .ok (.ifCond .lt (25), 3) := by decide +kernel
theorem d_MO_intersect_193 : decode (mB m_MO_intersect) 193 = .ok (.aload_n 0, 1) := by decide +kernel
theorem d_MO_intersect_194 : decode (mB m_MO_intersect) 194 = .ok (.iload 10, 2) := by decide +kernel
theorem d_MO_intersect_196 : decode (mB m_MO_intersect) 196 = .ok (.invokevirtual 120, 3) := by decide +kernel
theorem d_MO_intersect_199 : decode (mB m_MO_intersect) 199 = .ok (.lload 7, 2) := by decide +kernel
theorem d_MO_intersect_201 : decode (mB m_MO_intersect) 201 = .ok (.lcmp, 1) := by decide +kernel
theorem d_MO_intersect_202 : decode (mB m_MO_intersect) 202 = .ok (.ifCond .gt (13), 3) := by decide +kernel
theorem d_MO_intersect_205 : decode (mB m_MO_intersect) 205 = .ok (.iload 9, 2) := by decide +kernel
theorem d_MO_intersect_207 : decode (mB m_MO_intersect) 207 = .ok (.iconst 1, 1) := by decide +kernel
theorem d_MO_intersect_208 : decode (mB m_MO_intersect) 208 = .ok (.iload 10, 2) := by decide +kernel
theorem d_MO_intersect_210 : decode (mB m_MO_intersect) 210 = .ok (.ishl, 1) := by decide +kernel
theorem d_MO_intersect_211 : decode (mB m_MO_intersect) 211 = .ok (.ior, 1) := by decide +kernel
theorem d_MO_intersect_212 : decode (mB m_MO_intersect) 212 = .ok (.goto (5), 3) := by decide +kernel
theorem d_MO_intersect_215 : decode (mB m_MO_intersect) 215 = .ok (.iload 9, 2) := by decide +kernel
theorem d_MO_intersect_217 : decode (mB m_MO_intersect) 217 = .ok (.istore 9, 2) := by decide +kernel
theorem d_MO_intersect_219 : decode (mB m_MO_intersect) 219 = .ok (.iinc 10 (1), 3) := by decide +kernel
theorem d_MO_intersect_222 : decode (mB m_MO_intersect) 222 = .ok (.goto (-60), 3) := by decide +kernel
theorem d_MO_intersect_225 : decode (mB m_MO_intersect) 225 = .ok (.aload_n 0, 1) := by decide +kernel
theorem d_MO_intersect_226 : decode (mB m_MO_intersect) 226 = .ok (.getfield 200, 3) := by decide +kernel
theorem d_MO_intersect_229 : decode (mB m_MO_intersect) 229 = .ok (.invokestatic 203, 3) := by decide +kernel
theorem d_MO_intersect_232 : decode (mB m_MO_intersect) 232 = .ok (.iload 9, 2) := by decide +kernel
theorem d_MO_intersect_234 : decode (mB m_MO_intersect) 234 = .ok (.invokestatic 203, 3) := by decide +kernel
theorem d_MO_intersect_237 : decode (mB m_MO_intersect) 237 = .ok (.isub, 1) := by decide +kernel
theorem d_MO_intersect_238 : decode (mB m_MO_intersect) 238 = .ok (.iload_n 1, 1) := by decide +kernel
theorem d_MO_intersect_239 : decode (mB m_MO_intersect) 239 = .ok (.if_icmp .le (5), 3) := by decide +kernel
theorem d_MO_intersect_242 : decode (mB m_MO_intersect) 242 = .ok (.iconst 0, 1) := by decide +kernel
theorem d_MO_intersect_243 : decode (mB m_MO_intersect) 243 = .ok (.ireturn, 1) := by decide +kernel
theorem d_MO_intersect_244 : decode (mB m_MO_intersect) 244 = .ok (.aload_n 0, 1) := by decide +kernel
theorem d_MO_intersect_245 : decode (mB m_MO_intersect) 245 = .ok (.iload 9, 2) := by decide +kernel
theorem d_MO_intersect_247 : decode (mB m_MO_intersect) 247 = .ok (.putfield 210, 3) := by decide +kernel
theorem d_MO_intersect_250 : decode (mB m_MO_intersect) 250 = .ok (.aload_n 0, 1) := by decide +kernel
theorem d_MO_intersect_251 : decode (mB m_MO_intersect) 251 = .ok (.lload 5, 2) := by decide +kernel
theorem d_MO_intersect_253 : decode (mB m_MO_intersect) 253 = .ok (.putfield 213, 3) := by decide +kernel
theorem d_MO_intersect_256 : decode (mB m_MO_intersect) 256 = .ok (.aload_n 0, 1) := by decide +kernel
theorem d_MO_intersect_257 : decode (mB m_MO_intersect) 257 = .ok (.lload 7, 2) := by decide +kernel
theorem d_MO_intersect_259 : decode (mB m_MO_intersect) 259 = .ok (.putfield 216, 3) := by decide +kernel
theorem d_MO_intersect_262 : decode (mB m_MO_intersect) 262 = .ok (.iconst 1, 1) := by decide +kernel
theorem d_MO_intersect_263 : decode (mB m_MO_intersect) 263 = .ok (.ireturn, 1) := by decide +kernel
theorem d_MO_rankOf_0 : decode (mB m_MO_rankOf) 0 = .ok (.aload_n 0, 1) := by decide +kernel
theorem d_MO_rankOf_1 : decode (mB m_MO_rankOf) 1 = .ok (.getfield 26, 3) := by decide +kernel
theorem d_MO_rankOf_4 : decode (mB m_MO_rankOf) 4 = .ok (.iload_n 1, 1) := by decide +kernel
theorem d_MO_rankOf_5 : decode (mB m_MO_rankOf) 5 = .ok (.iaload, 1) := by decide +kernel
theorem d_MO_rankOf_6 : decode (mB m_MO_rankOf) 6 = .ok (.i2l, 1) := by decide +kernel
theorem d_MO_rankOf_7 : decode (mB m_MO_rankOf) 7 = .ok (.ldc2_w 194, 3) := by decide +kernel
theorem d_MO_rankOf_10 : decode (mB m_MO_rankOf) 10 = .ok (.lmul, 1) := by decide +kernel
theorem d_MO_rankOf_11 : decode (mB m_MO_rankOf) 11 = .ok (.aload_n 0, 1) := by decide +kernel
theorem d_MO_rankOf_12 : decode (mB m_MO_rankOf) 12 = .ok (.iload_n 1, 1) := by decide +kernel
theorem d_MO_rankOf_13 : decode (mB m_MO_rankOf) 13 = .ok (.invokevirtual 191, 3) := by decide +kernel
theorem d_MO_rankOf_16 : decode (mB m_MO_rankOf) 16 = .ok (.ladd, 1) := by decide +kernel
theorem d_MO_rankOf_17 : decode (mB m_MO_rankOf) 17 = .ok (.lreturn, 1) := by decide +kernel
theorem d_MO_layRow_0 : decode (mB m_MO_layRow) 0 = .ok (.aload_n 0, 1) := by decide +kernel
theorem d_MO_layRow_1 : decode (mB m_MO_layRow) 1 = .ok (.iconst 0, 1) := by decide +kernel
theorem d_MO_layRow_2 : decode (mB m_MO_layRow) 2 = .ok (.putfield 219, 3) := by decide +kernel
theorem d_MO_layRow_5 : decode (mB m_MO_layRow) 5 = .ok (.aload_n 0, 1) := by decide +kernel
theorem d_MO_layRow_6 : decode (mB m_MO_layRow) 6 = .ok (.getfield 210, 3) := by decide +kernel
theorem d_MO_layRow_9 : decode (mB m_MO_layRow) 9 = .ok (.istore_n 1, 1) := by decide +kernel
theorem d_MO_layRow_10 : decode (mB m_MO_layRow) 10 = .ok (.iload_n 1, 1) := by decide +kernel
theorem d_MO_layRow_11 : decode (mB m_MO_layRow) 11 = .ok (.ifCond .eq (80), 3) := by decide +kernel
theorem d_MO_layRow_14 : decode (mB m_MO_layRow) 14 = .ok (.iconst (-1), 1) := by decide +kernel
theorem d_MO_layRow_15 : decode (mB m_MO_layRow) 15 = .ok (.istore_n 2, 1) := by decide +kernel
theorem d_MO_layRow_16 : decode (mB m_MO_layRow) 16 = .ok (.iconst 0, 1) := by decide +kernel
theorem d_MO_layRow_17 : decode (mB m_MO_layRow) 17 = .ok (.istore_n 3, 1) := by decide +kernel
theorem d_MO_layRow_18 : decode (mB m_MO_layRow) 18 = .ok (.iload_n 3, 1) := by decide +kernel
theorem d_MO_layRow_19 : decode (mB m_MO_layRow) 19 = .ok (.bipush (8), 2) := by decide +kernel
theorem d_MO_layRow_21 : decode (mB m_MO_layRow) 21 = .ok (.if_icmp .ge (41), 3) := by decide +kernel
theorem d_MO_layRow_24 : decode (mB m_MO_layRow) 24 = .ok (.iload_n 1, 1) := by decide +kernel
theorem d_MO_layRow_25 : decode (mB m_MO_layRow) 25 = .ok (.iload_n 3, 1) := by decide +kernel
theorem d_MO_layRow_26 : decode (mB m_MO_layRow) 26 = .ok (.invokestatic 196, 3) := by decide +kernel
theorem d_MO_layRow_29 : decode (mB m_MO_layRow) 29 = .ok (.ifCond .eq (25), 3) := by decide +kernel
theorem d_MO_layRow_32 : decode (mB m_MO_layRow) 32 = .ok (.iload_n 2, 1) := by decide +kernel
theorem d_MO_layRow_33 : decode (mB m_MO_layRow) 33 = .ok (.ifCond .lt (17), 3) := by decide +kernel
theorem d_MO_layRow_36 : decode (mB m_MO_layRow) 36 = .ok (.aload_n 0, 1) := by decide +kernel
theorem d_MO_layRow_37 : decode (mB m_MO_layRow) 37 = .ok (.iload_n 3, 1) := by decide +kernel
theorem d_MO_layRow_38 : decode (mB m_MO_layRow) 38 = .ok (.invokevirtual 222, 3) := by decide +kernel
theorem d_MO_layRow_41 : decode (mB m_MO_layRow) 41 = .ok (.aload_n 0, 1) := by decide +kernel
theorem d_MO_layRow_42 : decode (mB m_MO_layRow) 42 = .ok (.iload_n 2, 1) := by decide +kernel
theorem d_MO_layRow_43 : decode (mB m_MO_layRow) 43 = .ok (.invokevirtual 222, 3) := by decide +kernel
theorem d_MO_layRow_46 : decode (mB m_MO_layRow) 46 = .ok (.lcmp, 1) := by decide +kernel
theorem d_MO_layRow_47 : decode (mB m_MO_layRow) 47 = .ok (.ifCond .ge (7), 3) := by decide +kernel
theorem d_MO_layRow_50 : decode (mB m_MO_layRow) 50 = .ok (.iload_n 3, 1) := by decide +kernel
theorem d_MO_layRow_51 : decode (mB m_MO_layRow) 51 = .ok (.goto (4), 3) := by decide +kernel
theorem d_MO_layRow_54 : decode (mB m_MO_layRow) 54 = .ok (.iload_n 2, 1) := by decide +kernel
theorem d_MO_layRow_55 : decode (mB m_MO_layRow) 55 = .ok (.istore_n 2, 1) := by decide +kernel
theorem d_MO_layRow_56 : decode (mB m_MO_layRow) 56 = .ok (.iinc 3 (1), 3) := by decide +kernel
theorem d_MO_layRow_59 : decode (mB m_MO_layRow) 59 = .ok (.goto (-41), 3) := by decide +kernel
theorem d_MO_layRow_62 : decode (mB m_MO_layRow) 62 = .ok (.aload_n 0, 1) := by decide +kernel
theorem d_MO_layRow_63 : decode (mB m_MO_layRow) 63 = .ok (.getfield 53, 3) := by decide +kernel
theorem d_MO_layRow_66 : decode (mB m_MO_layRow) 66 = .ok (.aload_n 0, 1) := by decide +kernel
theorem d_MO_layRow_67 : decode (mB m_MO_layRow) 67 = .ok (.getfield 219, 3) := by decide +kernel
theorem d_MO_layRow_70 : decode (mB m_MO_layRow) 70 = .ok (.iload_n 2, 1) := by decide +kernel
theorem d_MO_layRow_71 : decode (mB m_MO_layRow) 71 = .ok (.iastore, 1) := by decide +kernel
theorem d_MO_layRow_72 : decode (mB m_MO_layRow) 72 = .ok (.aload_n 0, 1) := by decide +kernel
theorem d_MO_layRow_73 : decode (mB m_MO_layRow) 73 = .ok (.dup, 1) := by decide +kernel
theorem d_MO_layRow_74 : decode (mB m_MO_layRow) 74 = .ok (.getfield 219, 3) := by decide +kernel
theorem d_MO_layRow_77 : decode (mB m_MO_layRow) 77 = .ok (.iconst 1, 1) := by decide +kernel
theorem d_MO_layRow_78 : decode (mB m_MO_layRow) 78 = .ok (.iadd, 1) := by decide +kernel
theorem d_MO_layRow_79 : decode (mB m_MO_layRow) 79 = .ok (.putfield 219, 3) := by decide +kernel
theorem d_MO_layRow_82 : decode (mB m_MO_layRow) 82 = .ok (.iload_n 1, 1) := by decide +kernel
theorem d_MO_layRow_83 : decode (mB m_MO_layRow) 83 = .ok (.iconst 1, 1) := by decide +kernel
theorem d_MO_layRow_84 : decode (mB m_MO_layRow) 84 = .ok (.iload_n 2, 1) := by decide +kernel
theorem d_MO_layRow_85 : decode (mB m_MO_layRow) 85 = .ok (.ishl, 1) := by decide +kernel
theorem d_MO_layRow_86 : decode (mB m_MO_layRow) 86 = .ok (.ixor, 1) := by decide +kernel
theorem d_MO_layRow_87 : decode (mB m_MO_layRow) 87 = .ok (.istore_n 1, 1) := by decide +kernel
theorem d_MO_layRow_88 : decode (mB m_MO_layRow) 88 = .ok (.goto (-78), 3) := by decide +kernel
theorem d_MO_layRow_91 : decode (mB m_MO_layRow) 91 = .ok (.return_, 1) := by decide +kernel
theorem d_MO_spreadFrom_0 : decode (mB m_MO_spreadFrom) 0 = .ok (.lconst 0, 1) := by decide +kernel
theorem d_MO_spreadFrom_1 : decode (mB m_MO_spreadFrom) 1 = .ok (.lstore_n 2, 1) := by decide +kernel
theorem d_MO_spreadFrom_2 : decode (mB m_MO_spreadFrom) 2 = .ok (.iconst 0, 1) := by decide +kernel
theorem d_MO_spreadFrom_3 : decode (mB m_MO_spreadFrom) 3 = .ok (.istore 4, 2) := by decide +kernel
theorem d_MO_spreadFrom_5 : decode (mB m_MO_spreadFrom) 5 = .ok (.iload 4, 2) := by decide +kernel
theorem d_MO_spreadFrom_7 : decode (mB m_MO_spreadFrom) 7 = .ok (.aload_n 0, 1) := by decide +kernel
theorem d_MO_spreadFrom_8 : decode (mB m_MO_spreadFrom) 8 = .ok (.getfield 219, 3) := by decide +kernel
theorem d_MO_spreadFrom_11 : decode (mB m_MO_spreadFrom) 11 = .ok (.if_icmp .ge (32), 3) := by decide +kernel
theorem d_MO_spreadFrom_14 : decode (mB m_MO_spreadFrom) 14 = .ok (.lload_n 2, 1) := by decide +kernel
theorem d_MO_spreadFrom_15 : decode (mB m_MO_spreadFrom) 15 = .ok (.aload_n 0, 1) := by decide +kernel
theorem d_MO_spreadFrom_16 : decode (mB m_MO_spreadFrom) 16 = .ok (.aload_n 0, 1) := by decide +kernel
theorem d_MO_spreadFrom_17 : decode (mB m_MO_spreadFrom) 17 = .ok (.getfield 53, 3) := by decide +kernel
theorem d_MO_spreadFrom_20 : decode (mB m_MO_spreadFrom) 20 = .ok (.iload 4, 2) := by decide +kernel
theorem d_MO_spreadFrom_22 : decode (mB m_MO_spreadFrom) 22 = .ok (.iaload, 1) := by decide +kernel
theorem d_MO_spreadFrom_23 : decode (mB m_MO_spreadFrom) 23 = .ok (.invokevirtual 120, 3) := by decide +kernel
theorem d_MO_spreadFrom_26 : decode (mB m_MO_spreadFrom) 26 = .ok (.aload_n 0, 1) := by decide +kernel
theorem d_MO_spreadFrom_27 : decode (mB m_MO_spreadFrom) 27 = .ok (.iload_n 1, 1) := by decide +kernel
theorem d_MO_spreadFrom_28 : decode (mB m_MO_spreadFrom) 28 = .ok (.invokevirtual 120, 3) := by decide +kernel
theorem d_MO_spreadFrom_31 : decode (mB m_MO_spreadFrom) 31 = .ok (.lsub, 1) := by decide +kernel
theorem d_MO_spreadFrom_32 : decode (mB m_MO_spreadFrom) 32 = .ok (.invokestatic 123, 3) := by decide +kernel
theorem d_MO_spreadFrom_35 : decode (mB m_MO_spreadFrom) 35 = .ok (.ladd, 1) := by decide +kernel
theorem d_MO_spreadFrom_36 : decode (mB m_MO_spreadFrom) 36 = .ok (.lstore_n 2, 1) := by decide +kernel
theorem d_MO_spreadFrom_37 : decode (mB m_MO_spreadFrom) 37 = .ok (.iinc 4 (1), 3) := by decide +kernel
theorem d_MO_spreadFrom_40 : decode (mB m_MO_spreadFrom) 40 = .ok (.goto (-35), 3) := by decide +kernel
theorem d_MO_spreadFrom_43 : decode (mB m_MO_spreadFrom) 43 = .ok (.ldc2_w 99, 3) := by decide +kernel
theorem d_MO_spreadFrom_46 : decode (mB m_MO_spreadFrom) 46 = .ok (.lload_n 2, 1) := by decide +kernel
theorem d_MO_spreadFrom_47 : decode (mB m_MO_spreadFrom) 47 = .ok (.aload_n 0, 1) := by decide +kernel
theorem d_MO_spreadFrom_48 : decode (mB m_MO_spreadFrom) 48 = .ok (.getfield 219, 3) := by decide +kernel
theorem d_MO_spreadFrom_51 : decode (mB m_MO_spreadFrom) 51 = .ok (.iconst 1, 1) := by decide +kernel
theorem d_MO_spreadFrom_52 : decode (mB m_MO_spreadFrom) 52 = .ok (.isub, 1) := by decide +kernel
theorem d_MO_spreadFrom_53 : decode (mB m_MO_spreadFrom) 53 = .ok (.i2l, 1) := by decide +kernel
theorem d_MO_spreadFrom_54 : decode (mB m_MO_spreadFrom) 54 = .ok (.ldiv, 1) := by decide +kernel
theorem d_MO_spreadFrom_55 : decode (mB m_MO_spreadFrom) 55 = .ok (.invokestatic 127, 3) := by decide +kernel
theorem d_MO_spreadFrom_58 : decode (mB m_MO_spreadFrom) 58 = .ok (.lmul, 1) := by decide +kernel
theorem d_MO_spreadFrom_59 : decode (mB m_MO_spreadFrom) 59 = .ok (.lreturn, 1) := by decide +kernel
theorem d_MO_cluster_0 : decode (mB m_MO_cluster) 0 = .ok (.aload_n 0, 1) := by decide +kernel
theorem d_MO_cluster_1 : decode (mB m_MO_cluster) 1 = .ok (.getfield 219, 3) := by decide +kernel
theorem d_MO_cluster_4 : decode (mB m_MO_cluster) 4 = .ok (.iconst 3, 1) := by decide +kernel
theorem d_MO_cluster_5 : decode (mB m_MO_cluster) 5 = .ok (.if_icmp .le (7), 3) := by decide +kernel
theorem d_MO_cluster_8 : decode (mB m_MO_cluster) 8 = .ok (.iconst 1, 1) := by decide +kernel
theorem d_MO_cluster_9 : decode (mB m_MO_cluster) 9 = .ok (.goto (4), 3) := by decide +kernel
theorem d_MO_cluster_12 : decode (mB m_MO_cluster) 12 = .ok (.iconst 0, 1) := by decide +kernel
theorem d_MO_cluster_13 : decode (mB m_MO_cluster) 13 = .ok (.istore_n 1, 1) := by decide +kernel
theorem d_MO_cluster_14 : decode (mB m_MO_cluster) 14 = .ok (.iload_n 1, 1) := by decide +kernel
theorem d_MO_cluster_15 : decode (mB m_MO_cluster) 15 = .ok (.ifCond .eq (201), 3) := by decide +kernel
theorem d_MO_cluster_18 : decode (mB m_MO_cluster) 18 = .ok (.iconst 0, 1) := by decide +kernel
theorem d_MO_cluster_19 : decode (mB m_MO_cluster) 19 = .ok (.istore_n 2, 1) := by decide +kernel
theorem d_MO_cluster_20 : decode (mB m_MO_cluster) 20 = .ok (.aload_n 0, 1) := by decide +kernel
theorem d_MO_cluster_21 : decode (mB m_MO_cluster) 21 = .ok (.aload_n 0, 1) := by decide +kernel
theorem d_MO_cluster_22 : decode (mB m_MO_cluster) 22 = .ok (.getfield 53, 3) := by decide +kernel
theorem d_MO_cluster_25 : decode (mB m_MO_cluster) 25 = .ok (.iconst 0, 1) := by decide +kernel
theorem d_MO_cluster_26 : decode (mB m_MO_cluster) 26 = .ok (.iaload, 1) := by decide +kernel
theorem d_MO_cluster_27 : decode (mB m_MO_cluster) 27 = .ok (.invokevirtual 138, 3) := by decide +kernel
theorem d_MO_cluster_30 : decode (mB m_MO_cluster) 30 = .ok (.lstore_n 3, 1) := by decide +kernel
theorem d_MO_cluster_31 : decode (mB m_MO_cluster) 31 = .ok (.iconst 0, 1) := by decide +kernel
theorem d_MO_cluster_32 : decode (mB m_MO_cluster) 32 = .ok (.istore 5, 2) := by decide +kernel
theorem d_MO_cluster_34 : decode (mB m_MO_cluster) 34 = .ok (.iload 5, 2) := by decide +kernel
theorem d_MO_cluster_36 : decode (mB m_MO_cluster) 36 = .ok (.aload_n 0, 1) := by decide +kernel
theorem d_MO_cluster_37 : decode (mB m_MO_cluster) 37 = .ok (.getfield 219, 3) := by decide +kernel
theorem d_MO_cluster_40 : decode (mB m_MO_cluster) 40 = .ok (.if_icmp .ge (73), 3) := by decide +kernel
theorem d_MO_cluster_43 : decode (mB m_MO_cluster) 43 = .ok (.aload_n 0, 1) := by decide +kernel
theorem d_MO_cluster_44 : decode (mB m_MO_cluster) 44 = .ok (.aload_n 0, 1) := by decide +kernel
theorem d_MO_cluster_45 : decode (mB m_MO_cluster) 45 = .ok (.getfield 53, 3) := by decide +kernel
theorem d_MO_cluster_48 : decode (mB m_MO_cluster) 48 = .ok (.iload 5, 2) := by decide +kernel
theorem d_MO_cluster_50 : decode (mB m_MO_cluster) 50 = .ok (.iaload, 1) := by decide +kernel
theorem d_MO_cluster_51 : decode (mB m_MO_cluster) 51 = .ok (.invokevirtual 225, 3) := by decide +kernel
theorem d_MO_cluster_54 : decode (mB m_MO_cluster) 54 = .ok (.aload_n 0, 1) := by decide +kernel
theorem d_MO_cluster_55 : decode (mB m_MO_cluster) 55 = .ok (.aload_n 0, 1) := by decide +kernel
theorem d_MO_cluster_56 : decode (mB m_MO_cluster) 56 = .ok (.getfield 53, 3) := by decide +kernel
theorem d_MO_cluster_59 : decode (mB m_MO_cluster) 59 = .ok (.iload_n 2, 1) := by decide +kernel
theorem d_MO_cluster_60 : decode (mB m_MO_cluster) 60 = .ok (.iaload, 1) := by decide +kernel
theorem d_MO_cluster_61 : decode (mB m_MO_cluster) 61 = .ok (.invokevirtual 225, 3) := by decide +kernel
theorem d_MO_cluster_64 : decode (mB m_MO_cluster) 64 = .ok (.lcmp, 1) := by decide +kernel
theorem d_MO_cluster_65 : decode (mB m_MO_cluster) 65 = .ok (.ifCond .lt (8), 3) := by decide +kernel
theorem d_MO_cluster_68 : decode (mB m_MO_cluster) 68 = .ok (.iload 5, 2) := by decide +kernel
theorem d_MO_cluster_70 : decode (mB m_MO_cluster) 70 = .ok (.goto (4), 3) := by decide +kernel
theorem d_MO_cluster_73 : decode (mB m_MO_cluster) 73 = .ok (.iload_n 2, 1) := by decide +kernel
theorem d_MO_cluster_74 : decode (mB m_MO_cluster) 74 = .ok (.istore_n 2, 1) := by decide +kernel
theorem d_MO_cluster_75 : decode (mB m_MO_cluster) 75 = .ok (.aload_n 0, 1) := by decide +kernel
theorem d_MO_cluster_76 : decode (mB m_MO_cluster) 76 = .ok (.aload_n 0, 1) := by decide +kernel
theorem d_MO_cluster_77 : decode (mB m_MO_cluster) 77 = .ok (.getfield 53, 3) := by decide +kernel
theorem d_MO_cluster_80 : decode (mB m_MO_cluster) 80 = .ok (.iload 5, 2) := by decide +kernel
theorem d_MO_cluster_82 : decode (mB m_MO_cluster) 82 = .ok (.iaload, 1) := by decide +kernel
theorem d_MO_cluster_83 : decode (mB m_MO_cluster) 83 = .ok (.invokevirtual 138, 3) := by decide +kernel
theorem d_MO_cluster_86 : decode (mB m_MO_cluster) 86 = .ok (.lload_n 3, 1) := by decide +kernel
theorem d_MO_cluster_87 : decode (mB m_MO_cluster) 87 = .ok (.lcmp, 1) := by decide +kernel
theorem d_MO_cluster_88 : decode (mB m_MO_cluster) 88 = .ok (.ifCond .ge (17), 3) := by decide +kernel
theorem d_MO_cluster_91 : decode (mB m_MO_cluster) 91 = .ok (.aload_n 0, 1) := by decide +kernel
theorem d_MO_cluster_92 : decode (mB m_MO_cluster) 92 = .ok (.aload_n 0, 1) := by decide +kernel
theorem d_MO_cluster_93 : decode (mB m_MO_cluster) 93 = .ok (.getfield 53, 3) := by decide +kernel
theorem d_MO_cluster_96 : decode (mB m_MO_cluster) 96 = .ok (.iload 5, 2) := by decide +kernel
theorem d_MO_cluster_98 : decode (mB m_MO_cluster) 98 = .ok (.iaload, 1) := by decide +kernel
theorem d_MO_cluster_99 : decode (mB m_MO_cluster) 99 = .ok (.invokevirtual 138, 3) := by decide +kernel
theorem d_MO_cluster_102 : decode (mB m_MO_cluster) 102 = .ok (.goto (4), 3) := by decide +kernel
theorem d_MO_cluster_105 : decode (mB m_MO_cluster) 105 = .ok (.lload_n 3, 1) := by decide +kernel
theorem d_MO_cluster_106 : decode (mB m_MO_cluster) 106 = .ok (.lstore_n 3, 1) := by decide +kernel
theorem d_MO_cluster_107 : decode (mB m_MO_cluster) 107 = .ok (.iinc 5 (1), 3) := by decide +kernel
theorem d_MO_cluster_110 : decode (mB m_MO_cluster) 110 = .ok (.goto (-76), 3) := by decide +kernel
theorem d_MO_cluster_113 : decode (mB m_MO_cluster) 113 = .ok (.aload_n 0, 1) := by decide +kernel
theorem d_MO_cluster_114 : decode (mB m_MO_cluster) 114 = .ok (.aload_n 0, 1) := by decide +kernel
theorem d_MO_cluster_115 : decode (mB m_MO_cluster) 115 = .ok (.getfield 53, 3) := by decide +kernel
theorem d_MO_cluster_118 : decode (mB m_MO_cluster) 118 = .ok (.iload_n 2, 1) := by decide +kernel
theorem d_MO_cluster_119 : decode (mB m_MO_cluster) 119 = .ok (.iaload, 1) := by decide +kernel
theorem d_MO_cluster_120 : decode (mB m_MO_cluster) 120 = .ok (.invokevirtual 225, 3) := by decide +kernel
theorem d_MO_cluster_123 : decode (mB m_MO_cluster) 123 = .ok (.lload_n 3, 1) := by decide +kernel
theorem d_MO_cluster_124 : decode (mB m_MO_cluster) 124 = .ok (.lcmp, 1) := by decide +kernel
theorem d_MO_cluster_125 : decode (mB m_MO_cluster) 125 = .ok (.ifCond .lt (7), 3) := by decide +kernel
theorem d_MO_cluster_128 : decode (mB m_MO_cluster) 128 = .ok (.iconst 1, 1) := by decide +kernel
theorem d_MO_cluster_129 : decode (mB m_MO_cluster) 129 = .ok (.goto (4), 3) := by decide +kernel
theorem d_MO_cluster_132 : decode (mB m_MO_cluster) 132 = .ok (.iconst 0, 1) := by decide +kernel
theorem d_MO_cluster_133 : decode (mB m_MO_cluster) 133 = .ok (.istore_n 1, 1) := by decide +kernel
theorem d_MO_cluster_134 : decode (mB m_MO_cluster) 134 = .ok (.iload_n 2, 1) := by decide +kernel
theorem d_MO_cluster_135 : decode (mB m_MO_cluster) 135 = .ok (.iconst 1, 1) := by decide +kernel
theorem d_MO_cluster_136 : decode (mB m_MO_cluster) 136 = .ok (.iadd, 1) := by decide +kernel
theorem d_MO_cluster_137 : decode (mB m_MO_cluster) 137 = .ok (.istore 5, 2) := by decide +kernel
theorem d_MO_cluster_139 : decode (mB m_MO_cluster) 139 = .ok (.iload 5, 2) := by decide +kernel
theorem d_MO_cluster_141 : decode (mB m_MO_cluster) 141 = .ok (.aload_n 0, 1) := by decide +kernel
theorem d_MO_cluster_142 : decode (mB m_MO_cluster) 142 = .ok (.getfield 219, 3) := by decide +kernel
theorem d_MO_cluster_145 : decode (mB m_MO_cluster) 145 = .ok (.if_icmp .ge (29), 3) := by decide +kernel
theorem d_MO_cluster_148 : decode (mB m_MO_cluster) 148 = .ok (.iload_n 1, 1) := by decide +kernel
theorem d_MO_cluster_149 : decode (mB m_MO_cluster) 149 = .ok (.ifCond .eq (25), 3) := by decide +kernel
theorem d_MO_cluster_152 : decode (mB m_MO_cluster) 152 = .ok (.aload_n 0, 1) := by decide +kernel
theorem d_MO_cluster_153 : decode (mB m_MO_cluster) 153 = .ok (.getfield 53, 3) := by decide +kernel
theorem d_MO_cluster_156 : decode (mB m_MO_cluster) 156 = .ok (.iload 5, 2) := by decide +kernel
theorem d_MO_cluster_158 : decode (mB m_MO_cluster) 158 = .ok (.iconst 1, 1) := by decide +kernel
theorem d_MO_cluster_159 : decode (mB m_MO_cluster) 159 = .ok (.isub, 1) := by decide +kernel
theorem d_MO_cluster_160 : decode (mB m_MO_cluster) 160 = .ok (.aload_n 0, 1) := by decide +kernel
theorem d_MO_cluster_161 : decode (mB m_MO_cluster) 161 = .ok (.getfield 53, 3) := by decide +kernel
theorem d_MO_cluster_164 : decode (mB m_MO_cluster) 164 = .ok (.iload 5, 2) := by decide +kernel
theorem d_MO_cluster_166 : decode (mB m_MO_cluster) 166 = .ok (.iaload, 1) := by decide +kernel
theorem d_MO_cluster_167 : decode (mB m_MO_cluster) 167 = .ok (.iastore, 1) := by decide +kernel
theorem d_MO_cluster_168 : decode (mB m_MO_cluster) 168 = .ok (.iinc 5 (1), 3) := by decide +kernel
theorem d_MO_cluster_171 : decode (mB m_MO_cluster) 171 = .ok (.goto (-32), 3) := by decide +kernel
theorem d_MO_cluster_174 : decode (mB m_MO_cluster) 174 = .ok (.aload_n 0, 1) := by decide +kernel
theorem d_MO_cluster_175 : decode (mB m_MO_cluster) 175 = .ok (.iload_n 1, 1) := by decide +kernel
theorem d_MO_cluster_176 : decode (mB m_MO_cluster) 176 = .ok (.ifCond .eq (12), 3) := by decide +kernel
theorem d_MO_cluster_179 : decode (mB m_MO_cluster) 179 = .ok (.aload_n 0, 1) := by decide +kernel
theorem d_MO_cluster_180 : decode (mB m_MO_cluster) 180 = .ok (.getfield 219, 3) := by decide +kernel
theorem d_MO_cluster_183 : decode (mB m_MO_cluster) 183 = .ok (.iconst 1, 1) := by decide +kernel
theorem d_MO_cluster_184 : decode (mB m_MO_cluster) 184 = .ok (.isub, 1) := by decide +kernel
theorem d_MO_cluster_185 : decode (mB m_MO_cluster) 185 = .ok (.goto (7), 3) := by decide +kernel
theorem d_MO_cluster_188 : decode (mB m_MO_cluster) 188 = .ok (.aload_n 0, 1) := by decide +kernel
theorem d_MO_cluster_189 : decode (mB m_MO_cluster) 189 = .ok (.getfield 219, 3) := by decide +kernel
theorem d_MO_cluster_192 : decode (mB m_MO_cluster) 192 = .ok (.putfield 219, 3) := by decide +kernel
theorem d_MO_cluster_195 : decode (mB m_MO_cluster) 195 = .ok (.iload_n 1, 1) := by decide +kernel
theorem d_MO_cluster_196 : decode (mB m_MO_cluster) 196 = .ok (.ifCond .eq (15), 3) := by decide +kernel
theorem d_MO_cluster_199 : decode (mB m_MO_cluster) 199 = .ok (.aload_n 0, 1) := by decide +kernel
theorem d_MO_cluster_200 : decode (mB m_MO_cluster) 200 = .ok (.getfield 219, 3) := by decide +kernel
theorem d_MO_cluster_203 : decode (mB m_MO_cluster) 203 = .ok (.iconst 3, 1) := by decide +kernel
theorem d_MO_cluster_204 : decode (mB m_MO_cluster) 204 = .ok (.if_icmp .le (7), 3) := by decide +kernel
theorem d_MO_cluster_207 : decode (mB m_MO_cluster) 207 = .ok (.iconst 1, 1) := by decide +kernel
theorem d_MO_cluster_208 : decode (mB m_MO_cluster) 208 = .ok (.goto (4), 3) := by decide +kernel
theorem d_MO_cluster_211 : decode (mB m_MO_cluster) 211 = .ok (.iconst 0, 1) := by decide +kernel
theorem d_MO_cluster_212 : decode (mB m_MO_cluster) 212 = .ok (.istore_n 1, 1) := by decide +kernel
theorem d_MO_cluster_213 : decode (mB m_MO_cluster) 213 = .ok (.goto (-199), 3) := by decide +kernel
theorem d_MO_cluster_216 : decode (mB m_MO_cluster) 216 = .ok (.return_, 1) := by decide +kernel
theorem d_MO_combine_0 : decode (mB m_MO_combine) 0 = .ok (.lconst 0, 1) := by decide +kernel
theorem d_MO_combine_1 : decode (mB m_MO_combine) 1 = .ok (.lstore_n 1, 1) := by decide +kernel
theorem d_MO_combine_2 : decode (mB m_MO_combine) 2 = .ok (.lconst 0, 1) := by decide +kernel
theorem d_MO_combine_3 : decode (mB m_MO_combine) 3 = .ok (.lstore_n 3, 1) := by decide +kernel
theorem d_MO_combine_4 : decode (mB m_MO_combine) 4 = .ok (.iconst 0, 1) := by decide +kernel
theorem d_MO_combine_5 : decode (mB m_MO_combine) 5 = .ok (.istore 5, 2) := by decide +kernel
theorem d_MO_combine_7 : decode (mB m_MO_combine) 7 = .ok (.iload 5, 2) := by decide +kernel
theorem d_MO_combine_9 : decode (mB m_MO_combine) 9 = .ok (.aload_n 0, 1) := by decide +kernel
theorem d_MO_combine_10 : decode (mB m_MO_combine) 10 = .ok (.getfield 219, 3) := by decide +kernel
theorem d_MO_combine_13 : decode (mB m_MO_combine) 13 = .ok (.if_icmp .ge (54), 3) := by decide +kernel
theorem d_MO_combine_16 : decode (mB m_MO_combine) 16 = .ok (.ldc2_w 228, 3) := by decide +kernel
theorem d_MO_combine_19 : decode (mB m_MO_combine) 19 = .ok (.aload_n 0, 1) := by decide +kernel
theorem d_MO_combine_20 : decode (mB m_MO_combine) 20 = .ok (.aload_n 0, 1) := by decide +kernel
theorem d_MO_combine_21 : decode (mB m_MO_combine) 21 = .ok (.getfield 53, 3) := by decide +kernel
theorem d_MO_combine_24 : decode (mB m_MO_combine) 24 = .ok (.iload 5, 2) := by decide +kernel
theorem d_MO_combine_26 : decode (mB m_MO_combine) 26 = .ok (.iaload, 1) := by decide +kernel
theorem d_MO_combine_27 : decode (mB m_MO_combine) 27 = .ok (.invokevirtual 191, 3) := by decide +kernel
theorem d_MO_combine_30 : decode (mB m_MO_combine) 30 = .ok (.ldiv, 1) := by decide +kernel
theorem d_MO_combine_31 : decode (mB m_MO_combine) 31 = .ok (.lstore 6, 2) := by decide +kernel
theorem d_MO_combine_33 : decode (mB m_MO_combine) 33 = .ok (.lload_n 1, 1) := by decide +kernel
theorem d_MO_combine_34 : decode (mB m_MO_combine) 34 = .ok (.aload_n 0, 1) := by decide +kernel
theorem d_MO_combine_35 : decode (mB m_MO_combine) 35 = .ok (.aload_n 0, 1) := by decide +kernel
theorem d_MO_combine_36 : decode (mB m_MO_combine) 36 = .ok (.getfield 53, 3) := by decide +kernel
theorem d_MO_combine_39 : decode (mB m_MO_combine) 39 = .ok (.iload 5, 2) := by decide +kernel
theorem d_MO_combine_41 : decode (mB m_MO_combine) 41 = .ok (.iaload, 1) := by decide +kernel
theorem d_MO_combine_42 : decode (mB m_MO_combine) 42 = .ok (.invokevirtual 120, 3) := by decide +kernel
theorem d_MO_combine_45 : decode (mB m_MO_combine) 45 = .ok (.ldc2_w 99, 3) := by decide +kernel
theorem d_MO_combine_48 : decode (mB m_MO_combine) 48 = .ok (.invokestatic 101, 3) := by decide +kernel
theorem d_MO_combine_51 : decode (mB m_MO_combine) 51 = .ok (.lload 6, 2) := by decide +kernel
theorem d_MO_combine_53 : decode (mB m_MO_combine) 53 = .ok (.lmul, 1) := by decide +kernel
theorem d_MO_combine_54 : decode (mB m_MO_combine) 54 = .ok (.ladd, 1) := by decide +kernel
theorem d_MO_combine_55 : decode (mB m_MO_combine) 55 = .ok (.lstore_n 1, 1) := by decide +kernel
theorem d_MO_combine_56 : decode (mB m_MO_combine) 56 = .ok (.lload_n 3, 1) := by decide +kernel
theorem d_MO_combine_57 : decode (mB m_MO_combine) 57 = .ok (.lload 6, 2) := by decide +kernel
theorem d_MO_combine_59 : decode (mB m_MO_combine) 59 = .ok (.ladd, 1) := by decide +kernel
theorem d_MO_combine_60 : decode (mB m_MO_combine) 60 = .ok (.lstore_n 3, 1) := by decide +kernel
theorem d_MO_combine_61 : decode (mB m_MO_combine) 61 = .ok (.iinc 5 (1), 3) := by decide +kernel
theorem d_MO_combine_64 : decode (mB m_MO_combine) 64 = .ok (.goto (-57), 3) := by decide +kernel
theorem d_MO_combine_67 : decode (mB m_MO_combine) 67 = .ok (.aload_n 0, 1) := by decide +kernel
theorem d_MO_combine_68 : decode (mB m_MO_combine) 68 = .ok (.lload_n 1, 1) := by decide +kernel
theorem d_MO_combine_69 : decode (mB m_MO_combine) 69 = .ok (.lload_n 3, 1) := by decide +kernel
theorem d_MO_combine_70 : decode (mB m_MO_combine) 70 = .ok (.invokestatic 101, 3) := by decide +kernel
theorem d_MO_combine_73 : decode (mB m_MO_combine) 73 = .ok (.ldc2_w 99, 3) := by decide +kernel
theorem d_MO_combine_76 : decode (mB m_MO_combine) 76 = .ok (.lmul, 1) := by decide +kernel
theorem d_MO_combine_77 : decode (mB m_MO_combine) 77 = .ok (.putfield 230, 3) := by decide +kernel
theorem d_MO_combine_80 : decode (mB m_MO_combine) 80 = .ok (.lconst 0, 1) := by decide +kernel
theorem d_MO_combine_81 : decode (mB m_MO_combine) 81 = .ok (.lstore 5, 2) := by decide +kernel
theorem d_MO_combine_83 : decode (mB m_MO_combine) 83 = .ok (.iconst 0, 1) := by decide +kernel
theorem d_MO_combine_84 : decode (mB m_MO_combine) 84 = .ok (.istore 7, 2) := by decide +kernel
theorem d_MO_combine_86 : decode (mB m_MO_combine) 86 = .ok (.iload 7, 2) := by decide +kernel
theorem d_MO_combine_88 : decode (mB m_MO_combine) 88 = .ok (.aload_n 0, 1) := by decide +kernel
theorem d_MO_combine_89 : decode (mB m_MO_combine) 89 = .ok (.getfield 219, 3) := by decide +kernel
theorem d_MO_combine_92 : decode (mB m_MO_combine) 92 = .ok (.if_icmp .ge (33), 3) := by decide +kernel
theorem d_MO_combine_95 : decode (mB m_MO_combine) 95 = .ok (.lload 5, 2) := by decide +kernel
theorem d_MO_combine_97 : decode (mB m_MO_combine) 97 = .ok (.aload_n 0, 1) := by decide +kernel
theorem d_MO_combine_98 : decode (mB m_MO_combine) 98 = .ok (.aload_n 0, 1) := by decide +kernel
theorem d_MO_combine_99 : decode (mB m_MO_combine) 99 = .ok (.getfield 53, 3) := by decide +kernel
theorem d_MO_combine_102 : decode (mB m_MO_combine) 102 = .ok (.iload 7, 2) := by decide +kernel
theorem d_MO_combine_104 : decode (mB m_MO_combine) 104 = .ok (.iaload, 1) := by decide +kernel
theorem d_MO_combine_105 : decode (mB m_MO_combine) 105 = .ok (.invokevirtual 120, 3) := by decide +kernel
theorem d_MO_combine_108 : decode (mB m_MO_combine) 108 = .ok (.aload_n 0, 1) := by decide +kernel
theorem d_MO_combine_109 : decode (mB m_MO_combine) 109 = .ok (.getfield 230, 3) := by decide +kernel
theorem d_MO_combine_112 : decode (mB m_MO_combine) 112 = .ok (.lsub, 1) := by decide +kernel
theorem d_MO_combine_113 : decode (mB m_MO_combine) 113 = .ok (.invokestatic 123, 3) := by decide +kernel
theorem d_MO_combine_116 : decode (mB m_MO_combine) 116 = .ok (.ladd, 1) := by decide +kernel
theorem d_MO_combine_117 : decode (mB m_MO_combine) 117 = .ok (.lstore 5, 2) := by decide +kernel
theorem d_MO_combine_119 : decode (mB m_MO_combine) 119 = .ok (.iinc 7 (1), 3) := by decide +kernel
theorem d_MO_combine_122 : decode (mB m_MO_combine) 122 = .ok (.goto (-36), 3) := by decide +kernel
theorem d_MO_combine_125 : decode (mB m_MO_combine) 125 = .ok (.ldc2_w 99, 3) := by decide +kernel
theorem d_MO_combine_128 : decode (mB m_MO_combine) 128 = .ok (.lload 5, 2) := by decide +kernel
theorem d_MO_combine_130 : decode (mB m_MO_combine) 130 = .ok (.aload_n 0, 1) := by decide +kernel
theorem d_MO_combine_131 : decode (mB m_MO_combine) 131 = .ok (.getfield 219, 3) := by decide +kernel
theorem d_MO_combine_134 : decode (mB m_MO_combine) 134 = .ok (.i2l, 1) := by decide +kernel
theorem d_MO_combine_135 : decode (mB m_MO_combine) 135 = .ok (.ldiv, 1) := by decide +kernel
theorem d_MO_combine_136 : decode (mB m_MO_combine) 136 = .ok (.invokestatic 127, 3) := by decide +kernel
theorem d_MO_combine_139 : decode (mB m_MO_combine) 139 = .ok (.lmul, 1) := by decide +kernel
theorem d_MO_combine_140 : decode (mB m_MO_combine) 140 = .ok (.lstore 7, 2) := by decide +kernel
theorem d_MO_combine_142 : decode (mB m_MO_combine) 142 = .ok (.aload_n 0, 1) := by decide +kernel
theorem d_MO_combine_143 : decode (mB m_MO_combine) 143 = .ok (.aload_n 0, 1) := by decide +kernel
theorem d_MO_combine_144 : decode (mB m_MO_combine) 144 = .ok (.getfield 53, 3) := by decide +kernel
theorem d_MO_combine_147 : decode (mB m_MO_combine) 147 = .ok (.iconst 0, 1) := by decide +kernel
theorem d_MO_combine_148 : decode (mB m_MO_combine) 148 = .ok (.iaload, 1) := by decide +kernel
theorem d_MO_combine_149 : decode (mB m_MO_combine) 149 = .ok (.invokevirtual 138, 3) := by decide +kernel
theorem d_MO_combine_152 : decode (mB m_MO_combine) 152 = .ok (.lstore 9, 2) := by decide +kernel
theorem d_MO_combine_154 : decode (mB m_MO_combine) 154 = .ok (.aload_n 0, 1) := by decide +kernel
theorem d_MO_combine_155 : decode (mB m_MO_combine) 155 = .ok (.lload 9, 2) := by decide +kernel
theorem d_MO_combine_157 : decode (mB m_MO_combine) 157 = .ok (.lload 7, 2) := by decide +kernel
theorem d_MO_combine_159 : decode (mB m_MO_combine) 159 = .ok (.lcmp, 1) := by decide +kernel
theorem d_MO_combine_160 : decode (mB m_MO_combine) 160 = .ok (.ifCond .le (8), 3) := by decide +kernel
theorem d_MO_combine_163 : decode (mB m_MO_combine) 163 = .ok (.lload 9, 2) := by decide +kernel
theorem d_MO_combine_165 : decode (mB m_MO_combine) 165 = .ok (.goto (5), 3) := by decide +kernel
theorem d_MO_combine_168 : decode (mB m_MO_combine) 168 = .ok (.lload 7, 2) := by decide +kernel
theorem d_MO_combine_170 : decode (mB m_MO_combine) 170 = .ok (.putfield 233, 3) := by decide +kernel
theorem d_MO_combine_173 : decode (mB m_MO_combine) 173 = .ok (.aload_n 0, 1) := by decide +kernel
theorem d_MO_combine_174 : decode (mB m_MO_combine) 174 = .ok (.aload_n 0, 1) := by decide +kernel
theorem d_MO_combine_175 : decode (mB m_MO_combine) 175 = .ok (.getfield 26, 3) := by decide +kernel
theorem d_MO_combine_178 : decode (mB m_MO_combine) 178 = .ok (.aload_n 0, 1) := by decide +kernel
theorem d_MO_combine_179 : decode (mB m_MO_combine) 179 = .ok (.getfield 53, 3) := by decide +kernel
theorem d_MO_combine_182 : decode (mB m_MO_combine) 182 = .ok (.iconst 0, 1) := by decide +kernel
theorem d_MO_combine_183 : decode (mB m_MO_combine) 183 = .ok (.iaload, 1) := by decide +kernel
theorem d_MO_combine_184 : decode (mB m_MO_combine) 184 = .ok (.iaload, 1) := by decide +kernel
theorem d_MO_combine_185 : decode (mB m_MO_combine) 185 = .ok (.iconst 1, 1) := by decide +kernel
theorem d_MO_combine_186 : decode (mB m_MO_combine) 186 = .ok (.iadd, 1) := by decide +kernel
theorem d_MO_combine_187 : decode (mB m_MO_combine) 187 = .ok (.putfield 184, 3) := by decide +kernel
theorem d_MO_combine_190 : decode (mB m_MO_combine) 190 = .ok (.return_, 1) := by decide +kernel
theorem d_MO_update_0 : decode (mB m_MO_update) 0 = .ok (.aload_n 0, 1) := by decide +kernel
theorem d_MO_update_1 : decode (mB m_MO_update) 1 = .ok (.iconst 0, 1) := by decide +kernel
theorem d_MO_update_2 : decode (mB m_MO_update) 2 = .ok (.putfield 200, 3) := by decide +kernel
theorem d_MO_update_5 : decode (mB m_MO_update) 5 = .ok (.aload_n 0, 1) := by decide +kernel
theorem d_MO_update_6 : decode (mB m_MO_update) 6 = .ok (.iconst 0, 1) := by decide +kernel
theorem d_MO_update_7 : decode (mB m_MO_update) 7 = .ok (.putfield 210, 3) := by decide +kernel
theorem d_MO_update_10 : decode (mB m_MO_update) 10 = .ok (.aload_n 0, 1) := by decide +kernel
theorem d_MO_update_11 : decode (mB m_MO_update) 11 = .ok (.iconst 0, 1) := by decide +kernel
theorem d_MO_update_12 : decode (mB m_MO_update) 12 = .ok (.putfield 236, 3) := by decide +kernel
theorem d_MO_update_15 : decode (mB m_MO_update) 15 = .ok (.iconst 0, 1) := by decide +kernel
theorem d_MO_update_16 : decode (mB m_MO_update) 16 = .ok (.istore_n 1, 1) := by decide +kernel
theorem d_MO_update_17 : decode (mB m_MO_update) 17 = .ok (.iload_n 1, 1) := by decide +kernel
theorem d_MO_update_18 : decode (mB m_MO_update) 18 = .ok (.bipush (8), 2) := by decide +kernel
theorem d_MO_update_20 : decode (mB m_MO_update) 20 = .ok (.if_icmp .ge (36), 3) := by decide +kernel
theorem d_MO_update_23 : decode (mB m_MO_update) 23 = .ok (.aload_n 0, 1) := by decide +kernel
theorem d_MO_update_24 : decode (mB m_MO_update) 24 = .ok (.aload_n 0, 1) := by decide +kernel
theorem d_MO_update_25 : decode (mB m_MO_update) 25 = .ok (.iload_n 1, 1) := by decide +kernel
theorem d_MO_update_26 : decode (mB m_MO_update) 26 = .ok (.invokevirtual 239, 3) := by decide +kernel
theorem d_MO_update_29 : decode (mB m_MO_update) 29 = .ok (.ifCond .eq (14), 3) := by decide +kernel
theorem d_MO_update_32 : decode (mB m_MO_update) 32 = .ok (.aload_n 0, 1) := by decide +kernel
theorem d_MO_update_33 : decode (mB m_MO_update) 33 = .ok (.getfield 200, 3) := by decide +kernel
theorem d_MO_update_36 : decode (mB m_MO_update) 36 = .ok (.iconst 1, 1) := by decide +kernel
theorem d_MO_update_37 : decode (mB m_MO_update) 37 = .ok (.iload_n 1, 1) := by decide +kernel
theorem d_MO_update_38 : decode (mB m_MO_update) 38 = .ok (.ishl, 1) := by decide +kernel
theorem d_MO_update_39 : decode (mB m_MO_update) 39 = .ok (.ior, 1) := by decide +kernel
theorem d_MO_update_40 : decode (mB m_MO_update) 40 = .ok (.goto (7), 3) := by decide +kernel
theorem d_MO_update_43 : decode (mB m_MO_update) 43 = .ok (.aload_n 0, 1) := by decide +kernel
theorem d_MO_update_44 : decode (mB m_MO_update) 44 = .ok (.getfield 200, 3) := by decide +kernel
theorem d_MO_update_47 : decode (mB m_MO_update) 47 = .ok (.putfield 200, 3) := by decide +kernel
theorem d_MO_update_50 : decode (mB m_MO_update) 50 = .ok (.iinc 1 (1), 3) := by decide +kernel
theorem d_MO_update_53 : decode (mB m_MO_update) 53 = .ok (.goto (-36), 3) := by decide +kernel
theorem d_MO_update_56 : decode (mB m_MO_update) 56 = .ok (.aload_n 0, 1) := by decide +kernel
theorem d_MO_update_57 : decode (mB m_MO_update) 57 = .ok (.getfield 200, 3) := by decide +kernel
theorem d_MO_update_60 : decode (mB m_MO_update) 60 = .ok (.invokestatic 203, 3) := by decide +kernel
theorem d_MO_update_63 : decode (mB m_MO_update) 63 = .ok (.istore_n 1, 1) := by decide +kernel
theorem d_MO_update_64 : decode (mB m_MO_update) 64 = .ok (.iconst 0, 1) := by decide +kernel
theorem d_MO_update_65 : decode (mB m_MO_update) 65 = .ok (.istore_n 2, 1) := by decide +kernel
theorem d_MO_update_66 : decode (mB m_MO_update) 66 = .ok (.iconst 0, 1) := by decide +kernel
theorem d_MO_update_67 : decode (mB m_MO_update) 67 = .ok (.istore_n 3, 1) := by decide +kernel
theorem d_MO_update_68 : decode (mB m_MO_update) 68 = .ok (.iconst 2, 1) := by decide +kernel
theorem d_MO_update_69 : decode (mB m_MO_update) 69 = .ok (.iload_n 3, 1) := by decide +kernel
theorem d_MO_update_70 : decode (mB m_MO_update) 70 = .ok (.imul, 1) := by decide +kernel
theorem d_MO_update_71 : decode (mB m_MO_update) 71 = .ok (.iload_n 1, 1) := by decide +kernel
theorem d_MO_update_72 : decode (mB m_MO_update) 72 = .ok (.if_icmp .ge (19), 3) := by decide +kernel
theorem d_MO_update_75 : decode (mB m_MO_update) 75 = .ok (.iload_n 2, 1) := by decide +kernel
theorem d_MO_update_76 : decode (mB m_MO_update) 76 = .ok (.ifCond .ne (15), 3) := by decide +kernel
theorem d_MO_update_79 : decode (mB m_MO_update) 79 = .ok (.aload_n 0, 1) := by decide +kernel
theorem d_MO_update_80 : decode (mB m_MO_update) 80 = .ok (.iload_n 3, 1) := by decide +kernel
theorem d_MO_update_81 : decode (mB m_MO_update) 81 = .ok (.invokevirtual 242, 3) := by decide +kernel
theorem d_MO_update_84 : decode (mB m_MO_update) 84 = .ok (.istore_n 2, 1) := by decide +kernel
theorem d_MO_update_85 : decode (mB m_MO_update) 85 = .ok (.iinc 3 (1), 3) := by decide +kernel
theorem d_MO_update_88 : decode (mB m_MO_update) 88 = .ok (.goto (-20), 3) := by decide +kernel
theorem d_MO_update_91 : decode (mB m_MO_update) 91 = .ok (.iload_n 2, 1) := by decide +kernel
theorem d_MO_update_92 : decode (mB m_MO_update) 92 = .ok (.ifCond .ne (4), 3) := by decide +kernel
theorem d_MO_update_95 : decode (mB m_MO_update) 95 = .ok (.return_, 1) := by decide +kernel
theorem d_MO_update_96 : decode (mB m_MO_update) 96 = .ok (.aload_n 0, 1) := by decide +kernel
theorem d_MO_update_97 : decode (mB m_MO_update) 97 = .ok (.iconst 1, 1) := by decide +kernel
theorem d_MO_update_98 : decode (mB m_MO_update) 98 = .ok (.putfield 245, 3) := by decide +kernel
theorem d_MO_update_101 : decode (mB m_MO_update) 101 = .ok (.aload_n 0, 1) := by decide +kernel
theorem d_MO_update_102 : decode (mB m_MO_update) 102 = .ok (.invokevirtual 249, 3) := by decide +kernel
theorem d_MO_update_105 : decode (mB m_MO_update) 105 = .ok (.aload_n 0, 1) := by decide +kernel
theorem d_MO_update_106 : decode (mB m_MO_update) 106 = .ok (.invokevirtual 252, 3) := by decide +kernel
theorem d_MO_update_109 : decode (mB m_MO_update) 109 = .ok (.iconst 0, 1) := by decide +kernel
theorem d_MO_update_110 : decode (mB m_MO_update) 110 = .ok (.istore_n 3, 1) := by decide +kernel
theorem d_MO_update_111 : decode (mB m_MO_update) 111 = .ok (.iload_n 3, 1) := by decide +kernel
theorem d_MO_update_112 : decode (mB m_MO_update) 112 = .ok (.aload_n 0, 1) := by decide +kernel
theorem d_MO_update_113 : decode (mB m_MO_update) 113 = .ok (.getfield 219, 3) := by decide +kernel
theorem d_MO_update_116 : decode (mB m_MO_update) 116 = .ok (.if_icmp .ge (26), 3) := by decide +kernel
theorem d_MO_update_119 : decode (mB m_MO_update) 119 = .ok (.aload_n 0, 1) := by decide +kernel
theorem d_MO_update_120 : decode (mB m_MO_update) 120 = .ok (.aload_n 0, 1) := by decide +kernel
theorem d_MO_update_121 : decode (mB m_MO_update) 121 = .ok (.getfield 236, 3) := by decide +kernel
theorem d_MO_update_124 : decode (mB m_MO_update) 124 = .ok (.iconst 1, 1) := by decide +kernel
theorem d_MO_update_125 : decode (mB m_MO_update) 125 = .ok (.aload_n 0, 1) := by decide +kernel
theorem d_MO_update_126 : decode (mB m_MO_update) 126 = .ok (.getfield 53, 3) := by decide +kernel
theorem d_MO_update_129 : decode (mB m_MO_update) 129 = .ok (.iload_n 3, 1) := by decide +kernel
theorem d_MO_update_130 : decode (mB m_MO_update) 130 = .ok (.iaload, 1) := by decide +kernel
theorem d_MO_update_131 : decode (mB m_MO_update) 131 = .ok (.ishl, 1) := by decide +kernel
theorem d_MO_update_132 : decode (mB m_MO_update) 132 = .ok (.ior, 1) := by decide +kernel
theorem d_MO_update_133 : decode (mB m_MO_update) 133 = .ok (.putfield 236, 3) := by decide +kernel
theorem d_MO_update_136 : decode (mB m_MO_update) 136 = .ok (.iinc 3 (1), 3) := by decide +kernel
theorem d_MO_update_139 : decode (mB m_MO_update) 139 = .ok (.goto (-28), 3) := by decide +kernel
theorem d_MO_update_142 : decode (mB m_MO_update) 142 = .ok (.aload_n 0, 1) := by decide +kernel
theorem d_MO_update_143 : decode (mB m_MO_update) 143 = .ok (.invokevirtual 255, 3) := by decide +kernel
theorem d_MO_update_146 : decode (mB m_MO_update) 146 = .ok (.aload_n 0, 1) := by decide +kernel
theorem d_MO_update_147 : decode (mB m_MO_update) 147 = .ok (.invokevirtual 258, 3) := by decide +kernel
theorem d_MO_update_150 : decode (mB m_MO_update) 150 = .ok (.return_, 1) := by decide +kernel
theorem d_MO_lead_0 : decode (mB m_MO_lead) 0 = .ok (.aload_n 0, 1) := by decide +kernel
theorem d_MO_lead_1 : decode (mB m_MO_lead) 1 = .ok (.getfield 90, 3) := by decide +kernel
theorem d_MO_lead_4 : decode (mB m_MO_lead) 4 = .ok (.aload_n 0, 1) := by decide +kernel
theorem d_MO_lead_5 : decode (mB m_MO_lead) 5 = .ok (.getfield 261, 3) := by decide +kernel
theorem d_MO_lead_8 : decode (mB m_MO_lead) 8 = .ok (.isub, 1) := by decide +kernel
theorem d_MO_lead_9 : decode (mB m_MO_lead) 9 = .ok (.istore_n 1, 1) := by decide +kernel
theorem d_MO_lead_10 : decode (mB m_MO_lead) 10 = .ok (.aload_n 0, 1) := by decide +kernel
theorem d_MO_lead_11 : decode (mB m_MO_lead) 11 = .ok (.getfield 230, 3) := by decide +kernel
theorem d_MO_lead_14 : decode (mB m_MO_lead) 14 = .ok (.lstore_n 2, 1) := by decide +kernel
theorem d_MO_lead_15 : decode (mB m_MO_lead) 15 = .ok (.lload_n 2, 1) := by decide +kernel
theorem d_MO_lead_16 : decode (mB m_MO_lead) 16 = .ok (.invokestatic 264, 3) := by decide +kernel
theorem d_MO_lead_19 : decode (mB m_MO_lead) 19 = .ok (.ldc2_w 267, 3) := by decide +kernel
theorem d_MO_lead_22 : decode (mB m_MO_lead) 22 = .ok (.lcmp, 1) := by decide +kernel
theorem d_MO_lead_23 : decode (mB m_MO_lead) 23 = .ok (.ifCond .le (83), 3) := by decide +kernel
theorem d_MO_lead_26 : decode (mB m_MO_lead) 26 = .ok (.aload_n 0, 1) := by decide +kernel
theorem d_MO_lead_27 : decode (mB m_MO_lead) 27 = .ok (.getfield 269, 3) := by decide +kernel
theorem d_MO_lead_30 : decode (mB m_MO_lead) 30 = .ok (.ifCond .le (11), 3) := by decide +kernel
theorem d_MO_lead_33 : decode (mB m_MO_lead) 33 = .ok (.iload_n 1, 1) := by decide +kernel
theorem d_MO_lead_34 : decode (mB m_MO_lead) 34 = .ok (.sipush (300), 3) := by decide +kernel
theorem d_MO_lead_37 : decode (mB m_MO_lead) 37 = .ok (.if_icmp .ge (4), 3) := by decide +kernel
theorem d_MO_lead_40 : decode (mB m_MO_lead) 40 = .ok (.return_, 1) := by decide +kernel
theorem d_MO_lead_41 : decode (mB m_MO_lead) 41 = .ok (.aload_n 0, 1) := by decide +kernel
theorem d_MO_lead_42 : decode (mB m_MO_lead) 42 = .ok (.dup, 1) := by decide +kernel
theorem d_MO_lead_43 : decode (mB m_MO_lead) 43 = .ok (.getfield 79, 3) := by decide +kernel
theorem d_MO_lead_46 : decode (mB m_MO_lead) 46 = .ok (.lload_n 2, 1) := by decide +kernel
theorem d_MO_lead_47 : decode (mB m_MO_lead) 47 = .ok (.ladd, 1) := by decide +kernel
theorem d_MO_lead_48 : decode (mB m_MO_lead) 48 = .ok (.putfield 79, 3) := by decide +kernel
theorem d_MO_lead_51 : decode (mB m_MO_lead) 51 = .ok (.aload_n 0, 1) := by decide +kernel
theorem d_MO_lead_52 : decode (mB m_MO_lead) 52 = .ok (.lconst 0, 1) := by decide +kernel
theorem d_MO_lead_53 : decode (mB m_MO_lead) 53 = .ok (.putfield 73, 3) := by decide +kernel
theorem d_MO_lead_56 : decode (mB m_MO_lead) 56 = .ok (.aload_n 0, 1) := by decide +kernel
theorem d_MO_lead_57 : decode (mB m_MO_lead) 57 = .ok (.lconst 0, 1) := by decide +kernel
theorem d_MO_lead_58 : decode (mB m_MO_lead) 58 = .ok (.putfield 87, 3) := by decide +kernel
theorem d_MO_lead_61 : decode (mB m_MO_lead) 61 = .ok (.iconst 0, 1) := by decide +kernel
theorem d_MO_lead_62 : decode (mB m_MO_lead) 62 = .ok (.istore 4, 2) := by decide +kernel
theorem d_MO_lead_64 : decode (mB m_MO_lead) 64 = .ok (.iload 4, 2) := by decide +kernel
theorem d_MO_lead_66 : decode (mB m_MO_lead) 66 = .ok (.bipush (8), 2) := by decide +kernel
theorem d_MO_lead_68 : decode (mB m_MO_lead) 68 = .ok (.if_icmp .ge (25), 3) := by decide +kernel
theorem d_MO_lead_71 : decode (mB m_MO_lead) 71 = .ok (.aload_n 0, 1) := by decide +kernel
theorem d_MO_lead_72 : decode (mB m_MO_lead) 72 = .ok (.getfield 35, 3) := by decide +kernel
theorem d_MO_lead_75 : decode (mB m_MO_lead) 75 = .ok (.iload 4, 2) := by decide +kernel
theorem d_MO_lead_77 : decode (mB m_MO_lead) 77 = .ok (.iconst 0, 1) := by decide +kernel
theorem d_MO_lead_78 : decode (mB m_MO_lead) 78 = .ok (.iastore, 1) := by decide +kernel
theorem d_MO_lead_79 : decode (mB m_MO_lead) 79 = .ok (.aload_n 0, 1) := by decide +kernel
theorem d_MO_lead_80 : decode (mB m_MO_lead) 80 = .ok (.getfield 16, 3) := by decide +kernel
theorem d_MO_lead_83 : decode (mB m_MO_lead) 83 = .ok (.iload 4, 2) := by decide +kernel
theorem d_MO_lead_85 : decode (mB m_MO_lead) 85 = .ok (.lconst 0, 1) := by decide +kernel
theorem d_MO_lead_86 : decode (mB m_MO_lead) 86 = .ok (.lastore, 1) := by decide +kernel
theorem d_MO_lead_87 : decode (mB m_MO_lead) 87 = .ok (.iinc 4 (1), 3) := by decide +kernel
theorem d_MO_lead_90 : decode (mB m_MO_lead) 90 = .ok (.goto (-26), 3) := by decide +kernel
theorem d_MO_lead_93 : decode (mB m_MO_lead) 93 = .ok (.aload_n 0, 1) := by decide +kernel
theorem d_MO_lead_94 : decode (mB m_MO_lead) 94 = .ok (.dup, 1) := by decide +kernel
theorem d_MO_lead_95 : decode (mB m_MO_lead) 95 = .ok (.getfield 272, 3) := by decide +kernel
theorem d_MO_lead_98 : decode (mB m_MO_lead) 98 = .ok (.iconst 1, 1) := by decide +kernel
theorem d_MO_lead_99 : decode (mB m_MO_lead) 99 = .ok (.iadd, 1) := by decide +kernel
theorem d_MO_lead_100 : decode (mB m_MO_lead) 100 = .ok (.putfield 272, 3) := by decide +kernel
theorem d_MO_lead_103 : decode (mB m_MO_lead) 103 = .ok (.goto (129), 3) := by decide +kernel
theorem d_MO_lead_106 : decode (mB m_MO_lead) 106 = .ok (.aload_n 0, 1) := by decide +kernel
theorem d_MO_lead_107 : decode (mB m_MO_lead) 107 = .ok (.getfield 269, 3) := by decide +kernel
theorem d_MO_lead_110 : decode (mB m_MO_lead) 110 = .ok (.ifCond .ne (7), 3) := by decide +kernel
theorem d_MO_lead_113 : decode (mB m_MO_lead) 113 = .ok (.lconst 0, 1) := by decide +kernel
theorem d_MO_lead_114 : decode (mB m_MO_lead) 114 = .ok (.goto (18), 3) := by decide +kernel
theorem d_MO_lead_117 : decode (mB m_MO_lead) 117 = .ok (.iload_n 1, 1) := by decide +kernel
theorem d_MO_lead_118 : decode (mB m_MO_lead) 118 = .ok (.sipush (1024), 3) := by decide +kernel
theorem d_MO_lead_121 : decode (mB m_MO_lead) 121 = .ok (.if_icmp .le (9), 3) := by decide +kernel
theorem d_MO_lead_124 : decode (mB m_MO_lead) 124 = .ok (.ldc2_w 275, 3) := by decide +kernel
theorem d_MO_lead_127 : decode (mB m_MO_lead) 127 = .ok (.goto (5), 3) := by decide +kernel
theorem d_MO_lead_130 : decode (mB m_MO_lead) 130 = .ok (.iload_n 1, 1) := by decide +kernel
theorem d_MO_lead_131 : decode (mB m_MO_lead) 131 = .ok (.i2l, 1) := by decide +kernel
theorem d_MO_lead_132 : decode (mB m_MO_lead) 132 = .ok (.lstore 4, 2) := by decide +kernel
theorem d_MO_lead_134 : decode (mB m_MO_lead) 134 = .ok (.aload_n 0, 1) := by decide +kernel
theorem d_MO_lead_135 : decode (mB m_MO_lead) 135 = .ok (.dup, 1) := by decide +kernel
theorem d_MO_lead_136 : decode (mB m_MO_lead) 136 = .ok (.getfield 87, 3) := by decide +kernel
theorem d_MO_lead_139 : decode (mB m_MO_lead) 139 = .ok (.lload_n 2, 1) := by decide +kernel
theorem d_MO_lead_140 : decode (mB m_MO_lead) 140 = .ok (.lload 4, 2) := by decide +kernel
theorem d_MO_lead_142 : decode (mB m_MO_lead) 142 = .ok (.lmul, 1) := by decide +kernel
theorem d_MO_lead_143 : decode (mB m_MO_lead) 143 = .ok (.lconst 1, 1) := by decide +kernel
theorem d_MO_lead_144 : decode (mB m_MO_lead) 144 = .ok (.iconst 2, 1) := by decide +kernel
theorem d_MO_lead_145 : decode (mB m_MO_lead) 145 = .ok (.aload_n 0, 1) := by decide +kernel
theorem d_MO_lead_146 : decode (mB m_MO_lead) 146 = .ok (.getfield 56, 3) := by decide +kernel
theorem d_MO_lead_149 : decode (mB m_MO_lead) 149 = .ok (.imul, 1) := by decide +kernel
theorem d_MO_lead_150 : decode (mB m_MO_lead) 150 = .ok (.iconst 4, 1) := by decide +kernel
theorem d_MO_lead_151 : decode (mB m_MO_lead) 151 = .ok (.iadd, 1) := by decide +kernel
theorem d_MO_lead_152 : decode (mB m_MO_lead) 152 = .ok (.lshl, 1) := by decide +kernel
theorem d_MO_lead_153 : decode (mB m_MO_lead) 153 = .ok (.invokestatic 101, 3) := by decide +kernel
theorem d_MO_lead_156 : decode (mB m_MO_lead) 156 = .ok (.ladd, 1) := by decide +kernel
theorem d_MO_lead_157 : decode (mB m_MO_lead) 157 = .ok (.putfield 87, 3) := by decide +kernel
theorem d_MO_lead_160 : decode (mB m_MO_lead) 160 = .ok (.aload_n 0, 1) := by decide +kernel
theorem d_MO_lead_161 : decode (mB m_MO_lead) 161 = .ok (.aload_n 0, 1) := by decide +kernel
theorem d_MO_lead_162 : decode (mB m_MO_lead) 162 = .ok (.getfield 87, 3) := by decide +kernel
theorem d_MO_lead_165 : decode (mB m_MO_lead) 165 = .ok (.ldc2_w 277, 3) := by decide +kernel
theorem d_MO_lead_168 : decode (mB m_MO_lead) 168 = .ok (.lcmp, 1) := by decide +kernel
theorem d_MO_lead_169 : decode (mB m_MO_lead) 169 = .ok (.ifCond .le (9), 3) := by decide +kernel
theorem d_MO_lead_172 : decode (mB m_MO_lead) 172 = .ok (.ldc2_w 277, 3) := by decide +kernel
theorem d_MO_lead_175 : decode (mB m_MO_lead) 175 = .ok (.goto (24), 3) := by decide +kernel
theorem d_MO_lead_178 : decode (mB m_MO_lead) 178 = .ok (.aload_n 0, 1) := by decide +kernel
theorem d_MO_lead_179 : decode (mB m_MO_lead) 179 = .ok (.getfield 87, 3) := by decide +kernel
theorem d_MO_lead_182 : decode (mB m_MO_lead) 182 = .ok (.ldc2_w 279, 3) := by decide +kernel
theorem d_MO_lead_185 : decode (mB m_MO_lead) 185 = .ok (.lcmp, 1) := by decide +kernel
theorem d_MO_lead_186 : decode (mB m_MO_lead) 186 = .ok (.ifCond .ge (9), 3) := by decide +kernel
theorem d_MO_lead_189 : decode (mB m_MO_lead) 189 = .ok (.ldc2_w 279, 3) := by decide +kernel
theorem d_MO_lead_192 : decode (mB m_MO_lead) 192 = .ok (.goto (7), 3) := by decide +kernel
theorem d_MO_lead_195 : decode (mB m_MO_lead) 195 = .ok (.aload_n 0, 1) := by decide +kernel
theorem d_MO_lead_196 : decode (mB m_MO_lead) 196 = .ok (.getfield 87, 3) := by decide +kernel
theorem d_MO_lead_199 : decode (mB m_MO_lead) 199 = .ok (.putfield 87, 3) := by decide +kernel
theorem d_MO_lead_202 : decode (mB m_MO_lead) 202 = .ok (.aload_n 0, 1) := by decide +kernel
theorem d_MO_lead_203 : decode (mB m_MO_lead) 203 = .ok (.lload_n 2, 1) := by decide +kernel
theorem d_MO_lead_204 : decode (mB m_MO_lead) 204 = .ok (.putfield 73, 3) := by decide +kernel
theorem d_MO_lead_207 : decode (mB m_MO_lead) 207 = .ok (.aload_n 0, 1) := by decide +kernel
theorem d_MO_lead_208 : decode (mB m_MO_lead) 208 = .ok (.lload_n 2, 1) := by decide +kernel
theorem d_MO_lead_209 : decode (mB m_MO_lead) 209 = .ok (.invokestatic 264, 3) := by decide +kernel
theorem d_MO_lead_212 : decode (mB m_MO_lead) 212 = .ok (.ldc2_w 281, 3) := by decide +kernel
theorem d_MO_lead_215 : decode (mB m_MO_lead) 215 = .ok (.aload_n 0, 1) := by decide +kernel
theorem d_MO_lead_216 : decode (mB m_MO_lead) 216 = .ok (.getfield 233, 3) := by decide +kernel
theorem d_MO_lead_219 : decode (mB m_MO_lead) 219 = .ok (.lmul, 1) := by decide +kernel
theorem d_MO_lead_220 : decode (mB m_MO_lead) 220 = .ok (.lcmp, 1) := by decide +kernel
theorem d_MO_lead_221 : decode (mB m_MO_lead) 221 = .ok (.ifCond .ge (7), 3) := by decide +kernel
theorem d_MO_lead_224 : decode (mB m_MO_lead) 224 = .ok (.iconst 1, 1) := by decide +kernel
theorem d_MO_lead_225 : decode (mB m_MO_lead) 225 = .ok (.goto (4), 3) := by decide +kernel
theorem d_MO_lead_228 : decode (mB m_MO_lead) 228 = .ok (.iconst 0, 1) := by decide +kernel
theorem d_MO_lead_229 : decode (mB m_MO_lead) 229 = .ok (.invokevirtual 283, 3) := by decide +kernel
theorem d_MO_lead_232 : decode (mB m_MO_lead) 232 = .ok (.aload_n 0, 1) := by decide +kernel
theorem d_MO_lead_233 : decode (mB m_MO_lead) 233 = .ok (.aload_n 0, 1) := by decide +kernel
theorem d_MO_lead_234 : decode (mB m_MO_lead) 234 = .ok (.getfield 90, 3) := by decide +kernel
theorem d_MO_lead_237 : decode (mB m_MO_lead) 237 = .ok (.putfield 261, 3) := by decide +kernel
theorem d_MO_lead_240 : decode (mB m_MO_lead) 240 = .ok (.aload_n 0, 1) := by decide +kernel
theorem d_MO_lead_241 : decode (mB m_MO_lead) 241 = .ok (.dup, 1) := by decide +kernel
theorem d_MO_lead_242 : decode (mB m_MO_lead) 242 = .ok (.getfield 269, 3) := by decide +kernel
theorem d_MO_lead_245 : decode (mB m_MO_lead) 245 = .ok (.iconst 1, 1) := by decide +kernel
theorem d_MO_lead_246 : decode (mB m_MO_lead) 246 = .ok (.iadd, 1) := by decide +kernel
theorem d_MO_lead_247 : decode (mB m_MO_lead) 247 = .ok (.putfield 269, 3) := by decide +kernel
theorem d_MO_lead_250 : decode (mB m_MO_lead) 250 = .ok (.return_, 1) := by decide +kernel
theorem d_MO_trust_0 : decode (mB m_MO_trust) 0 = .ok (.aload_n 0, 1) := by decide +kernel
theorem d_MO_trust_1 : decode (mB m_MO_trust) 1 = .ok (.dup, 1) := by decide +kernel
theorem d_MO_trust_2 : decode (mB m_MO_trust) 2 = .ok (.getfield 287, 3) := by decide +kernel
theorem d_MO_trust_5 : decode (mB m_MO_trust) 5 = .ok (.iload_n 1, 1) := by decide +kernel
theorem d_MO_trust_6 : decode (mB m_MO_trust) 6 = .ok (.ifCond .eq (10), 3) := by decide +kernel
theorem d_MO_trust_9 : decode (mB m_MO_trust) 9 = .ok (.aload_n 0, 1) := by decide +kernel
theorem d_MO_trust_10 : decode (mB m_MO_trust) 10 = .ok (.getfield 56, 3) := by decide +kernel
theorem d_MO_trust_13 : decode (mB m_MO_trust) 13 = .ok (.goto (10), 3) := by decide +kernel
theorem d_MO_trust_16 : decode (mB m_MO_trust) 16 = .ok (.bipush (-2), 2) := by decide +kernel
theorem d_MO_trust_18 : decode (mB m_MO_trust) 18 = .ok (.aload_n 0, 1) := by decide +kernel
theorem d_MO_trust_19 : decode (mB m_MO_trust) 19 = .ok (.getfield 56, 3) := by decide +kernel
theorem d_MO_trust_22 : decode (mB m_MO_trust) 22 = .ok (.imul, 1) := by decide +kernel
theorem d_MO_trust_23 : decode (mB m_MO_trust) 23 = .ok (.iadd, 1) := by decide +kernel
theorem d_MO_trust_24 : decode (mB m_MO_trust) 24 = .ok (.putfield 287, 3) := by decide +kernel
theorem d_MO_trust_27 : decode (mB m_MO_trust) 27 = .ok (.aload_n 0, 1) := by decide +kernel
theorem d_MO_trust_28 : decode (mB m_MO_trust) 28 = .ok (.getfield 287, 3) := by decide +kernel
theorem d_MO_trust_31 : decode (mB m_MO_trust) 31 = .ok (.bipush (30), 2) := by decide +kernel
theorem d_MO_trust_33 : decode (mB m_MO_trust) 33 = .ok (.if_icmp .le (35), 3) := by decide +kernel
theorem d_MO_trust_36 : decode (mB m_MO_trust) 36 = .ok (.aload_n 0, 1) := by decide +kernel
theorem d_MO_trust_37 : decode (mB m_MO_trust) 37 = .ok (.iconst 0, 1) := by decide +kernel
theorem d_MO_trust_38 : decode (mB m_MO_trust) 38 = .ok (.putfield 287, 3) := by decide +kernel
theorem d_MO_trust_41 : decode (mB m_MO_trust) 41 = .ok (.aload_n 0, 1) := by decide +kernel
theorem d_MO_trust_42 : decode (mB m_MO_trust) 42 = .ok (.aload_n 0, 1) := by decide +kernel
theorem d_MO_trust_43 : decode (mB m_MO_trust) 43 = .ok (.getfield 56, 3) := by decide +kernel
theorem d_MO_trust_46 : decode (mB m_MO_trust) 46 = .ok (.bipush (10), 2) := by decide +kernel
theorem d_MO_trust_48 : decode (mB m_MO_trust) 48 = .ok (.if_icmp .ge (12), 3) := by decide +kernel
theorem d_MO_trust_51 : decode (mB m_MO_trust) 51 = .ok (.aload_n 0, 1) := by decide +kernel
theorem d_MO_trust_52 : decode (mB m_MO_trust) 52 = .ok (.getfield 56, 3) := by decide +kernel
theorem d_MO_trust_55 : decode (mB m_MO_trust) 55 = .ok (.iconst 1, 1) := by decide +kernel
theorem d_MO_trust_56 : decode (mB m_MO_trust) 56 = .ok (.iadd, 1) := by decide +kernel
theorem d_MO_trust_57 : decode (mB m_MO_trust) 57 = .ok (.goto (5), 3) := by decide +kernel
theorem d_MO_trust_60 : decode (mB m_MO_trust) 60 = .ok (.bipush (10), 2) := by decide +kernel
theorem d_MO_trust_62 : decode (mB m_MO_trust) 62 = .ok (.putfield 56, 3) := by decide +kernel
theorem d_MO_trust_65 : decode (mB m_MO_trust) 65 = .ok (.goto (39), 3) := by decide +kernel
theorem d_MO_trust_68 : decode (mB m_MO_trust) 68 = .ok (.aload_n 0, 1) := by decide +kernel
theorem d_MO_trust_69 : decode (mB m_MO_trust) 69 = .ok (.getfield 287, 3) := by decide +kernel
theorem d_MO_trust_72 : decode (mB m_MO_trust) 72 = .ok (.bipush (-30), 2) := by decide +kernel
theorem d_MO_trust_74 : decode (mB m_MO_trust) 74 = .ok (.if_icmp .ge (30), 3) := by decide +kernel
theorem d_MO_trust_77 : decode (mB m_MO_trust) 77 = .ok (.aload_n 0, 1) := by decide +kernel
theorem d_MO_trust_78 : decode (mB m_MO_trust) 78 = .ok (.iconst 0, 1) := by decide +kernel
theorem d_MO_trust_79 : decode (mB m_MO_trust) 79 = .ok (.putfield 287, 3) := by decide +kernel
theorem d_MO_trust_82 : decode (mB m_MO_trust) 82 = .ok (.aload_n 0, 1) := by decide +kernel
theorem d_MO_trust_83 : decode (mB m_MO_trust) 83 = .ok (.aload_n 0, 1) := by decide +kernel
theorem d_MO_trust_84 : decode (mB m_MO_trust) 84 = .ok (.getfield 56, 3) := by decide +kernel
theorem d_MO_trust_87 : decode (mB m_MO_trust) 87 = .ok (.iconst 4, 1) := by decide +kernel
theorem d_MO_trust_88 : decode (mB m_MO_trust) 88 = .ok (.if_icmp .le (12), 3) := by decide +kernel
theorem d_MO_trust_91 : decode (mB m_MO_trust) 91 = .ok (.aload_n 0, 1) := by decide +kernel
theorem d_MO_trust_92 : decode (mB m_MO_trust) 92 = .ok (.getfield 56, 3) := by decide +kernel
theorem d_MO_trust_95 : decode (mB m_MO_trust) 95 = .ok (.iconst 1, 1) := by decide +kernel
theorem d_MO_trust_96 : decode (mB m_MO_trust) 96 = .ok (.isub, 1) := by decide +kernel
theorem d_MO_trust_97 : decode (mB m_MO_trust) 97 = .ok (.goto (4), 3) := by decide +kernel
theorem d_MO_trust_100 : decode (mB m_MO_trust) 100 = .ok (.iconst 4, 1) := by decide +kernel
theorem d_MO_trust_101 : decode (mB m_MO_trust) 101 = .ok (.putfield 56, 3) := by decide +kernel
theorem d_MO_trust_104 : decode (mB m_MO_trust) 104 = .ok (.return_, 1) := by decide +kernel
theorem d_MO_peer_0 : decode (mB m_MO_peer) 0 = .ok (.aload_n 0, 1) := by decide +kernel
theorem d_MO_peer_1 : decode (mB m_MO_peer) 1 = .ok (.iload_n 1, 1) := by decide +kernel
theorem d_MO_peer_2 : decode (mB m_MO_peer) 2 = .ok (.invokevirtual 141, 3) := by decide +kernel
theorem d_MO_peer_5 : decode (mB m_MO_peer) 5 = .ok (.ifCond .eq (5), 3) := by decide +kernel
theorem d_MO_peer_8 : decode (mB m_MO_peer) 8 = .ok (.lconst 0, 1) := by decide +kernel
theorem d_MO_peer_9 : decode (mB m_MO_peer) 9 = .ok (.lreturn, 1) := by decide +kernel
theorem d_MO_peer_10 : decode (mB m_MO_peer) 10 = .ok (.aload_n 0, 1) := by decide +kernel
theorem d_MO_peer_11 : decode (mB m_MO_peer) 11 = .ok (.iload_n 2, 1) := by decide +kernel
theorem d_MO_peer_12 : decode (mB m_MO_peer) 12 = .ok (.ifCond .lt (9), 3) := by decide +kernel
theorem d_MO_peer_15 : decode (mB m_MO_peer) 15 = .ok (.iload_n 2, 1) := by decide +kernel
theorem d_MO_peer_16 : decode (mB m_MO_peer) 16 = .ok (.bipush (9), 2) := by decide +kernel
theorem d_MO_peer_18 : decode (mB m_MO_peer) 18 = .ok (.if_icmp .le (7), 3) := by decide +kernel
theorem d_MO_peer_21 : decode (mB m_MO_peer) 21 = .ok (.iconst 2, 1) := by decide +kernel
theorem d_MO_peer_22 : decode (mB m_MO_peer) 22 = .ok (.goto (28), 3) := by decide +kernel
theorem d_MO_peer_25 : decode (mB m_MO_peer) 25 = .ok (.iload_n 2, 1) := by decide +kernel
theorem d_MO_peer_26 : decode (mB m_MO_peer) 26 = .ok (.iconst 1, 1) := by decide +kernel
theorem d_MO_peer_27 : decode (mB m_MO_peer) 27 = .ok (.if_icmp .le (22), 3) := by decide +kernel
theorem d_MO_peer_30 : decode (mB m_MO_peer) 30 = .ok (.iload_n 2, 1) := by decide +kernel
theorem d_MO_peer_31 : decode (mB m_MO_peer) 31 = .ok (.bipush (7), 2) := by decide +kernel
theorem d_MO_peer_33 : decode (mB m_MO_peer) 33 = .ok (.if_icmp .ge (16), 3) := by decide +kernel
theorem d_MO_peer_36 : decode (mB m_MO_peer) 36 = .ok (.aload_n 0, 1) := by decide +kernel
theorem d_MO_peer_37 : decode (mB m_MO_peer) 37 = .ok (.getfield 35, 3) := by decide +kernel
theorem d_MO_peer_40 : decode (mB m_MO_peer) 40 = .ok (.iload_n 1, 1) := by decide +kernel
theorem d_MO_peer_41 : decode (mB m_MO_peer) 41 = .ok (.iaload, 1) := by decide +kernel
theorem d_MO_peer_42 : decode (mB m_MO_peer) 42 = .ok (.ifCond .ne (7), 3) := by decide +kernel
theorem d_MO_peer_45 : decode (mB m_MO_peer) 45 = .ok (.iconst 3, 1) := by decide +kernel
theorem d_MO_peer_46 : decode (mB m_MO_peer) 46 = .ok (.goto (4), 3) := by decide +kernel
theorem d_MO_peer_49 : decode (mB m_MO_peer) 49 = .ok (.iconst 0, 1) := by decide +kernel
theorem d_MO_peer_50 : decode (mB m_MO_peer) 50 = .ok (.putfield 60, 3) := by decide +kernel
theorem d_MO_peer_53 : decode (mB m_MO_peer) 53 = .ok (.aload_n 0, 1) := by decide +kernel
theorem d_MO_peer_54 : decode (mB m_MO_peer) 54 = .ok (.getfield 60, 3) := by decide +kernel
theorem d_MO_peer_57 : decode (mB m_MO_peer) 57 = .ok (.ifCond .le (5), 3) := by decide +kernel
theorem d_MO_peer_60 : decode (mB m_MO_peer) 60 = .ok (.lconst 0, 1) := by decide +kernel
theorem d_MO_peer_61 : decode (mB m_MO_peer) 61 = .ok (.lreturn, 1) := by decide +kernel
theorem d_MO_peer_62 : decode (mB m_MO_peer) 62 = .ok (.iload_n 2, 1) := by decide +kernel
theorem d_MO_peer_63 : decode (mB m_MO_peer) 63 = .ok (.tableswitch (109) (0) (8) #[49, 56, 63, 69, 75, 81, 87, 93, 101], 49) := by decide +kernel
theorem d_MO_peer_112 : decode (mB m_MO_peer) 112 = .ok (.aload_n 0, 1) := by decide +kernel
theorem d_MO_peer_113 : decode (mB m_MO_peer) 113 = .ok (.getfield 16, 3) := by decide +kernel
theorem d_MO_peer_116 : decode (mB m_MO_peer) 116 = .ok (.iload_n 1, 1) := by decide +kernel
theorem d_MO_peer_117 : decode (mB m_MO_peer) 117 = .ok (.laload, 1) := by decide +kernel
theorem d_MO_peer_118 : decode (mB m_MO_peer) 118 = .ok (.lreturn, 1) := by decide +kernel
theorem d_MO_peer_119 : decode (mB m_MO_peer) 119 = .ok (.aload_n 0, 1) := by decide +kernel
theorem d_MO_peer_120 : decode (mB m_MO_peer) 120 = .ok (.getfield 20, 3) := by decide +kernel
theorem d_MO_peer_123 : decode (mB m_MO_peer) 123 = .ok (.iload_n 1, 1) := by decide +kernel
theorem d_MO_peer_124 : decode (mB m_MO_peer) 124 = .ok (.laload, 1) := by decide +kernel
theorem d_MO_peer_125 : decode (mB m_MO_peer) 125 = .ok (.lreturn, 1) := by decide +kernel
theorem d_MO_peer_126 : decode (mB m_MO_peer) 126 = .ok (.aload_n 0, 1) := by decide +kernel
theorem d_MO_peer_127 : decode (mB m_MO_peer) 127 = .ok (.iload_n 1, 1) := by decide +kernel
theorem d_MO_peer_128 : decode (mB m_MO_peer) 128 = .ok (.invokevirtual 120, 3) := by decide +kernel
theorem d_MO_peer_131 : decode (mB m_MO_peer) 131 = .ok (.lreturn, 1) := by decide +kernel
theorem d_MO_peer_132 : decode (mB m_MO_peer) 132 = .ok (.aload_n 0, 1) := by decide +kernel
theorem d_MO_peer_133 : decode (mB m_MO_peer) 133 = .ok (.iload_n 1, 1) := by decide +kernel
theorem d_MO_peer_134 : decode (mB m_MO_peer) 134 = .ok (.invokevirtual 132, 3) := by decide +kernel
theorem d_MO_peer_137 : decode (mB m_MO_peer) 137 = .ok (.lreturn, 1) := by decide +kernel
theorem d_MO_peer_138 : decode (mB m_MO_peer) 138 = .ok (.aload_n 0, 1) := by decide +kernel
theorem d_MO_peer_139 : decode (mB m_MO_peer) 139 = .ok (.iload_n 1, 1) := by decide +kernel
theorem d_MO_peer_140 : decode (mB m_MO_peer) 140 = .ok (.invokevirtual 135, 3) := by decide +kernel
theorem d_MO_peer_143 : decode (mB m_MO_peer) 143 = .ok (.lreturn, 1) := by decide +kernel
theorem d_MO_peer_144 : decode (mB m_MO_peer) 144 = .ok (.aload_n 0, 1) := by decide +kernel
theorem d_MO_peer_145 : decode (mB m_MO_peer) 145 = .ok (.iload_n 1, 1) := by decide +kernel
theorem d_MO_peer_146 : decode (mB m_MO_peer) 146 = .ok (.invokevirtual 138, 3) := by decide +kernel
theorem d_MO_peer_149 : decode (mB m_MO_peer) 149 = .ok (.lreturn, 1) := by decide +kernel
theorem d_MO_peer_150 : decode (mB m_MO_peer) 150 = .ok (.aload_n 0, 1) := by decide +kernel
theorem d_MO_peer_151 : decode (mB m_MO_peer) 151 = .ok (.iload_n 1, 1) := by decide +kernel
theorem d_MO_peer_152 : decode (mB m_MO_peer) 152 = .ok (.invokevirtual 191, 3) := by decide +kernel
theorem d_MO_peer_155 : decode (mB m_MO_peer) 155 = .ok (.lreturn, 1) := by decide +kernel
theorem d_MO_peer_156 : decode (mB m_MO_peer) 156 = .ok (.aload_n 0, 1) := by decide +kernel
theorem d_MO_peer_157 : decode (mB m_MO_peer) 157 = .ok (.getfield 35, 3) := by decide +kernel
theorem d_MO_peer_160 : decode (mB m_MO_peer) 160 = .ok (.iload_n 1, 1) := by decide +kernel
theorem d_MO_peer_161 : decode (mB m_MO_peer) 161 = .ok (.iaload, 1) := by decide +kernel
theorem d_MO_peer_162 : decode (mB m_MO_peer) 162 = .ok (.i2l, 1) := by decide +kernel
theorem d_MO_peer_163 : decode (mB m_MO_peer) 163 = .ok (.lreturn, 1) := by decide +kernel
theorem d_MO_peer_164 : decode (mB m_MO_peer) 164 = .ok (.aload_n 0, 1) := by decide +kernel
theorem d_MO_peer_165 : decode (mB m_MO_peer) 165 = .ok (.getfield 23, 3) := by decide +kernel
theorem d_MO_peer_168 : decode (mB m_MO_peer) 168 = .ok (.iload_n 1, 1) := by decide +kernel
theorem d_MO_peer_169 : decode (mB m_MO_peer) 169 = .ok (.iaload, 1) := by decide +kernel
theorem d_MO_peer_170 : decode (mB m_MO_peer) 170 = .ok (.i2l, 1) := by decide +kernel
theorem d_MO_peer_171 : decode (mB m_MO_peer) 171 = .ok (.lreturn, 1) := by decide +kernel
theorem d_MO_peer_172 : decode (mB m_MO_peer) 172 = .ok (.aload_n 0, 1) := by decide +kernel
theorem d_MO_peer_173 : decode (mB m_MO_peer) 173 = .ok (.getfield 26, 3) := by decide +kernel
theorem d_MO_peer_176 : decode (mB m_MO_peer) 176 = .ok (.iload_n 1, 1) := by decide +kernel
theorem d_MO_peer_177 : decode (mB m_MO_peer) 177 = .ok (.iaload, 1) := by decide +kernel
theorem d_MO_peer_178 : decode (mB m_MO_peer) 178 = .ok (.i2l, 1) := by decide +kernel
theorem d_MO_peer_179 : decode (mB m_MO_peer) 179 = .ok (.lreturn, 1) := by decide +kernel
theorem d_MO_sample_0 : decode (mB m_MO_sample) 0 = .ok (.aload_n 0, 1) := by decide +kernel
theorem d_MO_sample_1 : decode (mB m_MO_sample) 1 = .ok (.iload_n 1, 1) := by decide +kernel
theorem d_MO_sample_2 : decode (mB m_MO_sample) 2 = .ok (.ifCond .lt (23), 3) := by decide +kernel
theorem d_MO_sample_5 : decode (mB m_MO_sample) 5 = .ok (.iload_n 1, 1) := by decide +kernel
theorem d_MO_sample_6 : decode (mB m_MO_sample) 6 = .ok (.bipush (8), 2) := by decide +kernel
theorem d_MO_sample_8 : decode (mB m_MO_sample) 8 = .ok (.if_icmp .ge (17), 3) := by decide +kernel
theorem d_MO_sample_11 : decode (mB m_MO_sample) 11 = .ok (.iload_n 2, 1) := by decide +kernel
theorem d_MO_sample_12 : decode (mB m_MO_sample) 12 = .ok (.ifCond .lt (13), 3) := by decide +kernel
theorem d_MO_sample_15 : decode (mB m_MO_sample) 15 = .ok (.iload_n 2, 1) := by decide +kernel
theorem d_MO_sample_16 : decode (mB m_MO_sample) 16 = .ok (.aload_n 0, 1) := by decide +kernel
theorem d_MO_sample_17 : decode (mB m_MO_sample) 17 = .ok (.getfield 35, 3) := by decide +kernel
theorem d_MO_sample_20 : decode (mB m_MO_sample) 20 = .ok (.iload_n 1, 1) := by decide +kernel
theorem d_MO_sample_21 : decode (mB m_MO_sample) 21 = .ok (.iaload, 1) := by decide +kernel
theorem d_MO_sample_22 : decode (mB m_MO_sample) 22 = .ok (.if_icmp .lt (7), 3) := by decide +kernel
theorem d_MO_sample_25 : decode (mB m_MO_sample) 25 = .ok (.iconst 1, 1) := by decide +kernel
theorem d_MO_sample_26 : decode (mB m_MO_sample) 26 = .ok (.goto (17), 3) := by decide +kernel
theorem d_MO_sample_29 : decode (mB m_MO_sample) 29 = .ok (.iload_n 3, 1) := by decide +kernel
theorem d_MO_sample_30 : decode (mB m_MO_sample) 30 = .ok (.ifCond .lt (8), 3) := by decide +kernel
theorem d_MO_sample_33 : decode (mB m_MO_sample) 33 = .ok (.iload_n 3, 1) := by decide +kernel
theorem d_MO_sample_34 : decode (mB m_MO_sample) 34 = .ok (.iconst 2, 1) := by decide +kernel
theorem d_MO_sample_35 : decode (mB m_MO_sample) 35 = .ok (.if_icmp .le (7), 3) := by decide +kernel
theorem d_MO_sample_38 : decode (mB m_MO_sample) 38 = .ok (.iconst 2, 1) := by decide +kernel
theorem d_MO_sample_39 : decode (mB m_MO_sample) 39 = .ok (.goto (4), 3) := by decide +kernel
theorem d_MO_sample_42 : decode (mB m_MO_sample) 42 = .ok (.iconst 0, 1) := by decide +kernel
theorem d_MO_sample_43 : decode (mB m_MO_sample) 43 = .ok (.putfield 60, 3) := by decide +kernel
theorem d_MO_sample_46 : decode (mB m_MO_sample) 46 = .ok (.aload_n 0, 1) := by decide +kernel
theorem d_MO_sample_47 : decode (mB m_MO_sample) 47 = .ok (.getfield 60, 3) := by decide +kernel
theorem d_MO_sample_50 : decode (mB m_MO_sample) 50 = .ok (.ifCond .le (5), 3) := by decide +kernel
theorem d_MO_sample_53 : decode (mB m_MO_sample) 53 = .ok (.lconst 0, 1) := by decide +kernel
theorem d_MO_sample_54 : decode (mB m_MO_sample) 54 = .ok (.lreturn, 1) := by decide +kernel
theorem d_MO_sample_55 : decode (mB m_MO_sample) 55 = .ok (.aload_n 0, 1) := by decide +kernel
theorem d_MO_sample_56 : decode (mB m_MO_sample) 56 = .ok (.iload_n 1, 1) := by decide +kernel
theorem d_MO_sample_57 : decode (mB m_MO_sample) 57 = .ok (.iload_n 2, 1) := by decide +kernel
theorem d_MO_sample_58 : decode (mB m_MO_sample) 58 = .ok (.invokevirtual 113, 3) := by decide +kernel
theorem d_MO_sample_61 : decode (mB m_MO_sample) 61 = .ok (.istore 4, 2) := by decide +kernel
theorem d_MO_sample_63 : decode (mB m_MO_sample) 63 = .ok (.iload_n 3, 1) := by decide +kernel
theorem d_MO_sample_64 : decode (mB m_MO_sample) 64 = .ok (.ifCond .ne (13), 3) := by decide +kernel
theorem d_MO_sample_67 : decode (mB m_MO_sample) 67 = .ok (.aload_n 0, 1) := by decide +kernel
theorem d_MO_sample_68 : decode (mB m_MO_sample) 68 = .ok (.getfield 41, 3) := by decide +kernel
theorem d_MO_sample_71 : decode (mB m_MO_sample) 71 = .ok (.iload 4, 2) := by decide +kernel
theorem d_MO_sample_73 : decode (mB m_MO_sample) 73 = .ok (.laload, 1) := by decide +kernel
theorem d_MO_sample_74 : decode (mB m_MO_sample) 74 = .ok (.goto (24), 3) := by decide +kernel
theorem d_MO_sample_77 : decode (mB m_MO_sample) 77 = .ok (.iload_n 3, 1) := by decide +kernel
theorem d_MO_sample_78 : decode (mB m_MO_sample) 78 = .ok (.iconst 1, 1) := by decide +kernel
theorem d_MO_sample_79 : decode (mB m_MO_sample) 79 = .ok (.if_icmp .ne (13), 3) := by decide +kernel
theorem d_MO_sample_82 : decode (mB m_MO_sample) 82 = .ok (.aload_n 0, 1) := by decide +kernel
theorem d_MO_sample_83 : decode (mB m_MO_sample) 83 = .ok (.getfield 44, 3) := by decide +kernel
theorem d_MO_sample_86 : decode (mB m_MO_sample) 86 = .ok (.iload 4, 2) := by decide +kernel
theorem d_MO_sample_88 : decode (mB m_MO_sample) 88 = .ok (.laload, 1) := by decide +kernel
theorem d_MO_sample_89 : decode (mB m_MO_sample) 89 = .ok (.goto (9), 3) := by decide +kernel
theorem d_MO_sample_92 : decode (mB m_MO_sample) 92 = .ok (.aload_n 0, 1) := by decide +kernel
theorem d_MO_sample_93 : decode (mB m_MO_sample) 93 = .ok (.iload 4, 2) := by decide +kernel
theorem d_MO_sample_95 : decode (mB m_MO_sample) 95 = .ok (.invokevirtual 116, 3) := by decide +kernel
theorem d_MO_sample_98 : decode (mB m_MO_sample) 98 = .ok (.lreturn, 1) := by decide +kernel
theorem d_MO_chosen_0 : decode (mB m_MO_chosen) 0 = .ok (.aload_n 0, 1) := by decide +kernel
theorem d_MO_chosen_1 : decode (mB m_MO_chosen) 1 = .ok (.iload_n 1, 1) := by decide +kernel
theorem d_MO_chosen_2 : decode (mB m_MO_chosen) 2 = .ok (.ifCond .lt (8), 3) := by decide +kernel
theorem d_MO_chosen_5 : decode (mB m_MO_chosen) 5 = .ok (.iload_n 1, 1) := by decide +kernel
theorem d_MO_chosen_6 : decode (mB m_MO_chosen) 6 = .ok (.iconst 2, 1) := by decide +kernel
theorem d_MO_chosen_7 : decode (mB m_MO_chosen) 7 = .ok (.if_icmp .le (7), 3) := by decide +kernel
theorem d_MO_chosen_10 : decode (mB m_MO_chosen) 10 = .ok (.iconst 1, 1) := by decide +kernel
theorem d_MO_chosen_11 : decode (mB m_MO_chosen) 11 = .ok (.goto (4), 3) := by decide +kernel
theorem d_MO_chosen_14 : decode (mB m_MO_chosen) 14 = .ok (.iconst 0, 1) := by decide +kernel
theorem d_MO_chosen_15 : decode (mB m_MO_chosen) 15 = .ok (.putfield 60, 3) := by decide +kernel
theorem d_MO_chosen_18 : decode (mB m_MO_chosen) 18 = .ok (.aload_n 0, 1) := by decide +kernel
theorem d_MO_chosen_19 : decode (mB m_MO_chosen) 19 = .ok (.getfield 60, 3) := by decide +kernel
theorem d_MO_chosen_22 : decode (mB m_MO_chosen) 22 = .ok (.ifCond .le (7), 3) := by decide +kernel
theorem d_MO_chosen_25 : decode (mB m_MO_chosen) 25 = .ok (.iconst 0, 1) := by decide +kernel
theorem d_MO_chosen_26 : decode (mB m_MO_chosen) 26 = .ok (.goto (30), 3) := by decide +kernel
theorem d_MO_chosen_29 : decode (mB m_MO_chosen) 29 = .ok (.iload_n 1, 1) := by decide +kernel
theorem d_MO_chosen_30 : decode (mB m_MO_chosen) 30 = .ok (.ifCond .ne (10), 3) := by decide +kernel
theorem d_MO_chosen_33 : decode (mB m_MO_chosen) 33 = .ok (.aload_n 0, 1) := by decide +kernel
theorem d_MO_chosen_34 : decode (mB m_MO_chosen) 34 = .ok (.getfield 200, 3) := by decide +kernel
theorem d_MO_chosen_37 : decode (mB m_MO_chosen) 37 = .ok (.goto (19), 3) := by decide +kernel
theorem d_MO_chosen_40 : decode (mB m_MO_chosen) 40 = .ok (.iload_n 1, 1) := by decide +kernel
theorem d_MO_chosen_41 : decode (mB m_MO_chosen) 41 = .ok (.iconst 1, 1) := by decide +kernel
theorem d_MO_chosen_42 : decode (mB m_MO_chosen) 42 = .ok (.if_icmp .ne (10), 3) := by decide +kernel
theorem d_MO_chosen_45 : decode (mB m_MO_chosen) 45 = .ok (.aload_n 0, 1) := by decide +kernel
theorem d_MO_chosen_46 : decode (mB m_MO_chosen) 46 = .ok (.getfield 210, 3) := by decide +kernel
theorem d_MO_chosen_49 : decode (mB m_MO_chosen) 49 = .ok (.goto (7), 3) := by decide +kernel
theorem d_MO_chosen_52 : decode (mB m_MO_chosen) 52 = .ok (.aload_n 0, 1) := by decide +kernel
theorem d_MO_chosen_53 : decode (mB m_MO_chosen) 53 = .ok (.getfield 236, 3) := by decide +kernel
theorem d_MO_chosen_56 : decode (mB m_MO_chosen) 56 = .ok (.ireturn, 1) := by decide +kernel
theorem d_MO_about_0 : decode (mB m_MO_about) 0 = .ok (.aload_n 0, 1) := by decide +kernel
theorem d_MO_about_1 : decode (mB m_MO_about) 1 = .ok (.iload_n 1, 1) := by decide +kernel
theorem d_MO_about_2 : decode (mB m_MO_about) 2 = .ok (.ifCond .lt (9), 3) := by decide +kernel
theorem d_MO_about_5 : decode (mB m_MO_about) 5 = .ok (.iload_n 1, 1) := by decide +kernel
theorem d_MO_about_6 : decode (mB m_MO_about) 6 = .ok (.bipush (10), 2) := by decide +kernel
theorem d_MO_about_8 : decode (mB m_MO_about) 8 = .ok (.if_icmp .le (7), 3) := by decide +kernel
theorem d_MO_about_11 : decode (mB m_MO_about) 11 = .ok (.iconst 1, 1) := by decide +kernel
theorem d_MO_about_12 : decode (mB m_MO_about) 12 = .ok (.goto (20), 3) := by decide +kernel
theorem d_MO_about_15 : decode (mB m_MO_about) 15 = .ok (.iload_n 1, 1) := by decide +kernel
theorem d_MO_about_16 : decode (mB m_MO_about) 16 = .ok (.iconst 5, 1) := by decide +kernel
theorem d_MO_about_17 : decode (mB m_MO_about) 17 = .ok (.if_icmp .ge (14), 3) := by decide +kernel
theorem d_MO_about_20 : decode (mB m_MO_about) 20 = .ok (.aload_n 0, 1) := by decide +kernel
theorem d_MO_about_21 : decode (mB m_MO_about) 21 = .ok (.getfield 245, 3) := by decide +kernel
theorem d_MO_about_24 : decode (mB m_MO_about) 24 = .ok (.ifCond .ne (7), 3) := by decide +kernel
theorem d_MO_about_27 : decode (mB m_MO_about) 27 = .ok (.iconst 2, 1) := by decide +kernel
theorem d_MO_about_28 : decode (mB m_MO_about) 28 = .ok (.goto (4), 3) := by decide +kernel
theorem d_MO_about_31 : decode (mB m_MO_about) 31 = .ok (.iconst 0, 1) := by decide +kernel
theorem d_MO_about_32 : decode (mB m_MO_about) 32 = .ok (.putfield 60, 3) := by decide +kernel
theorem d_MO_about_35 : decode (mB m_MO_about) 35 = .ok (.aload_n 0, 1) := by decide +kernel
theorem d_MO_about_36 : decode (mB m_MO_about) 36 = .ok (.getfield 60, 3) := by decide +kernel
theorem d_MO_about_39 : decode (mB m_MO_about) 39 = .ok (.ifCond .le (5), 3) := by decide +kernel
theorem d_MO_about_42 : decode (mB m_MO_about) 42 = .ok (.lconst 0, 1) := by decide +kernel
theorem d_MO_about_43 : decode (mB m_MO_about) 43 = .ok (.lreturn, 1) := by decide +kernel
theorem d_MO_about_44 : decode (mB m_MO_about) 44 = .ok (.iload_n 1, 1) := by decide +kernel
theorem d_MO_about_45 : decode (mB m_MO_about) 45 = .ok (.tableswitch (109) (0) (9) #[55, 60, 65, 71, 76, 81, 86, 91, 97, 103], 55) := by decide +kernel
theorem d_MO_about_100 : decode (mB m_MO_about) 100 = .ok (.aload_n 0, 1) := by decide +kernel
theorem d_MO_about_101 : decode (mB m_MO_about) 101 = .ok (.getfield 230, 3) := by decide +kernel
theorem d_MO_about_104 : decode (mB m_MO_about) 104 = .ok (.lreturn, 1) := by decide +kernel
theorem d_MO_about_105 : decode (mB m_MO_about) 105 = .ok (.aload_n 0, 1) := by decide +kernel
theorem d_MO_about_106 : decode (mB m_MO_about) 106 = .ok (.getfield 233, 3) := by decide +kernel
theorem d_MO_about_109 : decode (mB m_MO_about) 109 = .ok (.lreturn, 1) := by decide +kernel
theorem d_MO_about_110 : decode (mB m_MO_about) 110 = .ok (.aload_n 0, 1) := by decide +kernel
theorem d_MO_about_111 : decode (mB m_MO_about) 111 = .ok (.getfield 184, 3) := by decide +kernel
theorem d_MO_about_114 : decode (mB m_MO_about) 114 = .ok (.i2l, 1) := by decide +kernel
theorem d_MO_about_115 : decode (mB m_MO_about) 115 = .ok (.lreturn, 1) := by decide +kernel
theorem d_MO_about_116 : decode (mB m_MO_about) 116 = .ok (.aload_n 0, 1) := by decide +kernel
theorem d_MO_about_117 : decode (mB m_MO_about) 117 = .ok (.getfield 213, 3) := by decide +kernel
theorem d_MO_about_120 : decode (mB m_MO_about) 120 = .ok (.lreturn, 1) := by decide +kernel
theorem d_MO_about_121 : decode (mB m_MO_about) 121 = .ok (.aload_n 0, 1) := by decide +kernel
theorem d_MO_about_122 : decode (mB m_MO_about) 122 = .ok (.getfield 216, 3) := by decide +kernel
theorem d_MO_about_125 : decode (mB m_MO_about) 125 = .ok (.lreturn, 1) := by decide +kernel
theorem d_MO_about_126 : decode (mB m_MO_about) 126 = .ok (.aload_n 0, 1) := by decide +kernel
theorem d_MO_about_127 : decode (mB m_MO_about) 127 = .ok (.getfield 87, 3) := by decide +kernel
theorem d_MO_about_130 : decode (mB m_MO_about) 130 = .ok (.lreturn, 1) := by decide +kernel
theorem d_MO_about_131 : decode (mB m_MO_about) 131 = .ok (.aload_n 0, 1) := by decide +kernel
theorem d_MO_about_132 : decode (mB m_MO_about) 132 = .ok (.getfield 73, 3) := by decide +kernel
theorem d_MO_about_135 : decode (mB m_MO_about) 135 = .ok (.lreturn, 1) := by decide +kernel
theorem d_MO_about_136 : decode (mB m_MO_about) 136 = .ok (.aload_n 0, 1) := by decide +kernel
theorem d_MO_about_137 : decode (mB m_MO_about) 137 = .ok (.getfield 56, 3) := by decide +kernel
theorem d_MO_about_140 : decode (mB m_MO_about) 140 = .ok (.i2l, 1) := by decide +kernel
theorem d_MO_about_141 : decode (mB m_MO_about) 141 = .ok (.lreturn, 1) := by decide +kernel
theorem d_MO_about_142 : decode (mB m_MO_about) 142 = .ok (.aload_n 0, 1) := by decide +kernel
theorem d_MO_about_143 : decode (mB m_MO_about) 143 = .ok (.getfield 287, 3) := by decide +kernel
theorem d_MO_about_146 : decode (mB m_MO_about) 146 = .ok (.i2l, 1) := by decide +kernel
theorem d_MO_about_147 : decode (mB m_MO_about) 147 = .ok (.lreturn, 1) := by decide +kernel
theorem d_MO_about_148 : decode (mB m_MO_about) 148 = .ok (.aload_n 0, 1) := by decide +kernel
theorem d_MO_about_149 : decode (mB m_MO_about) 149 = .ok (.getfield 272, 3) := by decide +kernel
theorem d_MO_about_152 : decode (mB m_MO_about) 152 = .ok (.i2l, 1) := by decide +kernel
theorem d_MO_about_153 : decode (mB m_MO_about) 153 = .ok (.lreturn, 1) := by decide +kernel
theorem d_MO_about_154 : decode (mB m_MO_about) 154 = .ok (.aload_n 0, 1) := by decide +kernel
theorem d_MO_about_155 : decode (mB m_MO_about) 155 = .ok (.getfield 269, 3) := by decide +kernel
theorem d_MO_about_158 : decode (mB m_MO_about) 158 = .ok (.i2l, 1) := by decide +kernel
theorem d_MO_about_159 : decode (mB m_MO_about) 159 = .ok (.lreturn, 1) := by decide +kernel
