/-! decode rows of TimeKeeper$Choice -/
theorem d_CH_init_0 : decode (mB m_CH_init) 0 = .ok (.aload_n 0, 1) := by decide +kernel
theorem d_CH_init_1 : decode (mB m_CH_init) 1 = .ok (.invokespecial 3, 3) := by decide +kernel
theorem d_CH_init_4 : decode (mB m_CH_init) 4 = .ok (.aload_n 0, 1) := by decide +kernel
theorem d_CH_init_5 : decode (mB m_CH_init) 5 = .ok (.new 9, 3) := by decide +kernel
theorem d_CH_init_8 : decode (mB m_CH_init) 8 = .ok (.dup, 1) := by decide +kernel
theorem d_CH_init_9 : decode (mB m_CH_init) 9 = .ok (.invokespecial 11, 3) := by decide +kernel
theorem d_CH_init_12 : decode (mB m_CH_init) 12 = .ok (.putfield 12, 3) := by decide +kernel
theorem d_CH_init_15 : decode (mB m_CH_init) 15 = .ok (.return_, 1) := by decide +kernel
theorem d_CH_choose_0 : decode (mB m_CH_choose) 0 = .ok (.aload_n 0, 1) := by decide +kernel
theorem d_CH_choose_1 : decode (mB m_CH_choose) 1 = .ok (.getfield 12, 3) := by decide +kernel
theorem d_CH_choose_4 : decode (mB m_CH_choose) 4 = .ok (.aload_n 1, 1) := by decide +kernel
theorem d_CH_choose_5 : decode (mB m_CH_choose) 5 = .ok (.iload_n 2, 1) := by decide +kernel
theorem d_CH_choose_6 : decode (mB m_CH_choose) 6 = .ok (.invokevirtual 18, 3) := by decide +kernel
theorem d_CH_choose_9 : decode (mB m_CH_choose) 9 = .ok (.aload_n 0, 1) := by decide +kernel
theorem d_CH_choose_10 : decode (mB m_CH_choose) 10 = .ok (.aload_n 0, 1) := by decide +kernel
theorem d_CH_choose_11 : decode (mB m_CH_choose) 11 = .ok (.getfield 12, 3) := by decide +kernel
theorem d_CH_choose_14 : decode (mB m_CH_choose) 14 = .ok (.invokevirtual 22, 3) := by decide +kernel
theorem d_CH_choose_17 : decode (mB m_CH_choose) 17 = .ok (.putfield 26, 3) := by decide +kernel
theorem d_CH_choose_20 : decode (mB m_CH_choose) 20 = .ok (.aload_n 0, 1) := by decide +kernel
theorem d_CH_choose_21 : decode (mB m_CH_choose) 21 = .ok (.iconst 0, 1) := by decide +kernel
theorem d_CH_choose_22 : decode (mB m_CH_choose) 22 = .ok (.putfield 30, 3) := by decide +kernel
theorem d_CH_choose_25 : decode (mB m_CH_choose) 25 = .ok (.aload_n 0, 1) := by decide +kernel
theorem d_CH_choose_26 : decode (mB m_CH_choose) 26 = .ok (.iconst 0, 1) := by decide +kernel
theorem d_CH_choose_27 : decode (mB m_CH_choose) 27 = .ok (.putfield 33, 3) := by decide +kernel
theorem d_CH_choose_30 : decode (mB m_CH_choose) 30 = .ok (.aload_n 0, 1) := by decide +kernel
theorem d_CH_choose_31 : decode (mB m_CH_choose) 31 = .ok (.invokevirtual 36, 3) := by decide +kernel
theorem d_CH_choose_34 : decode (mB m_CH_choose) 34 = .ok (.ifCond .ne (5), 3) := by decide +kernel
theorem d_CH_choose_37 : decode (mB m_CH_choose) 37 = .ok (.iconst 0, 1) := by decide +kernel
theorem d_CH_choose_38 : decode (mB m_CH_choose) 38 = .ok (.ireturn, 1) := by decide +kernel
theorem d_CH_choose_39 : decode (mB m_CH_choose) 39 = .ok (.aload_n 0, 1) := by decide +kernel
theorem d_CH_choose_40 : decode (mB m_CH_choose) 40 = .ok (.getfield 12, 3) := by decide +kernel
theorem d_CH_choose_43 : decode (mB m_CH_choose) 43 = .ok (.aload_n 0, 1) := by decide +kernel
theorem d_CH_choose_44 : decode (mB m_CH_choose) 44 = .ok (.getfield 40, 3) := by decide +kernel
theorem d_CH_choose_47 : decode (mB m_CH_choose) 47 = .ok (.aload_n 0, 1) := by decide +kernel
theorem d_CH_choose_48 : decode (mB m_CH_choose) 48 = .ok (.getfield 44, 3) := by decide +kernel
theorem d_CH_choose_51 : decode (mB m_CH_choose) 51 = .ok (.invokevirtual 47, 3) := by decide +kernel
theorem d_CH_choose_54 : decode (mB m_CH_choose) 54 = .ok (.aload_n 0, 1) := by decide +kernel
theorem d_CH_choose_55 : decode (mB m_CH_choose) 55 = .ok (.aload_n 0, 1) := by decide +kernel
theorem d_CH_choose_56 : decode (mB m_CH_choose) 56 = .ok (.getfield 12, 3) := by decide +kernel
theorem d_CH_choose_59 : decode (mB m_CH_choose) 59 = .ok (.invokevirtual 22, 3) := by decide +kernel
theorem d_CH_choose_62 : decode (mB m_CH_choose) 62 = .ok (.putfield 30, 3) := by decide +kernel
theorem d_CH_choose_65 : decode (mB m_CH_choose) 65 = .ok (.aload_n 0, 1) := by decide +kernel
theorem d_CH_choose_66 : decode (mB m_CH_choose) 66 = .ok (.getfield 12, 3) := by decide +kernel
theorem d_CH_choose_69 : decode (mB m_CH_choose) 69 = .ok (.invokevirtual 51, 3) := by decide +kernel
theorem d_CH_choose_72 : decode (mB m_CH_choose) 72 = .ok (.aload_n 0, 1) := by decide +kernel
theorem d_CH_choose_73 : decode (mB m_CH_choose) 73 = .ok (.invokevirtual 54, 3) := by decide +kernel
theorem d_CH_choose_76 : decode (mB m_CH_choose) 76 = .ok (.aload_n 0, 1) := by decide +kernel
theorem d_CH_choose_77 : decode (mB m_CH_choose) 77 = .ok (.aload_n 0, 1) := by decide +kernel
theorem d_CH_choose_78 : decode (mB m_CH_choose) 78 = .ok (.getfield 12, 3) := by decide +kernel
theorem d_CH_choose_81 : decode (mB m_CH_choose) 81 = .ok (.invokevirtual 22, 3) := by decide +kernel
theorem d_CH_choose_84 : decode (mB m_CH_choose) 84 = .ok (.putfield 33, 3) := by decide +kernel
theorem d_CH_choose_87 : decode (mB m_CH_choose) 87 = .ok (.aload_n 0, 1) := by decide +kernel
theorem d_CH_choose_88 : decode (mB m_CH_choose) 88 = .ok (.invokevirtual 57, 3) := by decide +kernel
theorem d_CH_choose_91 : decode (mB m_CH_choose) 91 = .ok (.iconst 1, 1) := by decide +kernel
theorem d_CH_choose_92 : decode (mB m_CH_choose) 92 = .ok (.ireturn, 1) := by decide +kernel
theorem d_CH_findAgreement_0 : decode (mB m_CH_findAgreement) 0 = .ok (.iconst 0, 1) := by decide +kernel
theorem d_CH_findAgreement_1 : decode (mB m_CH_findAgreement) 1 = .ok (.istore_n 1, 1) := by decide +kernel
theorem d_CH_findAgreement_2 : decode (mB m_CH_findAgreement) 2 = .ok (.iconst 2, 1) := by decide +kernel
theorem d_CH_findAgreement_3 : decode (mB m_CH_findAgreement) 3 = .ok (.iload_n 1, 1) := by decide +kernel
theorem d_CH_findAgreement_4 : decode (mB m_CH_findAgreement) 4 = .ok (.imul, 1) := by decide +kernel
theorem d_CH_findAgreement_5 : decode (mB m_CH_findAgreement) 5 = .ok (.aload_n 0, 1) := by decide +kernel
theorem d_CH_findAgreement_6 : decode (mB m_CH_findAgreement) 6 = .ok (.getfield 12, 3) := by decide +kernel
theorem d_CH_findAgreement_9 : decode (mB m_CH_findAgreement) 9 = .ok (.getfield 60, 3) := by decide +kernel
theorem d_CH_findAgreement_12 : decode (mB m_CH_findAgreement) 12 = .ok (.if_icmp .ge (19), 3) := by decide +kernel
theorem d_CH_findAgreement_15 : decode (mB m_CH_findAgreement) 15 = .ok (.aload_n 0, 1) := by decide +kernel
theorem d_CH_findAgreement_16 : decode (mB m_CH_findAgreement) 16 = .ok (.iload_n 1, 1) := by decide +kernel
theorem d_CH_findAgreement_17 : decode (mB m_CH_findAgreement) 17 = .ok (.invokevirtual 63, 3) := by decide +kernel
theorem d_CH_findAgreement_20 : decode (mB m_CH_findAgreement) 20 = .ok (.ifCond .eq (5), 3) := by decide +kernel
theorem d_CH_findAgreement_23 : decode (mB m_CH_findAgreement) 23 = .ok (.iconst 1, 1) := by decide +kernel
theorem d_CH_findAgreement_24 : decode (mB m_CH_findAgreement) 24 = .ok (.ireturn, 1) := by decide +kernel
theorem d_CH_findAgreement_25 : decode (mB m_CH_findAgreement) 25 = .ok (.iinc 1 (1), 3) := by decide +kernel
theorem d_CH_findAgreement_28 : decode (mB m_CH_findAgreement) 28 = .ok (.goto (-26), 3) := by decide +kernel
theorem d_CH_findAgreement_31 : decode (mB m_CH_findAgreement) 31 = .ok (.iconst 0, 1) := by decide +kernel
theorem d_CH_findAgreement_32 : decode (mB m_CH_findAgreement) 32 = .ok (.ireturn, 1) := by decide +kernel
theorem d_CH_agreeBut_0 : decode (mB m_CH_agreeBut) 0 = .ok (.aload_n 0, 1) := by decide +kernel
theorem d_CH_agreeBut_1 : decode (mB m_CH_agreeBut) 1 = .ok (.getfield 12, 3) := by decide +kernel
theorem d_CH_agreeBut_4 : decode (mB m_CH_agreeBut) 4 = .ok (.getfield 60, 3) := by decide +kernel
theorem d_CH_agreeBut_7 : decode (mB m_CH_agreeBut) 7 = .ok (.iload_n 1, 1) := by decide +kernel
theorem d_CH_agreeBut_8 : decode (mB m_CH_agreeBut) 8 = .ok (.isub, 1) := by decide +kernel
theorem d_CH_agreeBut_9 : decode (mB m_CH_agreeBut) 9 = .ok (.istore_n 2, 1) := by decide +kernel
theorem d_CH_agreeBut_10 : decode (mB m_CH_agreeBut) 10 = .ok (.ldc2_w 67, 3) := by decide +kernel
theorem d_CH_agreeBut_13 : decode (mB m_CH_agreeBut) 13 = .ok (.lstore_n 3, 1) := by decide +kernel
theorem d_CH_agreeBut_14 : decode (mB m_CH_agreeBut) 14 = .ok (.ldc2_w 69, 3) := by decide +kernel
theorem d_CH_agreeBut_17 : decode (mB m_CH_agreeBut) 17 = .ok (.lstore 5, 2) := by decide +kernel
theorem d_CH_agreeBut_19 : decode (mB m_CH_agreeBut) 19 = .ok (.iconst 0, 1) := by decide +kernel
theorem d_CH_agreeBut_20 : decode (mB m_CH_agreeBut) 20 = .ok (.istore 7, 2) := by decide +kernel
theorem d_CH_agreeBut_22 : decode (mB m_CH_agreeBut) 22 = .ok (.iload 7, 2) := by decide +kernel
theorem d_CH_agreeBut_24 : decode (mB m_CH_agreeBut) 24 = .ok (.aload_n 0, 1) := by decide +kernel
theorem d_CH_agreeBut_25 : decode (mB m_CH_agreeBut) 25 = .ok (.getfield 12, 3) := by decide +kernel
theorem d_CH_agreeBut_28 : decode (mB m_CH_agreeBut) 28 = .ok (.getfield 60, 3) := by decide +kernel
theorem d_CH_agreeBut_31 : decode (mB m_CH_agreeBut) 31 = .ok (.if_icmp .ge (79), 3) := by decide +kernel
theorem d_CH_agreeBut_34 : decode (mB m_CH_agreeBut) 34 = .ok (.aload_n 0, 1) := by decide +kernel
theorem d_CH_agreeBut_35 : decode (mB m_CH_agreeBut) 35 = .ok (.getfield 12, 3) := by decide +kernel
theorem d_CH_agreeBut_38 : decode (mB m_CH_agreeBut) 38 = .ok (.aload_n 0, 1) := by decide +kernel
theorem d_CH_agreeBut_39 : decode (mB m_CH_agreeBut) 39 = .ok (.getfield 12, 3) := by decide +kernel
theorem d_CH_agreeBut_42 : decode (mB m_CH_agreeBut) 42 = .ok (.iload 7, 2) := by decide +kernel
theorem d_CH_agreeBut_44 : decode (mB m_CH_agreeBut) 44 = .ok (.invokevirtual 71, 3) := by decide +kernel
theorem d_CH_agreeBut_47 : decode (mB m_CH_agreeBut) 47 = .ok (.invokevirtual 75, 3) := by decide +kernel
theorem d_CH_agreeBut_50 : decode (mB m_CH_agreeBut) 50 = .ok (.iload_n 2, 1) := by decide +kernel
theorem d_CH_agreeBut_51 : decode (mB m_CH_agreeBut) 51 = .ok (.if_icmp .lt (17), 3) := by decide +kernel
theorem d_CH_agreeBut_54 : decode (mB m_CH_agreeBut) 54 = .ok (.lload_n 3, 1) := by decide +kernel
theorem d_CH_agreeBut_55 : decode (mB m_CH_agreeBut) 55 = .ok (.aload_n 0, 1) := by decide +kernel
theorem d_CH_agreeBut_56 : decode (mB m_CH_agreeBut) 56 = .ok (.getfield 12, 3) := by decide +kernel
theorem d_CH_agreeBut_59 : decode (mB m_CH_agreeBut) 59 = .ok (.iload 7, 2) := by decide +kernel
theorem d_CH_agreeBut_61 : decode (mB m_CH_agreeBut) 61 = .ok (.invokevirtual 71, 3) := by decide +kernel
theorem d_CH_agreeBut_64 : decode (mB m_CH_agreeBut) 64 = .ok (.invokestatic 79, 3) := by decide +kernel
theorem d_CH_agreeBut_67 : decode (mB m_CH_agreeBut) 67 = .ok (.lstore_n 3, 1) := by decide +kernel
theorem d_CH_agreeBut_68 : decode (mB m_CH_agreeBut) 68 = .ok (.aload_n 0, 1) := by decide +kernel
theorem d_CH_agreeBut_69 : decode (mB m_CH_agreeBut) 69 = .ok (.getfield 12, 3) := by decide +kernel
theorem d_CH_agreeBut_72 : decode (mB m_CH_agreeBut) 72 = .ok (.aload_n 0, 1) := by decide +kernel
theorem d_CH_agreeBut_73 : decode (mB m_CH_agreeBut) 73 = .ok (.getfield 12, 3) := by decide +kernel
theorem d_CH_agreeBut_76 : decode (mB m_CH_agreeBut) 76 = .ok (.iload 7, 2) := by decide +kernel
theorem d_CH_agreeBut_78 : decode (mB m_CH_agreeBut) 78 = .ok (.invokevirtual 85, 3) := by decide +kernel
theorem d_CH_agreeBut_81 : decode (mB m_CH_agreeBut) 81 = .ok (.invokevirtual 75, 3) := by decide +kernel
theorem d_CH_agreeBut_84 : decode (mB m_CH_agreeBut) 84 = .ok (.iload_n 2, 1) := by decide +kernel
theorem d_CH_agreeBut_85 : decode (mB m_CH_agreeBut) 85 = .ok (.if_icmp .lt (19), 3) := by decide +kernel
theorem d_CH_agreeBut_88 : decode (mB m_CH_agreeBut) 88 = .ok (.lload 5, 2) := by decide +kernel
theorem d_CH_agreeBut_90 : decode (mB m_CH_agreeBut) 90 = .ok (.aload_n 0, 1) := by decide +kernel
theorem d_CH_agreeBut_91 : decode (mB m_CH_agreeBut) 91 = .ok (.getfield 12, 3) := by decide +kernel
theorem d_CH_agreeBut_94 : decode (mB m_CH_agreeBut) 94 = .ok (.iload 7, 2) := by decide +kernel
theorem d_CH_agreeBut_96 : decode (mB m_CH_agreeBut) 96 = .ok (.invokevirtual 85, 3) := by decide +kernel
theorem d_CH_agreeBut_99 : decode (mB m_CH_agreeBut) 99 = .ok (.invokestatic 88, 3) := by decide +kernel
theorem d_CH_agreeBut_102 : decode (mB m_CH_agreeBut) 102 = .ok (.lstore 5, 2) := by decide +kernel
theorem d_CH_agreeBut_104 : decode (mB m_CH_agreeBut) 104 = .ok (.iinc 7 (1), 3) := by decide +kernel
theorem d_CH_agreeBut_107 : decode (mB m_CH_agreeBut) 107 = .ok (.goto (-85), 3) := by decide +kernel
theorem d_CH_agreeBut_110 : decode (mB m_CH_agreeBut) 110 = .ok (.lload_n 3, 1) := by decide +kernel
theorem d_CH_agreeBut_111 : decode (mB m_CH_agreeBut) 111 = .ok (.lload 5, 2) := by decide +kernel
theorem d_CH_agreeBut_113 : decode (mB m_CH_agreeBut) 113 = .ok (.lcmp, 1) := by decide +kernel
theorem d_CH_agreeBut_114 : decode (mB m_CH_agreeBut) 114 = .ok (.ifCond .gt (17), 3) := by decide +kernel
theorem d_CH_agreeBut_117 : decode (mB m_CH_agreeBut) 117 = .ok (.aload_n 0, 1) := by decide +kernel
theorem d_CH_agreeBut_118 : decode (mB m_CH_agreeBut) 118 = .ok (.getfield 12, 3) := by decide +kernel
theorem d_CH_agreeBut_121 : decode (mB m_CH_agreeBut) 121 = .ok (.lload_n 3, 1) := by decide +kernel
theorem d_CH_agreeBut_122 : decode (mB m_CH_agreeBut) 122 = .ok (.lload 5, 2) := by decide +kernel
theorem d_CH_agreeBut_124 : decode (mB m_CH_agreeBut) 124 = .ok (.invokevirtual 91, 3) := by decide +kernel
theorem d_CH_agreeBut_127 : decode (mB m_CH_agreeBut) 127 = .ok (.iload_n 2, 1) := by decide +kernel
theorem d_CH_agreeBut_128 : decode (mB m_CH_agreeBut) 128 = .ok (.if_icmp .ge (5), 3) := by decide +kernel
theorem d_CH_agreeBut_131 : decode (mB m_CH_agreeBut) 131 = .ok (.iconst 0, 1) := by decide +kernel
theorem d_CH_agreeBut_132 : decode (mB m_CH_agreeBut) 132 = .ok (.ireturn, 1) := by decide +kernel
theorem d_CH_agreeBut_133 : decode (mB m_CH_agreeBut) 133 = .ok (.aload_n 0, 1) := by decide +kernel
theorem d_CH_agreeBut_134 : decode (mB m_CH_agreeBut) 134 = .ok (.lload_n 3, 1) := by decide +kernel
theorem d_CH_agreeBut_135 : decode (mB m_CH_agreeBut) 135 = .ok (.putfield 40, 3) := by decide +kernel
theorem d_CH_agreeBut_138 : decode (mB m_CH_agreeBut) 138 = .ok (.aload_n 0, 1) := by decide +kernel
theorem d_CH_agreeBut_139 : decode (mB m_CH_agreeBut) 139 = .ok (.lload 5, 2) := by decide +kernel
theorem d_CH_agreeBut_141 : decode (mB m_CH_agreeBut) 141 = .ok (.putfield 44, 3) := by decide +kernel
theorem d_CH_agreeBut_144 : decode (mB m_CH_agreeBut) 144 = .ok (.iconst 1, 1) := by decide +kernel
theorem d_CH_agreeBut_145 : decode (mB m_CH_agreeBut) 145 = .ok (.ireturn, 1) := by decide +kernel
theorem d_CH_thinOut_0 : decode (mB m_CH_thinOut) 0 = .ok (.iconst 0, 1) := by decide +kernel
theorem d_CH_thinOut_1 : decode (mB m_CH_thinOut) 1 = .ok (.istore_n 1, 1) := by decide +kernel
theorem d_CH_thinOut_2 : decode (mB m_CH_thinOut) 2 = .ok (.iload_n 1, 1) := by decide +kernel
theorem d_CH_thinOut_3 : decode (mB m_CH_thinOut) 3 = .ok (.bipush (8), 2) := by decide +kernel
theorem d_CH_thinOut_5 : decode (mB m_CH_thinOut) 5 = .ok (.if_icmp .ge (56), 3) := by decide +kernel
theorem d_CH_thinOut_8 : decode (mB m_CH_thinOut) 8 = .ok (.aload_n 0, 1) := by decide +kernel
theorem d_CH_thinOut_9 : decode (mB m_CH_thinOut) 9 = .ok (.getfield 12, 3) := by decide +kernel
theorem d_CH_thinOut_12 : decode (mB m_CH_thinOut) 12 = .ok (.getfield 60, 3) := by decide +kernel
theorem d_CH_thinOut_15 : decode (mB m_CH_thinOut) 15 = .ok (.iconst 3, 1) := by decide +kernel
theorem d_CH_thinOut_16 : decode (mB m_CH_thinOut) 16 = .ok (.if_icmp .le (45), 3) := by decide +kernel
theorem d_CH_thinOut_19 : decode (mB m_CH_thinOut) 19 = .ok (.aload_n 0, 1) := by decide +kernel
theorem d_CH_thinOut_20 : decode (mB m_CH_thinOut) 20 = .ok (.getfield 12, 3) := by decide +kernel
theorem d_CH_thinOut_23 : decode (mB m_CH_thinOut) 23 = .ok (.invokevirtual 95, 3) := by decide +kernel
theorem d_CH_thinOut_26 : decode (mB m_CH_thinOut) 26 = .ok (.istore_n 2, 1) := by decide +kernel
theorem d_CH_thinOut_27 : decode (mB m_CH_thinOut) 27 = .ok (.aload_n 0, 1) := by decide +kernel
theorem d_CH_thinOut_28 : decode (mB m_CH_thinOut) 28 = .ok (.getfield 12, 3) := by decide +kernel
theorem d_CH_thinOut_31 : decode (mB m_CH_thinOut) 31 = .ok (.iload_n 2, 1) := by decide +kernel
theorem d_CH_thinOut_32 : decode (mB m_CH_thinOut) 32 = .ok (.invokevirtual 98, 3) := by decide +kernel
theorem d_CH_thinOut_35 : decode (mB m_CH_thinOut) 35 = .ok (.aload_n 0, 1) := by decide +kernel
theorem d_CH_thinOut_36 : decode (mB m_CH_thinOut) 36 = .ok (.getfield 12, 3) := by decide +kernel
theorem d_CH_thinOut_39 : decode (mB m_CH_thinOut) 39 = .ok (.invokevirtual 101, 3) := by decide +kernel
theorem d_CH_thinOut_42 : decode (mB m_CH_thinOut) 42 = .ok (.lcmp, 1) := by decide +kernel
theorem d_CH_thinOut_43 : decode (mB m_CH_thinOut) 43 = .ok (.ifCond .ge (4), 3) := by decide +kernel
theorem d_CH_thinOut_46 : decode (mB m_CH_thinOut) 46 = .ok (.return_, 1) := by decide +kernel
theorem d_CH_thinOut_47 : decode (mB m_CH_thinOut) 47 = .ok (.aload_n 0, 1) := by decide +kernel
theorem d_CH_thinOut_48 : decode (mB m_CH_thinOut) 48 = .ok (.getfield 12, 3) := by decide +kernel
theorem d_CH_thinOut_51 : decode (mB m_CH_thinOut) 51 = .ok (.iload_n 2, 1) := by decide +kernel
theorem d_CH_thinOut_52 : decode (mB m_CH_thinOut) 52 = .ok (.invokevirtual 105, 3) := by decide +kernel
theorem d_CH_thinOut_55 : decode (mB m_CH_thinOut) 55 = .ok (.iinc 1 (1), 3) := by decide +kernel
theorem d_CH_thinOut_58 : decode (mB m_CH_thinOut) 58 = .ok (.goto (-56), 3) := by decide +kernel
theorem d_CH_thinOut_61 : decode (mB m_CH_thinOut) 61 = .ok (.return_, 1) := by decide +kernel
theorem d_CH_conclude_0 : decode (mB m_CH_conclude) 0 = .ok (.aload_n 0, 1) := by decide +kernel
theorem d_CH_conclude_1 : decode (mB m_CH_conclude) 1 = .ok (.aload_n 0, 1) := by decide +kernel
theorem d_CH_conclude_2 : decode (mB m_CH_conclude) 2 = .ok (.getfield 12, 3) := by decide +kernel
theorem d_CH_conclude_5 : decode (mB m_CH_conclude) 5 = .ok (.invokevirtual 109, 3) := by decide +kernel
theorem d_CH_conclude_8 : decode (mB m_CH_conclude) 8 = .ok (.putfield 112, 3) := by decide +kernel
theorem d_CH_conclude_11 : decode (mB m_CH_conclude) 11 = .ok (.aload_n 0, 1) := by decide +kernel
theorem d_CH_conclude_12 : decode (mB m_CH_conclude) 12 = .ok (.aload_n 0, 1) := by decide +kernel
theorem d_CH_conclude_13 : decode (mB m_CH_conclude) 13 = .ok (.getfield 12, 3) := by decide +kernel
theorem d_CH_conclude_16 : decode (mB m_CH_conclude) 16 = .ok (.getfield 115, 3) := by decide +kernel
theorem d_CH_conclude_19 : decode (mB m_CH_conclude) 19 = .ok (.iconst 0, 1) := by decide +kernel
theorem d_CH_conclude_20 : decode (mB m_CH_conclude) 20 = .ok (.laload, 1) := by decide +kernel
theorem d_CH_conclude_21 : decode (mB m_CH_conclude) 21 = .ok (.aload_n 0, 1) := by decide +kernel
theorem d_CH_conclude_22 : decode (mB m_CH_conclude) 22 = .ok (.getfield 12, 3) := by decide +kernel
theorem d_CH_conclude_25 : decode (mB m_CH_conclude) 25 = .ok (.getfield 119, 3) := by decide +kernel
theorem d_CH_conclude_28 : decode (mB m_CH_conclude) 28 = .ok (.aload_n 0, 1) := by decide +kernel
theorem d_CH_conclude_29 : decode (mB m_CH_conclude) 29 = .ok (.getfield 12, 3) := by decide +kernel
theorem d_CH_conclude_32 : decode (mB m_CH_conclude) 32 = .ok (.getfield 60, 3) := by decide +kernel
theorem d_CH_conclude_35 : decode (mB m_CH_conclude) 35 = .ok (.aload_n 0, 1) := by decide +kernel
theorem d_CH_conclude_36 : decode (mB m_CH_conclude) 36 = .ok (.getfield 112, 3) := by decide +kernel
theorem d_CH_conclude_39 : decode (mB m_CH_conclude) 39 = .ok (.iconst (-1), 1) := by decide +kernel
theorem d_CH_conclude_40 : decode (mB m_CH_conclude) 40 = .ok (.invokestatic 122, 3) := by decide +kernel
theorem d_CH_conclude_43 : decode (mB m_CH_conclude) 43 = .ok (.invokestatic 88, 3) := by decide +kernel
theorem d_CH_conclude_46 : decode (mB m_CH_conclude) 46 = .ok (.putfield 126, 3) := by decide +kernel
theorem d_CH_conclude_49 : decode (mB m_CH_conclude) 49 = .ok (.aload_n 0, 1) := by decide +kernel
theorem d_CH_conclude_50 : decode (mB m_CH_conclude) 50 = .ok (.aload_n 0, 1) := by decide +kernel
theorem d_CH_conclude_51 : decode (mB m_CH_conclude) 51 = .ok (.getfield 12, 3) := by decide +kernel
theorem d_CH_conclude_54 : decode (mB m_CH_conclude) 54 = .ok (.getfield 129, 3) := by decide +kernel
theorem d_CH_conclude_57 : decode (mB m_CH_conclude) 57 = .ok (.iconst 0, 1) := by decide +kernel
theorem d_CH_conclude_58 : decode (mB m_CH_conclude) 58 = .ok (.iaload, 1) := by decide +kernel
theorem d_CH_conclude_59 : decode (mB m_CH_conclude) 59 = .ok (.iconst 1, 1) := by decide +kernel
theorem d_CH_conclude_60 : decode (mB m_CH_conclude) 60 = .ok (.iadd, 1) := by decide +kernel
theorem d_CH_conclude_61 : decode (mB m_CH_conclude) 61 = .ok (.putfield 133, 3) := by decide +kernel
theorem d_CH_conclude_64 : decode (mB m_CH_conclude) 64 = .ok (.aload_n 0, 1) := by decide +kernel
theorem d_CH_conclude_65 : decode (mB m_CH_conclude) 65 = .ok (.iconst 1, 1) := by decide +kernel
theorem d_CH_conclude_66 : decode (mB m_CH_conclude) 66 = .ok (.putfield 136, 3) := by decide +kernel
theorem d_CH_conclude_69 : decode (mB m_CH_conclude) 69 = .ok (.return_, 1) := by decide +kernel
