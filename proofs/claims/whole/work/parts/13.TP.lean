/-! decode rows of TimeKeeper$Timepiece -/
theorem d_TP_init_0 : decode (mB m_TP_init) 0 = .ok (.aload_n 0, 1) := by decide +kernel
theorem d_TP_init_1 : decode (mB m_TP_init) 1 = .ok (.invokespecial 3, 3) := by decide +kernel
theorem d_TP_init_4 : decode (mB m_TP_init) 4 = .ok (.aload_n 0, 1) := by decide +kernel
theorem d_TP_init_5 : decode (mB m_TP_init) 5 = .ok (.bipush (6), 2) := by decide +kernel
theorem d_TP_init_7 : decode (mB m_TP_init) 7 = .ok (.putfield 9, 3) := by decide +kernel
theorem d_TP_init_10 : decode (mB m_TP_init) 10 = .ok (.aload_n 0, 1) := by decide +kernel
theorem d_TP_init_11 : decode (mB m_TP_init) 11 = .ok (.iconst (-1), 1) := by decide +kernel
theorem d_TP_init_12 : decode (mB m_TP_init) 12 = .ok (.putfield 15, 3) := by decide +kernel
theorem d_TP_init_15 : decode (mB m_TP_init) 15 = .ok (.return_, 1) := by decide +kernel
theorem d_TP_run_0 : decode (mB m_TP_run) 0 = .ok (.ldc2_w 18, 3) := by decide +kernel
theorem d_TP_run_3 : decode (mB m_TP_run) 3 = .ok (.aload_n 0, 1) := by decide +kernel
theorem d_TP_run_4 : decode (mB m_TP_run) 4 = .ok (.getfield 20, 3) := by decide +kernel
theorem d_TP_run_7 : decode (mB m_TP_run) 7 = .ok (.i2l, 1) := by decide +kernel
theorem d_TP_run_8 : decode (mB m_TP_run) 8 = .ok (.ladd, 1) := by decide +kernel
theorem d_TP_run_9 : decode (mB m_TP_run) 9 = .ok (.aload_n 0, 1) := by decide +kernel
theorem d_TP_run_10 : decode (mB m_TP_run) 10 = .ok (.getfield 23, 3) := by decide +kernel
theorem d_TP_run_13 : decode (mB m_TP_run) 13 = .ok (.ladd, 1) := by decide +kernel
theorem d_TP_run_14 : decode (mB m_TP_run) 14 = .ok (.lstore_n 2, 1) := by decide +kernel
theorem d_TP_run_15 : decode (mB m_TP_run) 15 = .ok (.iconst 0, 1) := by decide +kernel
theorem d_TP_run_16 : decode (mB m_TP_run) 16 = .ok (.istore 4, 2) := by decide +kernel
theorem d_TP_run_18 : decode (mB m_TP_run) 18 = .ok (.iload 4, 2) := by decide +kernel
theorem d_TP_run_20 : decode (mB m_TP_run) 20 = .ok (.iload_n 1, 1) := by decide +kernel
theorem d_TP_run_21 : decode (mB m_TP_run) 21 = .ok (.if_icmp .ge (68), 3) := by decide +kernel
theorem d_TP_run_24 : decode (mB m_TP_run) 24 = .ok (.aload_n 0, 1) := by decide +kernel
theorem d_TP_run_25 : decode (mB m_TP_run) 25 = .ok (.getfield 27, 3) := by decide +kernel
theorem d_TP_run_28 : decode (mB m_TP_run) 28 = .ok (.lconst 0, 1) := by decide +kernel
theorem d_TP_run_29 : decode (mB m_TP_run) 29 = .ok (.lcmp, 1) := by decide +kernel
theorem d_TP_run_30 : decode (mB m_TP_run) 30 = .ok (.ifCond .eq (59), 3) := by decide +kernel
theorem d_TP_run_33 : decode (mB m_TP_run) 33 = .ok (.aload_n 0, 1) := by decide +kernel
theorem d_TP_run_34 : decode (mB m_TP_run) 34 = .ok (.getfield 27, 3) := by decide +kernel
theorem d_TP_run_37 : decode (mB m_TP_run) 37 = .ok (.ldc2_w 30, 3) := by decide +kernel
theorem d_TP_run_40 : decode (mB m_TP_run) 40 = .ok (.ldiv, 1) := by decide +kernel
theorem d_TP_run_41 : decode (mB m_TP_run) 41 = .ok (.lstore 5, 2) := by decide +kernel
theorem d_TP_run_43 : decode (mB m_TP_run) 43 = .ok (.lload 5, 2) := by decide +kernel
theorem d_TP_run_45 : decode (mB m_TP_run) 45 = .ok (.lconst 0, 1) := by decide +kernel
theorem d_TP_run_46 : decode (mB m_TP_run) 46 = .ok (.lcmp, 1) := by decide +kernel
theorem d_TP_run_47 : decode (mB m_TP_run) 47 = .ok (.ifCond .ne (10), 3) := by decide +kernel
theorem d_TP_run_50 : decode (mB m_TP_run) 50 = .ok (.aload_n 0, 1) := by decide +kernel
theorem d_TP_run_51 : decode (mB m_TP_run) 51 = .ok (.getfield 27, 3) := by decide +kernel
theorem d_TP_run_54 : decode (mB m_TP_run) 54 = .ok (.goto (5), 3) := by decide +kernel
theorem d_TP_run_57 : decode (mB m_TP_run) 57 = .ok (.lload 5, 2) := by decide +kernel
theorem d_TP_run_59 : decode (mB m_TP_run) 59 = .ok (.lstore 7, 2) := by decide +kernel
theorem d_TP_run_61 : decode (mB m_TP_run) 61 = .ok (.aload_n 0, 1) := by decide +kernel
theorem d_TP_run_62 : decode (mB m_TP_run) 62 = .ok (.dup, 1) := by decide +kernel
theorem d_TP_run_63 : decode (mB m_TP_run) 63 = .ok (.getfield 32, 3) := by decide +kernel
theorem d_TP_run_66 : decode (mB m_TP_run) 66 = .ok (.lload 7, 2) := by decide +kernel
theorem d_TP_run_68 : decode (mB m_TP_run) 68 = .ok (.ladd, 1) := by decide +kernel
theorem d_TP_run_69 : decode (mB m_TP_run) 69 = .ok (.putfield 32, 3) := by decide +kernel
theorem d_TP_run_72 : decode (mB m_TP_run) 72 = .ok (.aload_n 0, 1) := by decide +kernel
theorem d_TP_run_73 : decode (mB m_TP_run) 73 = .ok (.dup, 1) := by decide +kernel
theorem d_TP_run_74 : decode (mB m_TP_run) 74 = .ok (.getfield 27, 3) := by decide +kernel
theorem d_TP_run_77 : decode (mB m_TP_run) 77 = .ok (.lload 7, 2) := by decide +kernel
theorem d_TP_run_79 : decode (mB m_TP_run) 79 = .ok (.lsub, 1) := by decide +kernel
theorem d_TP_run_80 : decode (mB m_TP_run) 80 = .ok (.putfield 27, 3) := by decide +kernel
theorem d_TP_run_83 : decode (mB m_TP_run) 83 = .ok (.iinc 4 (1), 3) := by decide +kernel
theorem d_TP_run_86 : decode (mB m_TP_run) 86 = .ok (.goto (-68), 3) := by decide +kernel
theorem d_TP_run_89 : decode (mB m_TP_run) 89 = .ok (.aload_n 0, 1) := by decide +kernel
theorem d_TP_run_90 : decode (mB m_TP_run) 90 = .ok (.dup, 1) := by decide +kernel
theorem d_TP_run_91 : decode (mB m_TP_run) 91 = .ok (.getfield 32, 3) := by decide +kernel
theorem d_TP_run_94 : decode (mB m_TP_run) 94 = .ok (.iload_n 1, 1) := by decide +kernel
theorem d_TP_run_95 : decode (mB m_TP_run) 95 = .ok (.i2l, 1) := by decide +kernel
theorem d_TP_run_96 : decode (mB m_TP_run) 96 = .ok (.lload_n 2, 1) := by decide +kernel
theorem d_TP_run_97 : decode (mB m_TP_run) 97 = .ok (.lmul, 1) := by decide +kernel
theorem d_TP_run_98 : decode (mB m_TP_run) 98 = .ok (.ladd, 1) := by decide +kernel
theorem d_TP_run_99 : decode (mB m_TP_run) 99 = .ok (.putfield 32, 3) := by decide +kernel
theorem d_TP_run_102 : decode (mB m_TP_run) 102 = .ok (.aload_n 0, 1) := by decide +kernel
theorem d_TP_run_103 : decode (mB m_TP_run) 103 = .ok (.dup, 1) := by decide +kernel
theorem d_TP_run_104 : decode (mB m_TP_run) 104 = .ok (.getfield 35, 3) := by decide +kernel
theorem d_TP_run_107 : decode (mB m_TP_run) 107 = .ok (.iload_n 1, 1) := by decide +kernel
theorem d_TP_run_108 : decode (mB m_TP_run) 108 = .ok (.iadd, 1) := by decide +kernel
theorem d_TP_run_109 : decode (mB m_TP_run) 109 = .ok (.putfield 35, 3) := by decide +kernel
theorem d_TP_run_112 : decode (mB m_TP_run) 112 = .ok (.return_, 1) := by decide +kernel
theorem d_TP_lead_0 : decode (mB m_TP_lead) 0 = .ok (.lload_n 1, 1) := by decide +kernel
theorem d_TP_lead_1 : decode (mB m_TP_lead) 1 = .ok (.invokestatic 38, 3) := by decide +kernel
theorem d_TP_lead_4 : decode (mB m_TP_lead) 4 = .ok (.ldc2_w 44, 3) := by decide +kernel
theorem d_TP_lead_7 : decode (mB m_TP_lead) 7 = .ok (.lcmp, 1) := by decide +kernel
theorem d_TP_lead_8 : decode (mB m_TP_lead) 8 = .ok (.ifCond .le (9), 3) := by decide +kernel
theorem d_TP_lead_11 : decode (mB m_TP_lead) 11 = .ok (.aload_n 0, 1) := by decide +kernel
theorem d_TP_lead_12 : decode (mB m_TP_lead) 12 = .ok (.lload_n 1, 1) := by decide +kernel
theorem d_TP_lead_13 : decode (mB m_TP_lead) 13 = .ok (.invokevirtual 46, 3) := by decide +kernel
theorem d_TP_lead_16 : decode (mB m_TP_lead) 16 = .ok (.ireturn, 1) := by decide +kernel
theorem d_TP_lead_17 : decode (mB m_TP_lead) 17 = .ok (.lload_n 1, 1) := by decide +kernel
theorem d_TP_lead_18 : decode (mB m_TP_lead) 18 = .ok (.sipush (1024), 3) := by decide +kernel
theorem d_TP_lead_21 : decode (mB m_TP_lead) 21 = .ok (.aload_n 0, 1) := by decide +kernel
theorem d_TP_lead_22 : decode (mB m_TP_lead) 22 = .ok (.invokevirtual 50, 3) := by decide +kernel
theorem d_TP_lead_25 : decode (mB m_TP_lead) 25 = .ok (.invokestatic 54, 3) := by decide +kernel
theorem d_TP_lead_28 : decode (mB m_TP_lead) 28 = .ok (.i2l, 1) := by decide +kernel
theorem d_TP_lead_29 : decode (mB m_TP_lead) 29 = .ok (.lmul, 1) := by decide +kernel
theorem d_TP_lead_30 : decode (mB m_TP_lead) 30 = .ok (.lstore 5, 2) := by decide +kernel
theorem d_TP_lead_32 : decode (mB m_TP_lead) 32 = .ok (.aload_n 0, 1) := by decide +kernel
theorem d_TP_lead_33 : decode (mB m_TP_lead) 33 = .ok (.getfield 23, 3) := by decide +kernel
theorem d_TP_lead_36 : decode (mB m_TP_lead) 36 = .ok (.lload 5, 2) := by decide +kernel
theorem d_TP_lead_38 : decode (mB m_TP_lead) 38 = .ok (.iconst 2, 1) := by decide +kernel
theorem d_TP_lead_39 : decode (mB m_TP_lead) 39 = .ok (.aload_n 0, 1) := by decide +kernel
theorem d_TP_lead_40 : decode (mB m_TP_lead) 40 = .ok (.getfield 9, 3) := by decide +kernel
theorem d_TP_lead_43 : decode (mB m_TP_lead) 43 = .ok (.imul, 1) := by decide +kernel
theorem d_TP_lead_44 : decode (mB m_TP_lead) 44 = .ok (.iconst 4, 1) := by decide +kernel
theorem d_TP_lead_45 : decode (mB m_TP_lead) 45 = .ok (.iadd, 1) := by decide +kernel
theorem d_TP_lead_46 : decode (mB m_TP_lead) 46 = .ok (.lshr, 1) := by decide +kernel
theorem d_TP_lead_47 : decode (mB m_TP_lead) 47 = .ok (.ladd, 1) := by decide +kernel
theorem d_TP_lead_48 : decode (mB m_TP_lead) 48 = .ok (.lstore 7, 2) := by decide +kernel
theorem d_TP_lead_50 : decode (mB m_TP_lead) 50 = .ok (.aload_n 0, 1) := by decide +kernel
theorem d_TP_lead_51 : decode (mB m_TP_lead) 51 = .ok (.ldc2_w 58, 3) := by decide +kernel
theorem d_TP_lead_54 : decode (mB m_TP_lead) 54 = .ok (.ldc2_w 60, 3) := by decide +kernel
theorem d_TP_lead_57 : decode (mB m_TP_lead) 57 = .ok (.lload 7, 2) := by decide +kernel
theorem d_TP_lead_59 : decode (mB m_TP_lead) 59 = .ok (.invokestatic 62, 3) := by decide +kernel
theorem d_TP_lead_62 : decode (mB m_TP_lead) 62 = .ok (.invokestatic 65, 3) := by decide +kernel
theorem d_TP_lead_65 : decode (mB m_TP_lead) 65 = .ok (.putfield 23, 3) := by decide +kernel
theorem d_TP_lead_68 : decode (mB m_TP_lead) 68 = .ok (.aload_n 0, 1) := by decide +kernel
theorem d_TP_lead_69 : decode (mB m_TP_lead) 69 = .ok (.lload_n 1, 1) := by decide +kernel
theorem d_TP_lead_70 : decode (mB m_TP_lead) 70 = .ok (.putfield 27, 3) := by decide +kernel
theorem d_TP_lead_73 : decode (mB m_TP_lead) 73 = .ok (.aload_n 0, 1) := by decide +kernel
theorem d_TP_lead_74 : decode (mB m_TP_lead) 74 = .ok (.invokevirtual 68, 3) := by decide +kernel
theorem d_TP_lead_77 : decode (mB m_TP_lead) 77 = .ok (.aload_n 0, 1) := by decide +kernel
theorem d_TP_lead_78 : decode (mB m_TP_lead) 78 = .ok (.lload_n 1, 1) := by decide +kernel
theorem d_TP_lead_79 : decode (mB m_TP_lead) 79 = .ok (.invokestatic 38, 3) := by decide +kernel
theorem d_TP_lead_82 : decode (mB m_TP_lead) 82 = .ok (.ldc2_w 71, 3) := by decide +kernel
theorem d_TP_lead_85 : decode (mB m_TP_lead) 85 = .ok (.lload_n 3, 1) := by decide +kernel
theorem d_TP_lead_86 : decode (mB m_TP_lead) 86 = .ok (.lmul, 1) := by decide +kernel
theorem d_TP_lead_87 : decode (mB m_TP_lead) 87 = .ok (.lcmp, 1) := by decide +kernel
theorem d_TP_lead_88 : decode (mB m_TP_lead) 88 = .ok (.ifCond .ge (7), 3) := by decide +kernel
theorem d_TP_lead_91 : decode (mB m_TP_lead) 91 = .ok (.iconst 1, 1) := by decide +kernel
theorem d_TP_lead_92 : decode (mB m_TP_lead) 92 = .ok (.goto (4), 3) := by decide +kernel
theorem d_TP_lead_95 : decode (mB m_TP_lead) 95 = .ok (.iconst 0, 1) := by decide +kernel
theorem d_TP_lead_96 : decode (mB m_TP_lead) 96 = .ok (.invokevirtual 73, 3) := by decide +kernel
theorem d_TP_lead_99 : decode (mB m_TP_lead) 99 = .ok (.iconst 0, 1) := by decide +kernel
theorem d_TP_lead_100 : decode (mB m_TP_lead) 100 = .ok (.ireturn, 1) := by decide +kernel
theorem d_TP_step_0 : decode (mB m_TP_step) 0 = .ok (.aload_n 0, 1) := by decide +kernel
theorem d_TP_step_1 : decode (mB m_TP_step) 1 = .ok (.getfield 15, 3) := by decide +kernel
theorem d_TP_step_4 : decode (mB m_TP_step) 4 = .ok (.iconst (-1), 1) := by decide +kernel
theorem d_TP_step_5 : decode (mB m_TP_step) 5 = .ok (.if_icmp .eq (15), 3) := by decide +kernel
theorem d_TP_step_8 : decode (mB m_TP_step) 8 = .ok (.aload_n 0, 1) := by decide +kernel
theorem d_TP_step_9 : decode (mB m_TP_step) 9 = .ok (.invokevirtual 50, 3) := by decide +kernel
theorem d_TP_step_12 : decode (mB m_TP_step) 12 = .ok (.sipush (300), 3) := by decide +kernel
theorem d_TP_step_15 : decode (mB m_TP_step) 15 = .ok (.if_icmp .ge (5), 3) := by decide +kernel
theorem d_TP_step_18 : decode (mB m_TP_step) 18 = .ok (.iconst 0, 1) := by decide +kernel
theorem d_TP_step_19 : decode (mB m_TP_step) 19 = .ok (.ireturn, 1) := by decide +kernel
theorem d_TP_step_20 : decode (mB m_TP_step) 20 = .ok (.aload_n 0, 1) := by decide +kernel
theorem d_TP_step_21 : decode (mB m_TP_step) 21 = .ok (.dup, 1) := by decide +kernel
theorem d_TP_step_22 : decode (mB m_TP_step) 22 = .ok (.getfield 32, 3) := by decide +kernel
theorem d_TP_step_25 : decode (mB m_TP_step) 25 = .ok (.lload_n 1, 1) := by decide +kernel
theorem d_TP_step_26 : decode (mB m_TP_step) 26 = .ok (.ladd, 1) := by decide +kernel
theorem d_TP_step_27 : decode (mB m_TP_step) 27 = .ok (.putfield 32, 3) := by decide +kernel
theorem d_TP_step_30 : decode (mB m_TP_step) 30 = .ok (.aload_n 0, 1) := by decide +kernel
theorem d_TP_step_31 : decode (mB m_TP_step) 31 = .ok (.lconst 0, 1) := by decide +kernel
theorem d_TP_step_32 : decode (mB m_TP_step) 32 = .ok (.putfield 27, 3) := by decide +kernel
theorem d_TP_step_35 : decode (mB m_TP_step) 35 = .ok (.aload_n 0, 1) := by decide +kernel
theorem d_TP_step_36 : decode (mB m_TP_step) 36 = .ok (.lconst 0, 1) := by decide +kernel
theorem d_TP_step_37 : decode (mB m_TP_step) 37 = .ok (.putfield 23, 3) := by decide +kernel
theorem d_TP_step_40 : decode (mB m_TP_step) 40 = .ok (.aload_n 0, 1) := by decide +kernel
theorem d_TP_step_41 : decode (mB m_TP_step) 41 = .ok (.dup, 1) := by decide +kernel
theorem d_TP_step_42 : decode (mB m_TP_step) 42 = .ok (.getfield 77, 3) := by decide +kernel
theorem d_TP_step_45 : decode (mB m_TP_step) 45 = .ok (.iconst 1, 1) := by decide +kernel
theorem d_TP_step_46 : decode (mB m_TP_step) 46 = .ok (.iadd, 1) := by decide +kernel
theorem d_TP_step_47 : decode (mB m_TP_step) 47 = .ok (.putfield 77, 3) := by decide +kernel
theorem d_TP_step_50 : decode (mB m_TP_step) 50 = .ok (.aload_n 0, 1) := by decide +kernel
theorem d_TP_step_51 : decode (mB m_TP_step) 51 = .ok (.invokevirtual 68, 3) := by decide +kernel
theorem d_TP_step_54 : decode (mB m_TP_step) 54 = .ok (.iconst 1, 1) := by decide +kernel
theorem d_TP_step_55 : decode (mB m_TP_step) 55 = .ok (.ireturn, 1) := by decide +kernel
theorem d_TP_secondsSinceLed_0 : decode (mB m_TP_secondsSinceLed) 0 = .ok (.aload_n 0, 1) := by decide +kernel
theorem d_TP_secondsSinceLed_1 : decode (mB m_TP_secondsSinceLed) 1 = .ok (.getfield 15, 3) := by decide +kernel
theorem d_TP_secondsSinceLed_4 : decode (mB m_TP_secondsSinceLed) 4 = .ok (.iconst (-1), 1) := by decide +kernel
theorem d_TP_secondsSinceLed_5 : decode (mB m_TP_secondsSinceLed) 5 = .ok (.if_icmp .ne (7), 3) := by decide +kernel
theorem d_TP_secondsSinceLed_8 : decode (mB m_TP_secondsSinceLed) 8 = .ok (.iconst 0, 1) := by decide +kernel
theorem d_TP_secondsSinceLed_9 : decode (mB m_TP_secondsSinceLed) 9 = .ok (.goto (12), 3) := by decide +kernel
theorem d_TP_secondsSinceLed_12 : decode (mB m_TP_secondsSinceLed) 12 = .ok (.aload_n 0, 1) := by decide +kernel
theorem d_TP_secondsSinceLed_13 : decode (mB m_TP_secondsSinceLed) 13 = .ok (.getfield 35, 3) := by decide +kernel
theorem d_TP_secondsSinceLed_16 : decode (mB m_TP_secondsSinceLed) 16 = .ok (.aload_n 0, 1) := by decide +kernel
theorem d_TP_secondsSinceLed_17 : decode (mB m_TP_secondsSinceLed) 17 = .ok (.getfield 15, 3) := by decide +kernel
theorem d_TP_secondsSinceLed_20 : decode (mB m_TP_secondsSinceLed) 20 = .ok (.isub, 1) := by decide +kernel
theorem d_TP_secondsSinceLed_21 : decode (mB m_TP_secondsSinceLed) 21 = .ok (.ireturn, 1) := by decide +kernel
theorem d_TP_markLed_0 : decode (mB m_TP_markLed) 0 = .ok (.aload_n 0, 1) := by decide +kernel
theorem d_TP_markLed_1 : decode (mB m_TP_markLed) 1 = .ok (.aload_n 0, 1) := by decide +kernel
theorem d_TP_markLed_2 : decode (mB m_TP_markLed) 2 = .ok (.getfield 35, 3) := by decide +kernel
theorem d_TP_markLed_5 : decode (mB m_TP_markLed) 5 = .ok (.putfield 15, 3) := by decide +kernel
theorem d_TP_markLed_8 : decode (mB m_TP_markLed) 8 = .ok (.aload_n 0, 1) := by decide +kernel
theorem d_TP_markLed_9 : decode (mB m_TP_markLed) 9 = .ok (.dup, 1) := by decide +kernel
theorem d_TP_markLed_10 : decode (mB m_TP_markLed) 10 = .ok (.getfield 80, 3) := by decide +kernel
theorem d_TP_markLed_13 : decode (mB m_TP_markLed) 13 = .ok (.iconst 1, 1) := by decide +kernel
theorem d_TP_markLed_14 : decode (mB m_TP_markLed) 14 = .ok (.iadd, 1) := by decide +kernel
theorem d_TP_markLed_15 : decode (mB m_TP_markLed) 15 = .ok (.putfield 80, 3) := by decide +kernel
theorem d_TP_markLed_18 : decode (mB m_TP_markLed) 18 = .ok (.return_, 1) := by decide +kernel
theorem d_TP_judge_0 : decode (mB m_TP_judge) 0 = .ok (.aload_n 0, 1) := by decide +kernel
theorem d_TP_judge_1 : decode (mB m_TP_judge) 1 = .ok (.dup, 1) := by decide +kernel
theorem d_TP_judge_2 : decode (mB m_TP_judge) 2 = .ok (.getfield 83, 3) := by decide +kernel
theorem d_TP_judge_5 : decode (mB m_TP_judge) 5 = .ok (.iload_n 1, 1) := by decide +kernel
theorem d_TP_judge_6 : decode (mB m_TP_judge) 6 = .ok (.ifCond .eq (10), 3) := by decide +kernel
theorem d_TP_judge_9 : decode (mB m_TP_judge) 9 = .ok (.aload_n 0, 1) := by decide +kernel
theorem d_TP_judge_10 : decode (mB m_TP_judge) 10 = .ok (.getfield 9, 3) := by decide +kernel
theorem d_TP_judge_13 : decode (mB m_TP_judge) 13 = .ok (.goto (10), 3) := by decide +kernel
theorem d_TP_judge_16 : decode (mB m_TP_judge) 16 = .ok (.bipush (-2), 2) := by decide +kernel
theorem d_TP_judge_18 : decode (mB m_TP_judge) 18 = .ok (.aload_n 0, 1) := by decide +kernel
theorem d_TP_judge_19 : decode (mB m_TP_judge) 19 = .ok (.getfield 9, 3) := by decide +kernel
theorem d_TP_judge_22 : decode (mB m_TP_judge) 22 = .ok (.imul, 1) := by decide +kernel
theorem d_TP_judge_23 : decode (mB m_TP_judge) 23 = .ok (.iadd, 1) := by decide +kernel
theorem d_TP_judge_24 : decode (mB m_TP_judge) 24 = .ok (.putfield 83, 3) := by decide +kernel
theorem d_TP_judge_27 : decode (mB m_TP_judge) 27 = .ok (.aload_n 0, 1) := by decide +kernel
theorem d_TP_judge_28 : decode (mB m_TP_judge) 28 = .ok (.getfield 83, 3) := by decide +kernel
theorem d_TP_judge_31 : decode (mB m_TP_judge) 31 = .ok (.bipush (30), 2) := by decide +kernel
theorem d_TP_judge_33 : decode (mB m_TP_judge) 33 = .ok (.if_icmp .le (26), 3) := by decide +kernel
theorem d_TP_judge_36 : decode (mB m_TP_judge) 36 = .ok (.aload_n 0, 1) := by decide +kernel
theorem d_TP_judge_37 : decode (mB m_TP_judge) 37 = .ok (.iconst 0, 1) := by decide +kernel
theorem d_TP_judge_38 : decode (mB m_TP_judge) 38 = .ok (.putfield 83, 3) := by decide +kernel
theorem d_TP_judge_41 : decode (mB m_TP_judge) 41 = .ok (.aload_n 0, 1) := by decide +kernel
theorem d_TP_judge_42 : decode (mB m_TP_judge) 42 = .ok (.bipush (10), 2) := by decide +kernel
theorem d_TP_judge_44 : decode (mB m_TP_judge) 44 = .ok (.aload_n 0, 1) := by decide +kernel
theorem d_TP_judge_45 : decode (mB m_TP_judge) 45 = .ok (.getfield 9, 3) := by decide +kernel
theorem d_TP_judge_48 : decode (mB m_TP_judge) 48 = .ok (.iconst 1, 1) := by decide +kernel
theorem d_TP_judge_49 : decode (mB m_TP_judge) 49 = .ok (.iadd, 1) := by decide +kernel
theorem d_TP_judge_50 : decode (mB m_TP_judge) 50 = .ok (.invokestatic 54, 3) := by decide +kernel
theorem d_TP_judge_53 : decode (mB m_TP_judge) 53 = .ok (.putfield 9, 3) := by decide +kernel
theorem d_TP_judge_56 : decode (mB m_TP_judge) 56 = .ok (.goto (31), 3) := by decide +kernel
theorem d_TP_judge_59 : decode (mB m_TP_judge) 59 = .ok (.aload_n 0, 1) := by decide +kernel
theorem d_TP_judge_60 : decode (mB m_TP_judge) 60 = .ok (.getfield 83, 3) := by decide +kernel
theorem d_TP_judge_63 : decode (mB m_TP_judge) 63 = .ok (.bipush (-30), 2) := by decide +kernel
theorem d_TP_judge_65 : decode (mB m_TP_judge) 65 = .ok (.if_icmp .ge (22), 3) := by decide +kernel
theorem d_TP_judge_68 : decode (mB m_TP_judge) 68 = .ok (.aload_n 0, 1) := by decide +kernel
theorem d_TP_judge_69 : decode (mB m_TP_judge) 69 = .ok (.iconst 0, 1) := by decide +kernel
theorem d_TP_judge_70 : decode (mB m_TP_judge) 70 = .ok (.putfield 83, 3) := by decide +kernel
theorem d_TP_judge_73 : decode (mB m_TP_judge) 73 = .ok (.aload_n 0, 1) := by decide +kernel
theorem d_TP_judge_74 : decode (mB m_TP_judge) 74 = .ok (.iconst 4, 1) := by decide +kernel
theorem d_TP_judge_75 : decode (mB m_TP_judge) 75 = .ok (.aload_n 0, 1) := by decide +kernel
theorem d_TP_judge_76 : decode (mB m_TP_judge) 76 = .ok (.getfield 9, 3) := by decide +kernel
theorem d_TP_judge_79 : decode (mB m_TP_judge) 79 = .ok (.iconst 1, 1) := by decide +kernel
theorem d_TP_judge_80 : decode (mB m_TP_judge) 80 = .ok (.isub, 1) := by decide +kernel
theorem d_TP_judge_81 : decode (mB m_TP_judge) 81 = .ok (.invokestatic 86, 3) := by decide +kernel
theorem d_TP_judge_84 : decode (mB m_TP_judge) 84 = .ok (.putfield 9, 3) := by decide +kernel
theorem d_TP_judge_87 : decode (mB m_TP_judge) 87 = .ok (.return_, 1) := by decide +kernel
