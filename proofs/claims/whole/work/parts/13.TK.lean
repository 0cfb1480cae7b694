/-! decode rows of TimeKeeper -/
theorem d_TK_init_0 : decode (mB m_TK_init) 0 = .ok (.aload_n 0, 1) := by decide +kernel
theorem d_TK_init_1 : decode (mB m_TK_init) 1 = .ok (.invokespecial 1, 3) := by decide +kernel
theorem d_TK_init_4 : decode (mB m_TK_init) 4 = .ok (.aload_n 0, 1) := by decide +kernel
theorem d_TK_init_5 : decode (mB m_TK_init) 5 = .ok (.new 7, 3) := by decide +kernel
theorem d_TK_init_8 : decode (mB m_TK_init) 8 = .ok (.dup, 1) := by decide +kernel
theorem d_TK_init_9 : decode (mB m_TK_init) 9 = .ok (.bipush (64), 2) := by decide +kernel
theorem d_TK_init_11 : decode (mB m_TK_init) 11 = .ok (.invokespecial 11, 3) := by decide +kernel
theorem d_TK_init_14 : decode (mB m_TK_init) 14 = .ok (.putfield 14, 3) := by decide +kernel
theorem d_TK_init_17 : decode (mB m_TK_init) 17 = .ok (.aload_n 0, 1) := by decide +kernel
theorem d_TK_init_18 : decode (mB m_TK_init) 18 = .ok (.new 7, 3) := by decide +kernel
theorem d_TK_init_21 : decode (mB m_TK_init) 21 = .ok (.dup, 1) := by decide +kernel
theorem d_TK_init_22 : decode (mB m_TK_init) 22 = .ok (.bipush (48), 2) := by decide +kernel
theorem d_TK_init_24 : decode (mB m_TK_init) 24 = .ok (.invokespecial 11, 3) := by decide +kernel
theorem d_TK_init_27 : decode (mB m_TK_init) 27 = .ok (.putfield 18, 3) := by decide +kernel
theorem d_TK_init_30 : decode (mB m_TK_init) 30 = .ok (.aload_n 0, 1) := by decide +kernel
theorem d_TK_init_31 : decode (mB m_TK_init) 31 = .ok (.new 21, 3) := by decide +kernel
theorem d_TK_init_34 : decode (mB m_TK_init) 34 = .ok (.dup, 1) := by decide +kernel
theorem d_TK_init_35 : decode (mB m_TK_init) 35 = .ok (.invokespecial 23, 3) := by decide +kernel
theorem d_TK_init_38 : decode (mB m_TK_init) 38 = .ok (.putfield 24, 3) := by decide +kernel
theorem d_TK_init_41 : decode (mB m_TK_init) 41 = .ok (.aload_n 0, 1) := by decide +kernel
theorem d_TK_init_42 : decode (mB m_TK_init) 42 = .ok (.bipush (8), 2) := by decide +kernel
theorem d_TK_init_44 : decode (mB m_TK_init) 44 = .ok (.anewarray 28, 3) := by decide +kernel
theorem d_TK_init_47 : decode (mB m_TK_init) 47 = .ok (.putfield 30, 3) := by decide +kernel
theorem d_TK_init_50 : decode (mB m_TK_init) 50 = .ok (.iconst 0, 1) := by decide +kernel
theorem d_TK_init_51 : decode (mB m_TK_init) 51 = .ok (.istore_n 1, 1) := by decide +kernel
theorem d_TK_init_52 : decode (mB m_TK_init) 52 = .ok (.iload_n 1, 1) := by decide +kernel
theorem d_TK_init_53 : decode (mB m_TK_init) 53 = .ok (.bipush (8), 2) := by decide +kernel
theorem d_TK_init_55 : decode (mB m_TK_init) 55 = .ok (.if_icmp .ge (22), 3) := by decide +kernel
theorem d_TK_init_58 : decode (mB m_TK_init) 58 = .ok (.aload_n 0, 1) := by decide +kernel
theorem d_TK_init_59 : decode (mB m_TK_init) 59 = .ok (.getfield 30, 3) := by decide +kernel
theorem d_TK_init_62 : decode (mB m_TK_init) 62 = .ok (.iload_n 1, 1) := by decide +kernel
theorem d_TK_init_63 : decode (mB m_TK_init) 63 = .ok (.new 28, 3) := by decide +kernel
theorem d_TK_init_66 : decode (mB m_TK_init) 66 = .ok (.dup, 1) := by decide +kernel
theorem d_TK_init_67 : decode (mB m_TK_init) 67 = .ok (.invokespecial 34, 3) := by decide +kernel
theorem d_TK_init_70 : decode (mB m_TK_init) 70 = .ok (.aastore, 1) := by decide +kernel
theorem d_TK_init_71 : decode (mB m_TK_init) 71 = .ok (.iinc 1 (1), 3) := by decide +kernel
theorem d_TK_init_74 : decode (mB m_TK_init) 74 = .ok (.goto (-22), 3) := by decide +kernel
theorem d_TK_init_77 : decode (mB m_TK_init) 77 = .ok (.aload_n 0, 1) := by decide +kernel
theorem d_TK_init_78 : decode (mB m_TK_init) 78 = .ok (.new 35, 3) := by decide +kernel
theorem d_TK_init_81 : decode (mB m_TK_init) 81 = .ok (.dup, 1) := by decide +kernel
theorem d_TK_init_82 : decode (mB m_TK_init) 82 = .ok (.invokespecial 37, 3) := by decide +kernel
theorem d_TK_init_85 : decode (mB m_TK_init) 85 = .ok (.putfield 38, 3) := by decide +kernel
theorem d_TK_init_88 : decode (mB m_TK_init) 88 = .ok (.return_, 1) := by decide +kernel
theorem d_TK_type_0 : decode (mB m_TK_type) 0 = .ok (.iload_n 3, 1) := by decide +kernel
theorem d_TK_type_1 : decode (mB m_TK_type) 1 = .ok (.iconst 1, 1) := by decide +kernel
theorem d_TK_type_2 : decode (mB m_TK_type) 2 = .ok (.if_icmp .lt (9), 3) := by decide +kernel
theorem d_TK_type_5 : decode (mB m_TK_type) 5 = .ok (.iload_n 3, 1) := by decide +kernel
theorem d_TK_type_6 : decode (mB m_TK_type) 6 = .ok (.bipush (8), 2) := by decide +kernel
theorem d_TK_type_8 : decode (mB m_TK_type) 8 = .ok (.if_icmp .le (13), 3) := by decide +kernel
theorem d_TK_type_11 : decode (mB m_TK_type) 11 = .ok (.new 42, 3) := by decide +kernel
theorem d_TK_type_14 : decode (mB m_TK_type) 14 = .ok (.dup, 1) := by decide +kernel
theorem d_TK_type_15 : decode (mB m_TK_type) 15 = .ok (.ldc 44, 2) := by decide +kernel
theorem d_TK_type_17 : decode (mB m_TK_type) 17 = .ok (.invokespecial 46, 3) := by decide +kernel
theorem d_TK_type_20 : decode (mB m_TK_type) 20 = .ok (.athrow, 1) := by decide +kernel
theorem d_TK_type_21 : decode (mB m_TK_type) 21 = .ok (.aload_n 0, 1) := by decide +kernel
theorem d_TK_type_22 : decode (mB m_TK_type) 22 = .ok (.getfield 14, 3) := by decide +kernel
theorem d_TK_type_25 : decode (mB m_TK_type) 25 = .ok (.getfield 49, 3) := by decide +kernel
theorem d_TK_type_28 : decode (mB m_TK_type) 28 = .ok (.iload_n 3, 1) := by decide +kernel
theorem d_TK_type_29 : decode (mB m_TK_type) 29 = .ok (.iadd, 1) := by decide +kernel
theorem d_TK_type_30 : decode (mB m_TK_type) 30 = .ok (.bipush (64), 2) := by decide +kernel
theorem d_TK_type_32 : decode (mB m_TK_type) 32 = .ok (.if_icmp .le (13), 3) := by decide +kernel
theorem d_TK_type_35 : decode (mB m_TK_type) 35 = .ok (.new 53, 3) := by decide +kernel
theorem d_TK_type_38 : decode (mB m_TK_type) 38 = .ok (.dup, 1) := by decide +kernel
theorem d_TK_type_39 : decode (mB m_TK_type) 39 = .ok (.ldc 55, 2) := by decide +kernel
theorem d_TK_type_41 : decode (mB m_TK_type) 41 = .ok (.invokespecial 57, 3) := by decide +kernel
theorem d_TK_type_44 : decode (mB m_TK_type) 44 = .ok (.athrow, 1) := by decide +kernel
theorem d_TK_type_45 : decode (mB m_TK_type) 45 = .ok (.iconst 0, 1) := by decide +kernel
theorem d_TK_type_46 : decode (mB m_TK_type) 46 = .ok (.istore 4, 2) := by decide +kernel
theorem d_TK_type_48 : decode (mB m_TK_type) 48 = .ok (.iload 4, 2) := by decide +kernel
theorem d_TK_type_50 : decode (mB m_TK_type) 50 = .ok (.iload_n 3, 1) := by decide +kernel
theorem d_TK_type_51 : decode (mB m_TK_type) 51 = .ok (.if_icmp .ge (28), 3) := by decide +kernel
theorem d_TK_type_54 : decode (mB m_TK_type) 54 = .ok (.aload_n 0, 1) := by decide +kernel
theorem d_TK_type_55 : decode (mB m_TK_type) 55 = .ok (.getfield 14, 3) := by decide +kernel
theorem d_TK_type_58 : decode (mB m_TK_type) 58 = .ok (.lload_n 1, 1) := by decide +kernel
theorem d_TK_type_59 : decode (mB m_TK_type) 59 = .ok (.bipush (8), 2) := by decide +kernel
theorem d_TK_type_61 : decode (mB m_TK_type) 61 = .ok (.iload 4, 2) := by decide +kernel
theorem d_TK_type_63 : decode (mB m_TK_type) 63 = .ok (.imul, 1) := by decide +kernel
theorem d_TK_type_64 : decode (mB m_TK_type) 64 = .ok (.lushr, 1) := by decide +kernel
theorem d_TK_type_65 : decode (mB m_TK_type) 65 = .ok (.l2i, 1) := by decide +kernel
theorem d_TK_type_66 : decode (mB m_TK_type) 66 = .ok (.sipush (255), 3) := by decide +kernel
theorem d_TK_type_69 : decode (mB m_TK_type) 69 = .ok (.iand, 1) := by decide +kernel
theorem d_TK_type_70 : decode (mB m_TK_type) 70 = .ok (.invokevirtual 58, 3) := by decide +kernel
theorem d_TK_type_73 : decode (mB m_TK_type) 73 = .ok (.iinc 4 (1), 3) := by decide +kernel
theorem d_TK_type_76 : decode (mB m_TK_type) 76 = .ok (.goto (-28), 3) := by decide +kernel
theorem d_TK_type_79 : decode (mB m_TK_type) 79 = .ok (.aload_n 0, 1) := by decide +kernel
theorem d_TK_type_80 : decode (mB m_TK_type) 80 = .ok (.getfield 14, 3) := by decide +kernel
theorem d_TK_type_83 : decode (mB m_TK_type) 83 = .ok (.getfield 49, 3) := by decide +kernel
theorem d_TK_type_86 : decode (mB m_TK_type) 86 = .ok (.ireturn, 1) := by decide +kernel
theorem d_TK_wipe_0 : decode (mB m_TK_wipe) 0 = .ok (.aload_n 0, 1) := by decide +kernel
theorem d_TK_wipe_1 : decode (mB m_TK_wipe) 1 = .ok (.getfield 14, 3) := by decide +kernel
theorem d_TK_wipe_4 : decode (mB m_TK_wipe) 4 = .ok (.iconst 0, 1) := by decide +kernel
theorem d_TK_wipe_5 : decode (mB m_TK_wipe) 5 = .ok (.putfield 49, 3) := by decide +kernel
theorem d_TK_wipe_8 : decode (mB m_TK_wipe) 8 = .ok (.return_, 1) := by decide +kernel
theorem d_TK_put_0 : decode (mB m_TK_put) 0 = .ok (.iload_n 1, 1) := by decide +kernel
theorem d_TK_put_1 : decode (mB m_TK_put) 1 = .ok (.ifCond .lt (14), 3) := by decide +kernel
theorem d_TK_put_4 : decode (mB m_TK_put) 4 = .ok (.iload_n 1, 1) := by decide +kernel
theorem d_TK_put_5 : decode (mB m_TK_put) 5 = .ok (.aload_n 0, 1) := by decide +kernel
theorem d_TK_put_6 : decode (mB m_TK_put) 6 = .ok (.getfield 14, 3) := by decide +kernel
theorem d_TK_put_9 : decode (mB m_TK_put) 9 = .ok (.getfield 49, 3) := by decide +kernel
theorem d_TK_put_12 : decode (mB m_TK_put) 12 = .ok (.if_icmp .lt (13), 3) := by decide +kernel
theorem d_TK_put_15 : decode (mB m_TK_put) 15 = .ok (.new 61, 3) := by decide +kernel
theorem d_TK_put_18 : decode (mB m_TK_put) 18 = .ok (.dup, 1) := by decide +kernel
theorem d_TK_put_19 : decode (mB m_TK_put) 19 = .ok (.ldc 63, 2) := by decide +kernel
theorem d_TK_put_21 : decode (mB m_TK_put) 21 = .ok (.invokespecial 65, 3) := by decide +kernel
theorem d_TK_put_24 : decode (mB m_TK_put) 24 = .ok (.athrow, 1) := by decide +kernel
theorem d_TK_put_25 : decode (mB m_TK_put) 25 = .ok (.iload_n 2, 1) := by decide +kernel
theorem d_TK_put_26 : decode (mB m_TK_put) 26 = .ok (.ifCond .lt (10), 3) := by decide +kernel
theorem d_TK_put_29 : decode (mB m_TK_put) 29 = .ok (.iload_n 2, 1) := by decide +kernel
theorem d_TK_put_30 : decode (mB m_TK_put) 30 = .ok (.sipush (255), 3) := by decide +kernel
theorem d_TK_put_33 : decode (mB m_TK_put) 33 = .ok (.if_icmp .le (13), 3) := by decide +kernel
theorem d_TK_put_36 : decode (mB m_TK_put) 36 = .ok (.new 42, 3) := by decide +kernel
theorem d_TK_put_39 : decode (mB m_TK_put) 39 = .ok (.dup, 1) := by decide +kernel
theorem d_TK_put_40 : decode (mB m_TK_put) 40 = .ok (.ldc 66, 2) := by decide +kernel
theorem d_TK_put_42 : decode (mB m_TK_put) 42 = .ok (.invokespecial 46, 3) := by decide +kernel
theorem d_TK_put_45 : decode (mB m_TK_put) 45 = .ok (.athrow, 1) := by decide +kernel
theorem d_TK_put_46 : decode (mB m_TK_put) 46 = .ok (.aload_n 0, 1) := by decide +kernel
theorem d_TK_put_47 : decode (mB m_TK_put) 47 = .ok (.getfield 14, 3) := by decide +kernel
theorem d_TK_put_50 : decode (mB m_TK_put) 50 = .ok (.getfield 68, 3) := by decide +kernel
theorem d_TK_put_53 : decode (mB m_TK_put) 53 = .ok (.iload_n 1, 1) := by decide +kernel
theorem d_TK_put_54 : decode (mB m_TK_put) 54 = .ok (.iload_n 2, 1) := by decide +kernel
theorem d_TK_put_55 : decode (mB m_TK_put) 55 = .ok (.iastore, 1) := by decide +kernel
theorem d_TK_put_56 : decode (mB m_TK_put) 56 = .ok (.return_, 1) := by decide +kernel
theorem d_TK_pass_0 : decode (mB m_TK_pass) 0 = .ok (.iload_n 1, 1) := by decide +kernel
theorem d_TK_pass_1 : decode (mB m_TK_pass) 1 = .ok (.ifCond .lt (10), 3) := by decide +kernel
theorem d_TK_pass_4 : decode (mB m_TK_pass) 4 = .ok (.iload_n 1, 1) := by decide +kernel
theorem d_TK_pass_5 : decode (mB m_TK_pass) 5 = .ok (.sipush (4096), 3) := by decide +kernel
theorem d_TK_pass_8 : decode (mB m_TK_pass) 8 = .ok (.if_icmp .le (13), 3) := by decide +kernel
theorem d_TK_pass_11 : decode (mB m_TK_pass) 11 = .ok (.new 42, 3) := by decide +kernel
theorem d_TK_pass_14 : decode (mB m_TK_pass) 14 = .ok (.dup, 1) := by decide +kernel
theorem d_TK_pass_15 : decode (mB m_TK_pass) 15 = .ok (.ldc 72, 2) := by decide +kernel
theorem d_TK_pass_17 : decode (mB m_TK_pass) 17 = .ok (.invokespecial 46, 3) := by decide +kernel
theorem d_TK_pass_20 : decode (mB m_TK_pass) 20 = .ok (.athrow, 1) := by decide +kernel
theorem d_TK_pass_21 : decode (mB m_TK_pass) 21 = .ok (.aload_n 0, 1) := by decide +kernel
theorem d_TK_pass_22 : decode (mB m_TK_pass) 22 = .ok (.getfield 24, 3) := by decide +kernel
theorem d_TK_pass_25 : decode (mB m_TK_pass) 25 = .ok (.iload_n 1, 1) := by decide +kernel
theorem d_TK_pass_26 : decode (mB m_TK_pass) 26 = .ok (.invokevirtual 74, 3) := by decide +kernel
theorem d_TK_pass_29 : decode (mB m_TK_pass) 29 = .ok (.aload_n 0, 1) := by decide +kernel
theorem d_TK_pass_30 : decode (mB m_TK_pass) 30 = .ok (.getfield 24, 3) := by decide +kernel
theorem d_TK_pass_33 : decode (mB m_TK_pass) 33 = .ok (.getfield 77, 3) := by decide +kernel
theorem d_TK_pass_36 : decode (mB m_TK_pass) 36 = .ok (.ireturn, 1) := by decide +kernel
theorem d_TK_clock_0 : decode (mB m_TK_clock) 0 = .ok (.aload_n 0, 1) := by decide +kernel
theorem d_TK_clock_1 : decode (mB m_TK_clock) 1 = .ok (.getfield 24, 3) := by decide +kernel
theorem d_TK_clock_4 : decode (mB m_TK_clock) 4 = .ok (.getfield 80, 3) := by decide +kernel
theorem d_TK_clock_7 : decode (mB m_TK_clock) 7 = .ok (.lreturn, 1) := by decide +kernel
theorem d_TK_set_0 : decode (mB m_TK_set) 0 = .ok (.aload_n 0, 1) := by decide +kernel
theorem d_TK_set_1 : decode (mB m_TK_set) 1 = .ok (.getfield 24, 3) := by decide +kernel
theorem d_TK_set_4 : decode (mB m_TK_set) 4 = .ok (.lload_n 1, 1) := by decide +kernel
theorem d_TK_set_5 : decode (mB m_TK_set) 5 = .ok (.putfield 80, 3) := by decide +kernel
theorem d_TK_set_8 : decode (mB m_TK_set) 8 = .ok (.return_, 1) := by decide +kernel
theorem d_TK_drift_0 : decode (mB m_TK_drift) 0 = .ok (.iload_n 1, 1) := by decide +kernel
theorem d_TK_drift_1 : decode (mB m_TK_drift) 1 = .ok (.ldc 84, 2) := by decide +kernel
theorem d_TK_drift_3 : decode (mB m_TK_drift) 3 = .ok (.if_icmp .lt (9), 3) := by decide +kernel
theorem d_TK_drift_6 : decode (mB m_TK_drift) 6 = .ok (.iload_n 1, 1) := by decide +kernel
theorem d_TK_drift_7 : decode (mB m_TK_drift) 7 = .ok (.ldc 85, 2) := by decide +kernel
theorem d_TK_drift_9 : decode (mB m_TK_drift) 9 = .ok (.if_icmp .le (13), 3) := by decide +kernel
theorem d_TK_drift_12 : decode (mB m_TK_drift) 12 = .ok (.new 42, 3) := by decide +kernel
theorem d_TK_drift_15 : decode (mB m_TK_drift) 15 = .ok (.dup, 1) := by decide +kernel
theorem d_TK_drift_16 : decode (mB m_TK_drift) 16 = .ok (.ldc 86, 2) := by decide +kernel
theorem d_TK_drift_18 : decode (mB m_TK_drift) 18 = .ok (.invokespecial 46, 3) := by decide +kernel
theorem d_TK_drift_21 : decode (mB m_TK_drift) 21 = .ok (.athrow, 1) := by decide +kernel
theorem d_TK_drift_22 : decode (mB m_TK_drift) 22 = .ok (.aload_n 0, 1) := by decide +kernel
theorem d_TK_drift_23 : decode (mB m_TK_drift) 23 = .ok (.getfield 24, 3) := by decide +kernel
theorem d_TK_drift_26 : decode (mB m_TK_drift) 26 = .ok (.iload_n 1, 1) := by decide +kernel
theorem d_TK_drift_27 : decode (mB m_TK_drift) 27 = .ok (.putfield 88, 3) := by decide +kernel
theorem d_TK_drift_30 : decode (mB m_TK_drift) 30 = .ok (.return_, 1) := by decide +kernel
theorem d_TK_request_0 : decode (mB m_TK_request) 0 = .ok (.aload_n 0, 1) := by decide +kernel
theorem d_TK_request_1 : decode (mB m_TK_request) 1 = .ok (.iload_n 1, 1) := by decide +kernel
theorem d_TK_request_2 : decode (mB m_TK_request) 2 = .ok (.invokevirtual 91, 3) := by decide +kernel
theorem d_TK_request_5 : decode (mB m_TK_request) 5 = .ok (.astore_n 2, 1) := by decide +kernel
theorem d_TK_request_6 : decode (mB m_TK_request) 6 = .ok (.aload_n 2, 1) := by decide +kernel
theorem d_TK_request_7 : decode (mB m_TK_request) 7 = .ok (.aload_n 0, 1) := by decide +kernel
theorem d_TK_request_8 : decode (mB m_TK_request) 8 = .ok (.getfield 24, 3) := by decide +kernel
theorem d_TK_request_11 : decode (mB m_TK_request) 11 = .ok (.getfield 80, 3) := by decide +kernel
theorem d_TK_request_14 : decode (mB m_TK_request) 14 = .ok (.invokevirtual 95, 3) := by decide +kernel
theorem d_TK_request_17 : decode (mB m_TK_request) 17 = .ok (.aload_n 0, 1) := by decide +kernel
theorem d_TK_request_18 : decode (mB m_TK_request) 18 = .ok (.getfield 18, 3) := by decide +kernel
theorem d_TK_request_21 : decode (mB m_TK_request) 21 = .ok (.iconst 0, 1) := by decide +kernel
theorem d_TK_request_22 : decode (mB m_TK_request) 22 = .ok (.iconst 4, 1) := by decide +kernel
theorem d_TK_request_23 : decode (mB m_TK_request) 23 = .ok (.iconst 3, 1) := by decide +kernel
theorem d_TK_request_24 : decode (mB m_TK_request) 24 = .ok (.invokevirtual 99, 3) := by decide +kernel
theorem d_TK_request_27 : decode (mB m_TK_request) 27 = .ok (.aload_n 0, 1) := by decide +kernel
theorem d_TK_request_28 : decode (mB m_TK_request) 28 = .ok (.getfield 18, 3) := by decide +kernel
theorem d_TK_request_31 : decode (mB m_TK_request) 31 = .ok (.getfield 68, 3) := by decide +kernel
theorem d_TK_request_34 : decode (mB m_TK_request) 34 = .ok (.iconst 2, 1) := by decide +kernel
theorem d_TK_request_35 : decode (mB m_TK_request) 35 = .ok (.aload_n 0, 1) := by decide +kernel
theorem d_TK_request_36 : decode (mB m_TK_request) 36 = .ok (.getfield 24, 3) := by decide +kernel
theorem d_TK_request_39 : decode (mB m_TK_request) 39 = .ok (.getfield 103, 3) := by decide +kernel
theorem d_TK_request_42 : decode (mB m_TK_request) 42 = .ok (.iastore, 1) := by decide +kernel
theorem d_TK_request_43 : decode (mB m_TK_request) 43 = .ok (.aload_n 0, 1) := by decide +kernel
theorem d_TK_request_44 : decode (mB m_TK_request) 44 = .ok (.getfield 18, 3) := by decide +kernel
theorem d_TK_request_47 : decode (mB m_TK_request) 47 = .ok (.getfield 68, 3) := by decide +kernel
theorem d_TK_request_50 : decode (mB m_TK_request) 50 = .ok (.iconst 3, 1) := by decide +kernel
theorem d_TK_request_51 : decode (mB m_TK_request) 51 = .ok (.sipush (238), 3) := by decide +kernel
theorem d_TK_request_54 : decode (mB m_TK_request) 54 = .ok (.iastore, 1) := by decide +kernel
theorem d_TK_request_55 : decode (mB m_TK_request) 55 = .ok (.aload_n 0, 1) := by decide +kernel
theorem d_TK_request_56 : decode (mB m_TK_request) 56 = .ok (.getfield 18, 3) := by decide +kernel
theorem d_TK_request_59 : decode (mB m_TK_request) 59 = .ok (.bipush (40), 2) := by decide +kernel
theorem d_TK_request_61 : decode (mB m_TK_request) 61 = .ok (.bipush (8), 2) := by decide +kernel
theorem d_TK_request_63 : decode (mB m_TK_request) 63 = .ok (.aload_n 2, 1) := by decide +kernel
theorem d_TK_request_64 : decode (mB m_TK_request) 64 = .ok (.getfield 106, 3) := by decide +kernel
theorem d_TK_request_67 : decode (mB m_TK_request) 67 = .ok (.invokevirtual 109, 3) := by decide +kernel
theorem d_TK_request_70 : decode (mB m_TK_request) 70 = .ok (.aload_n 2, 1) := by decide +kernel
theorem d_TK_request_71 : decode (mB m_TK_request) 71 = .ok (.getfield 106, 3) := by decide +kernel
theorem d_TK_request_74 : decode (mB m_TK_request) 74 = .ok (.lreturn, 1) := by decide +kernel
theorem d_TK_hear_0 : decode (mB m_TK_hear) 0 = .ok (.aload_n 0, 1) := by decide +kernel
theorem d_TK_hear_1 : decode (mB m_TK_hear) 1 = .ok (.iload_n 1, 1) := by decide +kernel
theorem d_TK_hear_2 : decode (mB m_TK_hear) 2 = .ok (.invokevirtual 91, 3) := by decide +kernel
theorem d_TK_hear_5 : decode (mB m_TK_hear) 5 = .ok (.astore_n 2, 1) := by decide +kernel
theorem d_TK_hear_6 : decode (mB m_TK_hear) 6 = .ok (.aload_n 0, 1) := by decide +kernel
theorem d_TK_hear_7 : decode (mB m_TK_hear) 7 = .ok (.aload_n 2, 1) := by decide +kernel
theorem d_TK_hear_8 : decode (mB m_TK_hear) 8 = .ok (.invokevirtual 113, 3) := by decide +kernel
theorem d_TK_hear_11 : decode (mB m_TK_hear) 11 = .ok (.istore_n 3, 1) := by decide +kernel
theorem d_TK_hear_12 : decode (mB m_TK_hear) 12 = .ok (.iload_n 3, 1) := by decide +kernel
theorem d_TK_hear_13 : decode (mB m_TK_hear) 13 = .ok (.ifCond .ne (76), 3) := by decide +kernel
theorem d_TK_hear_16 : decode (mB m_TK_hear) 16 = .ok (.aload_n 0, 1) := by decide +kernel
theorem d_TK_hear_17 : decode (mB m_TK_hear) 17 = .ok (.aload_n 2, 1) := by decide +kernel
theorem d_TK_hear_18 : decode (mB m_TK_hear) 18 = .ok (.invokevirtual 117, 3) := by decide +kernel
theorem d_TK_hear_21 : decode (mB m_TK_hear) 21 = .ok (.aload_n 2, 1) := by decide +kernel
theorem d_TK_hear_22 : decode (mB m_TK_hear) 22 = .ok (.invokevirtual 121, 3) := by decide +kernel
theorem d_TK_hear_25 : decode (mB m_TK_hear) 25 = .ok (.ifCond .eq (28), 3) := by decide +kernel
theorem d_TK_hear_28 : decode (mB m_TK_hear) 28 = .ok (.aload_n 0, 1) := by decide +kernel
theorem d_TK_hear_29 : decode (mB m_TK_hear) 29 = .ok (.getfield 38, 3) := by decide +kernel
theorem d_TK_hear_32 : decode (mB m_TK_hear) 32 = .ok (.aload_n 0, 1) := by decide +kernel
theorem d_TK_hear_33 : decode (mB m_TK_hear) 33 = .ok (.getfield 30, 3) := by decide +kernel
theorem d_TK_hear_36 : decode (mB m_TK_hear) 36 = .ok (.aload_n 0, 1) := by decide +kernel
theorem d_TK_hear_37 : decode (mB m_TK_hear) 37 = .ok (.getfield 24, 3) := by decide +kernel
theorem d_TK_hear_40 : decode (mB m_TK_hear) 40 = .ok (.getfield 77, 3) := by decide +kernel
theorem d_TK_hear_43 : decode (mB m_TK_hear) 43 = .ok (.invokevirtual 125, 3) := by decide +kernel
theorem d_TK_hear_46 : decode (mB m_TK_hear) 46 = .ok (.ifCond .eq (7), 3) := by decide +kernel
theorem d_TK_hear_49 : decode (mB m_TK_hear) 49 = .ok (.iconst 1, 1) := by decide +kernel
theorem d_TK_hear_50 : decode (mB m_TK_hear) 50 = .ok (.goto (4), 3) := by decide +kernel
theorem d_TK_hear_53 : decode (mB m_TK_hear) 53 = .ok (.iconst 0, 1) := by decide +kernel
theorem d_TK_hear_54 : decode (mB m_TK_hear) 54 = .ok (.istore 4, 2) := by decide +kernel
theorem d_TK_hear_56 : decode (mB m_TK_hear) 56 = .ok (.iload 4, 2) := by decide +kernel
theorem d_TK_hear_58 : decode (mB m_TK_hear) 58 = .ok (.ifCond .eq (31), 3) := by decide +kernel
theorem d_TK_hear_61 : decode (mB m_TK_hear) 61 = .ok (.aload_n 0, 1) := by decide +kernel
theorem d_TK_hear_62 : decode (mB m_TK_hear) 62 = .ok (.getfield 24, 3) := by decide +kernel
theorem d_TK_hear_65 : decode (mB m_TK_hear) 65 = .ok (.aload_n 0, 1) := by decide +kernel
theorem d_TK_hear_66 : decode (mB m_TK_hear) 66 = .ok (.getfield 38, 3) := by decide +kernel
theorem d_TK_hear_69 : decode (mB m_TK_hear) 69 = .ok (.getfield 129, 3) := by decide +kernel
theorem d_TK_hear_72 : decode (mB m_TK_hear) 72 = .ok (.aload_n 0, 1) := by decide +kernel
theorem d_TK_hear_73 : decode (mB m_TK_hear) 73 = .ok (.getfield 38, 3) := by decide +kernel
theorem d_TK_hear_76 : decode (mB m_TK_hear) 76 = .ok (.getfield 132, 3) := by decide +kernel
theorem d_TK_hear_79 : decode (mB m_TK_hear) 79 = .ok (.invokevirtual 135, 3) := by decide +kernel
theorem d_TK_hear_82 : decode (mB m_TK_hear) 82 = .ok (.ifCond .eq (7), 3) := by decide +kernel
theorem d_TK_hear_85 : decode (mB m_TK_hear) 85 = .ok (.aload_n 0, 1) := by decide +kernel
theorem d_TK_hear_86 : decode (mB m_TK_hear) 86 = .ok (.invokevirtual 139, 3) := by decide +kernel
theorem d_TK_hear_89 : decode (mB m_TK_hear) 89 = .ok (.iload_n 3, 1) := by decide +kernel
theorem d_TK_hear_90 : decode (mB m_TK_hear) 90 = .ok (.ireturn, 1) := by decide +kernel
theorem d_TK_serve_0 : decode (mB m_TK_serve) 0 = .ok (.aload_n 0, 1) := by decide +kernel
theorem d_TK_serve_1 : decode (mB m_TK_serve) 1 = .ok (.getfield 14, 3) := by decide +kernel
theorem d_TK_serve_4 : decode (mB m_TK_serve) 4 = .ok (.getfield 49, 3) := by decide +kernel
theorem d_TK_serve_7 : decode (mB m_TK_serve) 7 = .ok (.bipush (48), 2) := by decide +kernel
theorem d_TK_serve_9 : decode (mB m_TK_serve) 9 = .ok (.if_icmp .ne (24), 3) := by decide +kernel
theorem d_TK_serve_12 : decode (mB m_TK_serve) 12 = .ok (.aload_n 0, 1) := by decide +kernel
theorem d_TK_serve_13 : decode (mB m_TK_serve) 13 = .ok (.getfield 14, 3) := by decide +kernel
theorem d_TK_serve_16 : decode (mB m_TK_serve) 16 = .ok (.invokevirtual 142, 3) := by decide +kernel
theorem d_TK_serve_19 : decode (mB m_TK_serve) 19 = .ok (.ifCond .eq (14), 3) := by decide +kernel
theorem d_TK_serve_22 : decode (mB m_TK_serve) 22 = .ok (.aload_n 0, 1) := by decide +kernel
theorem d_TK_serve_23 : decode (mB m_TK_serve) 23 = .ok (.getfield 14, 3) := by decide +kernel
theorem d_TK_serve_26 : decode (mB m_TK_serve) 26 = .ok (.invokevirtual 145, 3) := by decide +kernel
theorem d_TK_serve_29 : decode (mB m_TK_serve) 29 = .ok (.iconst 3, 1) := by decide +kernel
theorem d_TK_serve_30 : decode (mB m_TK_serve) 30 = .ok (.if_icmp .eq (5), 3) := by decide +kernel
theorem d_TK_serve_33 : decode (mB m_TK_serve) 33 = .ok (.iconst 0, 1) := by decide +kernel
theorem d_TK_serve_34 : decode (mB m_TK_serve) 34 = .ok (.ireturn, 1) := by decide +kernel
theorem d_TK_serve_35 : decode (mB m_TK_serve) 35 = .ok (.aload_n 0, 1) := by decide +kernel
theorem d_TK_serve_36 : decode (mB m_TK_serve) 36 = .ok (.getfield 38, 3) := by decide +kernel
theorem d_TK_serve_39 : decode (mB m_TK_serve) 39 = .ok (.getfield 149, 3) := by decide +kernel
theorem d_TK_serve_42 : decode (mB m_TK_serve) 42 = .ok (.ifCond .eq (15), 3) := by decide +kernel
theorem d_TK_serve_45 : decode (mB m_TK_serve) 45 = .ok (.aload_n 0, 1) := by decide +kernel
theorem d_TK_serve_46 : decode (mB m_TK_serve) 46 = .ok (.getfield 38, 3) := by decide +kernel
theorem d_TK_serve_49 : decode (mB m_TK_serve) 49 = .ok (.getfield 149, 3) := by decide +kernel
theorem d_TK_serve_52 : decode (mB m_TK_serve) 52 = .ok (.bipush (15), 2) := by decide +kernel
theorem d_TK_serve_54 : decode (mB m_TK_serve) 54 = .ok (.if_icmp .le (7), 3) := by decide +kernel
theorem d_TK_serve_57 : decode (mB m_TK_serve) 57 = .ok (.iconst 1, 1) := by decide +kernel
theorem d_TK_serve_58 : decode (mB m_TK_serve) 58 = .ok (.goto (4), 3) := by decide +kernel
theorem d_TK_serve_61 : decode (mB m_TK_serve) 61 = .ok (.iconst 0, 1) := by decide +kernel
theorem d_TK_serve_62 : decode (mB m_TK_serve) 62 = .ok (.istore_n 1, 1) := by decide +kernel
theorem d_TK_serve_63 : decode (mB m_TK_serve) 63 = .ok (.aload_n 0, 1) := by decide +kernel
theorem d_TK_serve_64 : decode (mB m_TK_serve) 64 = .ok (.getfield 18, 3) := by decide +kernel
theorem d_TK_serve_67 : decode (mB m_TK_serve) 67 = .ok (.iload_n 1, 1) := by decide +kernel
theorem d_TK_serve_68 : decode (mB m_TK_serve) 68 = .ok (.ifCond .eq (7), 3) := by decide +kernel
theorem d_TK_serve_71 : decode (mB m_TK_serve) 71 = .ok (.iconst 3, 1) := by decide +kernel
theorem d_TK_serve_72 : decode (mB m_TK_serve) 72 = .ok (.goto (4), 3) := by decide +kernel
theorem d_TK_serve_75 : decode (mB m_TK_serve) 75 = .ok (.iconst 0, 1) := by decide +kernel
theorem d_TK_serve_76 : decode (mB m_TK_serve) 76 = .ok (.aload_n 0, 1) := by decide +kernel
theorem d_TK_serve_77 : decode (mB m_TK_serve) 77 = .ok (.getfield 14, 3) := by decide +kernel
theorem d_TK_serve_80 : decode (mB m_TK_serve) 80 = .ok (.invokevirtual 152, 3) := by decide +kernel
theorem d_TK_serve_83 : decode (mB m_TK_serve) 83 = .ok (.iconst 4, 1) := by decide +kernel
theorem d_TK_serve_84 : decode (mB m_TK_serve) 84 = .ok (.invokevirtual 99, 3) := by decide +kernel
theorem d_TK_serve_87 : decode (mB m_TK_serve) 87 = .ok (.aload_n 0, 1) := by decide +kernel
theorem d_TK_serve_88 : decode (mB m_TK_serve) 88 = .ok (.getfield 18, 3) := by decide +kernel
theorem d_TK_serve_91 : decode (mB m_TK_serve) 91 = .ok (.getfield 68, 3) := by decide +kernel
theorem d_TK_serve_94 : decode (mB m_TK_serve) 94 = .ok (.iconst 1, 1) := by decide +kernel
theorem d_TK_serve_95 : decode (mB m_TK_serve) 95 = .ok (.iload_n 1, 1) := by decide +kernel
theorem d_TK_serve_96 : decode (mB m_TK_serve) 96 = .ok (.ifCond .eq (7), 3) := by decide +kernel
theorem d_TK_serve_99 : decode (mB m_TK_serve) 99 = .ok (.iconst 0, 1) := by decide +kernel
theorem d_TK_serve_100 : decode (mB m_TK_serve) 100 = .ok (.goto (10), 3) := by decide +kernel
theorem d_TK_serve_103 : decode (mB m_TK_serve) 103 = .ok (.aload_n 0, 1) := by decide +kernel
theorem d_TK_serve_104 : decode (mB m_TK_serve) 104 = .ok (.getfield 38, 3) := by decide +kernel
theorem d_TK_serve_107 : decode (mB m_TK_serve) 107 = .ok (.getfield 149, 3) := by decide +kernel
theorem d_TK_serve_110 : decode (mB m_TK_serve) 110 = .ok (.iastore, 1) := by decide +kernel
theorem d_TK_serve_111 : decode (mB m_TK_serve) 111 = .ok (.aload_n 0, 1) := by decide +kernel
theorem d_TK_serve_112 : decode (mB m_TK_serve) 112 = .ok (.getfield 18, 3) := by decide +kernel
theorem d_TK_serve_115 : decode (mB m_TK_serve) 115 = .ok (.getfield 68, 3) := by decide +kernel
theorem d_TK_serve_118 : decode (mB m_TK_serve) 118 = .ok (.iconst 2, 1) := by decide +kernel
theorem d_TK_serve_119 : decode (mB m_TK_serve) 119 = .ok (.aload_n 0, 1) := by decide +kernel
theorem d_TK_serve_120 : decode (mB m_TK_serve) 120 = .ok (.getfield 14, 3) := by decide +kernel
theorem d_TK_serve_123 : decode (mB m_TK_serve) 123 = .ok (.getfield 68, 3) := by decide +kernel
theorem d_TK_serve_126 : decode (mB m_TK_serve) 126 = .ok (.iconst 2, 1) := by decide +kernel
theorem d_TK_serve_127 : decode (mB m_TK_serve) 127 = .ok (.iaload, 1) := by decide +kernel
theorem d_TK_serve_128 : decode (mB m_TK_serve) 128 = .ok (.iastore, 1) := by decide +kernel
theorem d_TK_serve_129 : decode (mB m_TK_serve) 129 = .ok (.aload_n 0, 1) := by decide +kernel
theorem d_TK_serve_130 : decode (mB m_TK_serve) 130 = .ok (.getfield 18, 3) := by decide +kernel
theorem d_TK_serve_133 : decode (mB m_TK_serve) 133 = .ok (.getfield 68, 3) := by decide +kernel
theorem d_TK_serve_136 : decode (mB m_TK_serve) 136 = .ok (.iconst 3, 1) := by decide +kernel
theorem d_TK_serve_137 : decode (mB m_TK_serve) 137 = .ok (.sipush (238), 3) := by decide +kernel
theorem d_TK_serve_140 : decode (mB m_TK_serve) 140 = .ok (.iastore, 1) := by decide +kernel
theorem d_TK_serve_141 : decode (mB m_TK_serve) 141 = .ok (.aload_n 0, 1) := by decide +kernel
theorem d_TK_serve_142 : decode (mB m_TK_serve) 142 = .ok (.getfield 18, 3) := by decide +kernel
theorem d_TK_serve_145 : decode (mB m_TK_serve) 145 = .ok (.bipush (24), 2) := by decide +kernel
theorem d_TK_serve_147 : decode (mB m_TK_serve) 147 = .ok (.bipush (8), 2) := by decide +kernel
theorem d_TK_serve_149 : decode (mB m_TK_serve) 149 = .ok (.aload_n 0, 1) := by decide +kernel
theorem d_TK_serve_150 : decode (mB m_TK_serve) 150 = .ok (.getfield 14, 3) := by decide +kernel
theorem d_TK_serve_153 : decode (mB m_TK_serve) 153 = .ok (.bipush (40), 2) := by decide +kernel
theorem d_TK_serve_155 : decode (mB m_TK_serve) 155 = .ok (.bipush (8), 2) := by decide +kernel
theorem d_TK_serve_157 : decode (mB m_TK_serve) 157 = .ok (.invokevirtual 155, 3) := by decide +kernel
theorem d_TK_serve_160 : decode (mB m_TK_serve) 160 = .ok (.invokevirtual 109, 3) := by decide +kernel
theorem d_TK_serve_163 : decode (mB m_TK_serve) 163 = .ok (.aload_n 0, 1) := by decide +kernel
theorem d_TK_serve_164 : decode (mB m_TK_serve) 164 = .ok (.getfield 18, 3) := by decide +kernel
theorem d_TK_serve_167 : decode (mB m_TK_serve) 167 = .ok (.bipush (32), 2) := by decide +kernel
theorem d_TK_serve_169 : decode (mB m_TK_serve) 169 = .ok (.bipush (8), 2) := by decide +kernel
theorem d_TK_serve_171 : decode (mB m_TK_serve) 171 = .ok (.aload_n 0, 1) := by decide +kernel
theorem d_TK_serve_172 : decode (mB m_TK_serve) 172 = .ok (.getfield 24, 3) := by decide +kernel
theorem d_TK_serve_175 : decode (mB m_TK_serve) 175 = .ok (.getfield 80, 3) := by decide +kernel
theorem d_TK_serve_178 : decode (mB m_TK_serve) 178 = .ok (.invokevirtual 109, 3) := by decide +kernel
theorem d_TK_serve_181 : decode (mB m_TK_serve) 181 = .ok (.aload_n 0, 1) := by decide +kernel
theorem d_TK_serve_182 : decode (mB m_TK_serve) 182 = .ok (.getfield 18, 3) := by decide +kernel
theorem d_TK_serve_185 : decode (mB m_TK_serve) 185 = .ok (.bipush (40), 2) := by decide +kernel
theorem d_TK_serve_187 : decode (mB m_TK_serve) 187 = .ok (.bipush (8), 2) := by decide +kernel
theorem d_TK_serve_189 : decode (mB m_TK_serve) 189 = .ok (.aload_n 0, 1) := by decide +kernel
theorem d_TK_serve_190 : decode (mB m_TK_serve) 190 = .ok (.getfield 24, 3) := by decide +kernel
theorem d_TK_serve_193 : decode (mB m_TK_serve) 193 = .ok (.getfield 80, 3) := by decide +kernel
theorem d_TK_serve_196 : decode (mB m_TK_serve) 196 = .ok (.invokevirtual 109, 3) := by decide +kernel
theorem d_TK_serve_199 : decode (mB m_TK_serve) 199 = .ok (.iconst 1, 1) := by decide +kernel
theorem d_TK_serve_200 : decode (mB m_TK_serve) 200 = .ok (.ireturn, 1) := by decide +kernel
theorem d_TK_turn_0 : decode (mB m_TK_turn) 0 = .ok (.aload_n 0, 1) := by decide +kernel
theorem d_TK_turn_1 : decode (mB m_TK_turn) 1 = .ok (.getfield 14, 3) := by decide +kernel
theorem d_TK_turn_4 : decode (mB m_TK_turn) 4 = .ok (.aload_n 0, 1) := by decide +kernel
theorem d_TK_turn_5 : decode (mB m_TK_turn) 5 = .ok (.getfield 18, 3) := by decide +kernel
theorem d_TK_turn_8 : decode (mB m_TK_turn) 8 = .ok (.invokevirtual 159, 3) := by decide +kernel
theorem d_TK_turn_11 : decode (mB m_TK_turn) 11 = .ok (.return_, 1) := by decide +kernel
theorem d_TK_answer_0 : decode (mB m_TK_answer) 0 = .ok (.aload_n 0, 1) := by decide +kernel
theorem d_TK_answer_1 : decode (mB m_TK_answer) 1 = .ok (.iload_n 1, 1) := by decide +kernel
theorem d_TK_answer_2 : decode (mB m_TK_answer) 2 = .ok (.invokevirtual 91, 3) := by decide +kernel
theorem d_TK_answer_5 : decode (mB m_TK_answer) 5 = .ok (.astore 13, 2) := by decide +kernel
theorem d_TK_answer_7 : decode (mB m_TK_answer) 7 = .ok (.iload_n 2, 1) := by decide +kernel
theorem d_TK_answer_8 : decode (mB m_TK_answer) 8 = .ok (.ifCond .lt (10), 3) := by decide +kernel
theorem d_TK_answer_11 : decode (mB m_TK_answer) 11 = .ok (.iload_n 2, 1) := by decide +kernel
theorem d_TK_answer_12 : decode (mB m_TK_answer) 12 = .ok (.sipush (255), 3) := by decide +kernel
theorem d_TK_answer_15 : decode (mB m_TK_answer) 15 = .ok (.if_icmp .le (13), 3) := by decide +kernel
theorem d_TK_answer_18 : decode (mB m_TK_answer) 18 = .ok (.new 42, 3) := by decide +kernel
theorem d_TK_answer_21 : decode (mB m_TK_answer) 21 = .ok (.dup, 1) := by decide +kernel
theorem d_TK_answer_22 : decode (mB m_TK_answer) 22 = .ok (.ldc 163, 2) := by decide +kernel
theorem d_TK_answer_24 : decode (mB m_TK_answer) 24 = .ok (.invokespecial 46, 3) := by decide +kernel
theorem d_TK_answer_27 : decode (mB m_TK_answer) 27 = .ok (.athrow, 1) := by decide +kernel
theorem d_TK_answer_28 : decode (mB m_TK_answer) 28 = .ok (.iload_n 3, 1) := by decide +kernel
theorem d_TK_answer_29 : decode (mB m_TK_answer) 29 = .ok (.ifCond .lt (8), 3) := by decide +kernel
theorem d_TK_answer_32 : decode (mB m_TK_answer) 32 = .ok (.iload 4, 2) := by decide +kernel
theorem d_TK_answer_34 : decode (mB m_TK_answer) 34 = .ok (.ifCond .ge (13), 3) := by decide +kernel
theorem d_TK_answer_37 : decode (mB m_TK_answer) 37 = .ok (.new 42, 3) := by decide +kernel
theorem d_TK_answer_40 : decode (mB m_TK_answer) 40 = .ok (.dup, 1) := by decide +kernel
theorem d_TK_answer_41 : decode (mB m_TK_answer) 41 = .ok (.ldc 165, 2) := by decide +kernel
theorem d_TK_answer_43 : decode (mB m_TK_answer) 43 = .ok (.invokespecial 46, 3) := by decide +kernel
theorem d_TK_answer_46 : decode (mB m_TK_answer) 46 = .ok (.athrow, 1) := by decide +kernel
theorem d_TK_answer_47 : decode (mB m_TK_answer) 47 = .ok (.lload 7, 2) := by decide +kernel
theorem d_TK_answer_49 : decode (mB m_TK_answer) 49 = .ok (.invokestatic 167, 3) := by decide +kernel
theorem d_TK_answer_52 : decode (mB m_TK_answer) 52 = .ok (.ifCond .eq (19), 3) := by decide +kernel
theorem d_TK_answer_55 : decode (mB m_TK_answer) 55 = .ok (.lload 9, 2) := by decide +kernel
theorem d_TK_answer_57 : decode (mB m_TK_answer) 57 = .ok (.invokestatic 167, 3) := by decide +kernel
theorem d_TK_answer_60 : decode (mB m_TK_answer) 60 = .ok (.ifCond .eq (11), 3) := by decide +kernel
theorem d_TK_answer_63 : decode (mB m_TK_answer) 63 = .ok (.lload 11, 2) := by decide +kernel
theorem d_TK_answer_65 : decode (mB m_TK_answer) 65 = .ok (.invokestatic 167, 3) := by decide +kernel
theorem d_TK_answer_68 : decode (mB m_TK_answer) 68 = .ok (.ifCond .ne (13), 3) := by decide +kernel
theorem d_TK_answer_71 : decode (mB m_TK_answer) 71 = .ok (.new 42, 3) := by decide +kernel
theorem d_TK_answer_74 : decode (mB m_TK_answer) 74 = .ok (.dup, 1) := by decide +kernel
theorem d_TK_answer_75 : decode (mB m_TK_answer) 75 = .ok (.ldc 171, 2) := by decide +kernel
theorem d_TK_answer_77 : decode (mB m_TK_answer) 77 = .ok (.invokespecial 46, 3) := by decide +kernel
theorem d_TK_answer_80 : decode (mB m_TK_answer) 80 = .ok (.athrow, 1) := by decide +kernel
theorem d_TK_answer_81 : decode (mB m_TK_answer) 81 = .ok (.aload 13, 2) := by decide +kernel
theorem d_TK_answer_83 : decode (mB m_TK_answer) 83 = .ok (.getfield 106, 3) := by decide +kernel
theorem d_TK_answer_86 : decode (mB m_TK_answer) 86 = .ok (.lload 5, 2) := by decide +kernel
theorem d_TK_answer_88 : decode (mB m_TK_answer) 88 = .ok (.ladd, 1) := by decide +kernel
theorem d_TK_answer_89 : decode (mB m_TK_answer) 89 = .ok (.lload 7, 2) := by decide +kernel
theorem d_TK_answer_91 : decode (mB m_TK_answer) 91 = .ok (.ladd, 1) := by decide +kernel
theorem d_TK_answer_92 : decode (mB m_TK_answer) 92 = .ok (.lstore 14, 2) := by decide +kernel
theorem d_TK_answer_94 : decode (mB m_TK_answer) 94 = .ok (.aload_n 0, 1) := by decide +kernel
theorem d_TK_answer_95 : decode (mB m_TK_answer) 95 = .ok (.getfield 14, 3) := by decide +kernel
theorem d_TK_answer_98 : decode (mB m_TK_answer) 98 = .ok (.iconst 0, 1) := by decide +kernel
theorem d_TK_answer_99 : decode (mB m_TK_answer) 99 = .ok (.iconst 4, 1) := by decide +kernel
theorem d_TK_answer_100 : decode (mB m_TK_answer) 100 = .ok (.iconst 4, 1) := by decide +kernel
theorem d_TK_answer_101 : decode (mB m_TK_answer) 101 = .ok (.invokevirtual 99, 3) := by decide +kernel
theorem d_TK_answer_104 : decode (mB m_TK_answer) 104 = .ok (.aload_n 0, 1) := by decide +kernel
theorem d_TK_answer_105 : decode (mB m_TK_answer) 105 = .ok (.getfield 14, 3) := by decide +kernel
theorem d_TK_answer_108 : decode (mB m_TK_answer) 108 = .ok (.getfield 68, 3) := by decide +kernel
theorem d_TK_answer_111 : decode (mB m_TK_answer) 111 = .ok (.iconst 1, 1) := by decide +kernel
theorem d_TK_answer_112 : decode (mB m_TK_answer) 112 = .ok (.iload_n 2, 1) := by decide +kernel
theorem d_TK_answer_113 : decode (mB m_TK_answer) 113 = .ok (.iastore, 1) := by decide +kernel
theorem d_TK_answer_114 : decode (mB m_TK_answer) 114 = .ok (.aload_n 0, 1) := by decide +kernel
theorem d_TK_answer_115 : decode (mB m_TK_answer) 115 = .ok (.getfield 14, 3) := by decide +kernel
theorem d_TK_answer_118 : decode (mB m_TK_answer) 118 = .ok (.iconst 4, 1) := by decide +kernel
theorem d_TK_answer_119 : decode (mB m_TK_answer) 119 = .ok (.iconst 4, 1) := by decide +kernel
theorem d_TK_answer_120 : decode (mB m_TK_answer) 120 = .ok (.iload_n 3, 1) := by decide +kernel
theorem d_TK_answer_121 : decode (mB m_TK_answer) 121 = .ok (.i2l, 1) := by decide +kernel
theorem d_TK_answer_122 : decode (mB m_TK_answer) 122 = .ok (.invokevirtual 109, 3) := by decide +kernel
theorem d_TK_answer_125 : decode (mB m_TK_answer) 125 = .ok (.aload_n 0, 1) := by decide +kernel
theorem d_TK_answer_126 : decode (mB m_TK_answer) 126 = .ok (.getfield 14, 3) := by decide +kernel
theorem d_TK_answer_129 : decode (mB m_TK_answer) 129 = .ok (.bipush (8), 2) := by decide +kernel
theorem d_TK_answer_131 : decode (mB m_TK_answer) 131 = .ok (.iconst 4, 1) := by decide +kernel
theorem d_TK_answer_132 : decode (mB m_TK_answer) 132 = .ok (.iload 4, 2) := by decide +kernel
theorem d_TK_answer_134 : decode (mB m_TK_answer) 134 = .ok (.i2l, 1) := by decide +kernel
theorem d_TK_answer_135 : decode (mB m_TK_answer) 135 = .ok (.invokevirtual 109, 3) := by decide +kernel
theorem d_TK_answer_138 : decode (mB m_TK_answer) 138 = .ok (.aload_n 0, 1) := by decide +kernel
theorem d_TK_answer_139 : decode (mB m_TK_answer) 139 = .ok (.getfield 14, 3) := by decide +kernel
theorem d_TK_answer_142 : decode (mB m_TK_answer) 142 = .ok (.bipush (24), 2) := by decide +kernel
theorem d_TK_answer_144 : decode (mB m_TK_answer) 144 = .ok (.bipush (8), 2) := by decide +kernel
theorem d_TK_answer_146 : decode (mB m_TK_answer) 146 = .ok (.aload 13, 2) := by decide +kernel
theorem d_TK_answer_148 : decode (mB m_TK_answer) 148 = .ok (.getfield 106, 3) := by decide +kernel
theorem d_TK_answer_151 : decode (mB m_TK_answer) 151 = .ok (.invokevirtual 109, 3) := by decide +kernel
theorem d_TK_answer_154 : decode (mB m_TK_answer) 154 = .ok (.aload_n 0, 1) := by decide +kernel
theorem d_TK_answer_155 : decode (mB m_TK_answer) 155 = .ok (.getfield 14, 3) := by decide +kernel
theorem d_TK_answer_158 : decode (mB m_TK_answer) 158 = .ok (.bipush (32), 2) := by decide +kernel
theorem d_TK_answer_160 : decode (mB m_TK_answer) 160 = .ok (.bipush (8), 2) := by decide +kernel
theorem d_TK_answer_162 : decode (mB m_TK_answer) 162 = .ok (.lload 14, 2) := by decide +kernel
theorem d_TK_answer_164 : decode (mB m_TK_answer) 164 = .ok (.invokevirtual 109, 3) := by decide +kernel
theorem d_TK_answer_167 : decode (mB m_TK_answer) 167 = .ok (.aload_n 0, 1) := by decide +kernel
theorem d_TK_answer_168 : decode (mB m_TK_answer) 168 = .ok (.getfield 14, 3) := by decide +kernel
theorem d_TK_answer_171 : decode (mB m_TK_answer) 171 = .ok (.bipush (40), 2) := by decide +kernel
theorem d_TK_answer_173 : decode (mB m_TK_answer) 173 = .ok (.bipush (8), 2) := by decide +kernel
theorem d_TK_answer_175 : decode (mB m_TK_answer) 175 = .ok (.lload 14, 2) := by decide +kernel
theorem d_TK_answer_177 : decode (mB m_TK_answer) 177 = .ok (.lload 9, 2) := by decide +kernel
theorem d_TK_answer_179 : decode (mB m_TK_answer) 179 = .ok (.ladd, 1) := by decide +kernel
theorem d_TK_answer_180 : decode (mB m_TK_answer) 180 = .ok (.invokevirtual 109, 3) := by decide +kernel
theorem d_TK_answer_183 : decode (mB m_TK_answer) 183 = .ok (.aload_n 0, 1) := by decide +kernel
theorem d_TK_answer_184 : decode (mB m_TK_answer) 184 = .ok (.getfield 24, 3) := by decide +kernel
theorem d_TK_answer_187 : decode (mB m_TK_answer) 187 = .ok (.dup, 1) := by decide +kernel
theorem d_TK_answer_188 : decode (mB m_TK_answer) 188 = .ok (.getfield 80, 3) := by decide +kernel
theorem d_TK_answer_191 : decode (mB m_TK_answer) 191 = .ok (.lload 7, 2) := by decide +kernel
theorem d_TK_answer_193 : decode (mB m_TK_answer) 193 = .ok (.lload 9, 2) := by decide +kernel
theorem d_TK_answer_195 : decode (mB m_TK_answer) 195 = .ok (.ladd, 1) := by decide +kernel
theorem d_TK_answer_196 : decode (mB m_TK_answer) 196 = .ok (.lload 11, 2) := by decide +kernel
theorem d_TK_answer_198 : decode (mB m_TK_answer) 198 = .ok (.ladd, 1) := by decide +kernel
theorem d_TK_answer_199 : decode (mB m_TK_answer) 199 = .ok (.ladd, 1) := by decide +kernel
theorem d_TK_answer_200 : decode (mB m_TK_answer) 200 = .ok (.putfield 80, 3) := by decide +kernel
theorem d_TK_answer_203 : decode (mB m_TK_answer) 203 = .ok (.aload_n 0, 1) := by decide +kernel
theorem d_TK_answer_204 : decode (mB m_TK_answer) 204 = .ok (.getfield 24, 3) := by decide +kernel
theorem d_TK_answer_207 : decode (mB m_TK_answer) 207 = .ok (.getfield 80, 3) := by decide +kernel
theorem d_TK_answer_210 : decode (mB m_TK_answer) 210 = .ok (.lreturn, 1) := by decide +kernel
theorem d_TK_peer_0 : decode (mB m_TK_peer) 0 = .ok (.aload_n 0, 1) := by decide +kernel
theorem d_TK_peer_1 : decode (mB m_TK_peer) 1 = .ok (.iload_n 1, 1) := by decide +kernel
theorem d_TK_peer_2 : decode (mB m_TK_peer) 2 = .ok (.invokevirtual 91, 3) := by decide +kernel
theorem d_TK_peer_5 : decode (mB m_TK_peer) 5 = .ok (.astore_n 3, 1) := by decide +kernel
theorem d_TK_peer_6 : decode (mB m_TK_peer) 6 = .ok (.iload_n 2, 1) := by decide +kernel
theorem d_TK_peer_7 : decode (mB m_TK_peer) 7 = .ok (.ifCond .lt (9), 3) := by decide +kernel
theorem d_TK_peer_10 : decode (mB m_TK_peer) 10 = .ok (.iload_n 2, 1) := by decide +kernel
theorem d_TK_peer_11 : decode (mB m_TK_peer) 11 = .ok (.bipush (9), 2) := by decide +kernel
theorem d_TK_peer_13 : decode (mB m_TK_peer) 13 = .ok (.if_icmp .le (13), 3) := by decide +kernel
theorem d_TK_peer_16 : decode (mB m_TK_peer) 16 = .ok (.new 42, 3) := by decide +kernel
theorem d_TK_peer_19 : decode (mB m_TK_peer) 19 = .ok (.dup, 1) := by decide +kernel
theorem d_TK_peer_20 : decode (mB m_TK_peer) 20 = .ok (.ldc 173, 2) := by decide +kernel
theorem d_TK_peer_22 : decode (mB m_TK_peer) 22 = .ok (.invokespecial 46, 3) := by decide +kernel
theorem d_TK_peer_25 : decode (mB m_TK_peer) 25 = .ok (.athrow, 1) := by decide +kernel
theorem d_TK_peer_26 : decode (mB m_TK_peer) 26 = .ok (.iload_n 2, 1) := by decide +kernel
theorem d_TK_peer_27 : decode (mB m_TK_peer) 27 = .ok (.iconst 2, 1) := by decide +kernel
theorem d_TK_peer_28 : decode (mB m_TK_peer) 28 = .ok (.if_icmp .lt (26), 3) := by decide +kernel
theorem d_TK_peer_31 : decode (mB m_TK_peer) 31 = .ok (.iload_n 2, 1) := by decide +kernel
theorem d_TK_peer_32 : decode (mB m_TK_peer) 32 = .ok (.bipush (6), 2) := by decide +kernel
theorem d_TK_peer_34 : decode (mB m_TK_peer) 34 = .ok (.if_icmp .gt (20), 3) := by decide +kernel
theorem d_TK_peer_37 : decode (mB m_TK_peer) 37 = .ok (.aload_n 3, 1) := by decide +kernel
theorem d_TK_peer_38 : decode (mB m_TK_peer) 38 = .ok (.getfield 175, 3) := by decide +kernel
theorem d_TK_peer_41 : decode (mB m_TK_peer) 41 = .ok (.ifCond .ne (13), 3) := by decide +kernel
theorem d_TK_peer_44 : decode (mB m_TK_peer) 44 = .ok (.new 53, 3) := by decide +kernel
theorem d_TK_peer_47 : decode (mB m_TK_peer) 47 = .ok (.dup, 1) := by decide +kernel
theorem d_TK_peer_48 : decode (mB m_TK_peer) 48 = .ok (.ldc 178, 2) := by decide +kernel
theorem d_TK_peer_50 : decode (mB m_TK_peer) 50 = .ok (.invokespecial 57, 3) := by decide +kernel
theorem d_TK_peer_53 : decode (mB m_TK_peer) 53 = .ok (.athrow, 1) := by decide +kernel
theorem d_TK_peer_54 : decode (mB m_TK_peer) 54 = .ok (.iload_n 2, 1) := by decide +kernel
theorem d_TK_peer_55 : decode (mB m_TK_peer) 55 = .ok (.tableswitch (112) (0) (8) #[49, 54, 59, 65, 71, 83, 88, 100, 106], 49) := by decide +kernel
theorem d_TK_peer_104 : decode (mB m_TK_peer) 104 = .ok (.aload_n 3, 1) := by decide +kernel
theorem d_TK_peer_105 : decode (mB m_TK_peer) 105 = .ok (.getfield 106, 3) := by decide +kernel
theorem d_TK_peer_108 : decode (mB m_TK_peer) 108 = .ok (.lreturn, 1) := by decide +kernel
theorem d_TK_peer_109 : decode (mB m_TK_peer) 109 = .ok (.aload_n 3, 1) := by decide +kernel
theorem d_TK_peer_110 : decode (mB m_TK_peer) 110 = .ok (.getfield 180, 3) := by decide +kernel
theorem d_TK_peer_113 : decode (mB m_TK_peer) 113 = .ok (.lreturn, 1) := by decide +kernel
theorem d_TK_peer_114 : decode (mB m_TK_peer) 114 = .ok (.aload_n 3, 1) := by decide +kernel
theorem d_TK_peer_115 : decode (mB m_TK_peer) 115 = .ok (.iconst 0, 1) := by decide +kernel
theorem d_TK_peer_116 : decode (mB m_TK_peer) 116 = .ok (.invokevirtual 183, 3) := by decide +kernel
theorem d_TK_peer_119 : decode (mB m_TK_peer) 119 = .ok (.lreturn, 1) := by decide +kernel
theorem d_TK_peer_120 : decode (mB m_TK_peer) 120 = .ok (.aload_n 3, 1) := by decide +kernel
theorem d_TK_peer_121 : decode (mB m_TK_peer) 121 = .ok (.iconst 0, 1) := by decide +kernel
theorem d_TK_peer_122 : decode (mB m_TK_peer) 122 = .ok (.invokevirtual 187, 3) := by decide +kernel
theorem d_TK_peer_125 : decode (mB m_TK_peer) 125 = .ok (.lreturn, 1) := by decide +kernel
theorem d_TK_peer_126 : decode (mB m_TK_peer) 126 = .ok (.aload_n 3, 1) := by decide +kernel
theorem d_TK_peer_127 : decode (mB m_TK_peer) 127 = .ok (.aload_n 0, 1) := by decide +kernel
theorem d_TK_peer_128 : decode (mB m_TK_peer) 128 = .ok (.getfield 24, 3) := by decide +kernel
theorem d_TK_peer_131 : decode (mB m_TK_peer) 131 = .ok (.getfield 77, 3) := by decide +kernel
theorem d_TK_peer_134 : decode (mB m_TK_peer) 134 = .ok (.invokevirtual 190, 3) := by decide +kernel
theorem d_TK_peer_137 : decode (mB m_TK_peer) 137 = .ok (.lreturn, 1) := by decide +kernel
theorem d_TK_peer_138 : decode (mB m_TK_peer) 138 = .ok (.aload_n 3, 1) := by decide +kernel
theorem d_TK_peer_139 : decode (mB m_TK_peer) 139 = .ok (.getfield 193, 3) := by decide +kernel
theorem d_TK_peer_142 : decode (mB m_TK_peer) 142 = .ok (.lreturn, 1) := by decide +kernel
theorem d_TK_peer_143 : decode (mB m_TK_peer) 143 = .ok (.aload_n 3, 1) := by decide +kernel
theorem d_TK_peer_144 : decode (mB m_TK_peer) 144 = .ok (.aload_n 0, 1) := by decide +kernel
theorem d_TK_peer_145 : decode (mB m_TK_peer) 145 = .ok (.getfield 24, 3) := by decide +kernel
theorem d_TK_peer_148 : decode (mB m_TK_peer) 148 = .ok (.getfield 77, 3) := by decide +kernel
theorem d_TK_peer_151 : decode (mB m_TK_peer) 151 = .ok (.invokevirtual 194, 3) := by decide +kernel
theorem d_TK_peer_154 : decode (mB m_TK_peer) 154 = .ok (.lreturn, 1) := by decide +kernel
theorem d_TK_peer_155 : decode (mB m_TK_peer) 155 = .ok (.aload_n 3, 1) := by decide +kernel
theorem d_TK_peer_156 : decode (mB m_TK_peer) 156 = .ok (.getfield 175, 3) := by decide +kernel
theorem d_TK_peer_159 : decode (mB m_TK_peer) 159 = .ok (.i2l, 1) := by decide +kernel
theorem d_TK_peer_160 : decode (mB m_TK_peer) 160 = .ok (.lreturn, 1) := by decide +kernel
theorem d_TK_peer_161 : decode (mB m_TK_peer) 161 = .ok (.aload_n 3, 1) := by decide +kernel
theorem d_TK_peer_162 : decode (mB m_TK_peer) 162 = .ok (.getfield 197, 3) := by decide +kernel
theorem d_TK_peer_165 : decode (mB m_TK_peer) 165 = .ok (.i2l, 1) := by decide +kernel
theorem d_TK_peer_166 : decode (mB m_TK_peer) 166 = .ok (.lreturn, 1) := by decide +kernel
theorem d_TK_peer_167 : decode (mB m_TK_peer) 167 = .ok (.aload_n 3, 1) := by decide +kernel
theorem d_TK_peer_168 : decode (mB m_TK_peer) 168 = .ok (.getfield 200, 3) := by decide +kernel
theorem d_TK_peer_171 : decode (mB m_TK_peer) 171 = .ok (.i2l, 1) := by decide +kernel
theorem d_TK_peer_172 : decode (mB m_TK_peer) 172 = .ok (.lreturn, 1) := by decide +kernel
theorem d_TK_sample_0 : decode (mB m_TK_sample) 0 = .ok (.aload_n 0, 1) := by decide +kernel
theorem d_TK_sample_1 : decode (mB m_TK_sample) 1 = .ok (.iload_n 1, 1) := by decide +kernel
theorem d_TK_sample_2 : decode (mB m_TK_sample) 2 = .ok (.invokevirtual 91, 3) := by decide +kernel
theorem d_TK_sample_5 : decode (mB m_TK_sample) 5 = .ok (.astore 4, 2) := by decide +kernel
theorem d_TK_sample_7 : decode (mB m_TK_sample) 7 = .ok (.iload_n 2, 1) := by decide +kernel
theorem d_TK_sample_8 : decode (mB m_TK_sample) 8 = .ok (.ifCond .lt (12), 3) := by decide +kernel
theorem d_TK_sample_11 : decode (mB m_TK_sample) 11 = .ok (.iload_n 2, 1) := by decide +kernel
theorem d_TK_sample_12 : decode (mB m_TK_sample) 12 = .ok (.aload 4, 2) := by decide +kernel
theorem d_TK_sample_14 : decode (mB m_TK_sample) 14 = .ok (.getfield 175, 3) := by decide +kernel
theorem d_TK_sample_17 : decode (mB m_TK_sample) 17 = .ok (.if_icmp .lt (13), 3) := by decide +kernel
theorem d_TK_sample_20 : decode (mB m_TK_sample) 20 = .ok (.new 61, 3) := by decide +kernel
theorem d_TK_sample_23 : decode (mB m_TK_sample) 23 = .ok (.dup, 1) := by decide +kernel
theorem d_TK_sample_24 : decode (mB m_TK_sample) 24 = .ok (.ldc 201, 2) := by decide +kernel
theorem d_TK_sample_26 : decode (mB m_TK_sample) 26 = .ok (.invokespecial 65, 3) := by decide +kernel
theorem d_TK_sample_29 : decode (mB m_TK_sample) 29 = .ok (.athrow, 1) := by decide +kernel
theorem d_TK_sample_30 : decode (mB m_TK_sample) 30 = .ok (.iload_n 3, 1) := by decide +kernel
theorem d_TK_sample_31 : decode (mB m_TK_sample) 31 = .ok (.tableswitch (53) (0) (2) #[25, 32, 39], 25) := by decide +kernel
theorem d_TK_sample_56 : decode (mB m_TK_sample) 56 = .ok (.aload 4, 2) := by decide +kernel
theorem d_TK_sample_58 : decode (mB m_TK_sample) 58 = .ok (.iload_n 2, 1) := by decide +kernel
theorem d_TK_sample_59 : decode (mB m_TK_sample) 59 = .ok (.invokevirtual 183, 3) := by decide +kernel
theorem d_TK_sample_62 : decode (mB m_TK_sample) 62 = .ok (.lreturn, 1) := by decide +kernel
theorem d_TK_sample_63 : decode (mB m_TK_sample) 63 = .ok (.aload 4, 2) := by decide +kernel
theorem d_TK_sample_65 : decode (mB m_TK_sample) 65 = .ok (.iload_n 2, 1) := by decide +kernel
theorem d_TK_sample_66 : decode (mB m_TK_sample) 66 = .ok (.invokevirtual 187, 3) := by decide +kernel
theorem d_TK_sample_69 : decode (mB m_TK_sample) 69 = .ok (.lreturn, 1) := by decide +kernel
theorem d_TK_sample_70 : decode (mB m_TK_sample) 70 = .ok (.aload 4, 2) := by decide +kernel
theorem d_TK_sample_72 : decode (mB m_TK_sample) 72 = .ok (.iload_n 2, 1) := by decide +kernel
theorem d_TK_sample_73 : decode (mB m_TK_sample) 73 = .ok (.aload_n 0, 1) := by decide +kernel
theorem d_TK_sample_74 : decode (mB m_TK_sample) 74 = .ok (.getfield 24, 3) := by decide +kernel
theorem d_TK_sample_77 : decode (mB m_TK_sample) 77 = .ok (.getfield 77, 3) := by decide +kernel
theorem d_TK_sample_80 : decode (mB m_TK_sample) 80 = .ok (.invokevirtual 203, 3) := by decide +kernel
theorem d_TK_sample_83 : decode (mB m_TK_sample) 83 = .ok (.lreturn, 1) := by decide +kernel
theorem d_TK_sample_84 : decode (mB m_TK_sample) 84 = .ok (.new 42, 3) := by decide +kernel
theorem d_TK_sample_87 : decode (mB m_TK_sample) 87 = .ok (.dup, 1) := by decide +kernel
theorem d_TK_sample_88 : decode (mB m_TK_sample) 88 = .ok (.ldc 206, 2) := by decide +kernel
theorem d_TK_sample_90 : decode (mB m_TK_sample) 90 = .ok (.invokespecial 46, 3) := by decide +kernel
theorem d_TK_sample_93 : decode (mB m_TK_sample) 93 = .ok (.athrow, 1) := by decide +kernel
theorem d_TK_chosen_0 : decode (mB m_TK_chosen) 0 = .ok (.iload_n 1, 1) := by decide +kernel
theorem d_TK_chosen_1 : decode (mB m_TK_chosen) 1 = .ok (.tableswitch (51) (0) (2) #[27, 35, 43], 27) := by decide +kernel
theorem d_TK_chosen_28 : decode (mB m_TK_chosen) 28 = .ok (.aload_n 0, 1) := by decide +kernel
theorem d_TK_chosen_29 : decode (mB m_TK_chosen) 29 = .ok (.getfield 38, 3) := by decide +kernel
theorem d_TK_chosen_32 : decode (mB m_TK_chosen) 32 = .ok (.getfield 208, 3) := by decide +kernel
theorem d_TK_chosen_35 : decode (mB m_TK_chosen) 35 = .ok (.ireturn, 1) := by decide +kernel
theorem d_TK_chosen_36 : decode (mB m_TK_chosen) 36 = .ok (.aload_n 0, 1) := by decide +kernel
theorem d_TK_chosen_37 : decode (mB m_TK_chosen) 37 = .ok (.getfield 38, 3) := by decide +kernel
theorem d_TK_chosen_40 : decode (mB m_TK_chosen) 40 = .ok (.getfield 211, 3) := by decide +kernel
theorem d_TK_chosen_43 : decode (mB m_TK_chosen) 43 = .ok (.ireturn, 1) := by decide +kernel
theorem d_TK_chosen_44 : decode (mB m_TK_chosen) 44 = .ok (.aload_n 0, 1) := by decide +kernel
theorem d_TK_chosen_45 : decode (mB m_TK_chosen) 45 = .ok (.getfield 38, 3) := by decide +kernel
theorem d_TK_chosen_48 : decode (mB m_TK_chosen) 48 = .ok (.getfield 214, 3) := by decide +kernel
theorem d_TK_chosen_51 : decode (mB m_TK_chosen) 51 = .ok (.ireturn, 1) := by decide +kernel
theorem d_TK_chosen_52 : decode (mB m_TK_chosen) 52 = .ok (.new 42, 3) := by decide +kernel
theorem d_TK_chosen_55 : decode (mB m_TK_chosen) 55 = .ok (.dup, 1) := by decide +kernel
theorem d_TK_chosen_56 : decode (mB m_TK_chosen) 56 = .ok (.ldc 206, 2) := by decide +kernel
theorem d_TK_chosen_58 : decode (mB m_TK_chosen) 58 = .ok (.invokespecial 46, 3) := by decide +kernel
theorem d_TK_chosen_61 : decode (mB m_TK_chosen) 61 = .ok (.athrow, 1) := by decide +kernel
theorem d_TK_about_0 : decode (mB m_TK_about) 0 = .ok (.iload_n 1, 1) := by decide +kernel
theorem d_TK_about_1 : decode (mB m_TK_about) 1 = .ok (.ifCond .lt (9), 3) := by decide +kernel
theorem d_TK_about_4 : decode (mB m_TK_about) 4 = .ok (.iload_n 1, 1) := by decide +kernel
theorem d_TK_about_5 : decode (mB m_TK_about) 5 = .ok (.bipush (10), 2) := by decide +kernel
theorem d_TK_about_7 : decode (mB m_TK_about) 7 = .ok (.if_icmp .le (13), 3) := by decide +kernel
theorem d_TK_about_10 : decode (mB m_TK_about) 10 = .ok (.new 42, 3) := by decide +kernel
theorem d_TK_about_13 : decode (mB m_TK_about) 13 = .ok (.dup, 1) := by decide +kernel
theorem d_TK_about_14 : decode (mB m_TK_about) 14 = .ok (.ldc 217, 2) := by decide +kernel
theorem d_TK_about_16 : decode (mB m_TK_about) 16 = .ok (.invokespecial 46, 3) := by decide +kernel
theorem d_TK_about_19 : decode (mB m_TK_about) 19 = .ok (.athrow, 1) := by decide +kernel
theorem d_TK_about_20 : decode (mB m_TK_about) 20 = .ok (.iload_n 1, 1) := by decide +kernel
theorem d_TK_about_21 : decode (mB m_TK_about) 21 = .ok (.iconst 4, 1) := by decide +kernel
theorem d_TK_about_22 : decode (mB m_TK_about) 22 = .ok (.if_icmp .gt (23), 3) := by decide +kernel
theorem d_TK_about_25 : decode (mB m_TK_about) 25 = .ok (.aload_n 0, 1) := by decide +kernel
theorem d_TK_about_26 : decode (mB m_TK_about) 26 = .ok (.getfield 38, 3) := by decide +kernel
theorem d_TK_about_29 : decode (mB m_TK_about) 29 = .ok (.getfield 219, 3) := by decide +kernel
theorem d_TK_about_32 : decode (mB m_TK_about) 32 = .ok (.ifCond .ne (13), 3) := by decide +kernel
theorem d_TK_about_35 : decode (mB m_TK_about) 35 = .ok (.new 53, 3) := by decide +kernel
theorem d_TK_about_38 : decode (mB m_TK_about) 38 = .ok (.dup, 1) := by decide +kernel
theorem d_TK_about_39 : decode (mB m_TK_about) 39 = .ok (.ldc 223, 2) := by decide +kernel
theorem d_TK_about_41 : decode (mB m_TK_about) 41 = .ok (.invokespecial 57, 3) := by decide +kernel
theorem d_TK_about_44 : decode (mB m_TK_about) 44 = .ok (.athrow, 1) := by decide +kernel
theorem d_TK_about_45 : decode (mB m_TK_about) 45 = .ok (.iload_n 1, 1) := by decide +kernel
theorem d_TK_about_46 : decode (mB m_TK_about) 46 = .ok (.tableswitch (138) (0) (9) #[54, 62, 70, 79, 87, 95, 103, 111, 120, 129], 54) := by decide +kernel
theorem d_TK_about_100 : decode (mB m_TK_about) 100 = .ok (.aload_n 0, 1) := by decide +kernel
theorem d_TK_about_101 : decode (mB m_TK_about) 101 = .ok (.getfield 38, 3) := by decide +kernel
theorem d_TK_about_104 : decode (mB m_TK_about) 104 = .ok (.getfield 129, 3) := by decide +kernel
theorem d_TK_about_107 : decode (mB m_TK_about) 107 = .ok (.lreturn, 1) := by decide +kernel
theorem d_TK_about_108 : decode (mB m_TK_about) 108 = .ok (.aload_n 0, 1) := by decide +kernel
theorem d_TK_about_109 : decode (mB m_TK_about) 109 = .ok (.getfield 38, 3) := by decide +kernel
theorem d_TK_about_112 : decode (mB m_TK_about) 112 = .ok (.getfield 132, 3) := by decide +kernel
theorem d_TK_about_115 : decode (mB m_TK_about) 115 = .ok (.lreturn, 1) := by decide +kernel
theorem d_TK_about_116 : decode (mB m_TK_about) 116 = .ok (.aload_n 0, 1) := by decide +kernel
theorem d_TK_about_117 : decode (mB m_TK_about) 117 = .ok (.getfield 38, 3) := by decide +kernel
theorem d_TK_about_120 : decode (mB m_TK_about) 120 = .ok (.getfield 149, 3) := by decide +kernel
theorem d_TK_about_123 : decode (mB m_TK_about) 123 = .ok (.i2l, 1) := by decide +kernel
theorem d_TK_about_124 : decode (mB m_TK_about) 124 = .ok (.lreturn, 1) := by decide +kernel
theorem d_TK_about_125 : decode (mB m_TK_about) 125 = .ok (.aload_n 0, 1) := by decide +kernel
theorem d_TK_about_126 : decode (mB m_TK_about) 126 = .ok (.getfield 38, 3) := by decide +kernel
theorem d_TK_about_129 : decode (mB m_TK_about) 129 = .ok (.getfield 225, 3) := by decide +kernel
theorem d_TK_about_132 : decode (mB m_TK_about) 132 = .ok (.lreturn, 1) := by decide +kernel
theorem d_TK_about_133 : decode (mB m_TK_about) 133 = .ok (.aload_n 0, 1) := by decide +kernel
theorem d_TK_about_134 : decode (mB m_TK_about) 134 = .ok (.getfield 38, 3) := by decide +kernel
theorem d_TK_about_137 : decode (mB m_TK_about) 137 = .ok (.getfield 228, 3) := by decide +kernel
theorem d_TK_about_140 : decode (mB m_TK_about) 140 = .ok (.lreturn, 1) := by decide +kernel
theorem d_TK_about_141 : decode (mB m_TK_about) 141 = .ok (.aload_n 0, 1) := by decide +kernel
theorem d_TK_about_142 : decode (mB m_TK_about) 142 = .ok (.getfield 24, 3) := by decide +kernel
theorem d_TK_about_145 : decode (mB m_TK_about) 145 = .ok (.getfield 231, 3) := by decide +kernel
theorem d_TK_about_148 : decode (mB m_TK_about) 148 = .ok (.lreturn, 1) := by decide +kernel
theorem d_TK_about_149 : decode (mB m_TK_about) 149 = .ok (.aload_n 0, 1) := by decide +kernel
theorem d_TK_about_150 : decode (mB m_TK_about) 150 = .ok (.getfield 24, 3) := by decide +kernel
theorem d_TK_about_153 : decode (mB m_TK_about) 153 = .ok (.getfield 234, 3) := by decide +kernel
theorem d_TK_about_156 : decode (mB m_TK_about) 156 = .ok (.lreturn, 1) := by decide +kernel
theorem d_TK_about_157 : decode (mB m_TK_about) 157 = .ok (.aload_n 0, 1) := by decide +kernel
theorem d_TK_about_158 : decode (mB m_TK_about) 158 = .ok (.getfield 24, 3) := by decide +kernel
theorem d_TK_about_161 : decode (mB m_TK_about) 161 = .ok (.getfield 103, 3) := by decide +kernel
theorem d_TK_about_164 : decode (mB m_TK_about) 164 = .ok (.i2l, 1) := by decide +kernel
theorem d_TK_about_165 : decode (mB m_TK_about) 165 = .ok (.lreturn, 1) := by decide +kernel
theorem d_TK_about_166 : decode (mB m_TK_about) 166 = .ok (.aload_n 0, 1) := by decide +kernel
theorem d_TK_about_167 : decode (mB m_TK_about) 167 = .ok (.getfield 24, 3) := by decide +kernel
theorem d_TK_about_170 : decode (mB m_TK_about) 170 = .ok (.getfield 237, 3) := by decide +kernel
theorem d_TK_about_173 : decode (mB m_TK_about) 173 = .ok (.i2l, 1) := by decide +kernel
theorem d_TK_about_174 : decode (mB m_TK_about) 174 = .ok (.lreturn, 1) := by decide +kernel
theorem d_TK_about_175 : decode (mB m_TK_about) 175 = .ok (.aload_n 0, 1) := by decide +kernel
theorem d_TK_about_176 : decode (mB m_TK_about) 176 = .ok (.getfield 24, 3) := by decide +kernel
theorem d_TK_about_179 : decode (mB m_TK_about) 179 = .ok (.getfield 238, 3) := by decide +kernel
theorem d_TK_about_182 : decode (mB m_TK_about) 182 = .ok (.i2l, 1) := by decide +kernel
theorem d_TK_about_183 : decode (mB m_TK_about) 183 = .ok (.lreturn, 1) := by decide +kernel
theorem d_TK_about_184 : decode (mB m_TK_about) 184 = .ok (.aload_n 0, 1) := by decide +kernel
theorem d_TK_about_185 : decode (mB m_TK_about) 185 = .ok (.getfield 24, 3) := by decide +kernel
theorem d_TK_about_188 : decode (mB m_TK_about) 188 = .ok (.getfield 241, 3) := by decide +kernel
theorem d_TK_about_191 : decode (mB m_TK_about) 191 = .ok (.i2l, 1) := by decide +kernel
theorem d_TK_about_192 : decode (mB m_TK_about) 192 = .ok (.lreturn, 1) := by decide +kernel
theorem d_TK_size_0 : decode (mB m_TK_size) 0 = .ok (.aload_n 0, 1) := by decide +kernel
theorem d_TK_size_1 : decode (mB m_TK_size) 1 = .ok (.getfield 18, 3) := by decide +kernel
theorem d_TK_size_4 : decode (mB m_TK_size) 4 = .ok (.getfield 49, 3) := by decide +kernel
theorem d_TK_size_7 : decode (mB m_TK_size) 7 = .ok (.ireturn, 1) := by decide +kernel
theorem d_TK_out_0 : decode (mB m_TK_out) 0 = .ok (.iload_n 1, 1) := by decide +kernel
theorem d_TK_out_1 : decode (mB m_TK_out) 1 = .ok (.ifCond .lt (14), 3) := by decide +kernel
theorem d_TK_out_4 : decode (mB m_TK_out) 4 = .ok (.iload_n 1, 1) := by decide +kernel
theorem d_TK_out_5 : decode (mB m_TK_out) 5 = .ok (.aload_n 0, 1) := by decide +kernel
theorem d_TK_out_6 : decode (mB m_TK_out) 6 = .ok (.getfield 18, 3) := by decide +kernel
theorem d_TK_out_9 : decode (mB m_TK_out) 9 = .ok (.getfield 49, 3) := by decide +kernel
theorem d_TK_out_12 : decode (mB m_TK_out) 12 = .ok (.if_icmp .lt (13), 3) := by decide +kernel
theorem d_TK_out_15 : decode (mB m_TK_out) 15 = .ok (.new 61, 3) := by decide +kernel
theorem d_TK_out_18 : decode (mB m_TK_out) 18 = .ok (.dup, 1) := by decide +kernel
theorem d_TK_out_19 : decode (mB m_TK_out) 19 = .ok (.ldc 63, 2) := by decide +kernel
theorem d_TK_out_21 : decode (mB m_TK_out) 21 = .ok (.invokespecial 65, 3) := by decide +kernel
theorem d_TK_out_24 : decode (mB m_TK_out) 24 = .ok (.athrow, 1) := by decide +kernel
theorem d_TK_out_25 : decode (mB m_TK_out) 25 = .ok (.aload_n 0, 1) := by decide +kernel
theorem d_TK_out_26 : decode (mB m_TK_out) 26 = .ok (.getfield 18, 3) := by decide +kernel
theorem d_TK_out_29 : decode (mB m_TK_out) 29 = .ok (.getfield 68, 3) := by decide +kernel
theorem d_TK_out_32 : decode (mB m_TK_out) 32 = .ok (.iload_n 1, 1) := by decide +kernel
theorem d_TK_out_33 : decode (mB m_TK_out) 33 = .ok (.iaload, 1) := by decide +kernel
theorem d_TK_out_34 : decode (mB m_TK_out) 34 = .ok (.ireturn, 1) := by decide +kernel
theorem d_TK_known_0 : decode (mB m_TK_known) 0 = .ok (.iload_n 1, 1) := by decide +kernel
theorem d_TK_known_1 : decode (mB m_TK_known) 1 = .ok (.ifCond .lt (9), 3) := by decide +kernel
theorem d_TK_known_4 : decode (mB m_TK_known) 4 = .ok (.iload_n 1, 1) := by decide +kernel
theorem d_TK_known_5 : decode (mB m_TK_known) 5 = .ok (.bipush (8), 2) := by decide +kernel
theorem d_TK_known_7 : decode (mB m_TK_known) 7 = .ok (.if_icmp .lt (13), 3) := by decide +kernel
theorem d_TK_known_10 : decode (mB m_TK_known) 10 = .ok (.new 61, 3) := by decide +kernel
theorem d_TK_known_13 : decode (mB m_TK_known) 13 = .ok (.dup, 1) := by decide +kernel
theorem d_TK_known_14 : decode (mB m_TK_known) 14 = .ok (.ldc 244, 2) := by decide +kernel
theorem d_TK_known_16 : decode (mB m_TK_known) 16 = .ok (.invokespecial 65, 3) := by decide +kernel
theorem d_TK_known_19 : decode (mB m_TK_known) 19 = .ok (.athrow, 1) := by decide +kernel
theorem d_TK_known_20 : decode (mB m_TK_known) 20 = .ok (.aload_n 0, 1) := by decide +kernel
theorem d_TK_known_21 : decode (mB m_TK_known) 21 = .ok (.getfield 30, 3) := by decide +kernel
theorem d_TK_known_24 : decode (mB m_TK_known) 24 = .ok (.iload_n 1, 1) := by decide +kernel
theorem d_TK_known_25 : decode (mB m_TK_known) 25 = .ok (.aaload, 1) := by decide +kernel
theorem d_TK_known_26 : decode (mB m_TK_known) 26 = .ok (.areturn, 1) := by decide +kernel
theorem d_TK_isTravel_0 : decode (mB m_TK_isTravel) 0 = .ok (.lload_n 0, 1) := by decide +kernel
theorem d_TK_isTravel_1 : decode (mB m_TK_isTravel) 1 = .ok (.lconst 0, 1) := by decide +kernel
theorem d_TK_isTravel_2 : decode (mB m_TK_isTravel) 2 = .ok (.lcmp, 1) := by decide +kernel
theorem d_TK_isTravel_3 : decode (mB m_TK_isTravel) 3 = .ok (.ifCond .lt (15), 3) := by decide +kernel
theorem d_TK_isTravel_6 : decode (mB m_TK_isTravel) 6 = .ok (.lload_n 0, 1) := by decide +kernel
theorem d_TK_isTravel_7 : decode (mB m_TK_isTravel) 7 = .ok (.ldc2_w 246, 3) := by decide +kernel
theorem d_TK_isTravel_10 : decode (mB m_TK_isTravel) 10 = .ok (.lcmp, 1) := by decide +kernel
theorem d_TK_isTravel_11 : decode (mB m_TK_isTravel) 11 = .ok (.ifCond .gt (7), 3) := by decide +kernel
theorem d_TK_isTravel_14 : decode (mB m_TK_isTravel) 14 = .ok (.iconst 1, 1) := by decide +kernel
theorem d_TK_isTravel_15 : decode (mB m_TK_isTravel) 15 = .ok (.goto (4), 3) := by decide +kernel
theorem d_TK_isTravel_18 : decode (mB m_TK_isTravel) 18 = .ok (.iconst 0, 1) := by decide +kernel
theorem d_TK_isTravel_19 : decode (mB m_TK_isTravel) 19 = .ok (.ireturn, 1) := by decide +kernel
theorem d_TK_failedTest_0 : decode (mB m_TK_failedTest) 0 = .ok (.aload_n 0, 1) := by decide +kernel
theorem d_TK_failedTest_1 : decode (mB m_TK_failedTest) 1 = .ok (.getfield 14, 3) := by decide +kernel
theorem d_TK_failedTest_4 : decode (mB m_TK_failedTest) 4 = .ok (.getfield 49, 3) := by decide +kernel
theorem d_TK_failedTest_7 : decode (mB m_TK_failedTest) 7 = .ok (.bipush (48), 2) := by decide +kernel
theorem d_TK_failedTest_9 : decode (mB m_TK_failedTest) 9 = .ok (.if_icmp .eq (5), 3) := by decide +kernel
theorem d_TK_failedTest_12 : decode (mB m_TK_failedTest) 12 = .ok (.iconst 1, 1) := by decide +kernel
theorem d_TK_failedTest_13 : decode (mB m_TK_failedTest) 13 = .ok (.ireturn, 1) := by decide +kernel
theorem d_TK_failedTest_14 : decode (mB m_TK_failedTest) 14 = .ok (.aload_n 0, 1) := by decide +kernel
theorem d_TK_failedTest_15 : decode (mB m_TK_failedTest) 15 = .ok (.getfield 14, 3) := by decide +kernel
theorem d_TK_failedTest_18 : decode (mB m_TK_failedTest) 18 = .ok (.invokevirtual 142, 3) := by decide +kernel
theorem d_TK_failedTest_21 : decode (mB m_TK_failedTest) 21 = .ok (.ifCond .eq (14), 3) := by decide +kernel
theorem d_TK_failedTest_24 : decode (mB m_TK_failedTest) 24 = .ok (.aload_n 0, 1) := by decide +kernel
theorem d_TK_failedTest_25 : decode (mB m_TK_failedTest) 25 = .ok (.getfield 14, 3) := by decide +kernel
theorem d_TK_failedTest_28 : decode (mB m_TK_failedTest) 28 = .ok (.invokevirtual 145, 3) := by decide +kernel
theorem d_TK_failedTest_31 : decode (mB m_TK_failedTest) 31 = .ok (.iconst 4, 1) := by decide +kernel
theorem d_TK_failedTest_32 : decode (mB m_TK_failedTest) 32 = .ok (.if_icmp .eq (5), 3) := by decide +kernel
theorem d_TK_failedTest_35 : decode (mB m_TK_failedTest) 35 = .ok (.iconst 2, 1) := by decide +kernel
theorem d_TK_failedTest_36 : decode (mB m_TK_failedTest) 36 = .ok (.ireturn, 1) := by decide +kernel
theorem d_TK_failedTest_37 : decode (mB m_TK_failedTest) 37 = .ok (.aload_n 0, 1) := by decide +kernel
theorem d_TK_failedTest_38 : decode (mB m_TK_failedTest) 38 = .ok (.getfield 14, 3) := by decide +kernel
theorem d_TK_failedTest_41 : decode (mB m_TK_failedTest) 41 = .ok (.bipush (40), 2) := by decide +kernel
theorem d_TK_failedTest_43 : decode (mB m_TK_failedTest) 43 = .ok (.bipush (8), 2) := by decide +kernel
theorem d_TK_failedTest_45 : decode (mB m_TK_failedTest) 45 = .ok (.invokevirtual 155, 3) := by decide +kernel
theorem d_TK_failedTest_48 : decode (mB m_TK_failedTest) 48 = .ok (.lstore_n 2, 1) := by decide +kernel
theorem d_TK_failedTest_49 : decode (mB m_TK_failedTest) 49 = .ok (.lload_n 2, 1) := by decide +kernel
theorem d_TK_failedTest_50 : decode (mB m_TK_failedTest) 50 = .ok (.aload_n 1, 1) := by decide +kernel
theorem d_TK_failedTest_51 : decode (mB m_TK_failedTest) 51 = .ok (.getfield 180, 3) := by decide +kernel
theorem d_TK_failedTest_54 : decode (mB m_TK_failedTest) 54 = .ok (.lcmp, 1) := by decide +kernel
theorem d_TK_failedTest_55 : decode (mB m_TK_failedTest) 55 = .ok (.ifCond .ne (11), 3) := by decide +kernel
theorem d_TK_failedTest_58 : decode (mB m_TK_failedTest) 58 = .ok (.lload_n 2, 1) := by decide +kernel
theorem d_TK_failedTest_59 : decode (mB m_TK_failedTest) 59 = .ok (.lconst 0, 1) := by decide +kernel
theorem d_TK_failedTest_60 : decode (mB m_TK_failedTest) 60 = .ok (.lcmp, 1) := by decide +kernel
theorem d_TK_failedTest_61 : decode (mB m_TK_failedTest) 61 = .ok (.ifCond .eq (5), 3) := by decide +kernel
theorem d_TK_failedTest_64 : decode (mB m_TK_failedTest) 64 = .ok (.iconst 3, 1) := by decide +kernel
theorem d_TK_failedTest_65 : decode (mB m_TK_failedTest) 65 = .ok (.ireturn, 1) := by decide +kernel
theorem d_TK_failedTest_66 : decode (mB m_TK_failedTest) 66 = .ok (.aload_n 1, 1) := by decide +kernel
theorem d_TK_failedTest_67 : decode (mB m_TK_failedTest) 67 = .ok (.getfield 106, 3) := by decide +kernel
theorem d_TK_failedTest_70 : decode (mB m_TK_failedTest) 70 = .ok (.lconst 0, 1) := by decide +kernel
theorem d_TK_failedTest_71 : decode (mB m_TK_failedTest) 71 = .ok (.lcmp, 1) := by decide +kernel
theorem d_TK_failedTest_72 : decode (mB m_TK_failedTest) 72 = .ok (.ifCond .eq (22), 3) := by decide +kernel
theorem d_TK_failedTest_75 : decode (mB m_TK_failedTest) 75 = .ok (.aload_n 0, 1) := by decide +kernel
theorem d_TK_failedTest_76 : decode (mB m_TK_failedTest) 76 = .ok (.getfield 14, 3) := by decide +kernel
theorem d_TK_failedTest_79 : decode (mB m_TK_failedTest) 79 = .ok (.bipush (24), 2) := by decide +kernel
theorem d_TK_failedTest_81 : decode (mB m_TK_failedTest) 81 = .ok (.bipush (8), 2) := by decide +kernel
theorem d_TK_failedTest_83 : decode (mB m_TK_failedTest) 83 = .ok (.invokevirtual 155, 3) := by decide +kernel
theorem d_TK_failedTest_86 : decode (mB m_TK_failedTest) 86 = .ok (.aload_n 1, 1) := by decide +kernel
theorem d_TK_failedTest_87 : decode (mB m_TK_failedTest) 87 = .ok (.getfield 106, 3) := by decide +kernel
theorem d_TK_failedTest_90 : decode (mB m_TK_failedTest) 90 = .ok (.lcmp, 1) := by decide +kernel
theorem d_TK_failedTest_91 : decode (mB m_TK_failedTest) 91 = .ok (.ifCond .eq (5), 3) := by decide +kernel
theorem d_TK_failedTest_94 : decode (mB m_TK_failedTest) 94 = .ok (.iconst 4, 1) := by decide +kernel
theorem d_TK_failedTest_95 : decode (mB m_TK_failedTest) 95 = .ok (.ireturn, 1) := by decide +kernel
theorem d_TK_failedTest_96 : decode (mB m_TK_failedTest) 96 = .ok (.aload_n 0, 1) := by decide +kernel
theorem d_TK_failedTest_97 : decode (mB m_TK_failedTest) 97 = .ok (.getfield 14, 3) := by decide +kernel
theorem d_TK_failedTest_100 : decode (mB m_TK_failedTest) 100 = .ok (.bipush (32), 2) := by decide +kernel
theorem d_TK_failedTest_102 : decode (mB m_TK_failedTest) 102 = .ok (.bipush (8), 2) := by decide +kernel
theorem d_TK_failedTest_104 : decode (mB m_TK_failedTest) 104 = .ok (.invokevirtual 155, 3) := by decide +kernel
theorem d_TK_failedTest_107 : decode (mB m_TK_failedTest) 107 = .ok (.lconst 0, 1) := by decide +kernel
theorem d_TK_failedTest_108 : decode (mB m_TK_failedTest) 108 = .ok (.lcmp, 1) := by decide +kernel
theorem d_TK_failedTest_109 : decode (mB m_TK_failedTest) 109 = .ok (.ifCond .eq (9), 3) := by decide +kernel
theorem d_TK_failedTest_112 : decode (mB m_TK_failedTest) 112 = .ok (.lload_n 2, 1) := by decide +kernel
theorem d_TK_failedTest_113 : decode (mB m_TK_failedTest) 113 = .ok (.lconst 0, 1) := by decide +kernel
theorem d_TK_failedTest_114 : decode (mB m_TK_failedTest) 114 = .ok (.lcmp, 1) := by decide +kernel
theorem d_TK_failedTest_115 : decode (mB m_TK_failedTest) 115 = .ok (.ifCond .ne (5), 3) := by decide +kernel
theorem d_TK_failedTest_118 : decode (mB m_TK_failedTest) 118 = .ok (.iconst 5, 1) := by decide +kernel
theorem d_TK_failedTest_119 : decode (mB m_TK_failedTest) 119 = .ok (.ireturn, 1) := by decide +kernel
theorem d_TK_failedTest_120 : decode (mB m_TK_failedTest) 120 = .ok (.aload_n 0, 1) := by decide +kernel
theorem d_TK_failedTest_121 : decode (mB m_TK_failedTest) 121 = .ok (.getfield 14, 3) := by decide +kernel
theorem d_TK_failedTest_124 : decode (mB m_TK_failedTest) 124 = .ok (.getfield 68, 3) := by decide +kernel
theorem d_TK_failedTest_127 : decode (mB m_TK_failedTest) 127 = .ok (.iconst 1, 1) := by decide +kernel
theorem d_TK_failedTest_128 : decode (mB m_TK_failedTest) 128 = .ok (.iaload, 1) := by decide +kernel
theorem d_TK_failedTest_129 : decode (mB m_TK_failedTest) 129 = .ok (.istore 4, 2) := by decide +kernel
theorem d_TK_failedTest_131 : decode (mB m_TK_failedTest) 131 = .ok (.aload_n 0, 1) := by decide +kernel
theorem d_TK_failedTest_132 : decode (mB m_TK_failedTest) 132 = .ok (.getfield 14, 3) := by decide +kernel
theorem d_TK_failedTest_135 : decode (mB m_TK_failedTest) 135 = .ok (.invokevirtual 248, 3) := by decide +kernel
theorem d_TK_failedTest_138 : decode (mB m_TK_failedTest) 138 = .ok (.iconst 3, 1) := by decide +kernel
theorem d_TK_failedTest_139 : decode (mB m_TK_failedTest) 139 = .ok (.if_icmp .eq (15), 3) := by decide +kernel
theorem d_TK_failedTest_142 : decode (mB m_TK_failedTest) 142 = .ok (.iload 4, 2) := by decide +kernel
theorem d_TK_failedTest_144 : decode (mB m_TK_failedTest) 144 = .ok (.ifCond .eq (10), 3) := by decide +kernel
theorem d_TK_failedTest_147 : decode (mB m_TK_failedTest) 147 = .ok (.iload 4, 2) := by decide +kernel
theorem d_TK_failedTest_149 : decode (mB m_TK_failedTest) 149 = .ok (.bipush (15), 2) := by decide +kernel
theorem d_TK_failedTest_151 : decode (mB m_TK_failedTest) 151 = .ok (.if_icmp .le (6), 3) := by decide +kernel
theorem d_TK_failedTest_154 : decode (mB m_TK_failedTest) 154 = .ok (.bipush (6), 2) := by decide +kernel
theorem d_TK_failedTest_156 : decode (mB m_TK_failedTest) 156 = .ok (.ireturn, 1) := by decide +kernel
theorem d_TK_failedTest_157 : decode (mB m_TK_failedTest) 157 = .ok (.aload_n 0, 1) := by decide +kernel
theorem d_TK_failedTest_158 : decode (mB m_TK_failedTest) 158 = .ok (.getfield 14, 3) := by decide +kernel
theorem d_TK_failedTest_161 : decode (mB m_TK_failedTest) 161 = .ok (.invokevirtual 251, 3) := by decide +kernel
theorem d_TK_failedTest_164 : decode (mB m_TK_failedTest) 164 = .ok (.ldc2_w 255, 3) := by decide +kernel
theorem d_TK_failedTest_167 : decode (mB m_TK_failedTest) 167 = .ok (.lcmp, 1) := by decide +kernel
theorem d_TK_failedTest_168 : decode (mB m_TK_failedTest) 168 = .ok (.ifCond .le (6), 3) := by decide +kernel
theorem d_TK_failedTest_171 : decode (mB m_TK_failedTest) 171 = .ok (.bipush (7), 2) := by decide +kernel
theorem d_TK_failedTest_173 : decode (mB m_TK_failedTest) 173 = .ok (.ireturn, 1) := by decide +kernel
theorem d_TK_failedTest_174 : decode (mB m_TK_failedTest) 174 = .ok (.aload_n 0, 1) := by decide +kernel
theorem d_TK_failedTest_175 : decode (mB m_TK_failedTest) 175 = .ok (.aload_n 1, 1) := by decide +kernel
theorem d_TK_failedTest_176 : decode (mB m_TK_failedTest) 176 = .ok (.invokevirtual 257, 3) := by decide +kernel
theorem d_TK_failedTest_179 : decode (mB m_TK_failedTest) 179 = .ok (.lstore 5, 2) := by decide +kernel
theorem d_TK_failedTest_181 : decode (mB m_TK_failedTest) 181 = .ok (.lload 5, 2) := by decide +kernel
theorem d_TK_failedTest_183 : decode (mB m_TK_failedTest) 183 = .ok (.ldc2_w 261, 3) := by decide +kernel
theorem d_TK_failedTest_186 : decode (mB m_TK_failedTest) 186 = .ok (.lcmp, 1) := by decide +kernel
theorem d_TK_failedTest_187 : decode (mB m_TK_failedTest) 187 = .ok (.ifCond .le (12), 3) := by decide +kernel
theorem d_TK_failedTest_190 : decode (mB m_TK_failedTest) 190 = .ok (.lload 5, 2) := by decide +kernel
theorem d_TK_failedTest_192 : decode (mB m_TK_failedTest) 192 = .ok (.ldc2_w 246, 3) := by decide +kernel
theorem d_TK_failedTest_195 : decode (mB m_TK_failedTest) 195 = .ok (.lcmp, 1) := by decide +kernel
theorem d_TK_failedTest_196 : decode (mB m_TK_failedTest) 196 = .ok (.ifCond .lt (8), 3) := by decide +kernel
theorem d_TK_failedTest_199 : decode (mB m_TK_failedTest) 199 = .ok (.bipush (8), 2) := by decide +kernel
theorem d_TK_failedTest_201 : decode (mB m_TK_failedTest) 201 = .ok (.goto (4), 3) := by decide +kernel
theorem d_TK_failedTest_204 : decode (mB m_TK_failedTest) 204 = .ok (.iconst 0, 1) := by decide +kernel
theorem d_TK_failedTest_205 : decode (mB m_TK_failedTest) 205 = .ok (.ireturn, 1) := by decide +kernel
theorem d_TK_toldOffset_0 : decode (mB m_TK_toldOffset) 0 = .ok (.aload_n 0, 1) := by decide +kernel
theorem d_TK_toldOffset_1 : decode (mB m_TK_toldOffset) 1 = .ok (.getfield 14, 3) := by decide +kernel
theorem d_TK_toldOffset_4 : decode (mB m_TK_toldOffset) 4 = .ok (.bipush (32), 2) := by decide +kernel
theorem d_TK_toldOffset_6 : decode (mB m_TK_toldOffset) 6 = .ok (.bipush (8), 2) := by decide +kernel
theorem d_TK_toldOffset_8 : decode (mB m_TK_toldOffset) 8 = .ok (.invokevirtual 155, 3) := by decide +kernel
theorem d_TK_toldOffset_11 : decode (mB m_TK_toldOffset) 11 = .ok (.aload_n 1, 1) := by decide +kernel
theorem d_TK_toldOffset_12 : decode (mB m_TK_toldOffset) 12 = .ok (.getfield 106, 3) := by decide +kernel
theorem d_TK_toldOffset_15 : decode (mB m_TK_toldOffset) 15 = .ok (.lsub, 1) := by decide +kernel
theorem d_TK_toldOffset_16 : decode (mB m_TK_toldOffset) 16 = .ok (.lstore_n 2, 1) := by decide +kernel
theorem d_TK_toldOffset_17 : decode (mB m_TK_toldOffset) 17 = .ok (.aload_n 0, 1) := by decide +kernel
theorem d_TK_toldOffset_18 : decode (mB m_TK_toldOffset) 18 = .ok (.getfield 14, 3) := by decide +kernel
theorem d_TK_toldOffset_21 : decode (mB m_TK_toldOffset) 21 = .ok (.bipush (40), 2) := by decide +kernel
theorem d_TK_toldOffset_23 : decode (mB m_TK_toldOffset) 23 = .ok (.bipush (8), 2) := by decide +kernel
theorem d_TK_toldOffset_25 : decode (mB m_TK_toldOffset) 25 = .ok (.invokevirtual 155, 3) := by decide +kernel
theorem d_TK_toldOffset_28 : decode (mB m_TK_toldOffset) 28 = .ok (.aload_n 0, 1) := by decide +kernel
theorem d_TK_toldOffset_29 : decode (mB m_TK_toldOffset) 29 = .ok (.getfield 24, 3) := by decide +kernel
theorem d_TK_toldOffset_32 : decode (mB m_TK_toldOffset) 32 = .ok (.getfield 80, 3) := by decide +kernel
theorem d_TK_toldOffset_35 : decode (mB m_TK_toldOffset) 35 = .ok (.lsub, 1) := by decide +kernel
theorem d_TK_toldOffset_36 : decode (mB m_TK_toldOffset) 36 = .ok (.lstore 4, 2) := by decide +kernel
theorem d_TK_toldOffset_38 : decode (mB m_TK_toldOffset) 38 = .ok (.lload_n 2, 1) := by decide +kernel
theorem d_TK_toldOffset_39 : decode (mB m_TK_toldOffset) 39 = .ok (.lload 4, 2) := by decide +kernel
theorem d_TK_toldOffset_41 : decode (mB m_TK_toldOffset) 41 = .ok (.ladd, 1) := by decide +kernel
theorem d_TK_toldOffset_42 : decode (mB m_TK_toldOffset) 42 = .ok (.ldc2_w 263, 3) := by decide +kernel
theorem d_TK_toldOffset_45 : decode (mB m_TK_toldOffset) 45 = .ok (.invokestatic 265, 3) := by decide +kernel
theorem d_TK_toldOffset_48 : decode (mB m_TK_toldOffset) 48 = .ok (.lreturn, 1) := by decide +kernel
theorem d_TK_toldDelay_0 : decode (mB m_TK_toldDelay) 0 = .ok (.aload_n 0, 1) := by decide +kernel
theorem d_TK_toldDelay_1 : decode (mB m_TK_toldDelay) 1 = .ok (.getfield 24, 3) := by decide +kernel
theorem d_TK_toldDelay_4 : decode (mB m_TK_toldDelay) 4 = .ok (.getfield 80, 3) := by decide +kernel
theorem d_TK_toldDelay_7 : decode (mB m_TK_toldDelay) 7 = .ok (.aload_n 1, 1) := by decide +kernel
theorem d_TK_toldDelay_8 : decode (mB m_TK_toldDelay) 8 = .ok (.getfield 106, 3) := by decide +kernel
theorem d_TK_toldDelay_11 : decode (mB m_TK_toldDelay) 11 = .ok (.lsub, 1) := by decide +kernel
theorem d_TK_toldDelay_12 : decode (mB m_TK_toldDelay) 12 = .ok (.lstore_n 2, 1) := by decide +kernel
theorem d_TK_toldDelay_13 : decode (mB m_TK_toldDelay) 13 = .ok (.aload_n 0, 1) := by decide +kernel
theorem d_TK_toldDelay_14 : decode (mB m_TK_toldDelay) 14 = .ok (.getfield 14, 3) := by decide +kernel
theorem d_TK_toldDelay_17 : decode (mB m_TK_toldDelay) 17 = .ok (.bipush (40), 2) := by decide +kernel
theorem d_TK_toldDelay_19 : decode (mB m_TK_toldDelay) 19 = .ok (.bipush (8), 2) := by decide +kernel
theorem d_TK_toldDelay_21 : decode (mB m_TK_toldDelay) 21 = .ok (.invokevirtual 155, 3) := by decide +kernel
theorem d_TK_toldDelay_24 : decode (mB m_TK_toldDelay) 24 = .ok (.aload_n 0, 1) := by decide +kernel
theorem d_TK_toldDelay_25 : decode (mB m_TK_toldDelay) 25 = .ok (.getfield 14, 3) := by decide +kernel
theorem d_TK_toldDelay_28 : decode (mB m_TK_toldDelay) 28 = .ok (.bipush (32), 2) := by decide +kernel
theorem d_TK_toldDelay_30 : decode (mB m_TK_toldDelay) 30 = .ok (.bipush (8), 2) := by decide +kernel
theorem d_TK_toldDelay_32 : decode (mB m_TK_toldDelay) 32 = .ok (.invokevirtual 155, 3) := by decide +kernel
theorem d_TK_toldDelay_35 : decode (mB m_TK_toldDelay) 35 = .ok (.lsub, 1) := by decide +kernel
theorem d_TK_toldDelay_36 : decode (mB m_TK_toldDelay) 36 = .ok (.lstore 4, 2) := by decide +kernel
theorem d_TK_toldDelay_38 : decode (mB m_TK_toldDelay) 38 = .ok (.ldc2_w 271, 3) := by decide +kernel
theorem d_TK_toldDelay_41 : decode (mB m_TK_toldDelay) 41 = .ok (.ldc2_w 273, 3) := by decide +kernel
theorem d_TK_toldDelay_44 : decode (mB m_TK_toldDelay) 44 = .ok (.lload_n 2, 1) := by decide +kernel
theorem d_TK_toldDelay_45 : decode (mB m_TK_toldDelay) 45 = .ok (.lload 4, 2) := by decide +kernel
theorem d_TK_toldDelay_47 : decode (mB m_TK_toldDelay) 47 = .ok (.lsub, 1) := by decide +kernel
theorem d_TK_toldDelay_48 : decode (mB m_TK_toldDelay) 48 = .ok (.invokestatic 275, 3) := by decide +kernel
theorem d_TK_toldDelay_51 : decode (mB m_TK_toldDelay) 51 = .ok (.invokestatic 278, 3) := by decide +kernel
theorem d_TK_toldDelay_54 : decode (mB m_TK_toldDelay) 54 = .ok (.lreturn, 1) := by decide +kernel
theorem d_TK_take_0 : decode (mB m_TK_take) 0 = .ok (.aload_n 1, 1) := by decide +kernel
theorem d_TK_take_1 : decode (mB m_TK_take) 1 = .ok (.aload_n 0, 1) := by decide +kernel
theorem d_TK_take_2 : decode (mB m_TK_take) 2 = .ok (.aload_n 1, 1) := by decide +kernel
theorem d_TK_take_3 : decode (mB m_TK_take) 3 = .ok (.invokevirtual 257, 3) := by decide +kernel
theorem d_TK_take_6 : decode (mB m_TK_take) 6 = .ok (.aload_n 0, 1) := by decide +kernel
theorem d_TK_take_7 : decode (mB m_TK_take) 7 = .ok (.aload_n 1, 1) := by decide +kernel
theorem d_TK_take_8 : decode (mB m_TK_take) 8 = .ok (.invokevirtual 281, 3) := by decide +kernel
theorem d_TK_take_11 : decode (mB m_TK_take) 11 = .ok (.aload_n 0, 1) := by decide +kernel
theorem d_TK_take_12 : decode (mB m_TK_take) 12 = .ok (.getfield 24, 3) := by decide +kernel
theorem d_TK_take_15 : decode (mB m_TK_take) 15 = .ok (.getfield 77, 3) := by decide +kernel
theorem d_TK_take_18 : decode (mB m_TK_take) 18 = .ok (.invokevirtual 284, 3) := by decide +kernel
theorem d_TK_take_21 : decode (mB m_TK_take) 21 = .ok (.aload_n 1, 1) := by decide +kernel
theorem d_TK_take_22 : decode (mB m_TK_take) 22 = .ok (.aload_n 0, 1) := by decide +kernel
theorem d_TK_take_23 : decode (mB m_TK_take) 23 = .ok (.getfield 14, 3) := by decide +kernel
theorem d_TK_take_26 : decode (mB m_TK_take) 26 = .ok (.bipush (40), 2) := by decide +kernel
theorem d_TK_take_28 : decode (mB m_TK_take) 28 = .ok (.bipush (8), 2) := by decide +kernel
theorem d_TK_take_30 : decode (mB m_TK_take) 30 = .ok (.invokevirtual 155, 3) := by decide +kernel
theorem d_TK_take_33 : decode (mB m_TK_take) 33 = .ok (.putfield 180, 3) := by decide +kernel
theorem d_TK_take_36 : decode (mB m_TK_take) 36 = .ok (.aload_n 1, 1) := by decide +kernel
theorem d_TK_take_37 : decode (mB m_TK_take) 37 = .ok (.aload_n 0, 1) := by decide +kernel
theorem d_TK_take_38 : decode (mB m_TK_take) 38 = .ok (.getfield 14, 3) := by decide +kernel
theorem d_TK_take_41 : decode (mB m_TK_take) 41 = .ok (.getfield 68, 3) := by decide +kernel
theorem d_TK_take_44 : decode (mB m_TK_take) 44 = .ok (.iconst 1, 1) := by decide +kernel
theorem d_TK_take_45 : decode (mB m_TK_take) 45 = .ok (.iaload, 1) := by decide +kernel
theorem d_TK_take_46 : decode (mB m_TK_take) 46 = .ok (.putfield 200, 3) := by decide +kernel
theorem d_TK_take_49 : decode (mB m_TK_take) 49 = .ok (.aload_n 1, 1) := by decide +kernel
theorem d_TK_take_50 : decode (mB m_TK_take) 50 = .ok (.aload_n 0, 1) := by decide +kernel
theorem d_TK_take_51 : decode (mB m_TK_take) 51 = .ok (.getfield 14, 3) := by decide +kernel
theorem d_TK_take_54 : decode (mB m_TK_take) 54 = .ok (.iconst 4, 1) := by decide +kernel
theorem d_TK_take_55 : decode (mB m_TK_take) 55 = .ok (.iconst 4, 1) := by decide +kernel
theorem d_TK_take_56 : decode (mB m_TK_take) 56 = .ok (.invokevirtual 155, 3) := by decide +kernel
theorem d_TK_take_59 : decode (mB m_TK_take) 59 = .ok (.ldc2_w 288, 3) := by decide +kernel
theorem d_TK_take_62 : decode (mB m_TK_take) 62 = .ok (.lmul, 1) := by decide +kernel
theorem d_TK_take_63 : decode (mB m_TK_take) 63 = .ok (.putfield 290, 3) := by decide +kernel
theorem d_TK_take_66 : decode (mB m_TK_take) 66 = .ok (.aload_n 1, 1) := by decide +kernel
theorem d_TK_take_67 : decode (mB m_TK_take) 67 = .ok (.aload_n 0, 1) := by decide +kernel
theorem d_TK_take_68 : decode (mB m_TK_take) 68 = .ok (.getfield 14, 3) := by decide +kernel
theorem d_TK_take_71 : decode (mB m_TK_take) 71 = .ok (.bipush (8), 2) := by decide +kernel
theorem d_TK_take_73 : decode (mB m_TK_take) 73 = .ok (.iconst 4, 1) := by decide +kernel
theorem d_TK_take_74 : decode (mB m_TK_take) 74 = .ok (.invokevirtual 155, 3) := by decide +kernel
theorem d_TK_take_77 : decode (mB m_TK_take) 77 = .ok (.ldc2_w 288, 3) := by decide +kernel
theorem d_TK_take_80 : decode (mB m_TK_take) 80 = .ok (.lmul, 1) := by decide +kernel
theorem d_TK_take_81 : decode (mB m_TK_take) 81 = .ok (.putfield 293, 3) := by decide +kernel
theorem d_TK_take_84 : decode (mB m_TK_take) 84 = .ok (.aload_n 1, 1) := by decide +kernel
theorem d_TK_take_85 : decode (mB m_TK_take) 85 = .ok (.lconst 0, 1) := by decide +kernel
theorem d_TK_take_86 : decode (mB m_TK_take) 86 = .ok (.putfield 106, 3) := by decide +kernel
theorem d_TK_take_89 : decode (mB m_TK_take) 89 = .ok (.aload_n 1, 1) := by decide +kernel
theorem d_TK_take_90 : decode (mB m_TK_take) 90 = .ok (.dup, 1) := by decide +kernel
theorem d_TK_take_91 : decode (mB m_TK_take) 91 = .ok (.getfield 197, 3) := by decide +kernel
theorem d_TK_take_94 : decode (mB m_TK_take) 94 = .ok (.iconst 1, 1) := by decide +kernel
theorem d_TK_take_95 : decode (mB m_TK_take) 95 = .ok (.ior, 1) := by decide +kernel
theorem d_TK_take_96 : decode (mB m_TK_take) 96 = .ok (.putfield 197, 3) := by decide +kernel
theorem d_TK_take_99 : decode (mB m_TK_take) 99 = .ok (.return_, 1) := by decide +kernel
theorem d_TK_forgetSamples_0 : decode (mB m_TK_forgetSamples) 0 = .ok (.iconst 0, 1) := by decide +kernel
theorem d_TK_forgetSamples_1 : decode (mB m_TK_forgetSamples) 1 = .ok (.istore_n 1, 1) := by decide +kernel
theorem d_TK_forgetSamples_2 : decode (mB m_TK_forgetSamples) 2 = .ok (.iload_n 1, 1) := by decide +kernel
theorem d_TK_forgetSamples_3 : decode (mB m_TK_forgetSamples) 3 = .ok (.bipush (8), 2) := by decide +kernel
theorem d_TK_forgetSamples_5 : decode (mB m_TK_forgetSamples) 5 = .ok (.if_icmp .ge (29), 3) := by decide +kernel
theorem d_TK_forgetSamples_8 : decode (mB m_TK_forgetSamples) 8 = .ok (.aload_n 0, 1) := by decide +kernel
theorem d_TK_forgetSamples_9 : decode (mB m_TK_forgetSamples) 9 = .ok (.getfield 30, 3) := by decide +kernel
theorem d_TK_forgetSamples_12 : decode (mB m_TK_forgetSamples) 12 = .ok (.iload_n 1, 1) := by decide +kernel
theorem d_TK_forgetSamples_13 : decode (mB m_TK_forgetSamples) 13 = .ok (.aaload, 1) := by decide +kernel
theorem d_TK_forgetSamples_14 : decode (mB m_TK_forgetSamples) 14 = .ok (.iconst 0, 1) := by decide +kernel
theorem d_TK_forgetSamples_15 : decode (mB m_TK_forgetSamples) 15 = .ok (.putfield 175, 3) := by decide +kernel
theorem d_TK_forgetSamples_18 : decode (mB m_TK_forgetSamples) 18 = .ok (.aload_n 0, 1) := by decide +kernel
theorem d_TK_forgetSamples_19 : decode (mB m_TK_forgetSamples) 19 = .ok (.getfield 30, 3) := by decide +kernel
theorem d_TK_forgetSamples_22 : decode (mB m_TK_forgetSamples) 22 = .ok (.iload_n 1, 1) := by decide +kernel
theorem d_TK_forgetSamples_23 : decode (mB m_TK_forgetSamples) 23 = .ok (.aaload, 1) := by decide +kernel
theorem d_TK_forgetSamples_24 : decode (mB m_TK_forgetSamples) 24 = .ok (.lconst 0, 1) := by decide +kernel
theorem d_TK_forgetSamples_25 : decode (mB m_TK_forgetSamples) 25 = .ok (.putfield 106, 3) := by decide +kernel
theorem d_TK_forgetSamples_28 : decode (mB m_TK_forgetSamples) 28 = .ok (.iinc 1 (1), 3) := by decide +kernel
theorem d_TK_forgetSamples_31 : decode (mB m_TK_forgetSamples) 31 = .ok (.goto (-29), 3) := by decide +kernel
theorem d_TK_forgetSamples_34 : decode (mB m_TK_forgetSamples) 34 = .ok (.return_, 1) := by decide +kernel
theorem d_TK_root_0 : decode (mB m_TK_root) 0 = .ok (.lconst 0, 1) := by decide +kernel
theorem d_TK_root_1 : decode (mB m_TK_root) 1 = .ok (.lstore_n 2, 1) := by decide +kernel
theorem d_TK_root_2 : decode (mB m_TK_root) 2 = .ok (.bipush (30), 2) := by decide +kernel
theorem d_TK_root_4 : decode (mB m_TK_root) 4 = .ok (.istore 4, 2) := by decide +kernel
theorem d_TK_root_6 : decode (mB m_TK_root) 6 = .ok (.iload 4, 2) := by decide +kernel
theorem d_TK_root_8 : decode (mB m_TK_root) 8 = .ok (.ifCond .lt (30), 3) := by decide +kernel
theorem d_TK_root_11 : decode (mB m_TK_root) 11 = .ok (.lload_n 2, 1) := by decide +kernel
theorem d_TK_root_12 : decode (mB m_TK_root) 12 = .ok (.lconst 1, 1) := by decide +kernel
theorem d_TK_root_13 : decode (mB m_TK_root) 13 = .ok (.iload 4, 2) := by decide +kernel
theorem d_TK_root_15 : decode (mB m_TK_root) 15 = .ok (.lshl, 1) := by decide +kernel
theorem d_TK_root_16 : decode (mB m_TK_root) 16 = .ok (.ladd, 1) := by decide +kernel
theorem d_TK_root_17 : decode (mB m_TK_root) 17 = .ok (.lstore 5, 2) := by decide +kernel
theorem d_TK_root_19 : decode (mB m_TK_root) 19 = .ok (.lload 5, 2) := by decide +kernel
theorem d_TK_root_21 : decode (mB m_TK_root) 21 = .ok (.lload 5, 2) := by decide +kernel
theorem d_TK_root_23 : decode (mB m_TK_root) 23 = .ok (.lmul, 1) := by decide +kernel
theorem d_TK_root_24 : decode (mB m_TK_root) 24 = .ok (.lload_n 0, 1) := by decide +kernel
theorem d_TK_root_25 : decode (mB m_TK_root) 25 = .ok (.lcmp, 1) := by decide +kernel
theorem d_TK_root_26 : decode (mB m_TK_root) 26 = .ok (.ifCond .gt (6), 3) := by decide +kernel
theorem d_TK_root_29 : decode (mB m_TK_root) 29 = .ok (.lload 5, 2) := by decide +kernel
theorem d_TK_root_31 : decode (mB m_TK_root) 31 = .ok (.lstore_n 2, 1) := by decide +kernel
theorem d_TK_root_32 : decode (mB m_TK_root) 32 = .ok (.iinc 4 (-1), 3) := by decide +kernel
theorem d_TK_root_35 : decode (mB m_TK_root) 35 = .ok (.goto (-29), 3) := by decide +kernel
theorem d_TK_root_38 : decode (mB m_TK_root) 38 = .ok (.lload_n 2, 1) := by decide +kernel
theorem d_TK_root_39 : decode (mB m_TK_root) 39 = .ok (.lreturn, 1) := by decide +kernel
theorem d_TK_spread_0 : decode (mB m_TK_spread) 0 = .ok (.lconst 0, 1) := by decide +kernel
theorem d_TK_spread_1 : decode (mB m_TK_spread) 1 = .ok (.lstore 5, 2) := by decide +kernel
theorem d_TK_spread_3 : decode (mB m_TK_spread) 3 = .ok (.iconst 0, 1) := by decide +kernel
theorem d_TK_spread_4 : decode (mB m_TK_spread) 4 = .ok (.istore 7, 2) := by decide +kernel
theorem d_TK_spread_6 : decode (mB m_TK_spread) 6 = .ok (.iconst 0, 1) := by decide +kernel
theorem d_TK_spread_7 : decode (mB m_TK_spread) 7 = .ok (.istore 8, 2) := by decide +kernel
theorem d_TK_spread_9 : decode (mB m_TK_spread) 9 = .ok (.iload 8, 2) := by decide +kernel
theorem d_TK_spread_11 : decode (mB m_TK_spread) 11 = .ok (.iload_n 1, 1) := by decide +kernel
theorem d_TK_spread_12 : decode (mB m_TK_spread) 12 = .ok (.if_icmp .ge (43), 3) := by decide +kernel
theorem d_TK_spread_15 : decode (mB m_TK_spread) 15 = .ok (.iload 8, 2) := by decide +kernel
theorem d_TK_spread_17 : decode (mB m_TK_spread) 17 = .ok (.iload 4, 2) := by decide +kernel
theorem d_TK_spread_19 : decode (mB m_TK_spread) 19 = .ok (.if_icmp .eq (30), 3) := by decide +kernel
theorem d_TK_spread_22 : decode (mB m_TK_spread) 22 = .ok (.aload_n 0, 1) := by decide +kernel
theorem d_TK_spread_23 : decode (mB m_TK_spread) 23 = .ok (.iload 8, 2) := by decide +kernel
theorem d_TK_spread_25 : decode (mB m_TK_spread) 25 = .ok (.laload, 1) := by decide +kernel
theorem d_TK_spread_26 : decode (mB m_TK_spread) 26 = .ok (.lload_n 2, 1) := by decide +kernel
theorem d_TK_spread_27 : decode (mB m_TK_spread) 27 = .ok (.lsub, 1) := by decide +kernel
theorem d_TK_spread_28 : decode (mB m_TK_spread) 28 = .ok (.ldc2_w 296, 3) := by decide +kernel
theorem d_TK_spread_31 : decode (mB m_TK_spread) 31 = .ok (.invokestatic 265, 3) := by decide +kernel
theorem d_TK_spread_34 : decode (mB m_TK_spread) 34 = .ok (.lstore 9, 2) := by decide +kernel
theorem d_TK_spread_36 : decode (mB m_TK_spread) 36 = .ok (.lload 5, 2) := by decide +kernel
theorem d_TK_spread_38 : decode (mB m_TK_spread) 38 = .ok (.lload 9, 2) := by decide +kernel
theorem d_TK_spread_40 : decode (mB m_TK_spread) 40 = .ok (.lload 9, 2) := by decide +kernel
theorem d_TK_spread_42 : decode (mB m_TK_spread) 42 = .ok (.lmul, 1) := by decide +kernel
theorem d_TK_spread_43 : decode (mB m_TK_spread) 43 = .ok (.ladd, 1) := by decide +kernel
theorem d_TK_spread_44 : decode (mB m_TK_spread) 44 = .ok (.lstore 5, 2) := by decide +kernel
theorem d_TK_spread_46 : decode (mB m_TK_spread) 46 = .ok (.iinc 7 (1), 3) := by decide +kernel
theorem d_TK_spread_49 : decode (mB m_TK_spread) 49 = .ok (.iinc 8 (1), 3) := by decide +kernel
theorem d_TK_spread_52 : decode (mB m_TK_spread) 52 = .ok (.goto (-43), 3) := by decide +kernel
theorem d_TK_spread_55 : decode (mB m_TK_spread) 55 = .ok (.iload 7, 2) := by decide +kernel
theorem d_TK_spread_57 : decode (mB m_TK_spread) 57 = .ok (.ifCond .ne (7), 3) := by decide +kernel
theorem d_TK_spread_60 : decode (mB m_TK_spread) 60 = .ok (.lconst 0, 1) := by decide +kernel
theorem d_TK_spread_61 : decode (mB m_TK_spread) 61 = .ok (.goto (16), 3) := by decide +kernel
theorem d_TK_spread_64 : decode (mB m_TK_spread) 64 = .ok (.ldc2_w 296, 3) := by decide +kernel
theorem d_TK_spread_67 : decode (mB m_TK_spread) 67 = .ok (.lload 5, 2) := by decide +kernel
theorem d_TK_spread_69 : decode (mB m_TK_spread) 69 = .ok (.iload 7, 2) := by decide +kernel
theorem d_TK_spread_71 : decode (mB m_TK_spread) 71 = .ok (.i2l, 1) := by decide +kernel
theorem d_TK_spread_72 : decode (mB m_TK_spread) 72 = .ok (.ldiv, 1) := by decide +kernel
theorem d_TK_spread_73 : decode (mB m_TK_spread) 73 = .ok (.invokestatic 298, 3) := by decide +kernel
theorem d_TK_spread_76 : decode (mB m_TK_spread) 76 = .ok (.lmul, 1) := by decide +kernel
theorem d_TK_spread_77 : decode (mB m_TK_spread) 77 = .ok (.lreturn, 1) := by decide +kernel
