/-! decode rows of TimeKeeper$Packet -/
theorem d_PK_init_0 : decode (mB m_PK_init) 0 = .ok (.aload_n 0, 1) := by decide +kernel
theorem d_PK_init_1 : decode (mB m_PK_init) 1 = .ok (.invokespecial 3, 3) := by decide +kernel
theorem d_PK_init_4 : decode (mB m_PK_init) 4 = .ok (.aload_n 0, 1) := by decide +kernel
theorem d_PK_init_5 : decode (mB m_PK_init) 5 = .ok (.iload_n 1, 1) := by decide +kernel
theorem d_PK_init_6 : decode (mB m_PK_init) 6 = .ok (.newarray .int, 2) := by decide +kernel
theorem d_PK_init_8 : decode (mB m_PK_init) 8 = .ok (.putfield 9, 3) := by decide +kernel
theorem d_PK_init_11 : decode (mB m_PK_init) 11 = .ok (.return_, 1) := by decide +kernel
theorem d_PK_append_0 : decode (mB m_PK_append) 0 = .ok (.aload_n 0, 1) := by decide +kernel
theorem d_PK_append_1 : decode (mB m_PK_append) 1 = .ok (.getfield 9, 3) := by decide +kernel
theorem d_PK_append_4 : decode (mB m_PK_append) 4 = .ok (.aload_n 0, 1) := by decide +kernel
theorem d_PK_append_5 : decode (mB m_PK_append) 5 = .ok (.getfield 15, 3) := by decide +kernel
theorem d_PK_append_8 : decode (mB m_PK_append) 8 = .ok (.iload_n 1, 1) := by decide +kernel
theorem d_PK_append_9 : decode (mB m_PK_append) 9 = .ok (.iastore, 1) := by decide +kernel
theorem d_PK_append_10 : decode (mB m_PK_append) 10 = .ok (.aload_n 0, 1) := by decide +kernel
theorem d_PK_append_11 : decode (mB m_PK_append) 11 = .ok (.dup, 1) := by decide +kernel
theorem d_PK_append_12 : decode (mB m_PK_append) 12 = .ok (.getfield 15, 3) := by decide +kernel
theorem d_PK_append_15 : decode (mB m_PK_append) 15 = .ok (.iconst 1, 1) := by decide +kernel
theorem d_PK_append_16 : decode (mB m_PK_append) 16 = .ok (.iadd, 1) := by decide +kernel
theorem d_PK_append_17 : decode (mB m_PK_append) 17 = .ok (.putfield 15, 3) := by decide +kernel
theorem d_PK_append_20 : decode (mB m_PK_append) 20 = .ok (.return_, 1) := by decide +kernel
theorem d_PK_copy_0 : decode (mB m_PK_copy) 0 = .ok (.aload_n 1, 1) := by decide +kernel
theorem d_PK_copy_1 : decode (mB m_PK_copy) 1 = .ok (.getfield 9, 3) := by decide +kernel
theorem d_PK_copy_4 : decode (mB m_PK_copy) 4 = .ok (.iconst 0, 1) := by decide +kernel
theorem d_PK_copy_5 : decode (mB m_PK_copy) 5 = .ok (.aload_n 0, 1) := by decide +kernel
theorem d_PK_copy_6 : decode (mB m_PK_copy) 6 = .ok (.getfield 9, 3) := by decide +kernel
theorem d_PK_copy_9 : decode (mB m_PK_copy) 9 = .ok (.iconst 0, 1) := by decide +kernel
theorem d_PK_copy_10 : decode (mB m_PK_copy) 10 = .ok (.aload_n 1, 1) := by decide +kernel
theorem d_PK_copy_11 : decode (mB m_PK_copy) 11 = .ok (.getfield 15, 3) := by decide +kernel
theorem d_PK_copy_14 : decode (mB m_PK_copy) 14 = .ok (.invokestatic 19, 3) := by decide +kernel
theorem d_PK_copy_17 : decode (mB m_PK_copy) 17 = .ok (.aload_n 0, 1) := by decide +kernel
theorem d_PK_copy_18 : decode (mB m_PK_copy) 18 = .ok (.aload_n 1, 1) := by decide +kernel
theorem d_PK_copy_19 : decode (mB m_PK_copy) 19 = .ok (.getfield 15, 3) := by decide +kernel
theorem d_PK_copy_22 : decode (mB m_PK_copy) 22 = .ok (.putfield 15, 3) := by decide +kernel
theorem d_PK_copy_25 : decode (mB m_PK_copy) 25 = .ok (.return_, 1) := by decide +kernel
theorem d_PK_blank_0 : decode (mB m_PK_blank) 0 = .ok (.aload_n 0, 1) := by decide +kernel
theorem d_PK_blank_1 : decode (mB m_PK_blank) 1 = .ok (.bipush (48), 2) := by decide +kernel
theorem d_PK_blank_3 : decode (mB m_PK_blank) 3 = .ok (.putfield 15, 3) := by decide +kernel
theorem d_PK_blank_6 : decode (mB m_PK_blank) 6 = .ok (.iconst 1, 1) := by decide +kernel
theorem d_PK_blank_7 : decode (mB m_PK_blank) 7 = .ok (.istore 4, 2) := by decide +kernel
theorem d_PK_blank_9 : decode (mB m_PK_blank) 9 = .ok (.iload 4, 2) := by decide +kernel
theorem d_PK_blank_11 : decode (mB m_PK_blank) 11 = .ok (.bipush (48), 2) := by decide +kernel
theorem d_PK_blank_13 : decode (mB m_PK_blank) 13 = .ok (.if_icmp .ge (17), 3) := by decide +kernel
theorem d_PK_blank_16 : decode (mB m_PK_blank) 16 = .ok (.aload_n 0, 1) := by decide +kernel
theorem d_PK_blank_17 : decode (mB m_PK_blank) 17 = .ok (.getfield 9, 3) := by decide +kernel
theorem d_PK_blank_20 : decode (mB m_PK_blank) 20 = .ok (.iload 4, 2) := by decide +kernel
theorem d_PK_blank_22 : decode (mB m_PK_blank) 22 = .ok (.iconst 0, 1) := by decide +kernel
theorem d_PK_blank_23 : decode (mB m_PK_blank) 23 = .ok (.iastore, 1) := by decide +kernel
theorem d_PK_blank_24 : decode (mB m_PK_blank) 24 = .ok (.iinc 4 (1), 3) := by decide +kernel
theorem d_PK_blank_27 : decode (mB m_PK_blank) 27 = .ok (.goto (-18), 3) := by decide +kernel
theorem d_PK_blank_30 : decode (mB m_PK_blank) 30 = .ok (.aload_n 0, 1) := by decide +kernel
theorem d_PK_blank_31 : decode (mB m_PK_blank) 31 = .ok (.getfield 9, 3) := by decide +kernel
theorem d_PK_blank_34 : decode (mB m_PK_blank) 34 = .ok (.iconst 0, 1) := by decide +kernel
theorem d_PK_blank_35 : decode (mB m_PK_blank) 35 = .ok (.bipush (64), 2) := by decide +kernel
theorem d_PK_blank_37 : decode (mB m_PK_blank) 37 = .ok (.iload_n 1, 1) := by decide +kernel
theorem d_PK_blank_38 : decode (mB m_PK_blank) 38 = .ok (.imul, 1) := by decide +kernel
theorem d_PK_blank_39 : decode (mB m_PK_blank) 39 = .ok (.bipush (8), 2) := by decide +kernel
theorem d_PK_blank_41 : decode (mB m_PK_blank) 41 = .ok (.iload_n 2, 1) := by decide +kernel
theorem d_PK_blank_42 : decode (mB m_PK_blank) 42 = .ok (.imul, 1) := by decide +kernel
theorem d_PK_blank_43 : decode (mB m_PK_blank) 43 = .ok (.iadd, 1) := by decide +kernel
theorem d_PK_blank_44 : decode (mB m_PK_blank) 44 = .ok (.iload_n 3, 1) := by decide +kernel
theorem d_PK_blank_45 : decode (mB m_PK_blank) 45 = .ok (.iadd, 1) := by decide +kernel
theorem d_PK_blank_46 : decode (mB m_PK_blank) 46 = .ok (.iastore, 1) := by decide +kernel
theorem d_PK_blank_47 : decode (mB m_PK_blank) 47 = .ok (.return_, 1) := by decide +kernel
theorem d_PK_write_0 : decode (mB m_PK_write) 0 = .ok (.iconst 0, 1) := by decide +kernel
theorem d_PK_write_1 : decode (mB m_PK_write) 1 = .ok (.istore 5, 2) := by decide +kernel
theorem d_PK_write_3 : decode (mB m_PK_write) 3 = .ok (.iload 5, 2) := by decide +kernel
theorem d_PK_write_5 : decode (mB m_PK_write) 5 = .ok (.iload_n 2, 1) := by decide +kernel
theorem d_PK_write_6 : decode (mB m_PK_write) 6 = .ok (.if_icmp .ge (34), 3) := by decide +kernel
theorem d_PK_write_9 : decode (mB m_PK_write) 9 = .ok (.aload_n 0, 1) := by decide +kernel
theorem d_PK_write_10 : decode (mB m_PK_write) 10 = .ok (.getfield 9, 3) := by decide +kernel
theorem d_PK_write_13 : decode (mB m_PK_write) 13 = .ok (.iload_n 1, 1) := by decide +kernel
theorem d_PK_write_14 : decode (mB m_PK_write) 14 = .ok (.iload 5, 2) := by decide +kernel
theorem d_PK_write_16 : decode (mB m_PK_write) 16 = .ok (.iadd, 1) := by decide +kernel
theorem d_PK_write_17 : decode (mB m_PK_write) 17 = .ok (.lload_n 3, 1) := by decide +kernel
theorem d_PK_write_18 : decode (mB m_PK_write) 18 = .ok (.bipush (8), 2) := by decide +kernel
theorem d_PK_write_20 : decode (mB m_PK_write) 20 = .ok (.iload_n 2, 1) := by decide +kernel
theorem d_PK_write_21 : decode (mB m_PK_write) 21 = .ok (.iconst 1, 1) := by decide +kernel
theorem d_PK_write_22 : decode (mB m_PK_write) 22 = .ok (.isub, 1) := by decide +kernel
theorem d_PK_write_23 : decode (mB m_PK_write) 23 = .ok (.iload 5, 2) := by decide +kernel
theorem d_PK_write_25 : decode (mB m_PK_write) 25 = .ok (.isub, 1) := by decide +kernel
theorem d_PK_write_26 : decode (mB m_PK_write) 26 = .ok (.imul, 1) := by decide +kernel
theorem d_PK_write_27 : decode (mB m_PK_write) 27 = .ok (.lushr, 1) := by decide +kernel
theorem d_PK_write_28 : decode (mB m_PK_write) 28 = .ok (.l2i, 1) := by decide +kernel
theorem d_PK_write_29 : decode (mB m_PK_write) 29 = .ok (.sipush (255), 3) := by decide +kernel
theorem d_PK_write_32 : decode (mB m_PK_write) 32 = .ok (.iand, 1) := by decide +kernel
theorem d_PK_write_33 : decode (mB m_PK_write) 33 = .ok (.iastore, 1) := by decide +kernel
theorem d_PK_write_34 : decode (mB m_PK_write) 34 = .ok (.iinc 5 (1), 3) := by decide +kernel
theorem d_PK_write_37 : decode (mB m_PK_write) 37 = .ok (.goto (-34), 3) := by decide +kernel
theorem d_PK_write_40 : decode (mB m_PK_write) 40 = .ok (.return_, 1) := by decide +kernel
theorem d_PK_read_0 : decode (mB m_PK_read) 0 = .ok (.lconst 0, 1) := by decide +kernel
theorem d_PK_read_1 : decode (mB m_PK_read) 1 = .ok (.lstore_n 3, 1) := by decide +kernel
theorem d_PK_read_2 : decode (mB m_PK_read) 2 = .ok (.iconst 0, 1) := by decide +kernel
theorem d_PK_read_3 : decode (mB m_PK_read) 3 = .ok (.istore 5, 2) := by decide +kernel
theorem d_PK_read_5 : decode (mB m_PK_read) 5 = .ok (.iload 5, 2) := by decide +kernel
theorem d_PK_read_7 : decode (mB m_PK_read) 7 = .ok (.iload_n 2, 1) := by decide +kernel
theorem d_PK_read_8 : decode (mB m_PK_read) 8 = .ok (.if_icmp .ge (25), 3) := by decide +kernel
theorem d_PK_read_11 : decode (mB m_PK_read) 11 = .ok (.lload_n 3, 1) := by decide +kernel
theorem d_PK_read_12 : decode (mB m_PK_read) 12 = .ok (.bipush (8), 2) := by decide +kernel
theorem d_PK_read_14 : decode (mB m_PK_read) 14 = .ok (.lshl, 1) := by decide +kernel
theorem d_PK_read_15 : decode (mB m_PK_read) 15 = .ok (.aload_n 0, 1) := by decide +kernel
theorem d_PK_read_16 : decode (mB m_PK_read) 16 = .ok (.getfield 9, 3) := by decide +kernel
theorem d_PK_read_19 : decode (mB m_PK_read) 19 = .ok (.iload_n 1, 1) := by decide +kernel
theorem d_PK_read_20 : decode (mB m_PK_read) 20 = .ok (.iload 5, 2) := by decide +kernel
theorem d_PK_read_22 : decode (mB m_PK_read) 22 = .ok (.iadd, 1) := by decide +kernel
theorem d_PK_read_23 : decode (mB m_PK_read) 23 = .ok (.iaload, 1) := by decide +kernel
theorem d_PK_read_24 : decode (mB m_PK_read) 24 = .ok (.i2l, 1) := by decide +kernel
theorem d_PK_read_25 : decode (mB m_PK_read) 25 = .ok (.lor, 1) := by decide +kernel
theorem d_PK_read_26 : decode (mB m_PK_read) 26 = .ok (.lstore_n 3, 1) := by decide +kernel
theorem d_PK_read_27 : decode (mB m_PK_read) 27 = .ok (.iinc 5 (1), 3) := by decide +kernel
theorem d_PK_read_30 : decode (mB m_PK_read) 30 = .ok (.goto (-25), 3) := by decide +kernel
theorem d_PK_read_33 : decode (mB m_PK_read) 33 = .ok (.lload_n 3, 1) := by decide +kernel
theorem d_PK_read_34 : decode (mB m_PK_read) 34 = .ok (.lreturn, 1) := by decide +kernel
theorem d_PK_leap_0 : decode (mB m_PK_leap) 0 = .ok (.aload_n 0, 1) := by decide +kernel
theorem d_PK_leap_1 : decode (mB m_PK_leap) 1 = .ok (.getfield 9, 3) := by decide +kernel
theorem d_PK_leap_4 : decode (mB m_PK_leap) 4 = .ok (.iconst 0, 1) := by decide +kernel
theorem d_PK_leap_5 : decode (mB m_PK_leap) 5 = .ok (.iaload, 1) := by decide +kernel
theorem d_PK_leap_6 : decode (mB m_PK_leap) 6 = .ok (.bipush (6), 2) := by decide +kernel
theorem d_PK_leap_8 : decode (mB m_PK_leap) 8 = .ok (.ishr, 1) := by decide +kernel
theorem d_PK_leap_9 : decode (mB m_PK_leap) 9 = .ok (.ireturn, 1) := by decide +kernel
theorem d_PK_version_0 : decode (mB m_PK_version) 0 = .ok (.aload_n 0, 1) := by decide +kernel
theorem d_PK_version_1 : decode (mB m_PK_version) 1 = .ok (.getfield 9, 3) := by decide +kernel
theorem d_PK_version_4 : decode (mB m_PK_version) 4 = .ok (.iconst 0, 1) := by decide +kernel
theorem d_PK_version_5 : decode (mB m_PK_version) 5 = .ok (.iaload, 1) := by decide +kernel
theorem d_PK_version_6 : decode (mB m_PK_version) 6 = .ok (.iconst 3, 1) := by decide +kernel
theorem d_PK_version_7 : decode (mB m_PK_version) 7 = .ok (.ishr, 1) := by decide +kernel
theorem d_PK_version_8 : decode (mB m_PK_version) 8 = .ok (.bipush (7), 2) := by decide +kernel
theorem d_PK_version_10 : decode (mB m_PK_version) 10 = .ok (.iand, 1) := by decide +kernel
theorem d_PK_version_11 : decode (mB m_PK_version) 11 = .ok (.ireturn, 1) := by decide +kernel
theorem d_PK_mode_0 : decode (mB m_PK_mode) 0 = .ok (.aload_n 0, 1) := by decide +kernel
theorem d_PK_mode_1 : decode (mB m_PK_mode) 1 = .ok (.getfield 9, 3) := by decide +kernel
theorem d_PK_mode_4 : decode (mB m_PK_mode) 4 = .ok (.iconst 0, 1) := by decide +kernel
theorem d_PK_mode_5 : decode (mB m_PK_mode) 5 = .ok (.iaload, 1) := by decide +kernel
theorem d_PK_mode_6 : decode (mB m_PK_mode) 6 = .ok (.bipush (7), 2) := by decide +kernel
theorem d_PK_mode_8 : decode (mB m_PK_mode) 8 = .ok (.iand, 1) := by decide +kernel
theorem d_PK_mode_9 : decode (mB m_PK_mode) 9 = .ok (.ireturn, 1) := by decide +kernel
theorem d_PK_isOfKnownVersion_0 : decode (mB m_PK_isOfKnownVersion) 0 = .ok (.aload_n 0, 1) := by decide +kernel
theorem d_PK_isOfKnownVersion_1 : decode (mB m_PK_isOfKnownVersion) 1 = .ok (.invokevirtual 25, 3) := by decide +kernel
theorem d_PK_isOfKnownVersion_4 : decode (mB m_PK_isOfKnownVersion) 4 = .ok (.iconst 1, 1) := by decide +kernel
theorem d_PK_isOfKnownVersion_5 : decode (mB m_PK_isOfKnownVersion) 5 = .ok (.if_icmp .lt (15), 3) := by decide +kernel
theorem d_PK_isOfKnownVersion_8 : decode (mB m_PK_isOfKnownVersion) 8 = .ok (.aload_n 0, 1) := by decide +kernel
theorem d_PK_isOfKnownVersion_9 : decode (mB m_PK_isOfKnownVersion) 9 = .ok (.invokevirtual 25, 3) := by decide +kernel
theorem d_PK_isOfKnownVersion_12 : decode (mB m_PK_isOfKnownVersion) 12 = .ok (.iconst 4, 1) := by decide +kernel
theorem d_PK_isOfKnownVersion_13 : decode (mB m_PK_isOfKnownVersion) 13 = .ok (.if_icmp .gt (7), 3) := by decide +kernel
theorem d_PK_isOfKnownVersion_16 : decode (mB m_PK_isOfKnownVersion) 16 = .ok (.iconst 1, 1) := by decide +kernel
theorem d_PK_isOfKnownVersion_17 : decode (mB m_PK_isOfKnownVersion) 17 = .ok (.goto (4), 3) := by decide +kernel
theorem d_PK_isOfKnownVersion_20 : decode (mB m_PK_isOfKnownVersion) 20 = .ok (.iconst 0, 1) := by decide +kernel
theorem d_PK_isOfKnownVersion_21 : decode (mB m_PK_isOfKnownVersion) 21 = .ok (.ireturn, 1) := by decide +kernel
theorem d_PK_twiceRootDistance_0 : decode (mB m_PK_twiceRootDistance) 0 = .ok (.aload_n 0, 1) := by decide +kernel
theorem d_PK_twiceRootDistance_1 : decode (mB m_PK_twiceRootDistance) 1 = .ok (.iconst 4, 1) := by decide +kernel
theorem d_PK_twiceRootDistance_2 : decode (mB m_PK_twiceRootDistance) 2 = .ok (.iconst 4, 1) := by decide +kernel
theorem d_PK_twiceRootDistance_3 : decode (mB m_PK_twiceRootDistance) 3 = .ok (.invokevirtual 29, 3) := by decide +kernel
theorem d_PK_twiceRootDistance_6 : decode (mB m_PK_twiceRootDistance) 6 = .ok (.ldc2_w 33, 3) := by decide +kernel
theorem d_PK_twiceRootDistance_9 : decode (mB m_PK_twiceRootDistance) 9 = .ok (.aload_n 0, 1) := by decide +kernel
theorem d_PK_twiceRootDistance_10 : decode (mB m_PK_twiceRootDistance) 10 = .ok (.bipush (8), 2) := by decide +kernel
theorem d_PK_twiceRootDistance_12 : decode (mB m_PK_twiceRootDistance) 12 = .ok (.iconst 4, 1) := by decide +kernel
theorem d_PK_twiceRootDistance_13 : decode (mB m_PK_twiceRootDistance) 13 = .ok (.invokevirtual 29, 3) := by decide +kernel
theorem d_PK_twiceRootDistance_16 : decode (mB m_PK_twiceRootDistance) 16 = .ok (.lmul, 1) := by decide +kernel
theorem d_PK_twiceRootDistance_17 : decode (mB m_PK_twiceRootDistance) 17 = .ok (.ladd, 1) := by decide +kernel
theorem d_PK_twiceRootDistance_18 : decode (mB m_PK_twiceRootDistance) 18 = .ok (.lreturn, 1) := by decide +kernel
