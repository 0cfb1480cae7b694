/-! decode rows of TimeKeeperLaw -/
theorem d_LW_type_0 : decode (mB m_LW_type) 0 = .ok (.aload 4, 2) := by decide +kernel
theorem d_LW_type_2 : decode (mB m_LW_type) 2 = .ok (.iconst 0, 1) := by decide +kernel
theorem d_LW_type_3 : decode (mB m_LW_type) 3 = .ok (.aload_n 0, 1) := by decide +kernel
theorem d_LW_type_4 : decode (mB m_LW_type) 4 = .ok (.lload_n 1, 1) := by decide +kernel
theorem d_LW_type_5 : decode (mB m_LW_type) 5 = .ok (.iload_n 3, 1) := by decide +kernel
theorem d_LW_type_6 : decode (mB m_LW_type) 6 = .ok (.invokevirtual 7, 3) := by decide +kernel
theorem d_LW_type_9 : decode (mB m_LW_type) 9 = .ok (.i2l, 1) := by decide +kernel
theorem d_LW_type_10 : decode (mB m_LW_type) 10 = .ok (.lastore, 1) := by decide +kernel
theorem d_LW_type_11 : decode (mB m_LW_type) 11 = .ok (.goto (11), 3) := by decide +kernel
theorem d_LW_type_14 : decode (mB m_LW_type) 14 = .ok (.astore 5, 2) := by decide +kernel
theorem d_LW_type_16 : decode (mB m_LW_type) 16 = .ok (.iconst 1, 1) := by decide +kernel
theorem d_LW_type_17 : decode (mB m_LW_type) 17 = .ok (.ireturn, 1) := by decide +kernel
theorem d_LW_type_18 : decode (mB m_LW_type) 18 = .ok (.astore 5, 2) := by decide +kernel
theorem d_LW_type_20 : decode (mB m_LW_type) 20 = .ok (.iconst 2, 1) := by decide +kernel
theorem d_LW_type_21 : decode (mB m_LW_type) 21 = .ok (.ireturn, 1) := by decide +kernel
theorem d_LW_type_22 : decode (mB m_LW_type) 22 = .ok (.iconst 0, 1) := by decide +kernel
theorem d_LW_type_23 : decode (mB m_LW_type) 23 = .ok (.ireturn, 1) := by decide +kernel
theorem d_LW_put_0 : decode (mB m_LW_put) 0 = .ok (.aload_n 0, 1) := by decide +kernel
theorem d_LW_put_1 : decode (mB m_LW_put) 1 = .ok (.iload_n 1, 1) := by decide +kernel
theorem d_LW_put_2 : decode (mB m_LW_put) 2 = .ok (.iload_n 2, 1) := by decide +kernel
theorem d_LW_put_3 : decode (mB m_LW_put) 3 = .ok (.invokevirtual 17, 3) := by decide +kernel
theorem d_LW_put_6 : decode (mB m_LW_put) 6 = .ok (.goto (9), 3) := by decide +kernel
theorem d_LW_put_9 : decode (mB m_LW_put) 9 = .ok (.astore_n 3, 1) := by decide +kernel
theorem d_LW_put_10 : decode (mB m_LW_put) 10 = .ok (.iconst 1, 1) := by decide +kernel
theorem d_LW_put_11 : decode (mB m_LW_put) 11 = .ok (.ireturn, 1) := by decide +kernel
theorem d_LW_put_12 : decode (mB m_LW_put) 12 = .ok (.astore_n 3, 1) := by decide +kernel
theorem d_LW_put_13 : decode (mB m_LW_put) 13 = .ok (.iconst 2, 1) := by decide +kernel
theorem d_LW_put_14 : decode (mB m_LW_put) 14 = .ok (.ireturn, 1) := by decide +kernel
theorem d_LW_put_15 : decode (mB m_LW_put) 15 = .ok (.iconst 0, 1) := by decide +kernel
theorem d_LW_put_16 : decode (mB m_LW_put) 16 = .ok (.ireturn, 1) := by decide +kernel
theorem d_LW_pass_0 : decode (mB m_LW_pass) 0 = .ok (.aload_n 2, 1) := by decide +kernel
theorem d_LW_pass_1 : decode (mB m_LW_pass) 1 = .ok (.iconst 0, 1) := by decide +kernel
theorem d_LW_pass_2 : decode (mB m_LW_pass) 2 = .ok (.aload_n 0, 1) := by decide +kernel
theorem d_LW_pass_3 : decode (mB m_LW_pass) 3 = .ok (.iload_n 1, 1) := by decide +kernel
theorem d_LW_pass_4 : decode (mB m_LW_pass) 4 = .ok (.invokevirtual 23, 3) := by decide +kernel
theorem d_LW_pass_7 : decode (mB m_LW_pass) 7 = .ok (.i2l, 1) := by decide +kernel
theorem d_LW_pass_8 : decode (mB m_LW_pass) 8 = .ok (.lastore, 1) := by decide +kernel
theorem d_LW_pass_9 : decode (mB m_LW_pass) 9 = .ok (.goto (6), 3) := by decide +kernel
theorem d_LW_pass_12 : decode (mB m_LW_pass) 12 = .ok (.astore_n 3, 1) := by decide +kernel
theorem d_LW_pass_13 : decode (mB m_LW_pass) 13 = .ok (.iconst 1, 1) := by decide +kernel
theorem d_LW_pass_14 : decode (mB m_LW_pass) 14 = .ok (.ireturn, 1) := by decide +kernel
theorem d_LW_pass_15 : decode (mB m_LW_pass) 15 = .ok (.iconst 0, 1) := by decide +kernel
theorem d_LW_pass_16 : decode (mB m_LW_pass) 16 = .ok (.ireturn, 1) := by decide +kernel
theorem d_LW_drift_0 : decode (mB m_LW_drift) 0 = .ok (.aload_n 0, 1) := by decide +kernel
theorem d_LW_drift_1 : decode (mB m_LW_drift) 1 = .ok (.iload_n 1, 1) := by decide +kernel
theorem d_LW_drift_2 : decode (mB m_LW_drift) 2 = .ok (.invokevirtual 27, 3) := by decide +kernel
theorem d_LW_drift_5 : decode (mB m_LW_drift) 5 = .ok (.goto (6), 3) := by decide +kernel
theorem d_LW_drift_8 : decode (mB m_LW_drift) 8 = .ok (.astore_n 2, 1) := by decide +kernel
theorem d_LW_drift_9 : decode (mB m_LW_drift) 9 = .ok (.iconst 1, 1) := by decide +kernel
theorem d_LW_drift_10 : decode (mB m_LW_drift) 10 = .ok (.ireturn, 1) := by decide +kernel
theorem d_LW_drift_11 : decode (mB m_LW_drift) 11 = .ok (.iconst 0, 1) := by decide +kernel
theorem d_LW_drift_12 : decode (mB m_LW_drift) 12 = .ok (.ireturn, 1) := by decide +kernel
theorem d_LW_request_0 : decode (mB m_LW_request) 0 = .ok (.aload_n 2, 1) := by decide +kernel
theorem d_LW_request_1 : decode (mB m_LW_request) 1 = .ok (.iconst 0, 1) := by decide +kernel
theorem d_LW_request_2 : decode (mB m_LW_request) 2 = .ok (.aload_n 0, 1) := by decide +kernel
theorem d_LW_request_3 : decode (mB m_LW_request) 3 = .ok (.iload_n 1, 1) := by decide +kernel
theorem d_LW_request_4 : decode (mB m_LW_request) 4 = .ok (.invokevirtual 31, 3) := by decide +kernel
theorem d_LW_request_7 : decode (mB m_LW_request) 7 = .ok (.lastore, 1) := by decide +kernel
theorem d_LW_request_8 : decode (mB m_LW_request) 8 = .ok (.goto (6), 3) := by decide +kernel
theorem d_LW_request_11 : decode (mB m_LW_request) 11 = .ok (.astore_n 3, 1) := by decide +kernel
theorem d_LW_request_12 : decode (mB m_LW_request) 12 = .ok (.iconst 1, 1) := by decide +kernel
theorem d_LW_request_13 : decode (mB m_LW_request) 13 = .ok (.ireturn, 1) := by decide +kernel
theorem d_LW_request_14 : decode (mB m_LW_request) 14 = .ok (.iconst 0, 1) := by decide +kernel
theorem d_LW_request_15 : decode (mB m_LW_request) 15 = .ok (.ireturn, 1) := by decide +kernel
theorem d_LW_hear_0 : decode (mB m_LW_hear) 0 = .ok (.aload_n 2, 1) := by decide +kernel
theorem d_LW_hear_1 : decode (mB m_LW_hear) 1 = .ok (.iconst 0, 1) := by decide +kernel
theorem d_LW_hear_2 : decode (mB m_LW_hear) 2 = .ok (.aload_n 0, 1) := by decide +kernel
theorem d_LW_hear_3 : decode (mB m_LW_hear) 3 = .ok (.iload_n 1, 1) := by decide +kernel
theorem d_LW_hear_4 : decode (mB m_LW_hear) 4 = .ok (.invokevirtual 35, 3) := by decide +kernel
theorem d_LW_hear_7 : decode (mB m_LW_hear) 7 = .ok (.i2l, 1) := by decide +kernel
theorem d_LW_hear_8 : decode (mB m_LW_hear) 8 = .ok (.lastore, 1) := by decide +kernel
theorem d_LW_hear_9 : decode (mB m_LW_hear) 9 = .ok (.goto (6), 3) := by decide +kernel
theorem d_LW_hear_12 : decode (mB m_LW_hear) 12 = .ok (.astore_n 3, 1) := by decide +kernel
theorem d_LW_hear_13 : decode (mB m_LW_hear) 13 = .ok (.iconst 1, 1) := by decide +kernel
theorem d_LW_hear_14 : decode (mB m_LW_hear) 14 = .ok (.ireturn, 1) := by decide +kernel
theorem d_LW_hear_15 : decode (mB m_LW_hear) 15 = .ok (.iconst 0, 1) := by decide +kernel
theorem d_LW_hear_16 : decode (mB m_LW_hear) 16 = .ok (.ireturn, 1) := by decide +kernel
theorem d_LW_answer_0 : decode (mB m_LW_answer) 0 = .ok (.aload 13, 2) := by decide +kernel
theorem d_LW_answer_2 : decode (mB m_LW_answer) 2 = .ok (.iconst 0, 1) := by decide +kernel
theorem d_LW_answer_3 : decode (mB m_LW_answer) 3 = .ok (.aload_n 0, 1) := by decide +kernel
theorem d_LW_answer_4 : decode (mB m_LW_answer) 4 = .ok (.iload_n 1, 1) := by decide +kernel
theorem d_LW_answer_5 : decode (mB m_LW_answer) 5 = .ok (.iload_n 2, 1) := by decide +kernel
theorem d_LW_answer_6 : decode (mB m_LW_answer) 6 = .ok (.iload_n 3, 1) := by decide +kernel
theorem d_LW_answer_7 : decode (mB m_LW_answer) 7 = .ok (.iload 4, 2) := by decide +kernel
theorem d_LW_answer_9 : decode (mB m_LW_answer) 9 = .ok (.lload 5, 2) := by decide +kernel
theorem d_LW_answer_11 : decode (mB m_LW_answer) 11 = .ok (.lload 7, 2) := by decide +kernel
theorem d_LW_answer_13 : decode (mB m_LW_answer) 13 = .ok (.lload 9, 2) := by decide +kernel
theorem d_LW_answer_15 : decode (mB m_LW_answer) 15 = .ok (.lload 11, 2) := by decide +kernel
theorem d_LW_answer_17 : decode (mB m_LW_answer) 17 = .ok (.invokevirtual 38, 3) := by decide +kernel
theorem d_LW_answer_20 : decode (mB m_LW_answer) 20 = .ok (.lastore, 1) := by decide +kernel
theorem d_LW_answer_21 : decode (mB m_LW_answer) 21 = .ok (.goto (11), 3) := by decide +kernel
theorem d_LW_answer_24 : decode (mB m_LW_answer) 24 = .ok (.astore 14, 2) := by decide +kernel
theorem d_LW_answer_26 : decode (mB m_LW_answer) 26 = .ok (.iconst 1, 1) := by decide +kernel
theorem d_LW_answer_27 : decode (mB m_LW_answer) 27 = .ok (.ireturn, 1) := by decide +kernel
theorem d_LW_answer_28 : decode (mB m_LW_answer) 28 = .ok (.astore 14, 2) := by decide +kernel
theorem d_LW_answer_30 : decode (mB m_LW_answer) 30 = .ok (.iconst 2, 1) := by decide +kernel
theorem d_LW_answer_31 : decode (mB m_LW_answer) 31 = .ok (.ireturn, 1) := by decide +kernel
theorem d_LW_answer_32 : decode (mB m_LW_answer) 32 = .ok (.iconst 0, 1) := by decide +kernel
theorem d_LW_answer_33 : decode (mB m_LW_answer) 33 = .ok (.ireturn, 1) := by decide +kernel
theorem d_LW_peer_0 : decode (mB m_LW_peer) 0 = .ok (.aload_n 3, 1) := by decide +kernel
theorem d_LW_peer_1 : decode (mB m_LW_peer) 1 = .ok (.iconst 0, 1) := by decide +kernel
theorem d_LW_peer_2 : decode (mB m_LW_peer) 2 = .ok (.aload_n 0, 1) := by decide +kernel
theorem d_LW_peer_3 : decode (mB m_LW_peer) 3 = .ok (.iload_n 1, 1) := by decide +kernel
theorem d_LW_peer_4 : decode (mB m_LW_peer) 4 = .ok (.iload_n 2, 1) := by decide +kernel
theorem d_LW_peer_5 : decode (mB m_LW_peer) 5 = .ok (.invokevirtual 42, 3) := by decide +kernel
theorem d_LW_peer_8 : decode (mB m_LW_peer) 8 = .ok (.lastore, 1) := by decide +kernel
theorem d_LW_peer_9 : decode (mB m_LW_peer) 9 = .ok (.goto (15), 3) := by decide +kernel
theorem d_LW_peer_12 : decode (mB m_LW_peer) 12 = .ok (.astore 4, 2) := by decide +kernel
theorem d_LW_peer_14 : decode (mB m_LW_peer) 14 = .ok (.iconst 1, 1) := by decide +kernel
theorem d_LW_peer_15 : decode (mB m_LW_peer) 15 = .ok (.ireturn, 1) := by decide +kernel
theorem d_LW_peer_16 : decode (mB m_LW_peer) 16 = .ok (.astore 4, 2) := by decide +kernel
theorem d_LW_peer_18 : decode (mB m_LW_peer) 18 = .ok (.iconst 2, 1) := by decide +kernel
theorem d_LW_peer_19 : decode (mB m_LW_peer) 19 = .ok (.ireturn, 1) := by decide +kernel
theorem d_LW_peer_20 : decode (mB m_LW_peer) 20 = .ok (.astore 4, 2) := by decide +kernel
theorem d_LW_peer_22 : decode (mB m_LW_peer) 22 = .ok (.iconst 3, 1) := by decide +kernel
theorem d_LW_peer_23 : decode (mB m_LW_peer) 23 = .ok (.ireturn, 1) := by decide +kernel
theorem d_LW_peer_24 : decode (mB m_LW_peer) 24 = .ok (.iconst 0, 1) := by decide +kernel
theorem d_LW_peer_25 : decode (mB m_LW_peer) 25 = .ok (.ireturn, 1) := by decide +kernel
theorem d_LW_sample_0 : decode (mB m_LW_sample) 0 = .ok (.aload 4, 2) := by decide +kernel
theorem d_LW_sample_2 : decode (mB m_LW_sample) 2 = .ok (.iconst 0, 1) := by decide +kernel
theorem d_LW_sample_3 : decode (mB m_LW_sample) 3 = .ok (.aload_n 0, 1) := by decide +kernel
theorem d_LW_sample_4 : decode (mB m_LW_sample) 4 = .ok (.iload_n 1, 1) := by decide +kernel
theorem d_LW_sample_5 : decode (mB m_LW_sample) 5 = .ok (.iload_n 2, 1) := by decide +kernel
theorem d_LW_sample_6 : decode (mB m_LW_sample) 6 = .ok (.iload_n 3, 1) := by decide +kernel
theorem d_LW_sample_7 : decode (mB m_LW_sample) 7 = .ok (.invokevirtual 46, 3) := by decide +kernel
theorem d_LW_sample_10 : decode (mB m_LW_sample) 10 = .ok (.lastore, 1) := by decide +kernel
theorem d_LW_sample_11 : decode (mB m_LW_sample) 11 = .ok (.goto (11), 3) := by decide +kernel
theorem d_LW_sample_14 : decode (mB m_LW_sample) 14 = .ok (.astore 5, 2) := by decide +kernel
theorem d_LW_sample_16 : decode (mB m_LW_sample) 16 = .ok (.iconst 1, 1) := by decide +kernel
theorem d_LW_sample_17 : decode (mB m_LW_sample) 17 = .ok (.ireturn, 1) := by decide +kernel
theorem d_LW_sample_18 : decode (mB m_LW_sample) 18 = .ok (.astore 5, 2) := by decide +kernel
theorem d_LW_sample_20 : decode (mB m_LW_sample) 20 = .ok (.iconst 2, 1) := by decide +kernel
theorem d_LW_sample_21 : decode (mB m_LW_sample) 21 = .ok (.ireturn, 1) := by decide +kernel
theorem d_LW_sample_22 : decode (mB m_LW_sample) 22 = .ok (.iconst 0, 1) := by decide +kernel
theorem d_LW_sample_23 : decode (mB m_LW_sample) 23 = .ok (.ireturn, 1) := by decide +kernel
theorem d_LW_chosen_0 : decode (mB m_LW_chosen) 0 = .ok (.aload_n 2, 1) := by decide +kernel
theorem d_LW_chosen_1 : decode (mB m_LW_chosen) 1 = .ok (.iconst 0, 1) := by decide +kernel
theorem d_LW_chosen_2 : decode (mB m_LW_chosen) 2 = .ok (.aload_n 0, 1) := by decide +kernel
theorem d_LW_chosen_3 : decode (mB m_LW_chosen) 3 = .ok (.iload_n 1, 1) := by decide +kernel
theorem d_LW_chosen_4 : decode (mB m_LW_chosen) 4 = .ok (.invokevirtual 50, 3) := by decide +kernel
theorem d_LW_chosen_7 : decode (mB m_LW_chosen) 7 = .ok (.i2l, 1) := by decide +kernel
theorem d_LW_chosen_8 : decode (mB m_LW_chosen) 8 = .ok (.lastore, 1) := by decide +kernel
theorem d_LW_chosen_9 : decode (mB m_LW_chosen) 9 = .ok (.goto (6), 3) := by decide +kernel
theorem d_LW_chosen_12 : decode (mB m_LW_chosen) 12 = .ok (.astore_n 3, 1) := by decide +kernel
theorem d_LW_chosen_13 : decode (mB m_LW_chosen) 13 = .ok (.iconst 1, 1) := by decide +kernel
theorem d_LW_chosen_14 : decode (mB m_LW_chosen) 14 = .ok (.ireturn, 1) := by decide +kernel
theorem d_LW_chosen_15 : decode (mB m_LW_chosen) 15 = .ok (.iconst 0, 1) := by decide +kernel
theorem d_LW_chosen_16 : decode (mB m_LW_chosen) 16 = .ok (.ireturn, 1) := by decide +kernel
theorem d_LW_about_0 : decode (mB m_LW_about) 0 = .ok (.aload_n 2, 1) := by decide +kernel
theorem d_LW_about_1 : decode (mB m_LW_about) 1 = .ok (.iconst 0, 1) := by decide +kernel
theorem d_LW_about_2 : decode (mB m_LW_about) 2 = .ok (.aload_n 0, 1) := by decide +kernel
theorem d_LW_about_3 : decode (mB m_LW_about) 3 = .ok (.iload_n 1, 1) := by decide +kernel
theorem d_LW_about_4 : decode (mB m_LW_about) 4 = .ok (.invokevirtual 53, 3) := by decide +kernel
theorem d_LW_about_7 : decode (mB m_LW_about) 7 = .ok (.lastore, 1) := by decide +kernel
theorem d_LW_about_8 : decode (mB m_LW_about) 8 = .ok (.goto (9), 3) := by decide +kernel
theorem d_LW_about_11 : decode (mB m_LW_about) 11 = .ok (.astore_n 3, 1) := by decide +kernel
theorem d_LW_about_12 : decode (mB m_LW_about) 12 = .ok (.iconst 1, 1) := by decide +kernel
theorem d_LW_about_13 : decode (mB m_LW_about) 13 = .ok (.ireturn, 1) := by decide +kernel
theorem d_LW_about_14 : decode (mB m_LW_about) 14 = .ok (.astore_n 3, 1) := by decide +kernel
theorem d_LW_about_15 : decode (mB m_LW_about) 15 = .ok (.iconst 2, 1) := by decide +kernel
theorem d_LW_about_16 : decode (mB m_LW_about) 16 = .ok (.ireturn, 1) := by decide +kernel
theorem d_LW_about_17 : decode (mB m_LW_about) 17 = .ok (.iconst 0, 1) := by decide +kernel
theorem d_LW_about_18 : decode (mB m_LW_about) 18 = .ok (.ireturn, 1) := by decide +kernel
theorem d_LW_out_0 : decode (mB m_LW_out) 0 = .ok (.aload_n 2, 1) := by decide +kernel
theorem d_LW_out_1 : decode (mB m_LW_out) 1 = .ok (.iconst 0, 1) := by decide +kernel
theorem d_LW_out_2 : decode (mB m_LW_out) 2 = .ok (.aload_n 0, 1) := by decide +kernel
theorem d_LW_out_3 : decode (mB m_LW_out) 3 = .ok (.iload_n 1, 1) := by decide +kernel
theorem d_LW_out_4 : decode (mB m_LW_out) 4 = .ok (.invokevirtual 56, 3) := by decide +kernel
theorem d_LW_out_7 : decode (mB m_LW_out) 7 = .ok (.i2l, 1) := by decide +kernel
theorem d_LW_out_8 : decode (mB m_LW_out) 8 = .ok (.lastore, 1) := by decide +kernel
theorem d_LW_out_9 : decode (mB m_LW_out) 9 = .ok (.goto (6), 3) := by decide +kernel
theorem d_LW_out_12 : decode (mB m_LW_out) 12 = .ok (.astore_n 3, 1) := by decide +kernel
theorem d_LW_out_13 : decode (mB m_LW_out) 13 = .ok (.iconst 1, 1) := by decide +kernel
theorem d_LW_out_14 : decode (mB m_LW_out) 14 = .ok (.ireturn, 1) := by decide +kernel
theorem d_LW_out_15 : decode (mB m_LW_out) 15 = .ok (.iconst 0, 1) := by decide +kernel
theorem d_LW_out_16 : decode (mB m_LW_out) 16 = .ok (.ireturn, 1) := by decide +kernel
theorem d_LW_law_0 : decode (mB m_LW_law) 0 = .ok (.new 8, 3) := by decide +kernel
theorem d_LW_law_3 : decode (mB m_LW_law) 3 = .ok (.dup, 1) := by decide +kernel
theorem d_LW_law_4 : decode (mB m_LW_law) 4 = .ok (.invokespecial 59, 3) := by decide +kernel
theorem d_LW_law_7 : decode (mB m_LW_law) 7 = .ok (.astore_n 1, 1) := by decide +kernel
theorem d_LW_law_8 : decode (mB m_LW_law) 8 = .ok (.new 60, 3) := by decide +kernel
theorem d_LW_law_11 : decode (mB m_LW_law) 11 = .ok (.dup, 1) := by decide +kernel
theorem d_LW_law_12 : decode (mB m_LW_law) 12 = .ok (.invokespecial 62, 3) := by decide +kernel
theorem d_LW_law_15 : decode (mB m_LW_law) 15 = .ok (.astore_n 2, 1) := by decide +kernel
theorem d_LW_law_16 : decode (mB m_LW_law) 16 = .ok (.iconst 1, 1) := by decide +kernel
theorem d_LW_law_17 : decode (mB m_LW_law) 17 = .ok (.newarray .long, 2) := by decide +kernel
theorem d_LW_law_19 : decode (mB m_LW_law) 19 = .ok (.astore_n 3, 1) := by decide +kernel
theorem d_LW_law_20 : decode (mB m_LW_law) 20 = .ok (.iconst 0, 1) := by decide +kernel
theorem d_LW_law_21 : decode (mB m_LW_law) 21 = .ok (.istore 4, 2) := by decide +kernel
theorem d_LW_law_23 : decode (mB m_LW_law) 23 = .ok (.iload 4, 2) := by decide +kernel
theorem d_LW_law_25 : decode (mB m_LW_law) 25 = .ok (.aload_n 0, 1) := by decide +kernel
theorem d_LW_law_26 : decode (mB m_LW_law) 26 = .ok (.arraylength, 1) := by decide +kernel
theorem d_LW_law_27 : decode (mB m_LW_law) 27 = .ok (.bipush (13), 2) := by decide +kernel
theorem d_LW_law_29 : decode (mB m_LW_law) 29 = .ok (.isub, 1) := by decide +kernel
theorem d_LW_law_30 : decode (mB m_LW_law) 30 = .ok (.if_icmp .gt (1166), 3) := by decide +kernel
theorem d_LW_law_33 : decode (mB m_LW_law) 33 = .ok (.aload_n 0, 1) := by decide +kernel
theorem d_LW_law_34 : decode (mB m_LW_law) 34 = .ok (.iload 4, 2) := by decide +kernel
theorem d_LW_law_36 : decode (mB m_LW_law) 36 = .ok (.iaload, 1) := by decide +kernel
theorem d_LW_law_37 : decode (mB m_LW_law) 37 = .ok (.bipush (31), 2) := by decide +kernel
theorem d_LW_law_39 : decode (mB m_LW_law) 39 = .ok (.iand, 1) := by decide +kernel
theorem d_LW_law_40 : decode (mB m_LW_law) 40 = .ok (.tableswitch (1150) (0) (17) #[88, 188, 199, 247, 303, 317, 372, 408, 463, 519, 532, 543, 824, 891, 970, 1026, 1081, 1094], 88) := by decide +kernel
theorem d_LW_law_128 : decode (mB m_LW_law) 128 = .ok (.aload_n 1, 1) := by decide +kernel
theorem d_LW_law_129 : decode (mB m_LW_law) 129 = .ok (.aload_n 0, 1) := by decide +kernel
theorem d_LW_law_130 : decode (mB m_LW_law) 130 = .ok (.iload 4, 2) := by decide +kernel
theorem d_LW_law_132 : decode (mB m_LW_law) 132 = .ok (.iconst 1, 1) := by decide +kernel
theorem d_LW_law_133 : decode (mB m_LW_law) 133 = .ok (.iadd, 1) := by decide +kernel
theorem d_LW_law_134 : decode (mB m_LW_law) 134 = .ok (.iaload, 1) := by decide +kernel
theorem d_LW_law_135 : decode (mB m_LW_law) 135 = .ok (.i2l, 1) := by decide +kernel
theorem d_LW_law_136 : decode (mB m_LW_law) 136 = .ok (.bipush (32), 2) := by decide +kernel
theorem d_LW_law_138 : decode (mB m_LW_law) 138 = .ok (.lshl, 1) := by decide +kernel
theorem d_LW_law_139 : decode (mB m_LW_law) 139 = .ok (.aload_n 0, 1) := by decide +kernel
theorem d_LW_law_140 : decode (mB m_LW_law) 140 = .ok (.iload 4, 2) := by decide +kernel
theorem d_LW_law_142 : decode (mB m_LW_law) 142 = .ok (.iconst 2, 1) := by decide +kernel
theorem d_LW_law_143 : decode (mB m_LW_law) 143 = .ok (.iadd, 1) := by decide +kernel
theorem d_LW_law_144 : decode (mB m_LW_law) 144 = .ok (.iaload, 1) := by decide +kernel
theorem d_LW_law_145 : decode (mB m_LW_law) 145 = .ok (.i2l, 1) := by decide +kernel
theorem d_LW_law_146 : decode (mB m_LW_law) 146 = .ok (.ldc2_w 63, 3) := by decide +kernel
theorem d_LW_law_149 : decode (mB m_LW_law) 149 = .ok (.land, 1) := by decide +kernel
theorem d_LW_law_150 : decode (mB m_LW_law) 150 = .ok (.lor, 1) := by decide +kernel
theorem d_LW_law_151 : decode (mB m_LW_law) 151 = .ok (.aload_n 0, 1) := by decide +kernel
theorem d_LW_law_152 : decode (mB m_LW_law) 152 = .ok (.iload 4, 2) := by decide +kernel
theorem d_LW_law_154 : decode (mB m_LW_law) 154 = .ok (.iconst 3, 1) := by decide +kernel
theorem d_LW_law_155 : decode (mB m_LW_law) 155 = .ok (.iadd, 1) := by decide +kernel
theorem d_LW_law_156 : decode (mB m_LW_law) 156 = .ok (.iaload, 1) := by decide +kernel
theorem d_LW_law_157 : decode (mB m_LW_law) 157 = .ok (.aload_n 3, 1) := by decide +kernel
theorem d_LW_law_158 : decode (mB m_LW_law) 158 = .ok (.invokestatic 65, 3) := by decide +kernel
theorem d_LW_law_161 : decode (mB m_LW_law) 161 = .ok (.istore 5, 2) := by decide +kernel
theorem d_LW_law_163 : decode (mB m_LW_law) 163 = .ok (.aload_n 2, 1) := by decide +kernel
theorem d_LW_law_164 : decode (mB m_LW_law) 164 = .ok (.aload_n 0, 1) := by decide +kernel
theorem d_LW_law_165 : decode (mB m_LW_law) 165 = .ok (.iload 4, 2) := by decide +kernel
theorem d_LW_law_167 : decode (mB m_LW_law) 167 = .ok (.iconst 1, 1) := by decide +kernel
theorem d_LW_law_168 : decode (mB m_LW_law) 168 = .ok (.iadd, 1) := by decide +kernel
theorem d_LW_law_169 : decode (mB m_LW_law) 169 = .ok (.iaload, 1) := by decide +kernel
theorem d_LW_law_170 : decode (mB m_LW_law) 170 = .ok (.i2l, 1) := by decide +kernel
theorem d_LW_law_171 : decode (mB m_LW_law) 171 = .ok (.bipush (32), 2) := by decide +kernel
theorem d_LW_law_173 : decode (mB m_LW_law) 173 = .ok (.lshl, 1) := by decide +kernel
theorem d_LW_law_174 : decode (mB m_LW_law) 174 = .ok (.aload_n 0, 1) := by decide +kernel
theorem d_LW_law_175 : decode (mB m_LW_law) 175 = .ok (.iload 4, 2) := by decide +kernel
theorem d_LW_law_177 : decode (mB m_LW_law) 177 = .ok (.iconst 2, 1) := by decide +kernel
theorem d_LW_law_178 : decode (mB m_LW_law) 178 = .ok (.iadd, 1) := by decide +kernel
theorem d_LW_law_179 : decode (mB m_LW_law) 179 = .ok (.iaload, 1) := by decide +kernel
theorem d_LW_law_180 : decode (mB m_LW_law) 180 = .ok (.i2l, 1) := by decide +kernel
theorem d_LW_law_181 : decode (mB m_LW_law) 181 = .ok (.ldc2_w 63, 3) := by decide +kernel
theorem d_LW_law_184 : decode (mB m_LW_law) 184 = .ok (.land, 1) := by decide +kernel
theorem d_LW_law_185 : decode (mB m_LW_law) 185 = .ok (.lor, 1) := by decide +kernel
theorem d_LW_law_186 : decode (mB m_LW_law) 186 = .ok (.aload_n 0, 1) := by decide +kernel
theorem d_LW_law_187 : decode (mB m_LW_law) 187 = .ok (.iload 4, 2) := by decide +kernel
theorem d_LW_law_189 : decode (mB m_LW_law) 189 = .ok (.iconst 3, 1) := by decide +kernel
theorem d_LW_law_190 : decode (mB m_LW_law) 190 = .ok (.iadd, 1) := by decide +kernel
theorem d_LW_law_191 : decode (mB m_LW_law) 191 = .ok (.iaload, 1) := by decide +kernel
theorem d_LW_law_192 : decode (mB m_LW_law) 192 = .ok (.invokevirtual 70, 3) := by decide +kernel
theorem d_LW_law_195 : decode (mB m_LW_law) 195 = .ok (.istore 6, 2) := by decide +kernel
theorem d_LW_law_197 : decode (mB m_LW_law) 197 = .ok (.aload_n 2, 1) := by decide +kernel
theorem d_LW_law_198 : decode (mB m_LW_law) 198 = .ok (.invokevirtual 71, 3) := by decide +kernel
theorem d_LW_law_201 : decode (mB m_LW_law) 201 = .ok (.iload 5, 2) := by decide +kernel
theorem d_LW_law_203 : decode (mB m_LW_law) 203 = .ok (.if_icmp .eq (5), 3) := by decide +kernel
theorem d_LW_law_206 : decode (mB m_LW_law) 206 = .ok (.iconst 0, 1) := by decide +kernel
theorem d_LW_law_207 : decode (mB m_LW_law) 207 = .ok (.ireturn, 1) := by decide +kernel
theorem d_LW_law_208 : decode (mB m_LW_law) 208 = .ok (.iload 5, 2) := by decide +kernel
theorem d_LW_law_210 : decode (mB m_LW_law) 210 = .ok (.ifCond .ne (15), 3) := by decide +kernel
theorem d_LW_law_213 : decode (mB m_LW_law) 213 = .ok (.aload_n 3, 1) := by decide +kernel
theorem d_LW_law_214 : decode (mB m_LW_law) 214 = .ok (.iconst 0, 1) := by decide +kernel
theorem d_LW_law_215 : decode (mB m_LW_law) 215 = .ok (.laload, 1) := by decide +kernel
theorem d_LW_law_216 : decode (mB m_LW_law) 216 = .ok (.iload 6, 2) := by decide +kernel
theorem d_LW_law_218 : decode (mB m_LW_law) 218 = .ok (.i2l, 1) := by decide +kernel
theorem d_LW_law_219 : decode (mB m_LW_law) 219 = .ok (.lcmp, 1) := by decide +kernel
theorem d_LW_law_220 : decode (mB m_LW_law) 220 = .ok (.ifCond .eq (5), 3) := by decide +kernel
theorem d_LW_law_223 : decode (mB m_LW_law) 223 = .ok (.iconst 0, 1) := by decide +kernel
theorem d_LW_law_224 : decode (mB m_LW_law) 224 = .ok (.ireturn, 1) := by decide +kernel
theorem d_LW_law_225 : decode (mB m_LW_law) 225 = .ok (.goto (965), 3) := by decide +kernel
theorem d_LW_law_228 : decode (mB m_LW_law) 228 = .ok (.aload_n 1, 1) := by decide +kernel
theorem d_LW_law_229 : decode (mB m_LW_law) 229 = .ok (.invokevirtual 75, 3) := by decide +kernel
theorem d_LW_law_232 : decode (mB m_LW_law) 232 = .ok (.aload_n 2, 1) := by decide +kernel
theorem d_LW_law_233 : decode (mB m_LW_law) 233 = .ok (.invokevirtual 78, 3) := by decide +kernel
theorem d_LW_law_236 : decode (mB m_LW_law) 236 = .ok (.goto (954), 3) := by decide +kernel
theorem d_LW_law_239 : decode (mB m_LW_law) 239 = .ok (.aload_n 1, 1) := by decide +kernel
theorem d_LW_law_240 : decode (mB m_LW_law) 240 = .ok (.aload_n 0, 1) := by decide +kernel
theorem d_LW_law_241 : decode (mB m_LW_law) 241 = .ok (.iload 4, 2) := by decide +kernel
theorem d_LW_law_243 : decode (mB m_LW_law) 243 = .ok (.iconst 1, 1) := by decide +kernel
theorem d_LW_law_244 : decode (mB m_LW_law) 244 = .ok (.iadd, 1) := by decide +kernel
theorem d_LW_law_245 : decode (mB m_LW_law) 245 = .ok (.iaload, 1) := by decide +kernel
theorem d_LW_law_246 : decode (mB m_LW_law) 246 = .ok (.aload_n 0, 1) := by decide +kernel
theorem d_LW_law_247 : decode (mB m_LW_law) 247 = .ok (.iload 4, 2) := by decide +kernel
theorem d_LW_law_249 : decode (mB m_LW_law) 249 = .ok (.iconst 2, 1) := by decide +kernel
theorem d_LW_law_250 : decode (mB m_LW_law) 250 = .ok (.iadd, 1) := by decide +kernel
theorem d_LW_law_251 : decode (mB m_LW_law) 251 = .ok (.iaload, 1) := by decide +kernel
theorem d_LW_law_252 : decode (mB m_LW_law) 252 = .ok (.invokestatic 79, 3) := by decide +kernel
theorem d_LW_law_255 : decode (mB m_LW_law) 255 = .ok (.istore 5, 2) := by decide +kernel
theorem d_LW_law_257 : decode (mB m_LW_law) 257 = .ok (.aload_n 2, 1) := by decide +kernel
theorem d_LW_law_258 : decode (mB m_LW_law) 258 = .ok (.aload_n 0, 1) := by decide +kernel
theorem d_LW_law_259 : decode (mB m_LW_law) 259 = .ok (.iload 4, 2) := by decide +kernel
theorem d_LW_law_261 : decode (mB m_LW_law) 261 = .ok (.iconst 1, 1) := by decide +kernel
theorem d_LW_law_262 : decode (mB m_LW_law) 262 = .ok (.iadd, 1) := by decide +kernel
theorem d_LW_law_263 : decode (mB m_LW_law) 263 = .ok (.iaload, 1) := by decide +kernel
theorem d_LW_law_264 : decode (mB m_LW_law) 264 = .ok (.aload_n 0, 1) := by decide +kernel
theorem d_LW_law_265 : decode (mB m_LW_law) 265 = .ok (.iload 4, 2) := by decide +kernel
theorem d_LW_law_267 : decode (mB m_LW_law) 267 = .ok (.iconst 2, 1) := by decide +kernel
theorem d_LW_law_268 : decode (mB m_LW_law) 268 = .ok (.iadd, 1) := by decide +kernel
theorem d_LW_law_269 : decode (mB m_LW_law) 269 = .ok (.iaload, 1) := by decide +kernel
theorem d_LW_law_270 : decode (mB m_LW_law) 270 = .ok (.invokevirtual 82, 3) := by decide +kernel
theorem d_LW_law_273 : decode (mB m_LW_law) 273 = .ok (.aload_n 2, 1) := by decide +kernel
theorem d_LW_law_274 : decode (mB m_LW_law) 274 = .ok (.invokevirtual 71, 3) := by decide +kernel
theorem d_LW_law_277 : decode (mB m_LW_law) 277 = .ok (.iload 5, 2) := by decide +kernel
theorem d_LW_law_279 : decode (mB m_LW_law) 279 = .ok (.if_icmp .eq (5), 3) := by decide +kernel
theorem d_LW_law_282 : decode (mB m_LW_law) 282 = .ok (.iconst 0, 1) := by decide +kernel
theorem d_LW_law_283 : decode (mB m_LW_law) 283 = .ok (.ireturn, 1) := by decide +kernel
theorem d_LW_law_284 : decode (mB m_LW_law) 284 = .ok (.goto (906), 3) := by decide +kernel
theorem d_LW_law_287 : decode (mB m_LW_law) 287 = .ok (.aload_n 1, 1) := by decide +kernel
theorem d_LW_law_288 : decode (mB m_LW_law) 288 = .ok (.aload_n 0, 1) := by decide +kernel
theorem d_LW_law_289 : decode (mB m_LW_law) 289 = .ok (.iload 4, 2) := by decide +kernel
theorem d_LW_law_291 : decode (mB m_LW_law) 291 = .ok (.iconst 1, 1) := by decide +kernel
theorem d_LW_law_292 : decode (mB m_LW_law) 292 = .ok (.iadd, 1) := by decide +kernel
theorem d_LW_law_293 : decode (mB m_LW_law) 293 = .ok (.iaload, 1) := by decide +kernel
theorem d_LW_law_294 : decode (mB m_LW_law) 294 = .ok (.aload_n 3, 1) := by decide +kernel
theorem d_LW_law_295 : decode (mB m_LW_law) 295 = .ok (.invokestatic 83, 3) := by decide +kernel
theorem d_LW_law_298 : decode (mB m_LW_law) 298 = .ok (.istore 5, 2) := by decide +kernel
theorem d_LW_law_300 : decode (mB m_LW_law) 300 = .ok (.aload_n 2, 1) := by decide +kernel
theorem d_LW_law_301 : decode (mB m_LW_law) 301 = .ok (.aload_n 0, 1) := by decide +kernel
theorem d_LW_law_302 : decode (mB m_LW_law) 302 = .ok (.iload 4, 2) := by decide +kernel
theorem d_LW_law_304 : decode (mB m_LW_law) 304 = .ok (.iconst 1, 1) := by decide +kernel
theorem d_LW_law_305 : decode (mB m_LW_law) 305 = .ok (.iadd, 1) := by decide +kernel
theorem d_LW_law_306 : decode (mB m_LW_law) 306 = .ok (.iaload, 1) := by decide +kernel
theorem d_LW_law_307 : decode (mB m_LW_law) 307 = .ok (.invokevirtual 86, 3) := by decide +kernel
theorem d_LW_law_310 : decode (mB m_LW_law) 310 = .ok (.istore 6, 2) := by decide +kernel
theorem d_LW_law_312 : decode (mB m_LW_law) 312 = .ok (.aload_n 2, 1) := by decide +kernel
theorem d_LW_law_313 : decode (mB m_LW_law) 313 = .ok (.invokevirtual 71, 3) := by decide +kernel
theorem d_LW_law_316 : decode (mB m_LW_law) 316 = .ok (.iload 5, 2) := by decide +kernel
theorem d_LW_law_318 : decode (mB m_LW_law) 318 = .ok (.if_icmp .eq (5), 3) := by decide +kernel
theorem d_LW_law_321 : decode (mB m_LW_law) 321 = .ok (.iconst 0, 1) := by decide +kernel
theorem d_LW_law_322 : decode (mB m_LW_law) 322 = .ok (.ireturn, 1) := by decide +kernel
theorem d_LW_law_323 : decode (mB m_LW_law) 323 = .ok (.iload 5, 2) := by decide +kernel
theorem d_LW_law_325 : decode (mB m_LW_law) 325 = .ok (.ifCond .ne (15), 3) := by decide +kernel
theorem d_LW_law_328 : decode (mB m_LW_law) 328 = .ok (.aload_n 3, 1) := by decide +kernel
theorem d_LW_law_329 : decode (mB m_LW_law) 329 = .ok (.iconst 0, 1) := by decide +kernel
theorem d_LW_law_330 : decode (mB m_LW_law) 330 = .ok (.laload, 1) := by decide +kernel
theorem d_LW_law_331 : decode (mB m_LW_law) 331 = .ok (.iload 6, 2) := by decide +kernel
theorem d_LW_law_333 : decode (mB m_LW_law) 333 = .ok (.i2l, 1) := by decide +kernel
theorem d_LW_law_334 : decode (mB m_LW_law) 334 = .ok (.lcmp, 1) := by decide +kernel
theorem d_LW_law_335 : decode (mB m_LW_law) 335 = .ok (.ifCond .eq (5), 3) := by decide +kernel
theorem d_LW_law_338 : decode (mB m_LW_law) 338 = .ok (.iconst 0, 1) := by decide +kernel
theorem d_LW_law_339 : decode (mB m_LW_law) 339 = .ok (.ireturn, 1) := by decide +kernel
theorem d_LW_law_340 : decode (mB m_LW_law) 340 = .ok (.goto (850), 3) := by decide +kernel
theorem d_LW_law_343 : decode (mB m_LW_law) 343 = .ok (.aload_n 1, 1) := by decide +kernel
theorem d_LW_law_344 : decode (mB m_LW_law) 344 = .ok (.invokevirtual 87, 3) := by decide +kernel
theorem d_LW_law_347 : decode (mB m_LW_law) 347 = .ok (.aload_n 2, 1) := by decide +kernel
theorem d_LW_law_348 : decode (mB m_LW_law) 348 = .ok (.invokevirtual 91, 3) := by decide +kernel
theorem d_LW_law_351 : decode (mB m_LW_law) 351 = .ok (.lcmp, 1) := by decide +kernel
theorem d_LW_law_352 : decode (mB m_LW_law) 352 = .ok (.ifCond .eq (838), 3) := by decide +kernel
theorem d_LW_law_355 : decode (mB m_LW_law) 355 = .ok (.iconst 0, 1) := by decide +kernel
theorem d_LW_law_356 : decode (mB m_LW_law) 356 = .ok (.ireturn, 1) := by decide +kernel
theorem d_LW_law_357 : decode (mB m_LW_law) 357 = .ok (.aload_n 1, 1) := by decide +kernel
theorem d_LW_law_358 : decode (mB m_LW_law) 358 = .ok (.aload_n 0, 1) := by decide +kernel
theorem d_LW_law_359 : decode (mB m_LW_law) 359 = .ok (.iload 4, 2) := by decide +kernel
theorem d_LW_law_361 : decode (mB m_LW_law) 361 = .ok (.iconst 1, 1) := by decide +kernel
theorem d_LW_law_362 : decode (mB m_LW_law) 362 = .ok (.iadd, 1) := by decide +kernel
theorem d_LW_law_363 : decode (mB m_LW_law) 363 = .ok (.iaload, 1) := by decide +kernel
theorem d_LW_law_364 : decode (mB m_LW_law) 364 = .ok (.i2l, 1) := by decide +kernel
theorem d_LW_law_365 : decode (mB m_LW_law) 365 = .ok (.bipush (32), 2) := by decide +kernel
theorem d_LW_law_367 : decode (mB m_LW_law) 367 = .ok (.lshl, 1) := by decide +kernel
theorem d_LW_law_368 : decode (mB m_LW_law) 368 = .ok (.aload_n 0, 1) := by decide +kernel
theorem d_LW_law_369 : decode (mB m_LW_law) 369 = .ok (.iload 4, 2) := by decide +kernel
theorem d_LW_law_371 : decode (mB m_LW_law) 371 = .ok (.iconst 2, 1) := by decide +kernel
theorem d_LW_law_372 : decode (mB m_LW_law) 372 = .ok (.iadd, 1) := by decide +kernel
theorem d_LW_law_373 : decode (mB m_LW_law) 373 = .ok (.iaload, 1) := by decide +kernel
theorem d_LW_law_374 : decode (mB m_LW_law) 374 = .ok (.i2l, 1) := by decide +kernel
theorem d_LW_law_375 : decode (mB m_LW_law) 375 = .ok (.ldc2_w 63, 3) := by decide +kernel
theorem d_LW_law_378 : decode (mB m_LW_law) 378 = .ok (.land, 1) := by decide +kernel
theorem d_LW_law_379 : decode (mB m_LW_law) 379 = .ok (.lor, 1) := by decide +kernel
theorem d_LW_law_380 : decode (mB m_LW_law) 380 = .ok (.invokevirtual 92, 3) := by decide +kernel
theorem d_LW_law_383 : decode (mB m_LW_law) 383 = .ok (.aload_n 2, 1) := by decide +kernel
theorem d_LW_law_384 : decode (mB m_LW_law) 384 = .ok (.aload_n 0, 1) := by decide +kernel
theorem d_LW_law_385 : decode (mB m_LW_law) 385 = .ok (.iload 4, 2) := by decide +kernel
theorem d_LW_law_387 : decode (mB m_LW_law) 387 = .ok (.iconst 1, 1) := by decide +kernel
theorem d_LW_law_388 : decode (mB m_LW_law) 388 = .ok (.iadd, 1) := by decide +kernel
theorem d_LW_law_389 : decode (mB m_LW_law) 389 = .ok (.iaload, 1) := by decide +kernel
theorem d_LW_law_390 : decode (mB m_LW_law) 390 = .ok (.i2l, 1) := by decide +kernel
theorem d_LW_law_391 : decode (mB m_LW_law) 391 = .ok (.bipush (32), 2) := by decide +kernel
theorem d_LW_law_393 : decode (mB m_LW_law) 393 = .ok (.lshl, 1) := by decide +kernel
theorem d_LW_law_394 : decode (mB m_LW_law) 394 = .ok (.aload_n 0, 1) := by decide +kernel
theorem d_LW_law_395 : decode (mB m_LW_law) 395 = .ok (.iload 4, 2) := by decide +kernel
theorem d_LW_law_397 : decode (mB m_LW_law) 397 = .ok (.iconst 2, 1) := by decide +kernel
theorem d_LW_law_398 : decode (mB m_LW_law) 398 = .ok (.iadd, 1) := by decide +kernel
theorem d_LW_law_399 : decode (mB m_LW_law) 399 = .ok (.iaload, 1) := by decide +kernel
theorem d_LW_law_400 : decode (mB m_LW_law) 400 = .ok (.i2l, 1) := by decide +kernel
theorem d_LW_law_401 : decode (mB m_LW_law) 401 = .ok (.ldc2_w 63, 3) := by decide +kernel
theorem d_LW_law_404 : decode (mB m_LW_law) 404 = .ok (.land, 1) := by decide +kernel
theorem d_LW_law_405 : decode (mB m_LW_law) 405 = .ok (.lor, 1) := by decide +kernel
theorem d_LW_law_406 : decode (mB m_LW_law) 406 = .ok (.invokevirtual 96, 3) := by decide +kernel
theorem d_LW_law_409 : decode (mB m_LW_law) 409 = .ok (.goto (781), 3) := by decide +kernel
theorem d_LW_law_412 : decode (mB m_LW_law) 412 = .ok (.aload_n 1, 1) := by decide +kernel
theorem d_LW_law_413 : decode (mB m_LW_law) 413 = .ok (.aload_n 0, 1) := by decide +kernel
theorem d_LW_law_414 : decode (mB m_LW_law) 414 = .ok (.iload 4, 2) := by decide +kernel
theorem d_LW_law_416 : decode (mB m_LW_law) 416 = .ok (.iconst 1, 1) := by decide +kernel
theorem d_LW_law_417 : decode (mB m_LW_law) 417 = .ok (.iadd, 1) := by decide +kernel
theorem d_LW_law_418 : decode (mB m_LW_law) 418 = .ok (.iaload, 1) := by decide +kernel
theorem d_LW_law_419 : decode (mB m_LW_law) 419 = .ok (.invokestatic 97, 3) := by decide +kernel
theorem d_LW_law_422 : decode (mB m_LW_law) 422 = .ok (.istore 5, 2) := by decide +kernel
theorem d_LW_law_424 : decode (mB m_LW_law) 424 = .ok (.aload_n 2, 1) := by decide +kernel
theorem d_LW_law_425 : decode (mB m_LW_law) 425 = .ok (.aload_n 0, 1) := by decide +kernel
theorem d_LW_law_426 : decode (mB m_LW_law) 426 = .ok (.iload 4, 2) := by decide +kernel
theorem d_LW_law_428 : decode (mB m_LW_law) 428 = .ok (.iconst 1, 1) := by decide +kernel
theorem d_LW_law_429 : decode (mB m_LW_law) 429 = .ok (.iadd, 1) := by decide +kernel
theorem d_LW_law_430 : decode (mB m_LW_law) 430 = .ok (.iaload, 1) := by decide +kernel
theorem d_LW_law_431 : decode (mB m_LW_law) 431 = .ok (.invokevirtual 100, 3) := by decide +kernel
theorem d_LW_law_434 : decode (mB m_LW_law) 434 = .ok (.aload_n 2, 1) := by decide +kernel
theorem d_LW_law_435 : decode (mB m_LW_law) 435 = .ok (.invokevirtual 71, 3) := by decide +kernel
theorem d_LW_law_438 : decode (mB m_LW_law) 438 = .ok (.iload 5, 2) := by decide +kernel
theorem d_LW_law_440 : decode (mB m_LW_law) 440 = .ok (.if_icmp .eq (5), 3) := by decide +kernel
theorem d_LW_law_443 : decode (mB m_LW_law) 443 = .ok (.iconst 0, 1) := by decide +kernel
theorem d_LW_law_444 : decode (mB m_LW_law) 444 = .ok (.ireturn, 1) := by decide +kernel
theorem d_LW_law_445 : decode (mB m_LW_law) 445 = .ok (.goto (745), 3) := by decide +kernel
theorem d_LW_law_448 : decode (mB m_LW_law) 448 = .ok (.aload_n 1, 1) := by decide +kernel
theorem d_LW_law_449 : decode (mB m_LW_law) 449 = .ok (.aload_n 0, 1) := by decide +kernel
theorem d_LW_law_450 : decode (mB m_LW_law) 450 = .ok (.iload 4, 2) := by decide +kernel
theorem d_LW_law_452 : decode (mB m_LW_law) 452 = .ok (.iconst 1, 1) := by decide +kernel
theorem d_LW_law_453 : decode (mB m_LW_law) 453 = .ok (.iadd, 1) := by decide +kernel
theorem d_LW_law_454 : decode (mB m_LW_law) 454 = .ok (.iaload, 1) := by decide +kernel
theorem d_LW_law_455 : decode (mB m_LW_law) 455 = .ok (.aload_n 3, 1) := by decide +kernel
theorem d_LW_law_456 : decode (mB m_LW_law) 456 = .ok (.invokestatic 101, 3) := by decide +kernel
theorem d_LW_law_459 : decode (mB m_LW_law) 459 = .ok (.istore 5, 2) := by decide +kernel
theorem d_LW_law_461 : decode (mB m_LW_law) 461 = .ok (.aload_n 2, 1) := by decide +kernel
theorem d_LW_law_462 : decode (mB m_LW_law) 462 = .ok (.aload_n 0, 1) := by decide +kernel
theorem d_LW_law_463 : decode (mB m_LW_law) 463 = .ok (.iload 4, 2) := by decide +kernel
theorem d_LW_law_465 : decode (mB m_LW_law) 465 = .ok (.iconst 1, 1) := by decide +kernel
theorem d_LW_law_466 : decode (mB m_LW_law) 466 = .ok (.iadd, 1) := by decide +kernel
theorem d_LW_law_467 : decode (mB m_LW_law) 467 = .ok (.iaload, 1) := by decide +kernel
theorem d_LW_law_468 : decode (mB m_LW_law) 468 = .ok (.invokevirtual 103, 3) := by decide +kernel
theorem d_LW_law_471 : decode (mB m_LW_law) 471 = .ok (.lstore 6, 2) := by decide +kernel
theorem d_LW_law_473 : decode (mB m_LW_law) 473 = .ok (.aload_n 2, 1) := by decide +kernel
theorem d_LW_law_474 : decode (mB m_LW_law) 474 = .ok (.invokevirtual 71, 3) := by decide +kernel
theorem d_LW_law_477 : decode (mB m_LW_law) 477 = .ok (.iload 5, 2) := by decide +kernel
theorem d_LW_law_479 : decode (mB m_LW_law) 479 = .ok (.if_icmp .eq (5), 3) := by decide +kernel
theorem d_LW_law_482 : decode (mB m_LW_law) 482 = .ok (.iconst 0, 1) := by decide +kernel
theorem d_LW_law_483 : decode (mB m_LW_law) 483 = .ok (.ireturn, 1) := by decide +kernel
theorem d_LW_law_484 : decode (mB m_LW_law) 484 = .ok (.iload 5, 2) := by decide +kernel
theorem d_LW_law_486 : decode (mB m_LW_law) 486 = .ok (.ifCond .ne (14), 3) := by decide +kernel
theorem d_LW_law_489 : decode (mB m_LW_law) 489 = .ok (.aload_n 3, 1) := by decide +kernel
theorem d_LW_law_490 : decode (mB m_LW_law) 490 = .ok (.iconst 0, 1) := by decide +kernel
theorem d_LW_law_491 : decode (mB m_LW_law) 491 = .ok (.laload, 1) := by decide +kernel
theorem d_LW_law_492 : decode (mB m_LW_law) 492 = .ok (.lload 6, 2) := by decide +kernel
theorem d_LW_law_494 : decode (mB m_LW_law) 494 = .ok (.lcmp, 1) := by decide +kernel
theorem d_LW_law_495 : decode (mB m_LW_law) 495 = .ok (.ifCond .eq (5), 3) := by decide +kernel
theorem d_LW_law_498 : decode (mB m_LW_law) 498 = .ok (.iconst 0, 1) := by decide +kernel
theorem d_LW_law_499 : decode (mB m_LW_law) 499 = .ok (.ireturn, 1) := by decide +kernel
theorem d_LW_law_500 : decode (mB m_LW_law) 500 = .ok (.goto (690), 3) := by decide +kernel
theorem d_LW_law_503 : decode (mB m_LW_law) 503 = .ok (.aload_n 1, 1) := by decide +kernel
theorem d_LW_law_504 : decode (mB m_LW_law) 504 = .ok (.aload_n 0, 1) := by decide +kernel
theorem d_LW_law_505 : decode (mB m_LW_law) 505 = .ok (.iload 4, 2) := by decide +kernel
theorem d_LW_law_507 : decode (mB m_LW_law) 507 = .ok (.iconst 1, 1) := by decide +kernel
theorem d_LW_law_508 : decode (mB m_LW_law) 508 = .ok (.iadd, 1) := by decide +kernel
theorem d_LW_law_509 : decode (mB m_LW_law) 509 = .ok (.iaload, 1) := by decide +kernel
theorem d_LW_law_510 : decode (mB m_LW_law) 510 = .ok (.aload_n 3, 1) := by decide +kernel
theorem d_LW_law_511 : decode (mB m_LW_law) 511 = .ok (.invokestatic 104, 3) := by decide +kernel
theorem d_LW_law_514 : decode (mB m_LW_law) 514 = .ok (.istore 5, 2) := by decide +kernel
theorem d_LW_law_516 : decode (mB m_LW_law) 516 = .ok (.aload_n 2, 1) := by decide +kernel
theorem d_LW_law_517 : decode (mB m_LW_law) 517 = .ok (.aload_n 0, 1) := by decide +kernel
theorem d_LW_law_518 : decode (mB m_LW_law) 518 = .ok (.iload 4, 2) := by decide +kernel
theorem d_LW_law_520 : decode (mB m_LW_law) 520 = .ok (.iconst 1, 1) := by decide +kernel
theorem d_LW_law_521 : decode (mB m_LW_law) 521 = .ok (.iadd, 1) := by decide +kernel
theorem d_LW_law_522 : decode (mB m_LW_law) 522 = .ok (.iaload, 1) := by decide +kernel
theorem d_LW_law_523 : decode (mB m_LW_law) 523 = .ok (.invokevirtual 106, 3) := by decide +kernel
theorem d_LW_law_526 : decode (mB m_LW_law) 526 = .ok (.istore 6, 2) := by decide +kernel
theorem d_LW_law_528 : decode (mB m_LW_law) 528 = .ok (.aload_n 2, 1) := by decide +kernel
theorem d_LW_law_529 : decode (mB m_LW_law) 529 = .ok (.invokevirtual 71, 3) := by decide +kernel
theorem d_LW_law_532 : decode (mB m_LW_law) 532 = .ok (.iload 5, 2) := by decide +kernel
theorem d_LW_law_534 : decode (mB m_LW_law) 534 = .ok (.if_icmp .eq (5), 3) := by decide +kernel
theorem d_LW_law_537 : decode (mB m_LW_law) 537 = .ok (.iconst 0, 1) := by decide +kernel
theorem d_LW_law_538 : decode (mB m_LW_law) 538 = .ok (.ireturn, 1) := by decide +kernel
theorem d_LW_law_539 : decode (mB m_LW_law) 539 = .ok (.iload 5, 2) := by decide +kernel
theorem d_LW_law_541 : decode (mB m_LW_law) 541 = .ok (.ifCond .ne (15), 3) := by decide +kernel
theorem d_LW_law_544 : decode (mB m_LW_law) 544 = .ok (.aload_n 3, 1) := by decide +kernel
theorem d_LW_law_545 : decode (mB m_LW_law) 545 = .ok (.iconst 0, 1) := by decide +kernel
theorem d_LW_law_546 : decode (mB m_LW_law) 546 = .ok (.laload, 1) := by decide +kernel
theorem d_LW_law_547 : decode (mB m_LW_law) 547 = .ok (.iload 6, 2) := by decide +kernel
theorem d_LW_law_549 : decode (mB m_LW_law) 549 = .ok (.i2l, 1) := by decide +kernel
theorem d_LW_law_550 : decode (mB m_LW_law) 550 = .ok (.lcmp, 1) := by decide +kernel
theorem d_LW_law_551 : decode (mB m_LW_law) 551 = .ok (.ifCond .eq (5), 3) := by decide +kernel
theorem d_LW_law_554 : decode (mB m_LW_law) 554 = .ok (.iconst 0, 1) := by decide +kernel
theorem d_LW_law_555 : decode (mB m_LW_law) 555 = .ok (.ireturn, 1) := by decide +kernel
theorem d_LW_law_556 : decode (mB m_LW_law) 556 = .ok (.goto (634), 3) := by decide +kernel
theorem d_LW_law_559 : decode (mB m_LW_law) 559 = .ok (.aload_n 1, 1) := by decide +kernel
theorem d_LW_law_560 : decode (mB m_LW_law) 560 = .ok (.invokevirtual 107, 3) := by decide +kernel
theorem d_LW_law_563 : decode (mB m_LW_law) 563 = .ok (.aload_n 2, 1) := by decide +kernel
theorem d_LW_law_564 : decode (mB m_LW_law) 564 = .ok (.invokevirtual 111, 3) := by decide +kernel
theorem d_LW_law_567 : decode (mB m_LW_law) 567 = .ok (.if_icmp .eq (623), 3) := by decide +kernel
theorem d_LW_law_570 : decode (mB m_LW_law) 570 = .ok (.iconst 0, 1) := by decide +kernel
theorem d_LW_law_571 : decode (mB m_LW_law) 571 = .ok (.ireturn, 1) := by decide +kernel
theorem d_LW_law_572 : decode (mB m_LW_law) 572 = .ok (.aload_n 1, 1) := by decide +kernel
theorem d_LW_law_573 : decode (mB m_LW_law) 573 = .ok (.invokevirtual 112, 3) := by decide +kernel
theorem d_LW_law_576 : decode (mB m_LW_law) 576 = .ok (.aload_n 2, 1) := by decide +kernel
theorem d_LW_law_577 : decode (mB m_LW_law) 577 = .ok (.invokevirtual 115, 3) := by decide +kernel
theorem d_LW_law_580 : decode (mB m_LW_law) 580 = .ok (.goto (610), 3) := by decide +kernel
theorem d_LW_law_583 : decode (mB m_LW_law) 583 = .ok (.aload_n 1, 1) := by decide +kernel
theorem d_LW_law_584 : decode (mB m_LW_law) 584 = .ok (.aload_n 0, 1) := by decide +kernel
theorem d_LW_law_585 : decode (mB m_LW_law) 585 = .ok (.iload 4, 2) := by decide +kernel
theorem d_LW_law_587 : decode (mB m_LW_law) 587 = .ok (.iconst 1, 1) := by decide +kernel
theorem d_LW_law_588 : decode (mB m_LW_law) 588 = .ok (.iadd, 1) := by decide +kernel
theorem d_LW_law_589 : decode (mB m_LW_law) 589 = .ok (.iaload, 1) := by decide +kernel
theorem d_LW_law_590 : decode (mB m_LW_law) 590 = .ok (.aload_n 0, 1) := by decide +kernel
theorem d_LW_law_591 : decode (mB m_LW_law) 591 = .ok (.iload 4, 2) := by decide +kernel
theorem d_LW_law_593 : decode (mB m_LW_law) 593 = .ok (.iconst 2, 1) := by decide +kernel
theorem d_LW_law_594 : decode (mB m_LW_law) 594 = .ok (.iadd, 1) := by decide +kernel
theorem d_LW_law_595 : decode (mB m_LW_law) 595 = .ok (.iaload, 1) := by decide +kernel
theorem d_LW_law_596 : decode (mB m_LW_law) 596 = .ok (.aload_n 0, 1) := by decide +kernel
theorem d_LW_law_597 : decode (mB m_LW_law) 597 = .ok (.iload 4, 2) := by decide +kernel
theorem d_LW_law_599 : decode (mB m_LW_law) 599 = .ok (.iconst 3, 1) := by decide +kernel
theorem d_LW_law_600 : decode (mB m_LW_law) 600 = .ok (.iadd, 1) := by decide +kernel
theorem d_LW_law_601 : decode (mB m_LW_law) 601 = .ok (.iaload, 1) := by decide +kernel
theorem d_LW_law_602 : decode (mB m_LW_law) 602 = .ok (.aload_n 0, 1) := by decide +kernel
theorem d_LW_law_603 : decode (mB m_LW_law) 603 = .ok (.iload 4, 2) := by decide +kernel
theorem d_LW_law_605 : decode (mB m_LW_law) 605 = .ok (.iconst 4, 1) := by decide +kernel
theorem d_LW_law_606 : decode (mB m_LW_law) 606 = .ok (.iadd, 1) := by decide +kernel
theorem d_LW_law_607 : decode (mB m_LW_law) 607 = .ok (.iaload, 1) := by decide +kernel
theorem d_LW_law_608 : decode (mB m_LW_law) 608 = .ok (.aload_n 0, 1) := by decide +kernel
theorem d_LW_law_609 : decode (mB m_LW_law) 609 = .ok (.iload 4, 2) := by decide +kernel
theorem d_LW_law_611 : decode (mB m_LW_law) 611 = .ok (.iconst 5, 1) := by decide +kernel
theorem d_LW_law_612 : decode (mB m_LW_law) 612 = .ok (.iadd, 1) := by decide +kernel
theorem d_LW_law_613 : decode (mB m_LW_law) 613 = .ok (.iaload, 1) := by decide +kernel
theorem d_LW_law_614 : decode (mB m_LW_law) 614 = .ok (.i2l, 1) := by decide +kernel
theorem d_LW_law_615 : decode (mB m_LW_law) 615 = .ok (.bipush (32), 2) := by decide +kernel
theorem d_LW_law_617 : decode (mB m_LW_law) 617 = .ok (.lshl, 1) := by decide +kernel
theorem d_LW_law_618 : decode (mB m_LW_law) 618 = .ok (.aload_n 0, 1) := by decide +kernel
theorem d_LW_law_619 : decode (mB m_LW_law) 619 = .ok (.iload 4, 2) := by decide +kernel
theorem d_LW_law_621 : decode (mB m_LW_law) 621 = .ok (.bipush (6), 2) := by decide +kernel
theorem d_LW_law_623 : decode (mB m_LW_law) 623 = .ok (.iadd, 1) := by decide +kernel
theorem d_LW_law_624 : decode (mB m_LW_law) 624 = .ok (.iaload, 1) := by decide +kernel
theorem d_LW_law_625 : decode (mB m_LW_law) 625 = .ok (.i2l, 1) := by decide +kernel
theorem d_LW_law_626 : decode (mB m_LW_law) 626 = .ok (.ldc2_w 63, 3) := by decide +kernel
theorem d_LW_law_629 : decode (mB m_LW_law) 629 = .ok (.land, 1) := by decide +kernel
theorem d_LW_law_630 : decode (mB m_LW_law) 630 = .ok (.lor, 1) := by decide +kernel
theorem d_LW_law_631 : decode (mB m_LW_law) 631 = .ok (.aload_n 0, 1) := by decide +kernel
theorem d_LW_law_632 : decode (mB m_LW_law) 632 = .ok (.iload 4, 2) := by decide +kernel
theorem d_LW_law_634 : decode (mB m_LW_law) 634 = .ok (.bipush (7), 2) := by decide +kernel
theorem d_LW_law_636 : decode (mB m_LW_law) 636 = .ok (.iadd, 1) := by decide +kernel
theorem d_LW_law_637 : decode (mB m_LW_law) 637 = .ok (.iaload, 1) := by decide +kernel
theorem d_LW_law_638 : decode (mB m_LW_law) 638 = .ok (.i2l, 1) := by decide +kernel
theorem d_LW_law_639 : decode (mB m_LW_law) 639 = .ok (.bipush (32), 2) := by decide +kernel
theorem d_LW_law_641 : decode (mB m_LW_law) 641 = .ok (.lshl, 1) := by decide +kernel
theorem d_LW_law_642 : decode (mB m_LW_law) 642 = .ok (.aload_n 0, 1) := by decide +kernel
theorem d_LW_law_643 : decode (mB m_LW_law) 643 = .ok (.iload 4, 2) := by decide +kernel
theorem d_LW_law_645 : decode (mB m_LW_law) 645 = .ok (.bipush (8), 2) := by decide +kernel
theorem d_LW_law_647 : decode (mB m_LW_law) 647 = .ok (.iadd, 1) := by decide +kernel
theorem d_LW_law_648 : decode (mB m_LW_law) 648 = .ok (.iaload, 1) := by decide +kernel
theorem d_LW_law_649 : decode (mB m_LW_law) 649 = .ok (.i2l, 1) := by decide +kernel
theorem d_LW_law_650 : decode (mB m_LW_law) 650 = .ok (.ldc2_w 63, 3) := by decide +kernel
theorem d_LW_law_653 : decode (mB m_LW_law) 653 = .ok (.land, 1) := by decide +kernel
theorem d_LW_law_654 : decode (mB m_LW_law) 654 = .ok (.lor, 1) := by decide +kernel
theorem d_LW_law_655 : decode (mB m_LW_law) 655 = .ok (.aload_n 0, 1) := by decide +kernel
theorem d_LW_law_656 : decode (mB m_LW_law) 656 = .ok (.iload 4, 2) := by decide +kernel
theorem d_LW_law_658 : decode (mB m_LW_law) 658 = .ok (.bipush (9), 2) := by decide +kernel
theorem d_LW_law_660 : decode (mB m_LW_law) 660 = .ok (.iadd, 1) := by decide +kernel
theorem d_LW_law_661 : decode (mB m_LW_law) 661 = .ok (.iaload, 1) := by decide +kernel
theorem d_LW_law_662 : decode (mB m_LW_law) 662 = .ok (.i2l, 1) := by decide +kernel
theorem d_LW_law_663 : decode (mB m_LW_law) 663 = .ok (.bipush (32), 2) := by decide +kernel
theorem d_LW_law_665 : decode (mB m_LW_law) 665 = .ok (.lshl, 1) := by decide +kernel
theorem d_LW_law_666 : decode (mB m_LW_law) 666 = .ok (.aload_n 0, 1) := by decide +kernel
theorem d_LW_law_667 : decode (mB m_LW_law) 667 = .ok (.iload 4, 2) := by decide +kernel
theorem d_LW_law_669 : decode (mB m_LW_law) 669 = .ok (.bipush (10), 2) := by decide +kernel
theorem d_LW_law_671 : decode (mB m_LW_law) 671 = .ok (.iadd, 1) := by decide +kernel
theorem d_LW_law_672 : decode (mB m_LW_law) 672 = .ok (.iaload, 1) := by decide +kernel
theorem d_LW_law_673 : decode (mB m_LW_law) 673 = .ok (.i2l, 1) := by decide +kernel
theorem d_LW_law_674 : decode (mB m_LW_law) 674 = .ok (.ldc2_w 63, 3) := by decide +kernel
theorem d_LW_law_677 : decode (mB m_LW_law) 677 = .ok (.land, 1) := by decide +kernel
theorem d_LW_law_678 : decode (mB m_LW_law) 678 = .ok (.lor, 1) := by decide +kernel
theorem d_LW_law_679 : decode (mB m_LW_law) 679 = .ok (.aload_n 0, 1) := by decide +kernel
theorem d_LW_law_680 : decode (mB m_LW_law) 680 = .ok (.iload 4, 2) := by decide +kernel
theorem d_LW_law_682 : decode (mB m_LW_law) 682 = .ok (.bipush (11), 2) := by decide +kernel
theorem d_LW_law_684 : decode (mB m_LW_law) 684 = .ok (.iadd, 1) := by decide +kernel
theorem d_LW_law_685 : decode (mB m_LW_law) 685 = .ok (.iaload, 1) := by decide +kernel
theorem d_LW_law_686 : decode (mB m_LW_law) 686 = .ok (.i2l, 1) := by decide +kernel
theorem d_LW_law_687 : decode (mB m_LW_law) 687 = .ok (.bipush (32), 2) := by decide +kernel
theorem d_LW_law_689 : decode (mB m_LW_law) 689 = .ok (.lshl, 1) := by decide +kernel
theorem d_LW_law_690 : decode (mB m_LW_law) 690 = .ok (.aload_n 0, 1) := by decide +kernel
theorem d_LW_law_691 : decode (mB m_LW_law) 691 = .ok (.iload 4, 2) := by decide +kernel
theorem d_LW_law_693 : decode (mB m_LW_law) 693 = .ok (.bipush (12), 2) := by decide +kernel
theorem d_LW_law_695 : decode (mB m_LW_law) 695 = .ok (.iadd, 1) := by decide +kernel
theorem d_LW_law_696 : decode (mB m_LW_law) 696 = .ok (.iaload, 1) := by decide +kernel
theorem d_LW_law_697 : decode (mB m_LW_law) 697 = .ok (.i2l, 1) := by decide +kernel
theorem d_LW_law_698 : decode (mB m_LW_law) 698 = .ok (.ldc2_w 63, 3) := by decide +kernel
theorem d_LW_law_701 : decode (mB m_LW_law) 701 = .ok (.land, 1) := by decide +kernel
theorem d_LW_law_702 : decode (mB m_LW_law) 702 = .ok (.lor, 1) := by decide +kernel
theorem d_LW_law_703 : decode (mB m_LW_law) 703 = .ok (.aload_n 3, 1) := by decide +kernel
theorem d_LW_law_704 : decode (mB m_LW_law) 704 = .ok (.invokestatic 116, 3) := by decide +kernel
theorem d_LW_law_707 : decode (mB m_LW_law) 707 = .ok (.istore 5, 2) := by decide +kernel
theorem d_LW_law_709 : decode (mB m_LW_law) 709 = .ok (.aload_n 2, 1) := by decide +kernel
theorem d_LW_law_710 : decode (mB m_LW_law) 710 = .ok (.aload_n 0, 1) := by decide +kernel
theorem d_LW_law_711 : decode (mB m_LW_law) 711 = .ok (.iload 4, 2) := by decide +kernel
theorem d_LW_law_713 : decode (mB m_LW_law) 713 = .ok (.iconst 1, 1) := by decide +kernel
theorem d_LW_law_714 : decode (mB m_LW_law) 714 = .ok (.iadd, 1) := by decide +kernel
theorem d_LW_law_715 : decode (mB m_LW_law) 715 = .ok (.iaload, 1) := by decide +kernel
theorem d_LW_law_716 : decode (mB m_LW_law) 716 = .ok (.aload_n 0, 1) := by decide +kernel
theorem d_LW_law_717 : decode (mB m_LW_law) 717 = .ok (.iload 4, 2) := by decide +kernel
theorem d_LW_law_719 : decode (mB m_LW_law) 719 = .ok (.iconst 2, 1) := by decide +kernel
theorem d_LW_law_720 : decode (mB m_LW_law) 720 = .ok (.iadd, 1) := by decide +kernel
theorem d_LW_law_721 : decode (mB m_LW_law) 721 = .ok (.iaload, 1) := by decide +kernel
theorem d_LW_law_722 : decode (mB m_LW_law) 722 = .ok (.aload_n 0, 1) := by decide +kernel
theorem d_LW_law_723 : decode (mB m_LW_law) 723 = .ok (.iload 4, 2) := by decide +kernel
theorem d_LW_law_725 : decode (mB m_LW_law) 725 = .ok (.iconst 3, 1) := by decide +kernel
theorem d_LW_law_726 : decode (mB m_LW_law) 726 = .ok (.iadd, 1) := by decide +kernel
theorem d_LW_law_727 : decode (mB m_LW_law) 727 = .ok (.iaload, 1) := by decide +kernel
theorem d_LW_law_728 : decode (mB m_LW_law) 728 = .ok (.aload_n 0, 1) := by decide +kernel
theorem d_LW_law_729 : decode (mB m_LW_law) 729 = .ok (.iload 4, 2) := by decide +kernel
theorem d_LW_law_731 : decode (mB m_LW_law) 731 = .ok (.iconst 4, 1) := by decide +kernel
theorem d_LW_law_732 : decode (mB m_LW_law) 732 = .ok (.iadd, 1) := by decide +kernel
theorem d_LW_law_733 : decode (mB m_LW_law) 733 = .ok (.iaload, 1) := by decide +kernel
theorem d_LW_law_734 : decode (mB m_LW_law) 734 = .ok (.aload_n 0, 1) := by decide +kernel
theorem d_LW_law_735 : decode (mB m_LW_law) 735 = .ok (.iload 4, 2) := by decide +kernel
theorem d_LW_law_737 : decode (mB m_LW_law) 737 = .ok (.iconst 5, 1) := by decide +kernel
theorem d_LW_law_738 : decode (mB m_LW_law) 738 = .ok (.iadd, 1) := by decide +kernel
theorem d_LW_law_739 : decode (mB m_LW_law) 739 = .ok (.iaload, 1) := by decide +kernel
theorem d_LW_law_740 : decode (mB m_LW_law) 740 = .ok (.i2l, 1) := by decide +kernel
theorem d_LW_law_741 : decode (mB m_LW_law) 741 = .ok (.bipush (32), 2) := by decide +kernel
theorem d_LW_law_743 : decode (mB m_LW_law) 743 = .ok (.lshl, 1) := by decide +kernel
theorem d_LW_law_744 : decode (mB m_LW_law) 744 = .ok (.aload_n 0, 1) := by decide +kernel
theorem d_LW_law_745 : decode (mB m_LW_law) 745 = .ok (.iload 4, 2) := by decide +kernel
theorem d_LW_law_747 : decode (mB m_LW_law) 747 = .ok (.bipush (6), 2) := by decide +kernel
theorem d_LW_law_749 : decode (mB m_LW_law) 749 = .ok (.iadd, 1) := by decide +kernel
theorem d_LW_law_750 : decode (mB m_LW_law) 750 = .ok (.iaload, 1) := by decide +kernel
theorem d_LW_law_751 : decode (mB m_LW_law) 751 = .ok (.i2l, 1) := by decide +kernel
theorem d_LW_law_752 : decode (mB m_LW_law) 752 = .ok (.ldc2_w 63, 3) := by decide +kernel
theorem d_LW_law_755 : decode (mB m_LW_law) 755 = .ok (.land, 1) := by decide +kernel
theorem d_LW_law_756 : decode (mB m_LW_law) 756 = .ok (.lor, 1) := by decide +kernel
theorem d_LW_law_757 : decode (mB m_LW_law) 757 = .ok (.aload_n 0, 1) := by decide +kernel
theorem d_LW_law_758 : decode (mB m_LW_law) 758 = .ok (.iload 4, 2) := by decide +kernel
theorem d_LW_law_760 : decode (mB m_LW_law) 760 = .ok (.bipush (7), 2) := by decide +kernel
theorem d_LW_law_762 : decode (mB m_LW_law) 762 = .ok (.iadd, 1) := by decide +kernel
theorem d_LW_law_763 : decode (mB m_LW_law) 763 = .ok (.iaload, 1) := by decide +kernel
theorem d_LW_law_764 : decode (mB m_LW_law) 764 = .ok (.i2l, 1) := by decide +kernel
theorem d_LW_law_765 : decode (mB m_LW_law) 765 = .ok (.bipush (32), 2) := by decide +kernel
theorem d_LW_law_767 : decode (mB m_LW_law) 767 = .ok (.lshl, 1) := by decide +kernel
theorem d_LW_law_768 : decode (mB m_LW_law) 768 = .ok (.aload_n 0, 1) := by decide +kernel
theorem d_LW_law_769 : decode (mB m_LW_law) 769 = .ok (.iload 4, 2) := by decide +kernel
theorem d_LW_law_771 : decode (mB m_LW_law) 771 = .ok (.bipush (8), 2) := by decide +kernel
theorem d_LW_law_773 : decode (mB m_LW_law) 773 = .ok (.iadd, 1) := by decide +kernel
theorem d_LW_law_774 : decode (mB m_LW_law) 774 = .ok (.iaload, 1) := by decide +kernel
theorem d_LW_law_775 : decode (mB m_LW_law) 775 = .ok (.i2l, 1) := by decide +kernel
theorem d_LW_law_776 : decode (mB m_LW_law) 776 = .ok (.ldc2_w 63, 3) := by decide +kernel
theorem d_LW_law_779 : decode (mB m_LW_law) 779 = .ok (.land, 1) := by decide +kernel
theorem d_LW_law_780 : decode (mB m_LW_law) 780 = .ok (.lor, 1) := by decide +kernel
theorem d_LW_law_781 : decode (mB m_LW_law) 781 = .ok (.aload_n 0, 1) := by decide +kernel
theorem d_LW_law_782 : decode (mB m_LW_law) 782 = .ok (.iload 4, 2) := by decide +kernel
theorem d_LW_law_784 : decode (mB m_LW_law) 784 = .ok (.bipush (9), 2) := by decide +kernel
theorem d_LW_law_786 : decode (mB m_LW_law) 786 = .ok (.iadd, 1) := by decide +kernel
theorem d_LW_law_787 : decode (mB m_LW_law) 787 = .ok (.iaload, 1) := by decide +kernel
theorem d_LW_law_788 : decode (mB m_LW_law) 788 = .ok (.i2l, 1) := by decide +kernel
theorem d_LW_law_789 : decode (mB m_LW_law) 789 = .ok (.bipush (32), 2) := by decide +kernel
theorem d_LW_law_791 : decode (mB m_LW_law) 791 = .ok (.lshl, 1) := by decide +kernel
theorem d_LW_law_792 : decode (mB m_LW_law) 792 = .ok (.aload_n 0, 1) := by decide +kernel
theorem d_LW_law_793 : decode (mB m_LW_law) 793 = .ok (.iload 4, 2) := by decide +kernel
theorem d_LW_law_795 : decode (mB m_LW_law) 795 = .ok (.bipush (10), 2) := by decide +kernel
theorem d_LW_law_797 : decode (mB m_LW_law) 797 = .ok (.iadd, 1) := by decide +kernel
theorem d_LW_law_798 : decode (mB m_LW_law) 798 = .ok (.iaload, 1) := by decide +kernel
theorem d_LW_law_799 : decode (mB m_LW_law) 799 = .ok (.i2l, 1) := by decide +kernel
theorem d_LW_law_800 : decode (mB m_LW_law) 800 = .ok (.ldc2_w 63, 3) := by decide +kernel
theorem d_LW_law_803 : decode (mB m_LW_law) 803 = .ok (.land, 1) := by decide +kernel
theorem d_LW_law_804 : decode (mB m_LW_law) 804 = .ok (.lor, 1) := by decide +kernel
theorem d_LW_law_805 : decode (mB m_LW_law) 805 = .ok (.aload_n 0, 1) := by decide +kernel
theorem d_LW_law_806 : decode (mB m_LW_law) 806 = .ok (.iload 4, 2) := by decide +kernel
theorem d_LW_law_808 : decode (mB m_LW_law) 808 = .ok (.bipush (11), 2) := by decide +kernel
theorem d_LW_law_810 : decode (mB m_LW_law) 810 = .ok (.iadd, 1) := by decide +kernel
theorem d_LW_law_811 : decode (mB m_LW_law) 811 = .ok (.iaload, 1) := by decide +kernel
theorem d_LW_law_812 : decode (mB m_LW_law) 812 = .ok (.i2l, 1) := by decide +kernel
theorem d_LW_law_813 : decode (mB m_LW_law) 813 = .ok (.bipush (32), 2) := by decide +kernel
theorem d_LW_law_815 : decode (mB m_LW_law) 815 = .ok (.lshl, 1) := by decide +kernel
theorem d_LW_law_816 : decode (mB m_LW_law) 816 = .ok (.aload_n 0, 1) := by decide +kernel
theorem d_LW_law_817 : decode (mB m_LW_law) 817 = .ok (.iload 4, 2) := by decide +kernel
theorem d_LW_law_819 : decode (mB m_LW_law) 819 = .ok (.bipush (12), 2) := by decide +kernel
theorem d_LW_law_821 : decode (mB m_LW_law) 821 = .ok (.iadd, 1) := by decide +kernel
theorem d_LW_law_822 : decode (mB m_LW_law) 822 = .ok (.iaload, 1) := by decide +kernel
theorem d_LW_law_823 : decode (mB m_LW_law) 823 = .ok (.i2l, 1) := by decide +kernel
theorem d_LW_law_824 : decode (mB m_LW_law) 824 = .ok (.ldc2_w 63, 3) := by decide +kernel
theorem d_LW_law_827 : decode (mB m_LW_law) 827 = .ok (.land, 1) := by decide +kernel
theorem d_LW_law_828 : decode (mB m_LW_law) 828 = .ok (.lor, 1) := by decide +kernel
theorem d_LW_law_829 : decode (mB m_LW_law) 829 = .ok (.invokevirtual 119, 3) := by decide +kernel
theorem d_LW_law_832 : decode (mB m_LW_law) 832 = .ok (.lstore 6, 2) := by decide +kernel
theorem d_LW_law_834 : decode (mB m_LW_law) 834 = .ok (.aload_n 2, 1) := by decide +kernel
theorem d_LW_law_835 : decode (mB m_LW_law) 835 = .ok (.invokevirtual 71, 3) := by decide +kernel
theorem d_LW_law_838 : decode (mB m_LW_law) 838 = .ok (.iload 5, 2) := by decide +kernel
theorem d_LW_law_840 : decode (mB m_LW_law) 840 = .ok (.if_icmp .eq (5), 3) := by decide +kernel
theorem d_LW_law_843 : decode (mB m_LW_law) 843 = .ok (.iconst 0, 1) := by decide +kernel
theorem d_LW_law_844 : decode (mB m_LW_law) 844 = .ok (.ireturn, 1) := by decide +kernel
theorem d_LW_law_845 : decode (mB m_LW_law) 845 = .ok (.iload 5, 2) := by decide +kernel
theorem d_LW_law_847 : decode (mB m_LW_law) 847 = .ok (.ifCond .ne (14), 3) := by decide +kernel
theorem d_LW_law_850 : decode (mB m_LW_law) 850 = .ok (.aload_n 3, 1) := by decide +kernel
theorem d_LW_law_851 : decode (mB m_LW_law) 851 = .ok (.iconst 0, 1) := by decide +kernel
theorem d_LW_law_852 : decode (mB m_LW_law) 852 = .ok (.laload, 1) := by decide +kernel
theorem d_LW_law_853 : decode (mB m_LW_law) 853 = .ok (.lload 6, 2) := by decide +kernel
theorem d_LW_law_855 : decode (mB m_LW_law) 855 = .ok (.lcmp, 1) := by decide +kernel
theorem d_LW_law_856 : decode (mB m_LW_law) 856 = .ok (.ifCond .eq (5), 3) := by decide +kernel
theorem d_LW_law_859 : decode (mB m_LW_law) 859 = .ok (.iconst 0, 1) := by decide +kernel
theorem d_LW_law_860 : decode (mB m_LW_law) 860 = .ok (.ireturn, 1) := by decide +kernel
theorem d_LW_law_861 : decode (mB m_LW_law) 861 = .ok (.goto (329), 3) := by decide +kernel
theorem d_LW_law_864 : decode (mB m_LW_law) 864 = .ok (.aload_n 1, 1) := by decide +kernel
theorem d_LW_law_865 : decode (mB m_LW_law) 865 = .ok (.aload_n 0, 1) := by decide +kernel
theorem d_LW_law_866 : decode (mB m_LW_law) 866 = .ok (.iload 4, 2) := by decide +kernel
theorem d_LW_law_868 : decode (mB m_LW_law) 868 = .ok (.iconst 1, 1) := by decide +kernel
theorem d_LW_law_869 : decode (mB m_LW_law) 869 = .ok (.iadd, 1) := by decide +kernel
theorem d_LW_law_870 : decode (mB m_LW_law) 870 = .ok (.iaload, 1) := by decide +kernel
theorem d_LW_law_871 : decode (mB m_LW_law) 871 = .ok (.aload_n 0, 1) := by decide +kernel
theorem d_LW_law_872 : decode (mB m_LW_law) 872 = .ok (.iload 4, 2) := by decide +kernel
theorem d_LW_law_874 : decode (mB m_LW_law) 874 = .ok (.iconst 2, 1) := by decide +kernel
theorem d_LW_law_875 : decode (mB m_LW_law) 875 = .ok (.iadd, 1) := by decide +kernel
theorem d_LW_law_876 : decode (mB m_LW_law) 876 = .ok (.iaload, 1) := by decide +kernel
theorem d_LW_law_877 : decode (mB m_LW_law) 877 = .ok (.aload_n 3, 1) := by decide +kernel
theorem d_LW_law_878 : decode (mB m_LW_law) 878 = .ok (.invokestatic 120, 3) := by decide +kernel
theorem d_LW_law_881 : decode (mB m_LW_law) 881 = .ok (.istore 5, 2) := by decide +kernel
theorem d_LW_law_883 : decode (mB m_LW_law) 883 = .ok (.aload_n 2, 1) := by decide +kernel
theorem d_LW_law_884 : decode (mB m_LW_law) 884 = .ok (.aload_n 0, 1) := by decide +kernel
theorem d_LW_law_885 : decode (mB m_LW_law) 885 = .ok (.iload 4, 2) := by decide +kernel
theorem d_LW_law_887 : decode (mB m_LW_law) 887 = .ok (.iconst 1, 1) := by decide +kernel
theorem d_LW_law_888 : decode (mB m_LW_law) 888 = .ok (.iadd, 1) := by decide +kernel
theorem d_LW_law_889 : decode (mB m_LW_law) 889 = .ok (.iaload, 1) := by decide +kernel
theorem d_LW_law_890 : decode (mB m_LW_law) 890 = .ok (.aload_n 0, 1) := by decide +kernel
theorem d_LW_law_891 : decode (mB m_LW_law) 891 = .ok (.iload 4, 2) := by decide +kernel
theorem d_LW_law_893 : decode (mB m_LW_law) 893 = .ok (.iconst 2, 1) := by decide +kernel
theorem d_LW_law_894 : decode (mB m_LW_law) 894 = .ok (.iadd, 1) := by decide +kernel
theorem d_LW_law_895 : decode (mB m_LW_law) 895 = .ok (.iaload, 1) := by decide +kernel
theorem d_LW_law_896 : decode (mB m_LW_law) 896 = .ok (.invokevirtual 123, 3) := by decide +kernel
theorem d_LW_law_899 : decode (mB m_LW_law) 899 = .ok (.lstore 6, 2) := by decide +kernel
theorem d_LW_law_901 : decode (mB m_LW_law) 901 = .ok (.aload_n 2, 1) := by decide +kernel
theorem d_LW_law_902 : decode (mB m_LW_law) 902 = .ok (.invokevirtual 71, 3) := by decide +kernel
theorem d_LW_law_905 : decode (mB m_LW_law) 905 = .ok (.iload 5, 2) := by decide +kernel
theorem d_LW_law_907 : decode (mB m_LW_law) 907 = .ok (.if_icmp .eq (5), 3) := by decide +kernel
theorem d_LW_law_910 : decode (mB m_LW_law) 910 = .ok (.iconst 0, 1) := by decide +kernel
theorem d_LW_law_911 : decode (mB m_LW_law) 911 = .ok (.ireturn, 1) := by decide +kernel
theorem d_LW_law_912 : decode (mB m_LW_law) 912 = .ok (.iload 5, 2) := by decide +kernel
theorem d_LW_law_914 : decode (mB m_LW_law) 914 = .ok (.ifCond .ne (14), 3) := by decide +kernel
theorem d_LW_law_917 : decode (mB m_LW_law) 917 = .ok (.aload_n 3, 1) := by decide +kernel
theorem d_LW_law_918 : decode (mB m_LW_law) 918 = .ok (.iconst 0, 1) := by decide +kernel
theorem d_LW_law_919 : decode (mB m_LW_law) 919 = .ok (.laload, 1) := by decide +kernel
theorem d_LW_law_920 : decode (mB m_LW_law) 920 = .ok (.lload 6, 2) := by decide +kernel
theorem d_LW_law_922 : decode (mB m_LW_law) 922 = .ok (.lcmp, 1) := by decide +kernel
theorem d_LW_law_923 : decode (mB m_LW_law) 923 = .ok (.ifCond .eq (5), 3) := by decide +kernel
theorem d_LW_law_926 : decode (mB m_LW_law) 926 = .ok (.iconst 0, 1) := by decide +kernel
theorem d_LW_law_927 : decode (mB m_LW_law) 927 = .ok (.ireturn, 1) := by decide +kernel
theorem d_LW_law_928 : decode (mB m_LW_law) 928 = .ok (.goto (262), 3) := by decide +kernel
theorem d_LW_law_931 : decode (mB m_LW_law) 931 = .ok (.aload_n 1, 1) := by decide +kernel
theorem d_LW_law_932 : decode (mB m_LW_law) 932 = .ok (.aload_n 0, 1) := by decide +kernel
theorem d_LW_law_933 : decode (mB m_LW_law) 933 = .ok (.iload 4, 2) := by decide +kernel
theorem d_LW_law_935 : decode (mB m_LW_law) 935 = .ok (.iconst 1, 1) := by decide +kernel
theorem d_LW_law_936 : decode (mB m_LW_law) 936 = .ok (.iadd, 1) := by decide +kernel
theorem d_LW_law_937 : decode (mB m_LW_law) 937 = .ok (.iaload, 1) := by decide +kernel
theorem d_LW_law_938 : decode (mB m_LW_law) 938 = .ok (.aload_n 0, 1) := by decide +kernel
theorem d_LW_law_939 : decode (mB m_LW_law) 939 = .ok (.iload 4, 2) := by decide +kernel
theorem d_LW_law_941 : decode (mB m_LW_law) 941 = .ok (.iconst 2, 1) := by decide +kernel
theorem d_LW_law_942 : decode (mB m_LW_law) 942 = .ok (.iadd, 1) := by decide +kernel
theorem d_LW_law_943 : decode (mB m_LW_law) 943 = .ok (.iaload, 1) := by decide +kernel
theorem d_LW_law_944 : decode (mB m_LW_law) 944 = .ok (.aload_n 0, 1) := by decide +kernel
theorem d_LW_law_945 : decode (mB m_LW_law) 945 = .ok (.iload 4, 2) := by decide +kernel
theorem d_LW_law_947 : decode (mB m_LW_law) 947 = .ok (.iconst 3, 1) := by decide +kernel
theorem d_LW_law_948 : decode (mB m_LW_law) 948 = .ok (.iadd, 1) := by decide +kernel
theorem d_LW_law_949 : decode (mB m_LW_law) 949 = .ok (.iaload, 1) := by decide +kernel
theorem d_LW_law_950 : decode (mB m_LW_law) 950 = .ok (.aload_n 3, 1) := by decide +kernel
theorem d_LW_law_951 : decode (mB m_LW_law) 951 = .ok (.invokestatic 124, 3) := by decide +kernel
theorem d_LW_law_954 : decode (mB m_LW_law) 954 = .ok (.istore 5, 2) := by decide +kernel
theorem d_LW_law_956 : decode (mB m_LW_law) 956 = .ok (.aload_n 2, 1) := by decide +kernel
theorem d_LW_law_957 : decode (mB m_LW_law) 957 = .ok (.aload_n 0, 1) := by decide +kernel
theorem d_LW_law_958 : decode (mB m_LW_law) 958 = .ok (.iload 4, 2) := by decide +kernel
theorem d_LW_law_960 : decode (mB m_LW_law) 960 = .ok (.iconst 1, 1) := by decide +kernel
theorem d_LW_law_961 : decode (mB m_LW_law) 961 = .ok (.iadd, 1) := by decide +kernel
theorem d_LW_law_962 : decode (mB m_LW_law) 962 = .ok (.iaload, 1) := by decide +kernel
theorem d_LW_law_963 : decode (mB m_LW_law) 963 = .ok (.aload_n 0, 1) := by decide +kernel
theorem d_LW_law_964 : decode (mB m_LW_law) 964 = .ok (.iload 4, 2) := by decide +kernel
theorem d_LW_law_966 : decode (mB m_LW_law) 966 = .ok (.iconst 2, 1) := by decide +kernel
theorem d_LW_law_967 : decode (mB m_LW_law) 967 = .ok (.iadd, 1) := by decide +kernel
theorem d_LW_law_968 : decode (mB m_LW_law) 968 = .ok (.iaload, 1) := by decide +kernel
theorem d_LW_law_969 : decode (mB m_LW_law) 969 = .ok (.aload_n 0, 1) := by decide +kernel
theorem d_LW_law_970 : decode (mB m_LW_law) 970 = .ok (.iload 4, 2) := by decide +kernel
theorem d_LW_law_972 : decode (mB m_LW_law) 972 = .ok (.iconst 3, 1) := by decide +kernel
theorem d_LW_law_973 : decode (mB m_LW_law) 973 = .ok (.iadd, 1) := by decide +kernel
theorem d_LW_law_974 : decode (mB m_LW_law) 974 = .ok (.iaload, 1) := by decide +kernel
theorem d_LW_law_975 : decode (mB m_LW_law) 975 = .ok (.invokevirtual 127, 3) := by decide +kernel
theorem d_LW_law_978 : decode (mB m_LW_law) 978 = .ok (.lstore 6, 2) := by decide +kernel
theorem d_LW_law_980 : decode (mB m_LW_law) 980 = .ok (.aload_n 2, 1) := by decide +kernel
theorem d_LW_law_981 : decode (mB m_LW_law) 981 = .ok (.invokevirtual 71, 3) := by decide +kernel
theorem d_LW_law_984 : decode (mB m_LW_law) 984 = .ok (.iload 5, 2) := by decide +kernel
theorem d_LW_law_986 : decode (mB m_LW_law) 986 = .ok (.if_icmp .eq (5), 3) := by decide +kernel
theorem d_LW_law_989 : decode (mB m_LW_law) 989 = .ok (.iconst 0, 1) := by decide +kernel
theorem d_LW_law_990 : decode (mB m_LW_law) 990 = .ok (.ireturn, 1) := by decide +kernel
theorem d_LW_law_991 : decode (mB m_LW_law) 991 = .ok (.iload 5, 2) := by decide +kernel
theorem d_LW_law_993 : decode (mB m_LW_law) 993 = .ok (.ifCond .ne (14), 3) := by decide +kernel
theorem d_LW_law_996 : decode (mB m_LW_law) 996 = .ok (.aload_n 3, 1) := by decide +kernel
theorem d_LW_law_997 : decode (mB m_LW_law) 997 = .ok (.iconst 0, 1) := by decide +kernel
theorem d_LW_law_998 : decode (mB m_LW_law) 998 = .ok (.laload, 1) := by decide +kernel
theorem d_LW_law_999 : decode (mB m_LW_law) 999 = .ok (.lload 6, 2) := by decide +kernel
theorem d_LW_law_1001 : decode (mB m_LW_law) 1001 = .ok (.lcmp, 1) := by decide +kernel
theorem d_LW_law_1002 : decode (mB m_LW_law) 1002 = .ok (.ifCond .eq (5), 3) := by decide +kernel
theorem d_LW_law_1005 : decode (mB m_LW_law) 1005 = .ok (.iconst 0, 1) := by decide +kernel
theorem d_LW_law_1006 : decode (mB m_LW_law) 1006 = .ok (.ireturn, 1) := by decide +kernel
theorem d_LW_law_1007 : decode (mB m_LW_law) 1007 = .ok (.goto (183), 3) := by decide +kernel
theorem d_LW_law_1010 : decode (mB m_LW_law) 1010 = .ok (.aload_n 1, 1) := by decide +kernel
theorem d_LW_law_1011 : decode (mB m_LW_law) 1011 = .ok (.aload_n 0, 1) := by decide +kernel
theorem d_LW_law_1012 : decode (mB m_LW_law) 1012 = .ok (.iload 4, 2) := by decide +kernel
theorem d_LW_law_1014 : decode (mB m_LW_law) 1014 = .ok (.iconst 1, 1) := by decide +kernel
theorem d_LW_law_1015 : decode (mB m_LW_law) 1015 = .ok (.iadd, 1) := by decide +kernel
theorem d_LW_law_1016 : decode (mB m_LW_law) 1016 = .ok (.iaload, 1) := by decide +kernel
theorem d_LW_law_1017 : decode (mB m_LW_law) 1017 = .ok (.aload_n 3, 1) := by decide +kernel
theorem d_LW_law_1018 : decode (mB m_LW_law) 1018 = .ok (.invokestatic 128, 3) := by decide +kernel
theorem d_LW_law_1021 : decode (mB m_LW_law) 1021 = .ok (.istore 5, 2) := by decide +kernel
theorem d_LW_law_1023 : decode (mB m_LW_law) 1023 = .ok (.aload_n 2, 1) := by decide +kernel
theorem d_LW_law_1024 : decode (mB m_LW_law) 1024 = .ok (.aload_n 0, 1) := by decide +kernel
theorem d_LW_law_1025 : decode (mB m_LW_law) 1025 = .ok (.iload 4, 2) := by decide +kernel
theorem d_LW_law_1027 : decode (mB m_LW_law) 1027 = .ok (.iconst 1, 1) := by decide +kernel
theorem d_LW_law_1028 : decode (mB m_LW_law) 1028 = .ok (.iadd, 1) := by decide +kernel
theorem d_LW_law_1029 : decode (mB m_LW_law) 1029 = .ok (.iaload, 1) := by decide +kernel
theorem d_LW_law_1030 : decode (mB m_LW_law) 1030 = .ok (.invokevirtual 130, 3) := by decide +kernel
theorem d_LW_law_1033 : decode (mB m_LW_law) 1033 = .ok (.istore 6, 2) := by decide +kernel
theorem d_LW_law_1035 : decode (mB m_LW_law) 1035 = .ok (.aload_n 2, 1) := by decide +kernel
theorem d_LW_law_1036 : decode (mB m_LW_law) 1036 = .ok (.invokevirtual 71, 3) := by decide +kernel
theorem d_LW_law_1039 : decode (mB m_LW_law) 1039 = .ok (.iload 5, 2) := by decide +kernel
theorem d_LW_law_1041 : decode (mB m_LW_law) 1041 = .ok (.if_icmp .eq (5), 3) := by decide +kernel
theorem d_LW_law_1044 : decode (mB m_LW_law) 1044 = .ok (.iconst 0, 1) := by decide +kernel
theorem d_LW_law_1045 : decode (mB m_LW_law) 1045 = .ok (.ireturn, 1) := by decide +kernel
theorem d_LW_law_1046 : decode (mB m_LW_law) 1046 = .ok (.iload 5, 2) := by decide +kernel
theorem d_LW_law_1048 : decode (mB m_LW_law) 1048 = .ok (.ifCond .ne (15), 3) := by decide +kernel
theorem d_LW_law_1051 : decode (mB m_LW_law) 1051 = .ok (.aload_n 3, 1) := by decide +kernel
theorem d_LW_law_1052 : decode (mB m_LW_law) 1052 = .ok (.iconst 0, 1) := by decide +kernel
theorem d_LW_law_1053 : decode (mB m_LW_law) 1053 = .ok (.laload, 1) := by decide +kernel
theorem d_LW_law_1054 : decode (mB m_LW_law) 1054 = .ok (.iload 6, 2) := by decide +kernel
theorem d_LW_law_1056 : decode (mB m_LW_law) 1056 = .ok (.i2l, 1) := by decide +kernel
theorem d_LW_law_1057 : decode (mB m_LW_law) 1057 = .ok (.lcmp, 1) := by decide +kernel
theorem d_LW_law_1058 : decode (mB m_LW_law) 1058 = .ok (.ifCond .eq (5), 3) := by decide +kernel
theorem d_LW_law_1061 : decode (mB m_LW_law) 1061 = .ok (.iconst 0, 1) := by decide +kernel
theorem d_LW_law_1062 : decode (mB m_LW_law) 1062 = .ok (.ireturn, 1) := by decide +kernel
theorem d_LW_law_1063 : decode (mB m_LW_law) 1063 = .ok (.goto (127), 3) := by decide +kernel
theorem d_LW_law_1066 : decode (mB m_LW_law) 1066 = .ok (.aload_n 1, 1) := by decide +kernel
theorem d_LW_law_1067 : decode (mB m_LW_law) 1067 = .ok (.aload_n 0, 1) := by decide +kernel
theorem d_LW_law_1068 : decode (mB m_LW_law) 1068 = .ok (.iload 4, 2) := by decide +kernel
theorem d_LW_law_1070 : decode (mB m_LW_law) 1070 = .ok (.iconst 1, 1) := by decide +kernel
theorem d_LW_law_1071 : decode (mB m_LW_law) 1071 = .ok (.iadd, 1) := by decide +kernel
theorem d_LW_law_1072 : decode (mB m_LW_law) 1072 = .ok (.iaload, 1) := by decide +kernel
theorem d_LW_law_1073 : decode (mB m_LW_law) 1073 = .ok (.aload_n 3, 1) := by decide +kernel
theorem d_LW_law_1074 : decode (mB m_LW_law) 1074 = .ok (.invokestatic 131, 3) := by decide +kernel
theorem d_LW_law_1077 : decode (mB m_LW_law) 1077 = .ok (.istore 5, 2) := by decide +kernel
theorem d_LW_law_1079 : decode (mB m_LW_law) 1079 = .ok (.aload_n 2, 1) := by decide +kernel
theorem d_LW_law_1080 : decode (mB m_LW_law) 1080 = .ok (.aload_n 0, 1) := by decide +kernel
theorem d_LW_law_1081 : decode (mB m_LW_law) 1081 = .ok (.iload 4, 2) := by decide +kernel
theorem d_LW_law_1083 : decode (mB m_LW_law) 1083 = .ok (.iconst 1, 1) := by decide +kernel
theorem d_LW_law_1084 : decode (mB m_LW_law) 1084 = .ok (.iadd, 1) := by decide +kernel
theorem d_LW_law_1085 : decode (mB m_LW_law) 1085 = .ok (.iaload, 1) := by decide +kernel
theorem d_LW_law_1086 : decode (mB m_LW_law) 1086 = .ok (.invokevirtual 133, 3) := by decide +kernel
theorem d_LW_law_1089 : decode (mB m_LW_law) 1089 = .ok (.lstore 6, 2) := by decide +kernel
theorem d_LW_law_1091 : decode (mB m_LW_law) 1091 = .ok (.aload_n 2, 1) := by decide +kernel
theorem d_LW_law_1092 : decode (mB m_LW_law) 1092 = .ok (.invokevirtual 71, 3) := by decide +kernel
theorem d_LW_law_1095 : decode (mB m_LW_law) 1095 = .ok (.iload 5, 2) := by decide +kernel
theorem d_LW_law_1097 : decode (mB m_LW_law) 1097 = .ok (.if_icmp .eq (5), 3) := by decide +kernel
theorem d_LW_law_1100 : decode (mB m_LW_law) 1100 = .ok (.iconst 0, 1) := by decide +kernel
theorem d_LW_law_1101 : decode (mB m_LW_law) 1101 = .ok (.ireturn, 1) := by decide +kernel
theorem d_LW_law_1102 : decode (mB m_LW_law) 1102 = .ok (.iload 5, 2) := by decide +kernel
theorem d_LW_law_1104 : decode (mB m_LW_law) 1104 = .ok (.ifCond .ne (14), 3) := by decide +kernel
theorem d_LW_law_1107 : decode (mB m_LW_law) 1107 = .ok (.aload_n 3, 1) := by decide +kernel
theorem d_LW_law_1108 : decode (mB m_LW_law) 1108 = .ok (.iconst 0, 1) := by decide +kernel
theorem d_LW_law_1109 : decode (mB m_LW_law) 1109 = .ok (.laload, 1) := by decide +kernel
theorem d_LW_law_1110 : decode (mB m_LW_law) 1110 = .ok (.lload 6, 2) := by decide +kernel
theorem d_LW_law_1112 : decode (mB m_LW_law) 1112 = .ok (.lcmp, 1) := by decide +kernel
theorem d_LW_law_1113 : decode (mB m_LW_law) 1113 = .ok (.ifCond .eq (5), 3) := by decide +kernel
theorem d_LW_law_1116 : decode (mB m_LW_law) 1116 = .ok (.iconst 0, 1) := by decide +kernel
theorem d_LW_law_1117 : decode (mB m_LW_law) 1117 = .ok (.ireturn, 1) := by decide +kernel
theorem d_LW_law_1118 : decode (mB m_LW_law) 1118 = .ok (.goto (72), 3) := by decide +kernel
theorem d_LW_law_1121 : decode (mB m_LW_law) 1121 = .ok (.aload_n 1, 1) := by decide +kernel
theorem d_LW_law_1122 : decode (mB m_LW_law) 1122 = .ok (.invokevirtual 134, 3) := by decide +kernel
theorem d_LW_law_1125 : decode (mB m_LW_law) 1125 = .ok (.aload_n 2, 1) := by decide +kernel
theorem d_LW_law_1126 : decode (mB m_LW_law) 1126 = .ok (.invokevirtual 137, 3) := by decide +kernel
theorem d_LW_law_1129 : decode (mB m_LW_law) 1129 = .ok (.if_icmp .eq (61), 3) := by decide +kernel
theorem d_LW_law_1132 : decode (mB m_LW_law) 1132 = .ok (.iconst 0, 1) := by decide +kernel
theorem d_LW_law_1133 : decode (mB m_LW_law) 1133 = .ok (.ireturn, 1) := by decide +kernel
theorem d_LW_law_1134 : decode (mB m_LW_law) 1134 = .ok (.aload_n 1, 1) := by decide +kernel
theorem d_LW_law_1135 : decode (mB m_LW_law) 1135 = .ok (.aload_n 0, 1) := by decide +kernel
theorem d_LW_law_1136 : decode (mB m_LW_law) 1136 = .ok (.iload 4, 2) := by decide +kernel
theorem d_LW_law_1138 : decode (mB m_LW_law) 1138 = .ok (.iconst 1, 1) := by decide +kernel
theorem d_LW_law_1139 : decode (mB m_LW_law) 1139 = .ok (.iadd, 1) := by decide +kernel
theorem d_LW_law_1140 : decode (mB m_LW_law) 1140 = .ok (.iaload, 1) := by decide +kernel
theorem d_LW_law_1141 : decode (mB m_LW_law) 1141 = .ok (.aload_n 3, 1) := by decide +kernel
theorem d_LW_law_1142 : decode (mB m_LW_law) 1142 = .ok (.invokestatic 138, 3) := by decide +kernel
theorem d_LW_law_1145 : decode (mB m_LW_law) 1145 = .ok (.istore 5, 2) := by decide +kernel
theorem d_LW_law_1147 : decode (mB m_LW_law) 1147 = .ok (.aload_n 2, 1) := by decide +kernel
theorem d_LW_law_1148 : decode (mB m_LW_law) 1148 = .ok (.aload_n 0, 1) := by decide +kernel
theorem d_LW_law_1149 : decode (mB m_LW_law) 1149 = .ok (.iload 4, 2) := by decide +kernel
theorem d_LW_law_1151 : decode (mB m_LW_law) 1151 = .ok (.iconst 1, 1) := by decide +kernel
theorem d_LW_law_1152 : decode (mB m_LW_law) 1152 = .ok (.iadd, 1) := by decide +kernel
theorem d_LW_law_1153 : decode (mB m_LW_law) 1153 = .ok (.iaload, 1) := by decide +kernel
theorem d_LW_law_1154 : decode (mB m_LW_law) 1154 = .ok (.invokevirtual 140, 3) := by decide +kernel
theorem d_LW_law_1157 : decode (mB m_LW_law) 1157 = .ok (.istore 6, 2) := by decide +kernel
theorem d_LW_law_1159 : decode (mB m_LW_law) 1159 = .ok (.aload_n 2, 1) := by decide +kernel
theorem d_LW_law_1160 : decode (mB m_LW_law) 1160 = .ok (.invokevirtual 71, 3) := by decide +kernel
theorem d_LW_law_1163 : decode (mB m_LW_law) 1163 = .ok (.iload 5, 2) := by decide +kernel
theorem d_LW_law_1165 : decode (mB m_LW_law) 1165 = .ok (.if_icmp .eq (5), 3) := by decide +kernel
theorem d_LW_law_1168 : decode (mB m_LW_law) 1168 = .ok (.iconst 0, 1) := by decide +kernel
theorem d_LW_law_1169 : decode (mB m_LW_law) 1169 = .ok (.ireturn, 1) := by decide +kernel
theorem d_LW_law_1170 : decode (mB m_LW_law) 1170 = .ok (.iload 5, 2) := by decide +kernel
theorem d_LW_law_1172 : decode (mB m_LW_law) 1172 = .ok (.ifCond .ne (15), 3) := by decide +kernel
theorem d_LW_law_1175 : decode (mB m_LW_law) 1175 = .ok (.aload_n 3, 1) := by decide +kernel
theorem d_LW_law_1176 : decode (mB m_LW_law) 1176 = .ok (.iconst 0, 1) := by decide +kernel
theorem d_LW_law_1177 : decode (mB m_LW_law) 1177 = .ok (.laload, 1) := by decide +kernel
theorem d_LW_law_1178 : decode (mB m_LW_law) 1178 = .ok (.iload 6, 2) := by decide +kernel
theorem d_LW_law_1180 : decode (mB m_LW_law) 1180 = .ok (.i2l, 1) := by decide +kernel
theorem d_LW_law_1181 : decode (mB m_LW_law) 1181 = .ok (.lcmp, 1) := by decide +kernel
theorem d_LW_law_1182 : decode (mB m_LW_law) 1182 = .ok (.ifCond .eq (5), 3) := by decide +kernel
theorem d_LW_law_1185 : decode (mB m_LW_law) 1185 = .ok (.iconst 0, 1) := by decide +kernel
theorem d_LW_law_1186 : decode (mB m_LW_law) 1186 = .ok (.ireturn, 1) := by decide +kernel
theorem d_LW_law_1187 : decode (mB m_LW_law) 1187 = .ok (.goto (3), 3) := by decide +kernel
theorem d_LW_law_1190 : decode (mB m_LW_law) 1190 = .ok (.iinc 4 (13), 3) := by decide +kernel
theorem d_LW_law_1193 : decode (mB m_LW_law) 1193 = .ok (.goto (-1170), 3) := by decide +kernel
theorem d_LW_law_1196 : decode (mB m_LW_law) 1196 = .ok (.iconst 1, 1) := by decide +kernel
theorem d_LW_law_1197 : decode (mB m_LW_law) 1197 = .ok (.ireturn, 1) := by decide +kernel
