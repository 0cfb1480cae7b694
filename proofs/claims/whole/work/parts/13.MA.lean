/-! decode rows of java/lang/Math -/
theorem d_MA_abs_0 : decode (mB m_MA_abs) 0 = .ok (.lload_n 0, 1) := by decide +kernel
theorem d_MA_abs_1 : decode (mB m_MA_abs) 1 = .ok (.lconst 0, 1) := by decide +kernel
theorem d_MA_abs_2 : decode (mB m_MA_abs) 2 = .ok (.lcmp, 1) := by decide +kernel
theorem d_MA_abs_3 : decode (mB m_MA_abs) 3 = .ok (.ifCond .ge (8), 3) := by decide +kernel
theorem d_MA_abs_6 : decode (mB m_MA_abs) 6 = .ok (.lload_n 0, 1) := by decide +kernel
theorem d_MA_abs_7 : decode (mB m_MA_abs) 7 = .ok (.lneg, 1) := by decide +kernel
theorem d_MA_abs_8 : decode (mB m_MA_abs) 8 = .ok (.goto (4), 3) := by decide +kernel
theorem d_MA_abs_11 : decode (mB m_MA_abs) 11 = .ok (.lload_n 0, 1) := by decide +kernel
theorem d_MA_abs_12 : decode (mB m_MA_abs) 12 = .ok (.lreturn, 1) := by decide +kernel
theorem d_MA_floorDiv_0 : decode (mB m_MA_floorDiv) 0 = .ok (.lload_n 0, 1) := by decide +kernel
theorem d_MA_floorDiv_1 : decode (mB m_MA_floorDiv) 1 = .ok (.lload_n 2, 1) := by decide +kernel
theorem d_MA_floorDiv_2 : decode (mB m_MA_floorDiv) 2 = .ok (.ldiv, 1) := by decide +kernel
theorem d_MA_floorDiv_3 : decode (mB m_MA_floorDiv) 3 = .ok (.lstore 4, 2) := by decide +kernel
theorem d_MA_floorDiv_5 : decode (mB m_MA_floorDiv) 5 = .ok (.lload_n 0, 1) := by decide +kernel
theorem d_MA_floorDiv_6 : decode (mB m_MA_floorDiv) 6 = .ok (.lload_n 2, 1) := by decide +kernel
theorem d_MA_floorDiv_7 : decode (mB m_MA_floorDiv) 7 = .ok (.lxor, 1) := by decide +kernel
theorem d_MA_floorDiv_8 : decode (mB m_MA_floorDiv) 8 = .ok (.lconst 0, 1) := by decide +kernel
theorem d_MA_floorDiv_9 : decode (mB m_MA_floorDiv) 9 = .ok (.lcmp, 1) := by decide +kernel
theorem d_MA_floorDiv_10 : decode (mB m_MA_floorDiv) 10 = .ok (.ifCond .ge (17), 3) := by decide +kernel
theorem d_MA_floorDiv_13 : decode (mB m_MA_floorDiv) 13 = .ok (.lload 4, 2) := by decide +kernel
theorem d_MA_floorDiv_15 : decode (mB m_MA_floorDiv) 15 = .ok (.lload_n 2, 1) := by decide +kernel
theorem d_MA_floorDiv_16 : decode (mB m_MA_floorDiv) 16 = .ok (.lmul, 1) := by decide +kernel
theorem d_MA_floorDiv_17 : decode (mB m_MA_floorDiv) 17 = .ok (.lload_n 0, 1) := by decide +kernel
theorem d_MA_floorDiv_18 : decode (mB m_MA_floorDiv) 18 = .ok (.lcmp, 1) := by decide +kernel
theorem d_MA_floorDiv_19 : decode (mB m_MA_floorDiv) 19 = .ok (.ifCond .eq (8), 3) := by decide +kernel
theorem d_MA_floorDiv_22 : decode (mB m_MA_floorDiv) 22 = .ok (.lload 4, 2) := by decide +kernel
theorem d_MA_floorDiv_24 : decode (mB m_MA_floorDiv) 24 = .ok (.lconst 1, 1) := by decide +kernel
theorem d_MA_floorDiv_25 : decode (mB m_MA_floorDiv) 25 = .ok (.lsub, 1) := by decide +kernel
theorem d_MA_floorDiv_26 : decode (mB m_MA_floorDiv) 26 = .ok (.lreturn, 1) := by decide +kernel
theorem d_MA_floorDiv_27 : decode (mB m_MA_floorDiv) 27 = .ok (.lload 4, 2) := by decide +kernel
theorem d_MA_floorDiv_29 : decode (mB m_MA_floorDiv) 29 = .ok (.lreturn, 1) := by decide +kernel
theorem d_MA_max_II_0 : decode (mB m_MA_max_II) 0 = .ok (.iload_n 0, 1) := by decide +kernel
theorem d_MA_max_II_1 : decode (mB m_MA_max_II) 1 = .ok (.iload_n 1, 1) := by decide +kernel
theorem d_MA_max_II_2 : decode (mB m_MA_max_II) 2 = .ok (.if_icmp .lt (7), 3) := by decide +kernel
theorem d_MA_max_II_5 : decode (mB m_MA_max_II) 5 = .ok (.iload_n 0, 1) := by decide +kernel
theorem d_MA_max_II_6 : decode (mB m_MA_max_II) 6 = .ok (.goto (4), 3) := by decide +kernel
theorem d_MA_max_II_9 : decode (mB m_MA_max_II) 9 = .ok (.iload_n 1, 1) := by decide +kernel
theorem d_MA_max_II_10 : decode (mB m_MA_max_II) 10 = .ok (.ireturn, 1) := by decide +kernel
theorem d_MA_max_JJ_0 : decode (mB m_MA_max_JJ) 0 = .ok (.lload_n 0, 1) := by decide +kernel
theorem d_MA_max_JJ_1 : decode (mB m_MA_max_JJ) 1 = .ok (.lload_n 2, 1) := by decide +kernel
theorem d_MA_max_JJ_2 : decode (mB m_MA_max_JJ) 2 = .ok (.lcmp, 1) := by decide +kernel
theorem d_MA_max_JJ_3 : decode (mB m_MA_max_JJ) 3 = .ok (.ifCond .lt (7), 3) := by decide +kernel
theorem d_MA_max_JJ_6 : decode (mB m_MA_max_JJ) 6 = .ok (.lload_n 0, 1) := by decide +kernel
theorem d_MA_max_JJ_7 : decode (mB m_MA_max_JJ) 7 = .ok (.goto (4), 3) := by decide +kernel
theorem d_MA_max_JJ_10 : decode (mB m_MA_max_JJ) 10 = .ok (.lload_n 2, 1) := by decide +kernel
theorem d_MA_max_JJ_11 : decode (mB m_MA_max_JJ) 11 = .ok (.lreturn, 1) := by decide +kernel
theorem d_MA_min_II_0 : decode (mB m_MA_min_II) 0 = .ok (.iload_n 0, 1) := by decide +kernel
theorem d_MA_min_II_1 : decode (mB m_MA_min_II) 1 = .ok (.iload_n 1, 1) := by decide +kernel
theorem d_MA_min_II_2 : decode (mB m_MA_min_II) 2 = .ok (.if_icmp .gt (7), 3) := by decide +kernel
theorem d_MA_min_II_5 : decode (mB m_MA_min_II) 5 = .ok (.iload_n 0, 1) := by decide +kernel
theorem d_MA_min_II_6 : decode (mB m_MA_min_II) 6 = .ok (.goto (4), 3) := by decide +kernel
theorem d_MA_min_II_9 : decode (mB m_MA_min_II) 9 = .ok (.iload_n 1, 1) := by decide +kernel
theorem d_MA_min_II_10 : decode (mB m_MA_min_II) 10 = .ok (.ireturn, 1) := by decide +kernel
theorem d_MA_min_JJ_0 : decode (mB m_MA_min_JJ) 0 = .ok (.lload_n 0, 1) := by decide +kernel
theorem d_MA_min_JJ_1 : decode (mB m_MA_min_JJ) 1 = .ok (.lload_n 2, 1) := by decide +kernel
theorem d_MA_min_JJ_2 : decode (mB m_MA_min_JJ) 2 = .ok (.lcmp, 1) := by decide +kernel
theorem d_MA_min_JJ_3 : decode (mB m_MA_min_JJ) 3 = .ok (.ifCond .gt (7), 3) := by decide +kernel
theorem d_MA_min_JJ_6 : decode (mB m_MA_min_JJ) 6 = .ok (.lload_n 0, 1) := by decide +kernel
theorem d_MA_min_JJ_7 : decode (mB m_MA_min_JJ) 7 = .ok (.goto (4), 3) := by decide +kernel
theorem d_MA_min_JJ_10 : decode (mB m_MA_min_JJ) 10 = .ok (.lload_n 2, 1) := by decide +kernel
theorem d_MA_min_JJ_11 : decode (mB m_MA_min_JJ) 11 = .ok (.lreturn, 1) := by decide +kernel
