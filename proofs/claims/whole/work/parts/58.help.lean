/-! the law's helpers: what a call answered, or which way it was refused -/
abbrev OK_ : KK := (0, 40)
section LWH
variable {G : GG} {l : Launch} {M M1 : Mem}
theorem lw_type (a0 : Int64) (a1 : Int32) (x : Int32) (h : PM G l m_TK_type [vR (some TKK), vL a0, vI a1] M (rI x) M1 0 0) : PM G l m_LW_type [vR (some TKK), vL a0, vI a1, vR (some OK_)] M (rI 0) (sL M1 OK_ 0 x.toInt64) 0 0 := by
  refine pm_in [some (vR (some TKK)), some (vL a0), none, some (vI a1), some (vR (some OK_)), none] rfl ?_
  refine pw_aload d_LW_type_0 rfl ?_
  refine pw_iconst 0 d_LW_type_2 (by decide) ?_
  refine pw_aload_n d_LW_type_3 rfl ?_
  refine pw_lload_n d_LW_type_4 rfl ?_
  refine pw_iload_n d_LW_type_5 rfl ?_
  refine c_LW_type_6 rfl (Nat.le_of_ble_eq_true rfl) h ?_
  refine pw_i2l d_LW_type_9 ?_
  refine pw_lsN (n := 0) d_LW_type_10 rfl (by omega) (by decide) ?_
  refine pw_goto (tgt := 22) d_LW_type_11 (by decide) ?_
  refine pw_iconst 0 d_LW_type_22 (by decide) ?_
  refine pw_ireturn d_LW_type_23 rfl ?_ ?_
  · rfl
  · rfl
theorem lw_type_0 (a0 : Int64) (a1 : Int32) (h : PM G l m_TK_type [vR (some TKK), vL a0, vI a1] M (tE 0) M1 1 6) : PM G l m_LW_type [vR (some TKK), vL a0, vI a1, vR (some OK_)] M (rI 1) M1 1 6 := by
  refine pm_in [some (vR (some TKK)), some (vL a0), none, some (vI a1), some (vR (some OK_)), none] rfl ?_
  refine pw_aload d_LW_type_0 rfl ?_
  refine pw_iconst 0 d_LW_type_2 (by decide) ?_
  refine pw_aload_n d_LW_type_3 rfl ?_
  refine pw_lload_n d_LW_type_4 rfl ?_
  refine pw_iload_n d_LW_type_5 rfl ?_
  refine cC0_LW_type_6 rfl (Nat.le_of_ble_eq_true rfl) h ?_
  refine pw_iconst 1 d_LW_type_16 (by decide) ?_
  refine pw_ireturn d_LW_type_17 rfl ?_ ?_
  · rfl
  · rfl
theorem lw_type_1 (a0 : Int64) (a1 : Int32) (h : PM G l m_TK_type [vR (some TKK), vL a0, vI a1] M (tE 1) M1 1 6) : PM G l m_LW_type [vR (some TKK), vL a0, vI a1, vR (some OK_)] M (rI 2) M1 1 6 := by
  refine pm_in [some (vR (some TKK)), some (vL a0), none, some (vI a1), some (vR (some OK_)), none] rfl ?_
  refine pw_aload d_LW_type_0 rfl ?_
  refine pw_iconst 0 d_LW_type_2 (by decide) ?_
  refine pw_aload_n d_LW_type_3 rfl ?_
  refine pw_lload_n d_LW_type_4 rfl ?_
  refine pw_iload_n d_LW_type_5 rfl ?_
  refine cC1_LW_type_6 rfl (Nat.le_of_ble_eq_true rfl) h ?_
  refine pw_iconst 2 d_LW_type_20 (by decide) ?_
  refine pw_ireturn d_LW_type_21 rfl ?_ ?_
  · rfl
  · rfl
theorem lw_put (a0 : Int32) (a1 : Int32) (h : PM G l m_TK_put [vR (some TKK), vI a0, vI a1] M rV M1 0 0) : PM G l m_LW_put [vR (some TKK), vI a0, vI a1] M (rI 0) M1 0 0 := by
  refine pm_in [some (vR (some TKK)), some (vI a0), some (vI a1), none] rfl ?_
  refine pw_aload_n d_LW_put_0 rfl ?_
  refine pw_iload_n d_LW_put_1 rfl ?_
  refine pw_iload_n d_LW_put_2 rfl ?_
  refine c_LW_put_3 rfl (Nat.le_of_ble_eq_true rfl) h ?_
  refine pw_goto (tgt := 15) d_LW_put_6 (by decide) ?_
  refine pw_iconst 0 d_LW_put_15 (by decide) ?_
  refine pw_ireturn d_LW_put_16 rfl ?_ ?_
  · rfl
  · rfl
theorem lw_put_2 (a0 : Int32) (a1 : Int32) (h : PM G l m_TK_put [vR (some TKK), vI a0, vI a1] M (tE 2) M1 1 6) : PM G l m_LW_put [vR (some TKK), vI a0, vI a1] M (rI 1) M1 1 6 := by
  refine pm_in [some (vR (some TKK)), some (vI a0), some (vI a1), none] rfl ?_
  refine pw_aload_n d_LW_put_0 rfl ?_
  refine pw_iload_n d_LW_put_1 rfl ?_
  refine pw_iload_n d_LW_put_2 rfl ?_
  refine cC2_LW_put_3 rfl (Nat.le_of_ble_eq_true rfl) h ?_
  refine pw_iconst 1 d_LW_put_10 (by decide) ?_
  refine pw_ireturn d_LW_put_11 rfl ?_ ?_
  · rfl
  · rfl
theorem lw_put_0 (a0 : Int32) (a1 : Int32) (h : PM G l m_TK_put [vR (some TKK), vI a0, vI a1] M (tE 0) M1 1 6) : PM G l m_LW_put [vR (some TKK), vI a0, vI a1] M (rI 2) M1 1 6 := by
  refine pm_in [some (vR (some TKK)), some (vI a0), some (vI a1), none] rfl ?_
  refine pw_aload_n d_LW_put_0 rfl ?_
  refine pw_iload_n d_LW_put_1 rfl ?_
  refine pw_iload_n d_LW_put_2 rfl ?_
  refine cC0_LW_put_3 rfl (Nat.le_of_ble_eq_true rfl) h ?_
  refine pw_iconst 2 d_LW_put_13 (by decide) ?_
  refine pw_ireturn d_LW_put_14 rfl ?_ ?_
  · rfl
  · rfl
theorem lw_pass (a0 : Int32) (x : Int32) (h : PM G l m_TK_pass [vR (some TKK), vI a0] M (rI x) M1 0 0) : PM G l m_LW_pass [vR (some TKK), vI a0, vR (some OK_)] M (rI 0) (sL M1 OK_ 0 x.toInt64) 0 0 := by
  refine pm_in [some (vR (some TKK)), some (vI a0), some (vR (some OK_)), none] rfl ?_
  refine pw_aload_n d_LW_pass_0 rfl ?_
  refine pw_iconst 0 d_LW_pass_1 (by decide) ?_
  refine pw_aload_n d_LW_pass_2 rfl ?_
  refine pw_iload_n d_LW_pass_3 rfl ?_
  refine c_LW_pass_4 rfl (Nat.le_of_ble_eq_true rfl) h ?_
  refine pw_i2l d_LW_pass_7 ?_
  refine pw_lsN (n := 0) d_LW_pass_8 rfl (by omega) (by decide) ?_
  refine pw_goto (tgt := 15) d_LW_pass_9 (by decide) ?_
  refine pw_iconst 0 d_LW_pass_15 (by decide) ?_
  refine pw_ireturn d_LW_pass_16 rfl ?_ ?_
  · rfl
  · rfl
theorem lw_pass_0 (a0 : Int32) (h : PM G l m_TK_pass [vR (some TKK), vI a0] M (tE 0) M1 1 6) : PM G l m_LW_pass [vR (some TKK), vI a0, vR (some OK_)] M (rI 1) M1 1 6 := by
  refine pm_in [some (vR (some TKK)), some (vI a0), some (vR (some OK_)), none] rfl ?_
  refine pw_aload_n d_LW_pass_0 rfl ?_
  refine pw_iconst 0 d_LW_pass_1 (by decide) ?_
  refine pw_aload_n d_LW_pass_2 rfl ?_
  refine pw_iload_n d_LW_pass_3 rfl ?_
  refine cC0_LW_pass_4 rfl (Nat.le_of_ble_eq_true rfl) h ?_
  refine pw_iconst 1 d_LW_pass_13 (by decide) ?_
  refine pw_ireturn d_LW_pass_14 rfl ?_ ?_
  · rfl
  · rfl
theorem lw_drift (a0 : Int32) (h : PM G l m_TK_drift [vR (some TKK), vI a0] M rV M1 0 0) : PM G l m_LW_drift [vR (some TKK), vI a0] M (rI 0) M1 0 0 := by
  refine pm_in [some (vR (some TKK)), some (vI a0), none] rfl ?_
  refine pw_aload_n d_LW_drift_0 rfl ?_
  refine pw_iload_n d_LW_drift_1 rfl ?_
  refine c_LW_drift_2 rfl (Nat.le_of_ble_eq_true rfl) h ?_
  refine pw_goto (tgt := 11) d_LW_drift_5 (by decide) ?_
  refine pw_iconst 0 d_LW_drift_11 (by decide) ?_
  refine pw_ireturn d_LW_drift_12 rfl ?_ ?_
  · rfl
  · rfl
theorem lw_drift_0 (a0 : Int32) (h : PM G l m_TK_drift [vR (some TKK), vI a0] M (tE 0) M1 1 6) : PM G l m_LW_drift [vR (some TKK), vI a0] M (rI 1) M1 1 6 := by
  refine pm_in [some (vR (some TKK)), some (vI a0), none] rfl ?_
  refine pw_aload_n d_LW_drift_0 rfl ?_
  refine pw_iload_n d_LW_drift_1 rfl ?_
  refine cC0_LW_drift_2 rfl (Nat.le_of_ble_eq_true rfl) h ?_
  refine pw_iconst 1 d_LW_drift_9 (by decide) ?_
  refine pw_ireturn d_LW_drift_10 rfl ?_ ?_
  · rfl
  · rfl
theorem lw_request (a0 : Int32) (x : Int64) (h : PM G l m_TK_request [vR (some TKK), vI a0] M (rL x) M1 0 0) : PM G l m_LW_request [vR (some TKK), vI a0, vR (some OK_)] M (rI 0) (sL M1 OK_ 0 x) 0 0 := by
  refine pm_in [some (vR (some TKK)), some (vI a0), some (vR (some OK_)), none] rfl ?_
  refine pw_aload_n d_LW_request_0 rfl ?_
  refine pw_iconst 0 d_LW_request_1 (by decide) ?_
  refine pw_aload_n d_LW_request_2 rfl ?_
  refine pw_iload_n d_LW_request_3 rfl ?_
  refine c_LW_request_4 rfl (Nat.le_of_ble_eq_true rfl) h ?_
  refine pw_lsN (n := 0) d_LW_request_7 rfl (by omega) (by decide) ?_
  refine pw_goto (tgt := 14) d_LW_request_8 (by decide) ?_
  refine pw_iconst 0 d_LW_request_14 (by decide) ?_
  refine pw_ireturn d_LW_request_15 rfl ?_ ?_
  · rfl
  · rfl
theorem lw_request_2 (a0 : Int32) (h : PM G l m_TK_request [vR (some TKK), vI a0] M (tE 2) M1 1 6) : PM G l m_LW_request [vR (some TKK), vI a0, vR (some OK_)] M (rI 1) M1 1 6 := by
  refine pm_in [some (vR (some TKK)), some (vI a0), some (vR (some OK_)), none] rfl ?_
  refine pw_aload_n d_LW_request_0 rfl ?_
  refine pw_iconst 0 d_LW_request_1 (by decide) ?_
  refine pw_aload_n d_LW_request_2 rfl ?_
  refine pw_iload_n d_LW_request_3 rfl ?_
  refine cC2_LW_request_4 rfl (Nat.le_of_ble_eq_true rfl) h ?_
  refine pw_iconst 1 d_LW_request_12 (by decide) ?_
  refine pw_ireturn d_LW_request_13 rfl ?_ ?_
  · rfl
  · rfl
theorem lw_hear (a0 : Int32) (x : Int32) (h : PM G l m_TK_hear [vR (some TKK), vI a0] M (rI x) M1 0 0) : PM G l m_LW_hear [vR (some TKK), vI a0, vR (some OK_)] M (rI 0) (sL M1 OK_ 0 x.toInt64) 0 0 := by
  refine pm_in [some (vR (some TKK)), some (vI a0), some (vR (some OK_)), none] rfl ?_
  refine pw_aload_n d_LW_hear_0 rfl ?_
  refine pw_iconst 0 d_LW_hear_1 (by decide) ?_
  refine pw_aload_n d_LW_hear_2 rfl ?_
  refine pw_iload_n d_LW_hear_3 rfl ?_
  refine c_LW_hear_4 rfl (Nat.le_of_ble_eq_true rfl) h ?_
  refine pw_i2l d_LW_hear_7 ?_
  refine pw_lsN (n := 0) d_LW_hear_8 rfl (by omega) (by decide) ?_
  refine pw_goto (tgt := 15) d_LW_hear_9 (by decide) ?_
  refine pw_iconst 0 d_LW_hear_15 (by decide) ?_
  refine pw_ireturn d_LW_hear_16 rfl ?_ ?_
  · rfl
  · rfl
theorem lw_hear_2 (a0 : Int32) (h : PM G l m_TK_hear [vR (some TKK), vI a0] M (tE 2) M1 1 6) : PM G l m_LW_hear [vR (some TKK), vI a0, vR (some OK_)] M (rI 1) M1 1 6 := by
  refine pm_in [some (vR (some TKK)), some (vI a0), some (vR (some OK_)), none] rfl ?_
  refine pw_aload_n d_LW_hear_0 rfl ?_
  refine pw_iconst 0 d_LW_hear_1 (by decide) ?_
  refine pw_aload_n d_LW_hear_2 rfl ?_
  refine pw_iload_n d_LW_hear_3 rfl ?_
  refine cC2_LW_hear_4 rfl (Nat.le_of_ble_eq_true rfl) h ?_
  refine pw_iconst 1 d_LW_hear_13 (by decide) ?_
  refine pw_ireturn d_LW_hear_14 rfl ?_ ?_
  · rfl
  · rfl
theorem lw_answer (a0 : Int32) (a1 : Int32) (a2 : Int32) (a3 : Int32) (a4 : Int64) (a5 : Int64) (a6 : Int64) (a7 : Int64) (x : Int64) (h : PM G l m_TK_answer [vR (some TKK), vI a0, vI a1, vI a2, vI a3, vL a4, vL a5, vL a6, vL a7] M (rL x) M1 0 0) : PM G l m_LW_answer [vR (some TKK), vI a0, vI a1, vI a2, vI a3, vL a4, vL a5, vL a6, vL a7, vR (some OK_)] M (rI 0) (sL M1 OK_ 0 x) 0 0 := by
  refine pm_in [some (vR (some TKK)), some (vI a0), some (vI a1), some (vI a2), some (vI a3), some (vL a4), none, some (vL a5), none, some (vL a6), none, some (vL a7), none, some (vR (some OK_)), none] rfl ?_
  refine pw_aload d_LW_answer_0 rfl ?_
  refine pw_iconst 0 d_LW_answer_2 (by decide) ?_
  refine pw_aload_n d_LW_answer_3 rfl ?_
  refine pw_iload_n d_LW_answer_4 rfl ?_
  refine pw_iload_n d_LW_answer_5 rfl ?_
  refine pw_iload_n d_LW_answer_6 rfl ?_
  refine pw_iload d_LW_answer_7 rfl ?_
  refine pw_lload d_LW_answer_9 rfl ?_
  refine pw_lload d_LW_answer_11 rfl ?_
  refine pw_lload d_LW_answer_13 rfl ?_
  refine pw_lload d_LW_answer_15 rfl ?_
  refine c_LW_answer_17 rfl (Nat.le_of_ble_eq_true rfl) h ?_
  refine pw_lsN (n := 0) d_LW_answer_20 rfl (by omega) (by decide) ?_
  refine pw_goto (tgt := 32) d_LW_answer_21 (by decide) ?_
  refine pw_iconst 0 d_LW_answer_32 (by decide) ?_
  refine pw_ireturn d_LW_answer_33 rfl ?_ ?_
  · rfl
  · rfl
theorem lw_answer_2 (a0 : Int32) (a1 : Int32) (a2 : Int32) (a3 : Int32) (a4 : Int64) (a5 : Int64) (a6 : Int64) (a7 : Int64) (h : PM G l m_TK_answer [vR (some TKK), vI a0, vI a1, vI a2, vI a3, vL a4, vL a5, vL a6, vL a7] M (tE 2) M1 1 6) : PM G l m_LW_answer [vR (some TKK), vI a0, vI a1, vI a2, vI a3, vL a4, vL a5, vL a6, vL a7, vR (some OK_)] M (rI 1) M1 1 6 := by
  refine pm_in [some (vR (some TKK)), some (vI a0), some (vI a1), some (vI a2), some (vI a3), some (vL a4), none, some (vL a5), none, some (vL a6), none, some (vL a7), none, some (vR (some OK_)), none] rfl ?_
  refine pw_aload d_LW_answer_0 rfl ?_
  refine pw_iconst 0 d_LW_answer_2 (by decide) ?_
  refine pw_aload_n d_LW_answer_3 rfl ?_
  refine pw_iload_n d_LW_answer_4 rfl ?_
  refine pw_iload_n d_LW_answer_5 rfl ?_
  refine pw_iload_n d_LW_answer_6 rfl ?_
  refine pw_iload d_LW_answer_7 rfl ?_
  refine pw_lload d_LW_answer_9 rfl ?_
  refine pw_lload d_LW_answer_11 rfl ?_
  refine pw_lload d_LW_answer_13 rfl ?_
  refine pw_lload d_LW_answer_15 rfl ?_
  refine cC2_LW_answer_17 rfl (Nat.le_of_ble_eq_true rfl) h ?_
  refine pw_iconst 1 d_LW_answer_26 (by decide) ?_
  refine pw_ireturn d_LW_answer_27 rfl ?_ ?_
  · rfl
  · rfl
theorem lw_answer_0 (a0 : Int32) (a1 : Int32) (a2 : Int32) (a3 : Int32) (a4 : Int64) (a5 : Int64) (a6 : Int64) (a7 : Int64) (h : PM G l m_TK_answer [vR (some TKK), vI a0, vI a1, vI a2, vI a3, vL a4, vL a5, vL a6, vL a7] M (tE 0) M1 1 6) : PM G l m_LW_answer [vR (some TKK), vI a0, vI a1, vI a2, vI a3, vL a4, vL a5, vL a6, vL a7, vR (some OK_)] M (rI 2) M1 1 6 := by
  refine pm_in [some (vR (some TKK)), some (vI a0), some (vI a1), some (vI a2), some (vI a3), some (vL a4), none, some (vL a5), none, some (vL a6), none, some (vL a7), none, some (vR (some OK_)), none] rfl ?_
  refine pw_aload d_LW_answer_0 rfl ?_
  refine pw_iconst 0 d_LW_answer_2 (by decide) ?_
  refine pw_aload_n d_LW_answer_3 rfl ?_
  refine pw_iload_n d_LW_answer_4 rfl ?_
  refine pw_iload_n d_LW_answer_5 rfl ?_
  refine pw_iload_n d_LW_answer_6 rfl ?_
  refine pw_iload d_LW_answer_7 rfl ?_
  refine pw_lload d_LW_answer_9 rfl ?_
  refine pw_lload d_LW_answer_11 rfl ?_
  refine pw_lload d_LW_answer_13 rfl ?_
  refine pw_lload d_LW_answer_15 rfl ?_
  refine cC0_LW_answer_17 rfl (Nat.le_of_ble_eq_true rfl) h ?_
  refine pw_iconst 2 d_LW_answer_30 (by decide) ?_
  refine pw_ireturn d_LW_answer_31 rfl ?_ ?_
  · rfl
  · rfl
theorem lw_peer (a0 : Int32) (a1 : Int32) (x : Int64) (h : PM G l m_TK_peer [vR (some TKK), vI a0, vI a1] M (rL x) M1 0 0) : PM G l m_LW_peer [vR (some TKK), vI a0, vI a1, vR (some OK_)] M (rI 0) (sL M1 OK_ 0 x) 0 0 := by
  refine pm_in [some (vR (some TKK)), some (vI a0), some (vI a1), some (vR (some OK_)), none] rfl ?_
  refine pw_aload_n d_LW_peer_0 rfl ?_
  refine pw_iconst 0 d_LW_peer_1 (by decide) ?_
  refine pw_aload_n d_LW_peer_2 rfl ?_
  refine pw_iload_n d_LW_peer_3 rfl ?_
  refine pw_iload_n d_LW_peer_4 rfl ?_
  refine c_LW_peer_5 rfl (Nat.le_of_ble_eq_true rfl) h ?_
  refine pw_lsN (n := 0) d_LW_peer_8 rfl (by omega) (by decide) ?_
  refine pw_goto (tgt := 24) d_LW_peer_9 (by decide) ?_
  refine pw_iconst 0 d_LW_peer_24 (by decide) ?_
  refine pw_ireturn d_LW_peer_25 rfl ?_ ?_
  · rfl
  · rfl
theorem lw_peer_2 (a0 : Int32) (a1 : Int32) (h : PM G l m_TK_peer [vR (some TKK), vI a0, vI a1] M (tE 2) M1 1 6) : PM G l m_LW_peer [vR (some TKK), vI a0, vI a1, vR (some OK_)] M (rI 1) M1 1 6 := by
  refine pm_in [some (vR (some TKK)), some (vI a0), some (vI a1), some (vR (some OK_)), none] rfl ?_
  refine pw_aload_n d_LW_peer_0 rfl ?_
  refine pw_iconst 0 d_LW_peer_1 (by decide) ?_
  refine pw_aload_n d_LW_peer_2 rfl ?_
  refine pw_iload_n d_LW_peer_3 rfl ?_
  refine pw_iload_n d_LW_peer_4 rfl ?_
  refine cC2_LW_peer_5 rfl (Nat.le_of_ble_eq_true rfl) h ?_
  refine pw_iconst 1 d_LW_peer_14 (by decide) ?_
  refine pw_ireturn d_LW_peer_15 rfl ?_ ?_
  · rfl
  · rfl
theorem lw_peer_0 (a0 : Int32) (a1 : Int32) (h : PM G l m_TK_peer [vR (some TKK), vI a0, vI a1] M (tE 0) M1 1 6) : PM G l m_LW_peer [vR (some TKK), vI a0, vI a1, vR (some OK_)] M (rI 2) M1 1 6 := by
  refine pm_in [some (vR (some TKK)), some (vI a0), some (vI a1), some (vR (some OK_)), none] rfl ?_
  refine pw_aload_n d_LW_peer_0 rfl ?_
  refine pw_iconst 0 d_LW_peer_1 (by decide) ?_
  refine pw_aload_n d_LW_peer_2 rfl ?_
  refine pw_iload_n d_LW_peer_3 rfl ?_
  refine pw_iload_n d_LW_peer_4 rfl ?_
  refine cC0_LW_peer_5 rfl (Nat.le_of_ble_eq_true rfl) h ?_
  refine pw_iconst 2 d_LW_peer_18 (by decide) ?_
  refine pw_ireturn d_LW_peer_19 rfl ?_ ?_
  · rfl
  · rfl
theorem lw_peer_1 (a0 : Int32) (a1 : Int32) (h : PM G l m_TK_peer [vR (some TKK), vI a0, vI a1] M (tE 1) M1 1 6) : PM G l m_LW_peer [vR (some TKK), vI a0, vI a1, vR (some OK_)] M (rI 3) M1 1 6 := by
  refine pm_in [some (vR (some TKK)), some (vI a0), some (vI a1), some (vR (some OK_)), none] rfl ?_
  refine pw_aload_n d_LW_peer_0 rfl ?_
  refine pw_iconst 0 d_LW_peer_1 (by decide) ?_
  refine pw_aload_n d_LW_peer_2 rfl ?_
  refine pw_iload_n d_LW_peer_3 rfl ?_
  refine pw_iload_n d_LW_peer_4 rfl ?_
  refine cC1_LW_peer_5 rfl (Nat.le_of_ble_eq_true rfl) h ?_
  refine pw_iconst 3 d_LW_peer_22 (by decide) ?_
  refine pw_ireturn d_LW_peer_23 rfl ?_ ?_
  · rfl
  · rfl
theorem lw_sample (a0 : Int32) (a1 : Int32) (a2 : Int32) (x : Int64) (h : PM G l m_TK_sample [vR (some TKK), vI a0, vI a1, vI a2] M (rL x) M1 0 0) : PM G l m_LW_sample [vR (some TKK), vI a0, vI a1, vI a2, vR (some OK_)] M (rI 0) (sL M1 OK_ 0 x) 0 0 := by
  refine pm_in [some (vR (some TKK)), some (vI a0), some (vI a1), some (vI a2), some (vR (some OK_)), none] rfl ?_
  refine pw_aload d_LW_sample_0 rfl ?_
  refine pw_iconst 0 d_LW_sample_2 (by decide) ?_
  refine pw_aload_n d_LW_sample_3 rfl ?_
  refine pw_iload_n d_LW_sample_4 rfl ?_
  refine pw_iload_n d_LW_sample_5 rfl ?_
  refine pw_iload_n d_LW_sample_6 rfl ?_
  refine c_LW_sample_7 rfl (Nat.le_of_ble_eq_true rfl) h ?_
  refine pw_lsN (n := 0) d_LW_sample_10 rfl (by omega) (by decide) ?_
  refine pw_goto (tgt := 22) d_LW_sample_11 (by decide) ?_
  refine pw_iconst 0 d_LW_sample_22 (by decide) ?_
  refine pw_ireturn d_LW_sample_23 rfl ?_ ?_
  · rfl
  · rfl
theorem lw_sample_2 (a0 : Int32) (a1 : Int32) (a2 : Int32) (h : PM G l m_TK_sample [vR (some TKK), vI a0, vI a1, vI a2] M (tE 2) M1 1 6) : PM G l m_LW_sample [vR (some TKK), vI a0, vI a1, vI a2, vR (some OK_)] M (rI 1) M1 1 6 := by
  refine pm_in [some (vR (some TKK)), some (vI a0), some (vI a1), some (vI a2), some (vR (some OK_)), none] rfl ?_
  refine pw_aload d_LW_sample_0 rfl ?_
  refine pw_iconst 0 d_LW_sample_2 (by decide) ?_
  refine pw_aload_n d_LW_sample_3 rfl ?_
  refine pw_iload_n d_LW_sample_4 rfl ?_
  refine pw_iload_n d_LW_sample_5 rfl ?_
  refine pw_iload_n d_LW_sample_6 rfl ?_
  refine cC2_LW_sample_7 rfl (Nat.le_of_ble_eq_true rfl) h ?_
  refine pw_iconst 1 d_LW_sample_16 (by decide) ?_
  refine pw_ireturn d_LW_sample_17 rfl ?_ ?_
  · rfl
  · rfl
theorem lw_sample_0 (a0 : Int32) (a1 : Int32) (a2 : Int32) (h : PM G l m_TK_sample [vR (some TKK), vI a0, vI a1, vI a2] M (tE 0) M1 1 6) : PM G l m_LW_sample [vR (some TKK), vI a0, vI a1, vI a2, vR (some OK_)] M (rI 2) M1 1 6 := by
  refine pm_in [some (vR (some TKK)), some (vI a0), some (vI a1), some (vI a2), some (vR (some OK_)), none] rfl ?_
  refine pw_aload d_LW_sample_0 rfl ?_
  refine pw_iconst 0 d_LW_sample_2 (by decide) ?_
  refine pw_aload_n d_LW_sample_3 rfl ?_
  refine pw_iload_n d_LW_sample_4 rfl ?_
  refine pw_iload_n d_LW_sample_5 rfl ?_
  refine pw_iload_n d_LW_sample_6 rfl ?_
  refine cC0_LW_sample_7 rfl (Nat.le_of_ble_eq_true rfl) h ?_
  refine pw_iconst 2 d_LW_sample_20 (by decide) ?_
  refine pw_ireturn d_LW_sample_21 rfl ?_ ?_
  · rfl
  · rfl
theorem lw_chosen (a0 : Int32) (x : Int32) (h : PM G l m_TK_chosen [vR (some TKK), vI a0] M (rI x) M1 0 0) : PM G l m_LW_chosen [vR (some TKK), vI a0, vR (some OK_)] M (rI 0) (sL M1 OK_ 0 x.toInt64) 0 0 := by
  refine pm_in [some (vR (some TKK)), some (vI a0), some (vR (some OK_)), none] rfl ?_
  refine pw_aload_n d_LW_chosen_0 rfl ?_
  refine pw_iconst 0 d_LW_chosen_1 (by decide) ?_
  refine pw_aload_n d_LW_chosen_2 rfl ?_
  refine pw_iload_n d_LW_chosen_3 rfl ?_
  refine c_LW_chosen_4 rfl (Nat.le_of_ble_eq_true rfl) h ?_
  refine pw_i2l d_LW_chosen_7 ?_
  refine pw_lsN (n := 0) d_LW_chosen_8 rfl (by omega) (by decide) ?_
  refine pw_goto (tgt := 15) d_LW_chosen_9 (by decide) ?_
  refine pw_iconst 0 d_LW_chosen_15 (by decide) ?_
  refine pw_ireturn d_LW_chosen_16 rfl ?_ ?_
  · rfl
  · rfl
theorem lw_chosen_0 (a0 : Int32) (h : PM G l m_TK_chosen [vR (some TKK), vI a0] M (tE 0) M1 1 6) : PM G l m_LW_chosen [vR (some TKK), vI a0, vR (some OK_)] M (rI 1) M1 1 6 := by
  refine pm_in [some (vR (some TKK)), some (vI a0), some (vR (some OK_)), none] rfl ?_
  refine pw_aload_n d_LW_chosen_0 rfl ?_
  refine pw_iconst 0 d_LW_chosen_1 (by decide) ?_
  refine pw_aload_n d_LW_chosen_2 rfl ?_
  refine pw_iload_n d_LW_chosen_3 rfl ?_
  refine cC0_LW_chosen_4 rfl (Nat.le_of_ble_eq_true rfl) h ?_
  refine pw_iconst 1 d_LW_chosen_13 (by decide) ?_
  refine pw_ireturn d_LW_chosen_14 rfl ?_ ?_
  · rfl
  · rfl
theorem lw_about (a0 : Int32) (x : Int64) (h : PM G l m_TK_about [vR (some TKK), vI a0] M (rL x) M1 0 0) : PM G l m_LW_about [vR (some TKK), vI a0, vR (some OK_)] M (rI 0) (sL M1 OK_ 0 x) 0 0 := by
  refine pm_in [some (vR (some TKK)), some (vI a0), some (vR (some OK_)), none] rfl ?_
  refine pw_aload_n d_LW_about_0 rfl ?_
  refine pw_iconst 0 d_LW_about_1 (by decide) ?_
  refine pw_aload_n d_LW_about_2 rfl ?_
  refine pw_iload_n d_LW_about_3 rfl ?_
  refine c_LW_about_4 rfl (Nat.le_of_ble_eq_true rfl) h ?_
  refine pw_lsN (n := 0) d_LW_about_7 rfl (by omega) (by decide) ?_
  refine pw_goto (tgt := 17) d_LW_about_8 (by decide) ?_
  refine pw_iconst 0 d_LW_about_17 (by decide) ?_
  refine pw_ireturn d_LW_about_18 rfl ?_ ?_
  · rfl
  · rfl
theorem lw_about_0 (a0 : Int32) (h : PM G l m_TK_about [vR (some TKK), vI a0] M (tE 0) M1 1 6) : PM G l m_LW_about [vR (some TKK), vI a0, vR (some OK_)] M (rI 1) M1 1 6 := by
  refine pm_in [some (vR (some TKK)), some (vI a0), some (vR (some OK_)), none] rfl ?_
  refine pw_aload_n d_LW_about_0 rfl ?_
  refine pw_iconst 0 d_LW_about_1 (by decide) ?_
  refine pw_aload_n d_LW_about_2 rfl ?_
  refine pw_iload_n d_LW_about_3 rfl ?_
  refine cC0_LW_about_4 rfl (Nat.le_of_ble_eq_true rfl) h ?_
  refine pw_iconst 1 d_LW_about_12 (by decide) ?_
  refine pw_ireturn d_LW_about_13 rfl ?_ ?_
  · rfl
  · rfl
theorem lw_about_1 (a0 : Int32) (h : PM G l m_TK_about [vR (some TKK), vI a0] M (tE 1) M1 1 6) : PM G l m_LW_about [vR (some TKK), vI a0, vR (some OK_)] M (rI 2) M1 1 6 := by
  refine pm_in [some (vR (some TKK)), some (vI a0), some (vR (some OK_)), none] rfl ?_
  refine pw_aload_n d_LW_about_0 rfl ?_
  refine pw_iconst 0 d_LW_about_1 (by decide) ?_
  refine pw_aload_n d_LW_about_2 rfl ?_
  refine pw_iload_n d_LW_about_3 rfl ?_
  refine cC1_LW_about_4 rfl (Nat.le_of_ble_eq_true rfl) h ?_
  refine pw_iconst 2 d_LW_about_15 (by decide) ?_
  refine pw_ireturn d_LW_about_16 rfl ?_ ?_
  · rfl
  · rfl
theorem lw_out (a0 : Int32) (x : Int32) (h : PM G l m_TK_out [vR (some TKK), vI a0] M (rI x) M1 0 0) : PM G l m_LW_out [vR (some TKK), vI a0, vR (some OK_)] M (rI 0) (sL M1 OK_ 0 x.toInt64) 0 0 := by
  refine pm_in [some (vR (some TKK)), some (vI a0), some (vR (some OK_)), none] rfl ?_
  refine pw_aload_n d_LW_out_0 rfl ?_
  refine pw_iconst 0 d_LW_out_1 (by decide) ?_
  refine pw_aload_n d_LW_out_2 rfl ?_
  refine pw_iload_n d_LW_out_3 rfl ?_
  refine c_LW_out_4 rfl (Nat.le_of_ble_eq_true rfl) h ?_
  refine pw_i2l d_LW_out_7 ?_
  refine pw_lsN (n := 0) d_LW_out_8 rfl (by omega) (by decide) ?_
  refine pw_goto (tgt := 15) d_LW_out_9 (by decide) ?_
  refine pw_iconst 0 d_LW_out_15 (by decide) ?_
  refine pw_ireturn d_LW_out_16 rfl ?_ ?_
  · rfl
  · rfl
theorem lw_out_2 (a0 : Int32) (h : PM G l m_TK_out [vR (some TKK), vI a0] M (tE 2) M1 1 6) : PM G l m_LW_out [vR (some TKK), vI a0, vR (some OK_)] M (rI 1) M1 1 6 := by
  refine pm_in [some (vR (some TKK)), some (vI a0), some (vR (some OK_)), none] rfl ?_
  refine pw_aload_n d_LW_out_0 rfl ?_
  refine pw_iconst 0 d_LW_out_1 (by decide) ?_
  refine pw_aload_n d_LW_out_2 rfl ?_
  refine pw_iload_n d_LW_out_3 rfl ?_
  refine cC2_LW_out_4 rfl (Nat.le_of_ble_eq_true rfl) h ?_
  refine pw_iconst 1 d_LW_out_13 (by decide) ?_
  refine pw_ireturn d_LW_out_14 rfl ?_ ?_
  · rfl
  · rfl
theorem pm_put_r (hM : M.2.2.1 = rf) (n : Nat) (hn : n ≤ 64) (hl : M.1 (0, 1) 1 = nI n) (i : Nat) (hi : i < n) (v : Int32) (h0 : ¬ v < 0) (h1 : v ≤ 255) : PM G l m_TK_put [vR (some TKK), vI (nI i), vI v] M rV (sI M (0, 2) i v) 0 0 := by
  refine pm_in [some (vR (some TKK)), some (vI (nI i)), some (vI v)] rfl ?_
  refine pw_iload_n d_TK_put_0 rfl ?_
  refine pw_if_lt (tgt := 15) d_TK_put_1 (by decide) (fun hQ => absurd hQ (nI_pos (by omega))) (fun _ => ?_)
  refine pw_iload_n d_TK_put_4 rfl ?_
  refine pw_aload_n d_TK_put_5 rfl ?_
  refine pw_getR d_TK_put_6 f_TK_14 rfl rfl (rfO hM rfl) ?_
  refine pw_getI d_TK_put_9 f_TK_49 rfl rfl ?_
  rw [hl]
  refine pw_icmp_lt (tgt := 25) d_TK_put_12 (by decide) (fun _ => ?_) (fun hQ => absurd (nI_lt hi (by omega)) hQ)
  refine pw_iload_n d_TK_put_25 rfl ?_
  refine pw_if_lt (tgt := 36) d_TK_put_26 (by decide) (fun hQ => absurd hQ (h0)) (fun _ => ?_)
  refine pw_iload_n d_TK_put_29 rfl ?_
  refine pw_sipush (255) d_TK_put_30 (by decide) ?_
  refine pw_icmp_le (tgt := 46) d_TK_put_33 (by decide) (fun _ => ?_) (fun hQ => absurd (h1) hQ)
  refine pw_aload_n d_TK_put_46 rfl ?_
  refine pw_getR d_TK_put_47 f_TK_14 rfl rfl (rfO hM rfl) ?_
  refine pw_getR d_TK_put_50 f_TK_68 rfl rfl (rfO hM rfl) ?_
  refine pw_iload_n d_TK_put_53 rfl ?_
  refine pw_iload_n d_TK_put_54 rfl ?_
  refine pw_isN (n := i) d_TK_put_55 rfl (by omega) (by decide) ?_
  refine pw_return d_TK_put_56 rfl ?_ ?_
  · rfl
  · rfl
theorem pm_drift_r (hM : M.2.2.1 = rf) (d : Int32) (h0 : ¬ d < -2000000) (h1 : d ≤ 2000000) : PM G l m_TK_drift [vR (some TKK), vI d] M rV (sI M (0, 5) 2 d) 0 0 := by
  refine pm_in [some (vR (some TKK)), some (vI d)] rfl ?_
  refine pw_iload_n d_TK_drift_0 rfl ?_
  refine pw_ldc (-2000000) d_TK_drift_1 g437 ?_
  refine pw_icmp_lt (tgt := 12) d_TK_drift_3 (by decide) (fun hQ => absurd hQ (h0)) (fun _ => ?_)
  refine pw_iload_n d_TK_drift_6 rfl ?_
  refine pw_ldc (2000000) d_TK_drift_7 g438 ?_
  refine pw_icmp_le (tgt := 22) d_TK_drift_9 (by decide) (fun _ => ?_) (fun hQ => absurd (h1) hQ)
  refine pw_aload_n d_TK_drift_22 rfl ?_
  refine pw_getR d_TK_drift_23 f_TK_24 rfl rfl (rfO hM rfl) ?_
  refine pw_iload_n d_TK_drift_26 rfl ?_
  refine pw_putI d_TK_drift_27 f_TK_88 rfl rfl rfl ?_
  refine pw_return d_TK_drift_30 rfl ?_ ?_
  · rfl
  · rfl
theorem pm_out_r (hM : M.2.2.1 = rf) (n : Nat) (hn : n ≤ 48) (hl : M.1 (0, 3) 1 = nI n) (i : Nat) (hi : i < n) : PM G l m_TK_out [vR (some TKK), vI (nI i)] M (rI (M.1 (0, 4) i)) M 0 0 := by
  refine pm_in [some (vR (some TKK)), some (vI (nI i))] rfl ?_
  refine pw_iload_n d_TK_out_0 rfl ?_
  refine pw_if_lt (tgt := 15) d_TK_out_1 (by decide) (fun hQ => absurd hQ (nI_pos (by omega))) (fun _ => ?_)
  refine pw_iload_n d_TK_out_4 rfl ?_
  refine pw_aload_n d_TK_out_5 rfl ?_
  refine pw_getR d_TK_out_6 f_TK_18 rfl rfl (rfO hM rfl) ?_
  refine pw_getI d_TK_out_9 f_TK_49 rfl rfl ?_
  rw [hl]
  refine pw_icmp_lt (tgt := 25) d_TK_out_12 (by decide) (fun _ => ?_) (fun hQ => absurd (nI_lt hi (by omega)) hQ)
  refine pw_aload_n d_TK_out_25 rfl ?_
  refine pw_getR d_TK_out_26 f_TK_18 rfl rfl (rfO hM rfl) ?_
  refine pw_getR d_TK_out_29 f_TK_68 rfl rfl (rfO hM rfl) ?_
  refine pw_iload_n d_TK_out_32 rfl ?_
  refine pw_iaN (n := i) d_TK_out_33 rfl (by omega) (by decide) ?_
  refine pw_ireturn d_TK_out_34 rfl ?_ ?_
  · rfl
  · rfl
end LWH
