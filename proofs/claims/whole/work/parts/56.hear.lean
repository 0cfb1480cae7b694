/-! hear, on both sides -/
section HE
variable {G : GG} {l : Launch} {M : Mem}
theorem pm_hear_x (hM : M.2.2.1 = rf) (p : Int32) (hp : p < 0 ∨ 8 ≤ p) : PM G l m_TK_hear [vR (some TKK), vI p] M (tE 2) M 1 6 := by
  refine pm_in [some (vR (some TKK)), some (vI p), none, none, none] rfl ?_
  refine pw_aload_n d_TK_hear_0 rfl ?_
  refine pw_iload_n d_TK_hear_1 rfl ?_
  exact cX_TK_hear_2 rfl (Nat.le_of_ble_eq_true rfl) (pm_known_x hM p hp) rfl rfl
theorem pm_hear_f (hM : M.2.2.1 = rf) (p : Nat) (hp : p < 8) (x : Int32) (hx : ¬ x = 0) (hf : PM G l m_TK_failedTest [vR (some TKK), vR (some (PEK p))] M (rI x) M 0 0) : PM G l m_TK_hear [vR (some TKK), vI (nI p)] M (rI x) M 0 0 := by
  refine pm_in [some (vR (some TKK)), some (vI (nI p)), none, none, none] rfl ?_
  refine pw_aload_n d_TK_hear_0 rfl ?_
  refine pw_iload_n d_TK_hear_1 rfl ?_
  refine c_TK_hear_2 rfl (Nat.le_of_ble_eq_true rfl) (pm_known hM p hp) ?_
  refine pw_astore_n d_TK_hear_5 (by decide) ?_
  dsimp only [stL, kil, isL, cat]
  refine pw_aload_n d_TK_hear_6 rfl ?_
  refine pw_aload_n d_TK_hear_7 rfl ?_
  refine c_TK_hear_8 rfl (Nat.le_of_ble_eq_true rfl) hf ?_
  refine pw_istore_n d_TK_hear_11 (by decide) ?_
  dsimp only [stL, kil, isL, cat]
  refine pw_iload_n d_TK_hear_12 rfl ?_
  refine pw_if_ne (tgt := 89) d_TK_hear_13 (by decide) (fun _ => ?_) (fun hQ => absurd hQ (hx))
  refine pw_iload_n d_TK_hear_89 rfl ?_
  refine pw_ireturn d_TK_hear_90 rfl ?_ ?_
  · rfl
  · rfl
theorem pm_hear_0 (hM : M.2.2.1 = rf) (p : Nat) (hp : p < 8) (hf : PM G l m_TK_failedTest [vR (some TKK), vR (some (PEK p))] M (rI 0) M 0 0) (M1 M2 : Mem) (ht : PM G l m_TK_take [vR (some TKK), vR (some (PEK p))] M rV M1 0 0) (hn : PM G l m_PE_hasNews [vR (some (PEK p))] M1 (rI 0) M2 0 0) : PM G l m_TK_hear [vR (some TKK), vI (nI p)] M (rI 0) M2 0 0 := by
  refine pm_in [some (vR (some TKK)), some (vI (nI p)), none, none, none] rfl ?_
  refine pw_aload_n d_TK_hear_0 rfl ?_
  refine pw_iload_n d_TK_hear_1 rfl ?_
  refine c_TK_hear_2 rfl (Nat.le_of_ble_eq_true rfl) (pm_known hM p hp) ?_
  refine pw_astore_n d_TK_hear_5 (by decide) ?_
  dsimp only [stL, kil, isL, cat]
  refine pw_aload_n d_TK_hear_6 rfl ?_
  refine pw_aload_n d_TK_hear_7 rfl ?_
  refine c_TK_hear_8 rfl (Nat.le_of_ble_eq_true rfl) hf ?_
  refine pw_istore_n d_TK_hear_11 (by decide) ?_
  dsimp only [stL, kil, isL, cat]
  refine pw_iload_n d_TK_hear_12 rfl ?_
  refine pw_if_ne (tgt := 89) d_TK_hear_13 (by decide) (fun hQ => absurd (rfl) hQ) (fun _ => ?_)
  refine pw_aload_n d_TK_hear_16 rfl ?_
  refine pw_aload_n d_TK_hear_17 rfl ?_
  refine c_TK_hear_18 rfl (Nat.le_of_ble_eq_true rfl) ht ?_
  refine pw_aload_n d_TK_hear_21 rfl ?_
  refine c_TK_hear_22 rfl (Nat.le_of_ble_eq_true rfl) hn ?_
  refine pw_if_eq (tgt := 53) d_TK_hear_25 (by decide) (fun _ => ?_) (fun hQ => absurd (rfl) hQ)
  refine pw_iconst 0 d_TK_hear_53 (by decide) ?_
  refine pw_istore d_TK_hear_54 (by decide) ?_
  dsimp only [stL, kil, isL, cat]
  refine pw_iload d_TK_hear_56 rfl ?_
  refine pw_if_eq (tgt := 89) d_TK_hear_58 (by decide) (fun _ => ?_) (fun hQ => absurd (rfl) hQ)
  refine pw_iload_n d_TK_hear_89 rfl ?_
  refine pw_ireturn d_TK_hear_90 rfl ?_ ?_
  · rfl
  · rfl
theorem pm_hear_n (hM : M.2.2.1 = rf) (p : Nat) (hp : p < 8) (hf : PM G l m_TK_failedTest [vR (some TKK), vR (some (PEK p))] M (rI 0) M 0 0) (M1 M2 M3 : Mem) (ht : PM G l m_TK_take [vR (some TKK), vR (some (PEK p))] M rV M1 0 0) (hn : PM G l m_PE_hasNews [vR (some (PEK p))] M1 (rI 1) M2 0 0) (hM2 : M2.2.2.1 = rf) (u : Int32) (hu : M2.1 TPK 1 = u) (hc : PM G l m_CH_choose [vR (some CHK), vR (some (0, 6)), vI u] M2 (rI 0) M3 0 0) : PM G l m_TK_hear [vR (some TKK), vI (nI p)] M (rI 0) M3 0 0 := by
  refine pm_in [some (vR (some TKK)), some (vI (nI p)), none, none, none] rfl ?_
  refine pw_aload_n d_TK_hear_0 rfl ?_
  refine pw_iload_n d_TK_hear_1 rfl ?_
  refine c_TK_hear_2 rfl (Nat.le_of_ble_eq_true rfl) (pm_known hM p hp) ?_
  refine pw_astore_n d_TK_hear_5 (by decide) ?_
  dsimp only [stL, kil, isL, cat]
  refine pw_aload_n d_TK_hear_6 rfl ?_
  refine pw_aload_n d_TK_hear_7 rfl ?_
  refine c_TK_hear_8 rfl (Nat.le_of_ble_eq_true rfl) hf ?_
  refine pw_istore_n d_TK_hear_11 (by decide) ?_
  dsimp only [stL, kil, isL, cat]
  refine pw_iload_n d_TK_hear_12 rfl ?_
  refine pw_if_ne (tgt := 89) d_TK_hear_13 (by decide) (fun hQ => absurd (rfl) hQ) (fun _ => ?_)
  refine pw_aload_n d_TK_hear_16 rfl ?_
  refine pw_aload_n d_TK_hear_17 rfl ?_
  refine c_TK_hear_18 rfl (Nat.le_of_ble_eq_true rfl) ht ?_
  refine pw_aload_n d_TK_hear_21 rfl ?_
  refine c_TK_hear_22 rfl (Nat.le_of_ble_eq_true rfl) hn ?_
  refine pw_if_eq (tgt := 53) d_TK_hear_25 (by decide) (fun hQ => absurd hQ ((by decide))) (fun _ => ?_)
  refine pw_aload_n d_TK_hear_28 rfl ?_
  refine pw_getR d_TK_hear_29 f_TK_38 rfl rfl (rfO hM2 rfl) ?_
  refine pw_aload_n d_TK_hear_32 rfl ?_
  refine pw_getR d_TK_hear_33 f_TK_30 rfl rfl (rfO hM2 rfl) ?_
  refine pw_aload_n d_TK_hear_36 rfl ?_
  refine pw_getR d_TK_hear_37 f_TK_24 rfl rfl (rfO hM2 rfl) ?_
  refine pw_getI d_TK_hear_40 f_TK_77 rfl rfl ?_
  rw [hu]
  refine c_TK_hear_43 rfl (Nat.le_of_ble_eq_true rfl) hc ?_
  refine pw_if_eq (tgt := 53) d_TK_hear_46 (by decide) (fun _ => ?_) (fun hQ => absurd (rfl) hQ)
  refine pw_iconst 0 d_TK_hear_53 (by decide) ?_
  refine pw_istore d_TK_hear_54 (by decide) ?_
  dsimp only [stL, kil, isL, cat]
  refine pw_iload d_TK_hear_56 rfl ?_
  refine pw_if_eq (tgt := 89) d_TK_hear_58 (by decide) (fun _ => ?_) (fun hQ => absurd (rfl) hQ)
  refine pw_iload_n d_TK_hear_89 rfl ?_
  refine pw_ireturn d_TK_hear_90 rfl ?_ ?_
  · rfl
  · rfl
theorem pm_hear_l (hM : M.2.2.1 = rf) (p : Nat) (hp : p < 8) (hf : PM G l m_TK_failedTest [vR (some TKK), vR (some (PEK p))] M (rI 0) M 0 0) (M1 M2 M3 M4 : Mem) (ht : PM G l m_TK_take [vR (some TKK), vR (some (PEK p))] M rV M1 0 0) (hn : PM G l m_PE_hasNews [vR (some (PEK p))] M1 (rI 1) M2 0 0) (hM2 : M2.2.2.1 = rf) (u : Int32) (hu : M2.1 TPK 1 = u) (hc : PM G l m_CH_choose [vR (some CHK), vR (some (0, 6)), vI u] M2 (rI 1) M3 0 0) (hM3 : M3.2.2.1 = rf)
    (hl : PM G l m_TP_lead [vR (some TPK), vL (M3.2.1 CHK 5), vL (M3.2.1 CHK 6)] M3 (rI 0) M4 0 0) : PM G l m_TK_hear [vR (some TKK), vI (nI p)] M (rI 0) M4 0 0 := by
  refine pm_in [some (vR (some TKK)), some (vI (nI p)), none, none, none] rfl ?_
  refine pw_aload_n d_TK_hear_0 rfl ?_
  refine pw_iload_n d_TK_hear_1 rfl ?_
  refine c_TK_hear_2 rfl (Nat.le_of_ble_eq_true rfl) (pm_known hM p hp) ?_
  refine pw_astore_n d_TK_hear_5 (by decide) ?_
  dsimp only [stL, kil, isL, cat]
  refine pw_aload_n d_TK_hear_6 rfl ?_
  refine pw_aload_n d_TK_hear_7 rfl ?_
  refine c_TK_hear_8 rfl (Nat.le_of_ble_eq_true rfl) hf ?_
  refine pw_istore_n d_TK_hear_11 (by decide) ?_
  dsimp only [stL, kil, isL, cat]
  refine pw_iload_n d_TK_hear_12 rfl ?_
  refine pw_if_ne (tgt := 89) d_TK_hear_13 (by decide) (fun hQ => absurd (rfl) hQ) (fun _ => ?_)
  refine pw_aload_n d_TK_hear_16 rfl ?_
  refine pw_aload_n d_TK_hear_17 rfl ?_
  refine c_TK_hear_18 rfl (Nat.le_of_ble_eq_true rfl) ht ?_
  refine pw_aload_n d_TK_hear_21 rfl ?_
  refine c_TK_hear_22 rfl (Nat.le_of_ble_eq_true rfl) hn ?_
  refine pw_if_eq (tgt := 53) d_TK_hear_25 (by decide) (fun hQ => absurd hQ ((by decide))) (fun _ => ?_)
  refine pw_aload_n d_TK_hear_28 rfl ?_
  refine pw_getR d_TK_hear_29 f_TK_38 rfl rfl (rfO hM2 rfl) ?_
  refine pw_aload_n d_TK_hear_32 rfl ?_
  refine pw_getR d_TK_hear_33 f_TK_30 rfl rfl (rfO hM2 rfl) ?_
  refine pw_aload_n d_TK_hear_36 rfl ?_
  refine pw_getR d_TK_hear_37 f_TK_24 rfl rfl (rfO hM2 rfl) ?_
  refine pw_getI d_TK_hear_40 f_TK_77 rfl rfl ?_
  rw [hu]
  refine c_TK_hear_43 rfl (Nat.le_of_ble_eq_true rfl) hc ?_
  refine pw_if_eq (tgt := 53) d_TK_hear_46 (by decide) (fun hQ => absurd hQ ((by decide))) (fun _ => ?_)
  refine pw_iconst 1 d_TK_hear_49 (by decide) ?_
  refine pw_goto (tgt := 54) d_TK_hear_50 (by decide) ?_
  refine pw_istore d_TK_hear_54 (by decide) ?_
  dsimp only [stL, kil, isL, cat]
  refine pw_iload d_TK_hear_56 rfl ?_
  refine pw_if_eq (tgt := 89) d_TK_hear_58 (by decide) (fun hQ => absurd hQ ((by decide))) (fun _ => ?_)
  refine pw_aload_n d_TK_hear_61 rfl ?_
  refine pw_getR d_TK_hear_62 f_TK_24 rfl rfl (rfO hM3 rfl) ?_
  refine pw_aload_n d_TK_hear_65 rfl ?_
  refine pw_getR d_TK_hear_66 f_TK_38 rfl rfl (rfO hM3 rfl) ?_
  refine pw_getL d_TK_hear_69 f_TK_129 rfl rfl ?_
  refine pw_aload_n d_TK_hear_72 rfl ?_
  refine pw_getR d_TK_hear_73 f_TK_38 rfl rfl (rfO hM3 rfl) ?_
  refine pw_getL d_TK_hear_76 f_TK_132 rfl rfl ?_
  refine c_TK_hear_79 rfl (Nat.le_of_ble_eq_true rfl) hl ?_
  refine pw_if_eq (tgt := 89) d_TK_hear_82 (by decide) (fun _ => ?_) (fun hQ => absurd (rfl) hQ)
  refine pw_iload_n d_TK_hear_89 rfl ?_
  refine pw_ireturn d_TK_hear_90 rfl ?_ ?_
  · rfl
  · rfl
theorem pm_hear_s (hM : M.2.2.1 = rf) (p : Nat) (hp : p < 8) (hf : PM G l m_TK_failedTest [vR (some TKK), vR (some (PEK p))] M (rI 0) M 0 0) (M1 M2 M3 M4 : Mem) (ht : PM G l m_TK_take [vR (some TKK), vR (some (PEK p))] M rV M1 0 0) (hn : PM G l m_PE_hasNews [vR (some (PEK p))] M1 (rI 1) M2 0 0) (hM2 : M2.2.2.1 = rf) (u : Int32) (hu : M2.1 TPK 1 = u) (hc : PM G l m_CH_choose [vR (some CHK), vR (some (0, 6)), vI u] M2 (rI 1) M3 0 0) (hM3 : M3.2.2.1 = rf)
    (hl : PM G l m_TP_lead [vR (some TPK), vL (M3.2.1 CHK 5), vL (M3.2.1 CHK 6)] M3 (rI 1) M4 0 0) (hM4 : M4.2.2.1 = rf) : PM G l m_TK_hear [vR (some TKK), vI (nI p)] M (rI 0) (fgC M4 8) 0 0 := by
  refine pm_in [some (vR (some TKK)), some (vI (nI p)), none, none, none] rfl ?_
  refine pw_aload_n d_TK_hear_0 rfl ?_
  refine pw_iload_n d_TK_hear_1 rfl ?_
  refine c_TK_hear_2 rfl (Nat.le_of_ble_eq_true rfl) (pm_known hM p hp) ?_
  refine pw_astore_n d_TK_hear_5 (by decide) ?_
  dsimp only [stL, kil, isL, cat]
  refine pw_aload_n d_TK_hear_6 rfl ?_
  refine pw_aload_n d_TK_hear_7 rfl ?_
  refine c_TK_hear_8 rfl (Nat.le_of_ble_eq_true rfl) hf ?_
  refine pw_istore_n d_TK_hear_11 (by decide) ?_
  dsimp only [stL, kil, isL, cat]
  refine pw_iload_n d_TK_hear_12 rfl ?_
  refine pw_if_ne (tgt := 89) d_TK_hear_13 (by decide) (fun hQ => absurd (rfl) hQ) (fun _ => ?_)
  refine pw_aload_n d_TK_hear_16 rfl ?_
  refine pw_aload_n d_TK_hear_17 rfl ?_
  refine c_TK_hear_18 rfl (Nat.le_of_ble_eq_true rfl) ht ?_
  refine pw_aload_n d_TK_hear_21 rfl ?_
  refine c_TK_hear_22 rfl (Nat.le_of_ble_eq_true rfl) hn ?_
  refine pw_if_eq (tgt := 53) d_TK_hear_25 (by decide) (fun hQ => absurd hQ ((by decide))) (fun _ => ?_)
  refine pw_aload_n d_TK_hear_28 rfl ?_
  refine pw_getR d_TK_hear_29 f_TK_38 rfl rfl (rfO hM2 rfl) ?_
  refine pw_aload_n d_TK_hear_32 rfl ?_
  refine pw_getR d_TK_hear_33 f_TK_30 rfl rfl (rfO hM2 rfl) ?_
  refine pw_aload_n d_TK_hear_36 rfl ?_
  refine pw_getR d_TK_hear_37 f_TK_24 rfl rfl (rfO hM2 rfl) ?_
  refine pw_getI d_TK_hear_40 f_TK_77 rfl rfl ?_
  rw [hu]
  refine c_TK_hear_43 rfl (Nat.le_of_ble_eq_true rfl) hc ?_
  refine pw_if_eq (tgt := 53) d_TK_hear_46 (by decide) (fun hQ => absurd hQ ((by decide))) (fun _ => ?_)
  refine pw_iconst 1 d_TK_hear_49 (by decide) ?_
  refine pw_goto (tgt := 54) d_TK_hear_50 (by decide) ?_
  refine pw_istore d_TK_hear_54 (by decide) ?_
  dsimp only [stL, kil, isL, cat]
  refine pw_iload d_TK_hear_56 rfl ?_
  refine pw_if_eq (tgt := 89) d_TK_hear_58 (by decide) (fun hQ => absurd hQ ((by decide))) (fun _ => ?_)
  refine pw_aload_n d_TK_hear_61 rfl ?_
  refine pw_getR d_TK_hear_62 f_TK_24 rfl rfl (rfO hM3 rfl) ?_
  refine pw_aload_n d_TK_hear_65 rfl ?_
  refine pw_getR d_TK_hear_66 f_TK_38 rfl rfl (rfO hM3 rfl) ?_
  refine pw_getL d_TK_hear_69 f_TK_129 rfl rfl ?_
  refine pw_aload_n d_TK_hear_72 rfl ?_
  refine pw_getR d_TK_hear_73 f_TK_38 rfl rfl (rfO hM3 rfl) ?_
  refine pw_getL d_TK_hear_76 f_TK_132 rfl rfl ?_
  refine c_TK_hear_79 rfl (Nat.le_of_ble_eq_true rfl) hl ?_
  refine pw_if_eq (tgt := 89) d_TK_hear_82 (by decide) (fun hQ => absurd hQ ((by decide))) (fun _ => ?_)
  refine pw_aload_n d_TK_hear_85 rfl ?_
  refine c_TK_hear_86 rfl (Nat.le_of_ble_eq_true rfl) (pm_forgetSamples hM4) ?_
  refine pw_iload_n d_TK_hear_89 rfl ?_
  refine pw_ireturn d_TK_hear_90 rfl ?_ ?_
  · rfl
  · rfl
theorem mo_hear_x (p : Int32) (hp : p < 0 ∨ 8 ≤ p) : PM G l m_MO_hear [vR (some MK), vI p] M (rI 0) (sI M MK 0 1) 0 0 := by
  refine pm_in [some (vR (some MK)), some (vI p), none, none] rfl ?_
  have q := mo_noPeer (G := G) (l := l) (M := M) p
  have e : (if p < 0 then (1 : Int32) else if p < 8 then 0 else 1) = 1 := by
    by_cases h : p < 0
    · rw [if_pos h]
    · rw [if_neg h, if_neg ((i32_nlt _ _).mpr (hp.resolve_left h))]
  rw [e] at q
  refine pw_aload_n d_MO_hear_0 rfl ?_
  refine pw_iload_n d_MO_hear_1 rfl ?_
  refine c_MO_hear_2 rfl (Nat.le_of_ble_eq_true rfl) q ?_
  refine pw_if_eq (tgt := 10) d_MO_hear_5 (by decide) (fun hQ => absurd hQ ((by decide))) (fun _ => ?_)
  refine pw_iconst 0 d_MO_hear_8 (by decide) ?_
  refine pw_ireturn d_MO_hear_9 rfl ?_ ?_
  · rfl
  · rfl
theorem mo_hear_f (p : Nat) (hp : p < 8) (x : Int32) (hx : ¬ x ≤ 0) (hf : PM G l m_MO_failed [vR (some MK), vI (nI p)] (sI M MK 0 0) (rI x) (sI M MK 0 0) 0 0) : PM G l m_MO_hear [vR (some MK), vI (nI p)] M (rI x) (sI M MK 0 0) 0 0 := by
  refine pm_in [some (vR (some MK)), some (vI (nI p)), none, none] rfl ?_
  refine pw_aload_n d_MO_hear_0 rfl ?_
  refine pw_iload_n d_MO_hear_1 rfl ?_
  refine c_MO_hear_2 rfl (Nat.le_of_ble_eq_true rfl) (noPeer_y p hp) ?_
  refine pw_if_eq (tgt := 10) d_MO_hear_5 (by decide) (fun _ => ?_) (fun hQ => absurd (rfl) hQ)
  refine pw_aload_n d_MO_hear_10 rfl ?_
  refine pw_iload_n d_MO_hear_11 rfl ?_
  refine c_MO_hear_12 rfl (Nat.le_of_ble_eq_true rfl) hf ?_
  refine pw_istore_n d_MO_hear_15 (by decide) ?_
  dsimp only [stL, kil, isL, cat]
  refine pw_iload_n d_MO_hear_16 rfl ?_
  refine pw_if_le (tgt := 22) d_MO_hear_17 (by decide) (fun hQ => absurd hQ (hx)) (fun _ => ?_)
  refine pw_iload_n d_MO_hear_20 rfl ?_
  refine pw_ireturn d_MO_hear_21 rfl ?_ ?_
  · rfl
  · rfl
theorem mo_hear_0 (p c : Nat) (hp : p < 8) (hc : c ≤ 8) (h0 : 0 < c) (hf : PM G l m_MO_failed [vR (some MK), vI (nI p)] (sI M MK 0 0) (rI 0) (sI M MK 0 0) 0 0) (M1 : Mem) (ht : PM G l m_MO_take [vR (some MK), vI (nI p)] (sI M MK 0 0) rV M1 0 0) (hM1 : M1.2.2.1 = rf) (hC : M1.1 (0, 29) p = nI c) (hl : M1.1 (0, 34) (mOk M1 p c 0) ≤ M1.1 (0, 30) p) : PM G l m_MO_hear [vR (some MK), vI (nI p)] M (rI 0) M1 0 0 := by
  refine pm_in [some (vR (some MK)), some (vI (nI p)), none, none] rfl ?_
  have hk := mOk_lt (M := M1) hp hc h0
  refine pw_aload_n d_MO_hear_0 rfl ?_
  refine pw_iload_n d_MO_hear_1 rfl ?_
  refine c_MO_hear_2 rfl (Nat.le_of_ble_eq_true rfl) (noPeer_y p hp) ?_
  refine pw_if_eq (tgt := 10) d_MO_hear_5 (by decide) (fun _ => ?_) (fun hQ => absurd (rfl) hQ)
  refine pw_aload_n d_MO_hear_10 rfl ?_
  refine pw_iload_n d_MO_hear_11 rfl ?_
  refine c_MO_hear_12 rfl (Nat.le_of_ble_eq_true rfl) hf ?_
  refine pw_istore_n d_MO_hear_15 (by decide) ?_
  dsimp only [stL, kil, isL, cat]
  refine pw_iload_n d_MO_hear_16 rfl ?_
  refine pw_if_le (tgt := 22) d_MO_hear_17 (by decide) (fun _ => ?_) (fun hQ => absurd ((by decide)) hQ)
  refine pw_aload_n d_MO_hear_22 rfl ?_
  refine pw_iload_n d_MO_hear_23 rfl ?_
  refine c_MO_hear_24 rfl (Nat.le_of_ble_eq_true rfl) ht ?_
  refine pw_aload_n d_MO_hear_27 rfl ?_
  refine pw_getR d_MO_hear_28 f_MO_50 rfl rfl (rfO hM1 rfl) ?_
  refine pw_aload_n d_MO_hear_31 rfl ?_
  refine pw_iload_n d_MO_hear_32 rfl ?_
  refine pw_iconst 0 d_MO_hear_33 (by decide) ?_
  refine c_MO_hear_34 rfl (Nat.le_of_ble_eq_true rfl) (mo_ordK hM1 p 0 c hp hc h0 hC) ?_
  refine pw_iaN (n := mOk M1 p c 0) d_MO_hear_37 rfl (by omega) (by decide) ?_
  refine pw_istore_n d_MO_hear_38 (by decide) ?_
  dsimp only [stL, kil, isL, cat]
  refine pw_iload_n d_MO_hear_39 rfl ?_
  refine pw_aload_n d_MO_hear_40 rfl ?_
  refine pw_getR d_MO_hear_41 f_MO_38 rfl rfl (rfO hM1 rfl) ?_
  refine pw_iload_n d_MO_hear_44 rfl ?_
  refine pw_iaN (n := p) d_MO_hear_45 rfl (by omega) (by decide) ?_
  refine pw_icmp_le (tgt := 60) d_MO_hear_46 (by decide) (fun _ => ?_) (fun hQ => absurd (hl) hQ)
  refine pw_iconst 0 d_MO_hear_60 (by decide) ?_
  refine pw_ireturn d_MO_hear_61 rfl ?_ ?_
  · rfl
  · rfl
theorem mo_hear_u (p c : Nat) (hp : p < 8) (hc : c ≤ 8) (h0 : 0 < c) (hf : PM G l m_MO_failed [vR (some MK), vI (nI p)] (sI M MK 0 0) (rI 0) (sI M MK 0 0) 0 0) (M1 : Mem) (ht : PM G l m_MO_take [vR (some MK), vI (nI p)] (sI M MK 0 0) rV M1 0 0) (hM1 : M1.2.2.1 = rf) (hC : M1.1 (0, 29) p = nI c) (hl : ¬ M1.1 (0, 34) (mOk M1 p c 0) ≤ M1.1 (0, 30) p) (M3 : Mem) (hu : PM G l m_MO_update [vR (some MK)] (sI M1 (0, 30) p (M1.1 (0, 34) (mOk M1 p c 0))) rV M3 0 0) : PM G l m_MO_hear [vR (some MK), vI (nI p)] M (rI 0) M3 0 0 := by
  refine pm_in [some (vR (some MK)), some (vI (nI p)), none, none] rfl ?_
  have hk := mOk_lt (M := M1) hp hc h0
  refine pw_aload_n d_MO_hear_0 rfl ?_
  refine pw_iload_n d_MO_hear_1 rfl ?_
  refine c_MO_hear_2 rfl (Nat.le_of_ble_eq_true rfl) (noPeer_y p hp) ?_
  refine pw_if_eq (tgt := 10) d_MO_hear_5 (by decide) (fun _ => ?_) (fun hQ => absurd (rfl) hQ)
  refine pw_aload_n d_MO_hear_10 rfl ?_
  refine pw_iload_n d_MO_hear_11 rfl ?_
  refine c_MO_hear_12 rfl (Nat.le_of_ble_eq_true rfl) hf ?_
  refine pw_istore_n d_MO_hear_15 (by decide) ?_
  dsimp only [stL, kil, isL, cat]
  refine pw_iload_n d_MO_hear_16 rfl ?_
  refine pw_if_le (tgt := 22) d_MO_hear_17 (by decide) (fun _ => ?_) (fun hQ => absurd ((by decide)) hQ)
  refine pw_aload_n d_MO_hear_22 rfl ?_
  refine pw_iload_n d_MO_hear_23 rfl ?_
  refine c_MO_hear_24 rfl (Nat.le_of_ble_eq_true rfl) ht ?_
  refine pw_aload_n d_MO_hear_27 rfl ?_
  refine pw_getR d_MO_hear_28 f_MO_50 rfl rfl (rfO hM1 rfl) ?_
  refine pw_aload_n d_MO_hear_31 rfl ?_
  refine pw_iload_n d_MO_hear_32 rfl ?_
  refine pw_iconst 0 d_MO_hear_33 (by decide) ?_
  refine c_MO_hear_34 rfl (Nat.le_of_ble_eq_true rfl) (mo_ordK hM1 p 0 c hp hc h0 hC) ?_
  refine pw_iaN (n := mOk M1 p c 0) d_MO_hear_37 rfl (by omega) (by decide) ?_
  refine pw_istore_n d_MO_hear_38 (by decide) ?_
  dsimp only [stL, kil, isL, cat]
  refine pw_iload_n d_MO_hear_39 rfl ?_
  refine pw_aload_n d_MO_hear_40 rfl ?_
  refine pw_getR d_MO_hear_41 f_MO_38 rfl rfl (rfO hM1 rfl) ?_
  refine pw_iload_n d_MO_hear_44 rfl ?_
  refine pw_iaN (n := p) d_MO_hear_45 rfl (by omega) (by decide) ?_
  refine pw_icmp_le (tgt := 60) d_MO_hear_46 (by decide) (fun hQ => absurd hQ (hl)) (fun _ => ?_)
  refine pw_aload_n d_MO_hear_49 rfl ?_
  refine pw_getR d_MO_hear_50 f_MO_38 rfl rfl (rfO hM1 rfl) ?_
  refine pw_iload_n d_MO_hear_53 rfl ?_
  refine pw_iload_n d_MO_hear_54 rfl ?_
  refine pw_isN (n := p) d_MO_hear_55 rfl (by omega) (by decide) ?_
  refine pw_aload_n d_MO_hear_56 rfl ?_
  refine c_MO_hear_57 rfl (Nat.le_of_ble_eq_true rfl) hu ?_
  refine pw_iconst 0 d_MO_hear_60 (by decide) ?_
  refine pw_ireturn d_MO_hear_61 rfl ?_ ?_
  · rfl
  · rfl
end HE
