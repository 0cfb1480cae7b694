/-! request, serve, answer of the reference -/
section MR1
variable {G : GG} {l : Launch} {M : Mem}
theorem mo_version (hM : M.2.2.1 = rf) : PM G l m_MO_version [vR (some MK)] M (rI (M.1 (0, 21) 0 / 8 - M.1 (0, 21) 0 / 8 / 8 * 8)) M 0 0 := by
  refine pm_in [some (vR (some MK))] rfl ?_
  refine pw_aload_n d_MO_version_0 rfl ?_
  refine pw_getR d_MO_version_1 f_MO_7 rfl rfl (rfO hM rfl) ?_
  refine pw_iconst 0 d_MO_version_4 (by decide) ?_
  refine pw_iaload d_MO_version_5 rfl (vp_in_nI (n := 0) (by decide) (by decide)) ?_
  refine pw_bipush (8) d_MO_version_6 (by decide) ?_
  refine pw_idiv d_MO_version_8 (by decide) ?_
  refine pw_bipush (8) d_MO_version_9 (by decide) ?_
  refine pw_irem d_MO_version_11 (by decide) ?_
  refine pw_ireturn d_MO_version_12 rfl ?_ ?_
  · rfl
  · rfl
/-- the peer's numbers, and OUT as a request -/
def rqA (M : Mem) (p : Nat) : Mem := sL (sI (sI M MK 0 0) (0, 25) p (2 * M.1 (0, 25) p - 2 * M.1 (0, 25) p / 256 * 256)) (0, 23) p (sentOf (M.2.1 MK 5))
def rqB (M : Mem) (s : Int64) : Mem := wrB byS (sI (sI (sI (sI (zrO M 48) MK 4 48) (0, 22) 0 35) (0, 22) 2 (M.1 MK 33)) (0, 22) 3 238) (0, 22) 40 8 s 8
theorem mo_request (hM : M.2.2.1 = rf) (p : Nat) (hp : p < 8) : PM G l m_MO_request [vR (some MK), vI (nI p)] M (rL (sentOf (M.2.1 MK 5))) (rqB (rqA M p) (sentOf (M.2.1 MK 5))) 0 0 := by
  refine pm_in [some (vR (some MK)), some (vI (nI p))] rfl ?_
  have h8 : nI p < 8 := nI_lt (b := 8) hp (by decide)
  have h0 : ¬ nI p < 0 := nI_pos (by omega)
  have fin : ∀ x, x = sentOf (M.2.1 MK 5) → PW G l m_MO_request 50 [some (vR (some MK)), some (vI (nI p))] [vL x, vI (nI p), vR (some (0, 23))] (sI (sI M MK 0 0) (0, 25) p (2 * M.1 (0, 25) p - 2 * M.1 (0, 25) p / 256 * 256)) (rL (sentOf (M.2.1 MK 5))) (rqB (rqA M p) (sentOf (M.2.1 MK 5))) 0 0 := by
    intro x hx
    subst hx
    refine pw_lastore d_MO_request_50 rfl (vp_in_nI hp (by decide)) ?_
    rw [nI_clamp (by omega)]
    refine pw_aload_n d_MO_request_51 rfl ?_
    refine c_MO_request_52 rfl (Nat.le_of_ble_eq_true rfl) (mo_clearOut (M := rqA M p) hM) ?_
    refine pw_aload_n d_MO_request_55 rfl ?_
    refine pw_getR d_MO_request_56 f_MO_13 rfl rfl (rfO hM rfl) ?_
    refine pw_iconst 0 d_MO_request_59 (by decide) ?_
    refine pw_bipush (35) d_MO_request_60 (by decide) ?_
    refine pw_iastore d_MO_request_62 rfl (vp_in_nI (n := 0) (by decide) (by decide)) ?_
    refine pw_aload_n d_MO_request_63 rfl ?_
    refine pw_getR d_MO_request_64 f_MO_13 rfl rfl (rfO hM rfl) ?_
    refine pw_iconst 2 d_MO_request_67 (by decide) ?_
    refine pw_aload_n d_MO_request_68 rfl ?_
    refine pw_getI d_MO_request_69 f_MO_56 rfl rfl ?_
    rw [show (sI (sI (zrO (rqA M p) 48) MK 4 48) (0, 22) (0 : Int32).toNatClampNeg 35).1 MK 33 = (rqA M p).1 MK 33 from by simp [sI, zrO]]
    refine pw_iastore d_MO_request_72 rfl (vp_in_nI (n := 2) (by decide) (by decide)) ?_
    refine pw_aload_n d_MO_request_73 rfl ?_
    refine pw_getR d_MO_request_74 f_MO_13 rfl rfl (rfO hM rfl) ?_
    refine pw_iconst 3 d_MO_request_77 (by decide) ?_
    refine pw_sipush (238) d_MO_request_78 (by decide) ?_
    refine pw_iastore d_MO_request_81 rfl (vp_in_nI (n := 3) (by decide) (by decide)) ?_
    refine pw_aload_n d_MO_request_82 rfl ?_
    refine pw_getR d_MO_request_83 f_MO_13 rfl rfl (rfO hM rfl) ?_
    refine pw_bipush (40) d_MO_request_86 (by decide) ?_
    refine pw_bipush (8) d_MO_request_88 (by decide) ?_
    refine pw_aload_n d_MO_request_90 rfl ?_
    refine pw_getR d_MO_request_91 f_MO_16 rfl rfl (rfO hM rfl) ?_
    refine pw_iload_n d_MO_request_94 rfl ?_
    refine pw_laload d_MO_request_95 rfl (vp_in_nI hp (by decide)) ?_
    rw [nI_clamp (by omega), show (sI (sI (sI (sI (zrO (rqA M p) 48) MK 4 48) (0, 22) (0 : Int32).toNatClampNeg 35) (0, 22) (2 : Int32).toNatClampNeg ((rqA M p).1 MK 33)) (0, 22) (3 : Int32).toNatClampNeg 238).2.1 (0, 23) p = sentOf (M.2.1 MK 5) from by simp [sI, zrO, rqA, sL]]
    refine c_MO_request_96 (Nat.le_of_ble_eq_true rfl) (mo_lay_o (M := sI (sI (sI (sI (zrO (rqA M p) 48) MK 4 48) (0, 22) (0 : Int32).toNatClampNeg 35) (0, 22) (2 : Int32).toNatClampNeg ((rqA M p).1 MK 33)) (0, 22) (3 : Int32).toNatClampNeg 238) hM 40 8 _ (by decide) (by decide)) ?_
    refine pw_aload_n d_MO_request_99 rfl ?_
    refine pw_getR d_MO_request_100 f_MO_16 rfl rfl (rfO hM rfl) ?_
    refine pw_iload_n d_MO_request_103 rfl ?_
    refine pw_laload d_MO_request_104 rfl (vp_in_nI hp (by decide)) ?_
    rw [nI_clamp (by omega)]
    refine pw_lreturn d_MO_request_105 rfl ?_ ?_
    · exact congrArg rL (by simp [wrB, sI, zrO, rqA, sL])
    · rfl
  refine pw_aload_n d_MO_request_0 rfl ?_
  refine pw_iload_n d_MO_request_1 rfl ?_
  refine c_MO_request_2 rfl (Nat.le_of_ble_eq_true rfl) (mo_noPeer _) ?_
  rw [if_neg h0, if_pos h8]
  refine pw_if_eq (tgt := 10) d_MO_request_5 (by decide) (fun _ => ?_) (fun h => absurd (by decide) h)
  refine pw_aload_n d_MO_request_10 rfl ?_
  refine pw_getR d_MO_request_11 f_MO_23 rfl rfl (rfO hM rfl) ?_
  refine pw_iload_n d_MO_request_14 rfl ?_
  refine pw_iconst 2 d_MO_request_15 (by decide) ?_
  refine pw_aload_n d_MO_request_16 rfl ?_
  refine pw_getR d_MO_request_17 f_MO_23 rfl rfl (rfO hM rfl) ?_
  refine pw_iload_n d_MO_request_20 rfl ?_
  refine pw_iaload d_MO_request_21 rfl (vp_in_nI hp (by decide)) ?_
  rw [nI_clamp (by omega)]
  refine pw_imul d_MO_request_22 ?_
  refine pw_sipush (256) d_MO_request_23 (by decide) ?_
  refine pw_irem d_MO_request_26 (by decide) ?_
  refine pw_iastore d_MO_request_27 rfl (vp_in_nI hp (by decide)) ?_
  rw [nI_clamp (by omega), show (sI M MK 0 0).1 (0, 25) p = M.1 (0, 25) p from by simp [sI]]
  refine pw_aload_n d_MO_request_28 rfl ?_
  refine pw_getR d_MO_request_29 f_MO_16 rfl rfl (rfO hM rfl) ?_
  refine pw_iload_n d_MO_request_32 rfl ?_
  refine pw_aload_n d_MO_request_33 rfl ?_
  refine pw_getL d_MO_request_34 f_MO_79 rfl rfl ?_
  refine pw_lconst 0 d_MO_request_37 (by decide) ?_
  refine pw_lcmp d_MO_request_38 ?_
  refine pw_if_ne (tgt := 46) d_MO_request_39 (by decide) (fun h39 => ?_) (fun h39 => ?_)
  · refine pw_aload_n d_MO_request_46 rfl ?_
    refine pw_getL d_MO_request_47 f_MO_79 rfl rfl ?_
    rw [lg_eq] at h39
    refine fin _ ?_
    unfold sentOf
    exact (if_neg h39).symm
  · refine pw_lconst 1 d_MO_request_42 (by decide) ?_
    refine pw_goto (tgt := 50) d_MO_request_43 (by decide) ?_
    rw [lg_eq] at h39
    refine fin _ ?_
    unfold sentOf
    exact (if_pos h39).symm
theorem mo_request_x (p : Int32) (hp : p < 0 ∨ 8 ≤ p) : PM G l m_MO_request [vR (some MK), vI p] M (rL 0) (sI M MK 0 1) 0 0 := by
  refine pm_in [some (vR (some MK)), some (vI p)] rfl ?_
  have e : (if p < 0 then (1 : Int32) else if p < 8 then 0 else 1) = 1 := by
    rcases hp with h | h
    · rw [if_pos h]
    · rw [if_neg (c := p < 8) ((i32_nlt _ _).mpr h)]; split <;> rfl
  refine pw_aload_n d_MO_request_0 rfl ?_
  refine pw_iload_n d_MO_request_1 rfl ?_
  refine c_MO_request_2 rfl (Nat.le_of_ble_eq_true rfl) (mo_noPeer _) ?_
  rw [e]
  refine pw_if_eq (tgt := 10) d_MO_request_5 (by decide) (fun h => absurd h (by decide)) (fun _ => ?_)
  refine pw_lconst 0 d_MO_request_8 (by decide) ?_
  refine pw_lreturn d_MO_request_9 rfl ?_ ?_
  · rfl
  · rfl
end MR1
