/-! the reference's simple calls -/
section MO1
variable {G : GG} {l : Launch} {M : Mem}
abbrev MK : KK := (0, 20)
theorem sI_s {M : Mem} {k : KK} {j : Nat} {x : Int32} : (sI M k j x).1 k j = x := by simp [sI]
theorem mo_thrown : PM G l m_MO_thrown [vR (some MK)] M (rI (M.1 MK 0)) M 0 0 := by
  refine pm_in [some (vR (some MK))] rfl ?_
  refine pw_aload_n d_MO_thrown_0 rfl ?_
  refine pw_getI d_MO_thrown_1 f_MO_60 rfl rfl ?_
  refine pw_ireturn d_MO_thrown_4 rfl ?_ ?_
  · rfl
  · rfl
theorem mo_wipe : PM G l m_MO_wipe [vR (some MK)] M rV (sI (sI M MK 0 0) MK 2 0) 0 0 := by
  refine pm_in [some (vR (some MK))] rfl ?_
  refine pw_aload_n d_MO_wipe_0 rfl ?_
  refine pw_iconst 0 d_MO_wipe_1 (by decide) ?_
  refine pw_putI d_MO_wipe_2 f_MO_60 rfl rfl rfl ?_
  refine pw_aload_n d_MO_wipe_5 rfl ?_
  refine pw_iconst 0 d_MO_wipe_6 (by decide) ?_
  refine pw_putI d_MO_wipe_7 f_MO_63 rfl rfl rfl ?_
  refine pw_return d_MO_wipe_10 rfl ?_ ?_
  · rfl
  · rfl
theorem mo_size : PM G l m_MO_size_ [vR (some MK)] M (rI (M.1 MK 4)) (sI M MK 0 0) 0 0 := by
  refine pm_in [some (vR (some MK))] rfl ?_
  refine pw_aload_n d_MO_size__0 rfl ?_
  refine pw_iconst 0 d_MO_size__1 (by decide) ?_
  refine pw_putI d_MO_size__2 f_MO_60 rfl rfl rfl ?_
  refine pw_aload_n d_MO_size__5 rfl ?_
  refine pw_getI d_MO_size__6 f_MO_70 rfl rfl ?_
  refine pw_ireturn d_MO_size__9 rfl ?_ ?_
  · simp [sI]
  · rfl
theorem mo_clock : PM G l m_MO_clock [vR (some MK)] M (rL (M.2.1 MK 5)) (sI M MK 0 0) 0 0 := by
  refine pm_in [some (vR (some MK))] rfl ?_
  refine pw_aload_n d_MO_clock_0 rfl ?_
  refine pw_iconst 0 d_MO_clock_1 (by decide) ?_
  refine pw_putI d_MO_clock_2 f_MO_60 rfl rfl rfl ?_
  refine pw_aload_n d_MO_clock_5 rfl ?_
  refine pw_getL d_MO_clock_6 f_MO_79 rfl rfl ?_
  refine pw_lreturn d_MO_clock_9 rfl ?_ ?_
  · rfl
  · rfl
theorem mo_set (x : Int64) : PM G l m_MO_set [vR (some MK), vL x] M rV (sL (sI M MK 0 0) MK 5 x) 0 0 := by
  refine pm_in [some (vR (some MK)), some (vL x), none] rfl ?_
  refine pw_aload_n d_MO_set_0 rfl ?_
  refine pw_iconst 0 d_MO_set_1 (by decide) ?_
  refine pw_putI d_MO_set_2 f_MO_60 rfl rfl rfl ?_
  refine pw_aload_n d_MO_set_5 rfl ?_
  refine pw_lload_n d_MO_set_6 rfl ?_
  refine pw_putL d_MO_set_7 f_MO_79 rfl rfl rfl ?_
  refine pw_return d_MO_set_10 rfl ?_ ?_
  · rfl
  · rfl
theorem mo_sizeL (x : Int64) : PM G l m_MO_size_J [vL x] M (rL (if x < 0 then -x else x)) M 0 0 := by
  refine pm_in [some (vL x), none] rfl ?_
  refine pw_lload_n d_MO_size_J_0 rfl ?_
  refine pw_lconst 0 d_MO_size_J_1 (by decide) ?_
  refine pw_lcmp d_MO_size_J_2 ?_
  refine pw_if_ge (tgt := 11) d_MO_size_J_3 (by decide) (fun h3 => ?_) (fun h3 => ?_)
  · refine pw_lload_n d_MO_size_J_11 rfl ?_
    refine pw_lreturn d_MO_size_J_12 rfl ?_ ?_
    · (try simp only [lg_lt, lg_gt, lg_ge, lg_le, lg_eq, Classical.not_not] at h3) <;> simp only [h3, if_true, if_false]
    · rfl
  · refine pw_lload_n d_MO_size_J_6 rfl ?_
    refine pw_lneg d_MO_size_J_7 ?_
    refine pw_goto (tgt := 12) d_MO_size_J_8 (by decide) ?_
    refine pw_lreturn d_MO_size_J_12 rfl ?_ ?_
    · (try simp only [lg_lt, lg_gt, lg_ge, lg_le, lg_eq, Classical.not_not] at h3) <;> simp only [h3, if_true, if_false]
    · rfl
def flr (a b : Int64) : Int64 := if a < 0 then (if a / b * b = a then a / b else a / b - 1) else a / b
theorem mo_floor (a b : Int64) (hb : ¬ b = 0) : PM G l m_MO_floor [vL a, vL b] M (rL (flr a b)) M 0 0 := by
  refine pm_in [some (vL a), none, some (vL b), none, none, none] rfl ?_
  unfold flr
  refine pw_lload_n d_MO_floor_0 rfl ?_
  refine pw_lload_n d_MO_floor_1 rfl ?_
  refine pw_ldiv d_MO_floor_2 hb ?_
  refine pw_lstore d_MO_floor_3 (by decide) ?_
  dsimp only [stL, kil, isL, cat]
  refine pw_lload_n d_MO_floor_5 rfl ?_
  refine pw_lconst 0 d_MO_floor_6 (by decide) ?_
  refine pw_lcmp d_MO_floor_7 ?_
  refine pw_if_ge (tgt := 27) d_MO_floor_8 (by decide) (fun h8 => ?_) (fun h8 => ?_)
  · refine pw_lload d_MO_floor_27 rfl ?_
    refine pw_lreturn d_MO_floor_29 rfl ?_ ?_
    · (try simp only [lg_lt, lg_gt, lg_ge, lg_le, lg_eq, Classical.not_not] at h8) <;> simp only [h8, if_true, if_false]
    · rfl
  · refine pw_lload d_MO_floor_11 rfl ?_
    refine pw_lload_n d_MO_floor_13 rfl ?_
    refine pw_lmul d_MO_floor_14 ?_
    refine pw_lload_n d_MO_floor_15 rfl ?_
    refine pw_lcmp d_MO_floor_16 ?_
    refine pw_if_eq (tgt := 27) d_MO_floor_17 (by decide) (fun h17 => ?_) (fun h17 => ?_)
    · refine pw_lload d_MO_floor_27 rfl ?_
      refine pw_lreturn d_MO_floor_29 rfl ?_ ?_
      · (try simp only [lg_lt, lg_gt, lg_ge, lg_le, lg_eq, Classical.not_not] at h8 h17) <;> simp only [h8, h17, if_true, if_false]
      · rfl
    · refine pw_lload d_MO_floor_20 rfl ?_
      refine pw_lconst 1 d_MO_floor_22 (by decide) ?_
      refine pw_lsub d_MO_floor_23 ?_
      refine pw_goto (tgt := 29) d_MO_floor_24 (by decide) ?_
      refine pw_lreturn d_MO_floor_29 rfl ?_ ?_
      · (try simp only [lg_lt, lg_gt, lg_ge, lg_le, lg_eq, Classical.not_not] at h8 h17) <;> simp only [h8, h17, if_true, if_false]
      · rfl
theorem mo_isWay (x : Int64) : PM G l m_MO_isWay [vL x] M (rI (if x < 0 then 0 else if 1099511627776 < x then 0 else 1)) M 0 0 := by
  refine pm_in [some (vL x), none] rfl ?_
  refine pw_lload_n d_MO_isWay_0 rfl ?_
  refine pw_lconst 0 d_MO_isWay_1 (by decide) ?_
  refine pw_lcmp d_MO_isWay_2 ?_
  refine pw_if_lt (tgt := 18) d_MO_isWay_3 (by decide) (fun h3 => ?_) (fun h3 => ?_)
  · refine pw_iconst 0 d_MO_isWay_18 (by decide) ?_
    refine pw_zreturn d_MO_isWay_19 rfl ?_ ?_ ?_
    · first | exact Or.inl rfl | exact Or.inr rfl
    · (try simp only [lg_lt, lg_gt, lg_ge, lg_le, lg_eq, Classical.not_not] at h3) <;> simp only [h3, if_true, if_false]
    · rfl
  · refine pw_lload_n d_MO_isWay_6 rfl ?_
    refine pw_ldc2 (1099511627776) d_MO_isWay_7 g964 ?_
    refine pw_lcmp d_MO_isWay_10 ?_
    refine pw_if_gt (tgt := 18) d_MO_isWay_11 (by decide) (fun h11 => ?_) (fun h11 => ?_)
    · refine pw_iconst 0 d_MO_isWay_18 (by decide) ?_
      refine pw_zreturn d_MO_isWay_19 rfl ?_ ?_ ?_
      · first | exact Or.inl rfl | exact Or.inr rfl
      · (try simp only [lg_lt, lg_gt, lg_ge, lg_le, lg_eq, Classical.not_not] at h3 h11) <;> simp only [h3, h11, if_true, if_false]
      · rfl
    · refine pw_iconst 1 d_MO_isWay_14 (by decide) ?_
      refine pw_goto (tgt := 19) d_MO_isWay_15 (by decide) ?_
      refine pw_zreturn d_MO_isWay_19 rfl ?_ ?_ ?_
      · first | exact Or.inl rfl | exact Or.inr rfl
      · (try simp only [lg_lt, lg_gt, lg_ge, lg_le, lg_eq, Classical.not_not] at h3 h11) <;> simp only [h3, h11, if_true, if_false]
      · rfl
theorem mo_square (d : Int64) : PM G l m_MO_square [vL d] M (rL (flr d 4096 * flr d 4096)) M 0 0 := by
  refine pm_in [some (vL d), none, none, none] rfl ?_
  refine pw_lload_n d_MO_square_0 rfl ?_
  refine pw_ldc2 (4096) d_MO_square_1 g1019 ?_
  refine c_MO_square_4 (Nat.le_of_ble_eq_true rfl) (mo_floor d 4096 (by decide)) ?_
  refine pw_lstore_n d_MO_square_7 (by decide) ?_
  dsimp only [stL, kil, isL, cat]
  refine pw_lload_n d_MO_square_8 rfl ?_
  refine pw_lload_n d_MO_square_9 rfl ?_
  refine pw_lmul d_MO_square_10 ?_
  refine pw_lreturn d_MO_square_11 rfl ?_ ?_
  · rfl
  · rfl
theorem mo_sampleAt (a b : Int32) : PM G l m_MO_sampleAt [vR (some MK), vI a, vI b] M (rI (8 * a + b)) M 0 0 := by
  refine pm_in [some (vR (some MK)), some (vI a), some (vI b)] rfl ?_
  refine pw_bipush (8) d_MO_sampleAt_0 (by decide) ?_
  refine pw_iload_n d_MO_sampleAt_2 rfl ?_
  refine pw_imul d_MO_sampleAt_3 ?_
  refine pw_iload_n d_MO_sampleAt_4 rfl ?_
  refine pw_iadd d_MO_sampleAt_5 ?_
  refine pw_ireturn d_MO_sampleAt_6 rfl ?_ ?_
  · rfl
  · rfl
theorem mo_drift (d : Int32) : PM G l m_MO_drift [vR (some MK), vI d] M rV (if d < -2000000 then sI M MK 0 1 else if d ≤ 2000000 then sL (sI M MK 0 0) MK 7 d.toInt64 else sI M MK 0 1) 0 0 := by
  refine pm_in [some (vR (some MK)), some (vI d)] rfl ?_
  refine pw_aload_n d_MO_drift_0 rfl ?_
  refine pw_iload_n d_MO_drift_1 rfl ?_
  refine pw_ldc (-2000000) d_MO_drift_2 g920 ?_
  refine pw_icmp_lt (tgt := 13) d_MO_drift_4 (by decide) (fun h4 => ?_) (fun h4 => ?_)
  · refine pw_iconst 1 d_MO_drift_13 (by decide) ?_
    refine pw_goto (tgt := 18) d_MO_drift_14 (by decide) ?_
    refine pw_putI d_MO_drift_18 f_MO_60 rfl rfl rfl ?_
    refine pw_aload_n d_MO_drift_21 rfl ?_
    refine pw_getI d_MO_drift_22 f_MO_60 rfl rfl ?_
    rw [sI_s]
    refine pw_if_ne (tgt := 34) d_MO_drift_25 (by decide) (fun _ => ?_) (fun h => absurd h (by decide))
    refine pw_return d_MO_drift_34 rfl ?_ ?_
    · rfl
    · (try simp only [lg_lt, lg_gt, lg_ge, lg_le, lg_eq, Classical.not_not] at h4) <;> simp only [h4, if_true, if_false]
  · refine pw_iload_n d_MO_drift_7 rfl ?_
    refine pw_ldc (2000000) d_MO_drift_8 g921 ?_
    refine pw_icmp_le (tgt := 17) d_MO_drift_10 (by decide) (fun h10 => ?_) (fun h10 => ?_)
    · refine pw_iconst 0 d_MO_drift_17 (by decide) ?_
      refine pw_putI d_MO_drift_18 f_MO_60 rfl rfl rfl ?_
      refine pw_aload_n d_MO_drift_21 rfl ?_
      refine pw_getI d_MO_drift_22 f_MO_60 rfl rfl ?_
      rw [sI_s]
      refine pw_if_ne (tgt := 34) d_MO_drift_25 (by decide) (fun h => absurd (by decide) h) (fun _ => ?_)
      refine pw_aload_n d_MO_drift_28 rfl ?_
      refine pw_iload_n d_MO_drift_29 rfl ?_
      refine pw_i2l d_MO_drift_30 ?_
      refine pw_putL d_MO_drift_31 f_MO_84 rfl rfl rfl ?_
      refine pw_return d_MO_drift_34 rfl ?_ ?_
      · rfl
      · (try simp only [lg_lt, lg_gt, lg_ge, lg_le, lg_eq, Classical.not_not] at h4 h10) <;> simp only [h4, h10, if_true, if_false]
    · refine pw_iconst 1 d_MO_drift_13 (by decide) ?_
      refine pw_goto (tgt := 18) d_MO_drift_14 (by decide) ?_
      refine pw_putI d_MO_drift_18 f_MO_60 rfl rfl rfl ?_
      refine pw_aload_n d_MO_drift_21 rfl ?_
      refine pw_getI d_MO_drift_22 f_MO_60 rfl rfl ?_
      rw [sI_s]
      refine pw_if_ne (tgt := 34) d_MO_drift_25 (by decide) (fun _ => ?_) (fun h => absurd h (by decide))
      refine pw_return d_MO_drift_34 rfl ?_ ?_
      · rfl
      · (try simp only [lg_lt, lg_gt, lg_ge, lg_le, lg_eq, Classical.not_not] at h4 h10) <;> simp only [h4, h10, if_true, if_false]
theorem mo_put (hM : M.2.2.1 = rf) (n : Nat) (hn : n ≤ 64) (hl : M.1 MK 2 = nI n) (i v : Int32) : PM G l m_MO_put [vR (some MK), vI i, vI v] M rV (if i < 0 then sI M MK 0 1 else if i < nI n then (if v < 0 then sI M MK 0 2 else if v ≤ 255 then sI (sI M MK 0 0) (0, 21) i.toNatClampNeg v else sI M MK 0 2) else sI M MK 0 1) 0 0 := by
  refine pm_in [some (vR (some MK)), some (vI i), some (vI v)] rfl ?_
  refine pw_aload_n d_MO_put_0 rfl ?_
  refine pw_iload_n d_MO_put_1 rfl ?_
  refine pw_if_lt (tgt := 13) d_MO_put_2 (by decide) (fun h2 => ?_) (fun h2 => ?_)
  · refine pw_iconst 1 d_MO_put_13 (by decide) ?_
    refine pw_goto (tgt := 33) d_MO_put_14 (by decide) ?_
    refine pw_putI d_MO_put_33 f_MO_60 rfl rfl rfl ?_
    refine pw_aload_n d_MO_put_36 rfl ?_
    refine pw_getI d_MO_put_37 f_MO_60 rfl rfl ?_
    rw [sI_s]
    refine pw_if_ne (tgt := 50) d_MO_put_40 (by decide) (fun _ => ?_) (fun h => absurd h (by decide))
    refine pw_return d_MO_put_50 rfl ?_ ?_
    · rfl
    · (try simp only [lg_lt, lg_gt, lg_ge, lg_le, lg_eq, Classical.not_not] at h2) <;> simp only [h2, if_true, if_false]
  · refine pw_iload_n d_MO_put_5 rfl ?_
    refine pw_aload_n d_MO_put_6 rfl ?_
    refine pw_getI d_MO_put_7 f_MO_63 rfl rfl ?_
    rw [hl]
    refine pw_icmp_lt (tgt := 17) d_MO_put_10 (by decide) (fun h10 => ?_) (fun h10 => ?_)
    · refine pw_iload_n d_MO_put_17 rfl ?_
      refine pw_if_lt (tgt := 28) d_MO_put_18 (by decide) (fun h18 => ?_) (fun h18 => ?_)
      · refine pw_iconst 2 d_MO_put_28 (by decide) ?_
        refine pw_goto (tgt := 33) d_MO_put_29 (by decide) ?_
        refine pw_putI d_MO_put_33 f_MO_60 rfl rfl rfl ?_
        refine pw_aload_n d_MO_put_36 rfl ?_
        refine pw_getI d_MO_put_37 f_MO_60 rfl rfl ?_
        rw [sI_s]
        refine pw_if_ne (tgt := 50) d_MO_put_40 (by decide) (fun _ => ?_) (fun h => absurd h (by decide))
        refine pw_return d_MO_put_50 rfl ?_ ?_
        · rfl
        · (try simp only [lg_lt, lg_gt, lg_ge, lg_le, lg_eq, Classical.not_not] at h2 h10 h18) <;> simp only [h2, h10, h18, if_true, if_false]
      · refine pw_iload_n d_MO_put_21 rfl ?_
        refine pw_sipush (255) d_MO_put_22 (by decide) ?_
        refine pw_icmp_le (tgt := 32) d_MO_put_25 (by decide) (fun h25 => ?_) (fun h25 => ?_)
        · refine pw_iconst 0 d_MO_put_32 (by decide) ?_
          refine pw_putI d_MO_put_33 f_MO_60 rfl rfl rfl ?_
          refine pw_aload_n d_MO_put_36 rfl ?_
          refine pw_getI d_MO_put_37 f_MO_60 rfl rfl ?_
          rw [sI_s]
          refine pw_if_ne (tgt := 50) d_MO_put_40 (by decide) (fun h => absurd (by decide) h) (fun _ => ?_)
          refine pw_aload_n d_MO_put_43 rfl ?_
          refine pw_getR d_MO_put_44 f_MO_7 rfl rfl (rfO hM rfl) ?_
          refine pw_iload_n d_MO_put_47 rfl ?_
          refine pw_iload_n d_MO_put_48 rfl ?_
          refine pw_iastore d_MO_put_49 rfl (vin_lt h2 h10 hn (by decide)) ?_
          refine pw_return d_MO_put_50 rfl ?_ ?_
          · rfl
          · (try simp only [lg_lt, lg_gt, lg_ge, lg_le, lg_eq, Classical.not_not] at h2 h10 h18 h25) <;> simp only [h2, h10, h18, h25, if_true, if_false]
        · refine pw_iconst 2 d_MO_put_28 (by decide) ?_
          refine pw_goto (tgt := 33) d_MO_put_29 (by decide) ?_
          refine pw_putI d_MO_put_33 f_MO_60 rfl rfl rfl ?_
          refine pw_aload_n d_MO_put_36 rfl ?_
          refine pw_getI d_MO_put_37 f_MO_60 rfl rfl ?_
          rw [sI_s]
          refine pw_if_ne (tgt := 50) d_MO_put_40 (by decide) (fun _ => ?_) (fun h => absurd h (by decide))
          refine pw_return d_MO_put_50 rfl ?_ ?_
          · rfl
          · (try simp only [lg_lt, lg_gt, lg_ge, lg_le, lg_eq, Classical.not_not] at h2 h10 h18 h25) <;> simp only [h2, h10, h18, h25, if_true, if_false]
    · refine pw_iconst 1 d_MO_put_13 (by decide) ?_
      refine pw_goto (tgt := 33) d_MO_put_14 (by decide) ?_
      refine pw_putI d_MO_put_33 f_MO_60 rfl rfl rfl ?_
      refine pw_aload_n d_MO_put_36 rfl ?_
      refine pw_getI d_MO_put_37 f_MO_60 rfl rfl ?_
      rw [sI_s]
      refine pw_if_ne (tgt := 50) d_MO_put_40 (by decide) (fun _ => ?_) (fun h => absurd h (by decide))
      refine pw_return d_MO_put_50 rfl ?_ ?_
      · rfl
      · (try simp only [lg_lt, lg_gt, lg_ge, lg_le, lg_eq, Classical.not_not] at h2 h10) <;> simp only [h2, h10, if_true, if_false]
theorem mo_out (hM : M.2.2.1 = rf) (n : Nat) (hn : n ≤ 48) (hl : M.1 MK 4 = nI n) (i : Int32) : PM G l m_MO_out [vR (some MK), vI i] M (if i < 0 then rI 0 else if i < nI n then rI (M.1 (0, 22) i.toNatClampNeg) else rI 0) (if i < 0 then sI M MK 0 1 else if i < nI n then sI M MK 0 0 else sI M MK 0 1) 0 0 := by
  refine pm_in [some (vR (some MK)), some (vI i)] rfl ?_
  refine pw_aload_n d_MO_out_0 rfl ?_
  refine pw_iload_n d_MO_out_1 rfl ?_
  refine pw_if_lt (tgt := 13) d_MO_out_2 (by decide) (fun h2 => ?_) (fun h2 => ?_)
  · refine pw_iconst 1 d_MO_out_13 (by decide) ?_
    refine pw_goto (tgt := 18) d_MO_out_14 (by decide) ?_
    refine pw_putI d_MO_out_18 f_MO_60 rfl rfl rfl ?_
    refine pw_aload_n d_MO_out_21 rfl ?_
    refine pw_getI d_MO_out_22 f_MO_60 rfl rfl ?_
    rw [sI_s]
    refine pw_if_le (tgt := 32) d_MO_out_25 (by decide) (fun h => absurd h (by decide)) (fun _ => ?_)
    refine pw_iconst 0 d_MO_out_28 (by decide) ?_
    refine pw_goto (tgt := 38) d_MO_out_29 (by decide) ?_
    refine pw_ireturn d_MO_out_38 rfl ?_ ?_
    · simp only [h2, if_true, if_false] <;> simp [sI]
    · (try simp only [lg_lt, lg_gt, lg_ge, lg_le, lg_eq, Classical.not_not] at h2) <;> simp only [h2, if_true, if_false]
  · refine pw_iload_n d_MO_out_5 rfl ?_
    refine pw_aload_n d_MO_out_6 rfl ?_
    refine pw_getI d_MO_out_7 f_MO_70 rfl rfl ?_
    rw [hl]
    refine pw_icmp_lt (tgt := 17) d_MO_out_10 (by decide) (fun h10 => ?_) (fun h10 => ?_)
    · refine pw_iconst 0 d_MO_out_17 (by decide) ?_
      refine pw_putI d_MO_out_18 f_MO_60 rfl rfl rfl ?_
      refine pw_aload_n d_MO_out_21 rfl ?_
      refine pw_getI d_MO_out_22 f_MO_60 rfl rfl ?_
      rw [sI_s]
      refine pw_if_le (tgt := 32) d_MO_out_25 (by decide) (fun _ => ?_) (fun h => absurd (by decide) h)
      refine pw_aload_n d_MO_out_32 rfl ?_
      refine pw_getR d_MO_out_33 f_MO_13 rfl rfl (rfO hM rfl) ?_
      refine pw_iload_n d_MO_out_36 rfl ?_
      refine pw_iaload d_MO_out_37 rfl (vin_lt h2 h10 hn (by decide)) ?_
      refine pw_ireturn d_MO_out_38 rfl ?_ ?_
      · simp only [h2, h10, if_true, if_false] <;> simp [sI]
      · (try simp only [lg_lt, lg_gt, lg_ge, lg_le, lg_eq, Classical.not_not] at h2 h10) <;> simp only [h2, h10, if_true, if_false]
    · refine pw_iconst 1 d_MO_out_13 (by decide) ?_
      refine pw_goto (tgt := 18) d_MO_out_14 (by decide) ?_
      refine pw_putI d_MO_out_18 f_MO_60 rfl rfl rfl ?_
      refine pw_aload_n d_MO_out_21 rfl ?_
      refine pw_getI d_MO_out_22 f_MO_60 rfl rfl ?_
      rw [sI_s]
      refine pw_if_le (tgt := 32) d_MO_out_25 (by decide) (fun h => absurd h (by decide)) (fun _ => ?_)
      refine pw_iconst 0 d_MO_out_28 (by decide) ?_
      refine pw_goto (tgt := 38) d_MO_out_29 (by decide) ?_
      refine pw_ireturn d_MO_out_38 rfl ?_ ?_
      · simp only [h2, h10, if_true, if_false] <;> simp [sI]
      · (try simp only [lg_lt, lg_gt, lg_ge, lg_le, lg_eq, Classical.not_not] at h2 h10) <;> simp only [h2, h10, if_true, if_false]
theorem mo_noPeer (p : Int32) : PM G l m_MO_noPeer [vR (some MK), vI p] M (rI (if p < 0 then 1 else if p < 8 then 0 else 1)) (sI M MK 0 (if p < 0 then 1 else if p < 8 then 0 else 1)) 0 0 := by
  refine pm_in [some (vR (some MK)), some (vI p)] rfl ?_
  refine pw_aload_n d_MO_noPeer_0 rfl ?_
  refine pw_iload_n d_MO_noPeer_1 rfl ?_
  refine pw_if_lt (tgt := 11) d_MO_noPeer_2 (by decide) (fun h2 => ?_) (fun h2 => ?_)
  · refine pw_iconst 1 d_MO_noPeer_11 (by decide) ?_
    refine pw_goto (tgt := 16) d_MO_noPeer_12 (by decide) ?_
    refine pw_putI d_MO_noPeer_16 f_MO_60 rfl rfl rfl ?_
    refine pw_aload_n d_MO_noPeer_19 rfl ?_
    refine pw_getI d_MO_noPeer_20 f_MO_60 rfl rfl ?_
    rw [sI_s]
    refine pw_if_le (tgt := 30) d_MO_noPeer_23 (by decide) (fun h => absurd h (by decide)) (fun _ => ?_)
    refine pw_iconst 1 d_MO_noPeer_26 (by decide) ?_
    refine pw_goto (tgt := 31) d_MO_noPeer_27 (by decide) ?_
    refine pw_zreturn d_MO_noPeer_31 rfl ?_ ?_ ?_
    · first | exact Or.inl rfl | exact Or.inr rfl
    · (try simp only [lg_lt, lg_gt, lg_ge, lg_le, lg_eq, Classical.not_not] at h2) <;> simp only [h2, if_true, if_false]
    · (try simp only [lg_lt, lg_gt, lg_ge, lg_le, lg_eq, Classical.not_not] at h2) <;> simp only [h2, if_true, if_false]
  · refine pw_iload_n d_MO_noPeer_5 rfl ?_
    refine pw_bipush (8) d_MO_noPeer_6 (by decide) ?_
    refine pw_icmp_lt (tgt := 15) d_MO_noPeer_8 (by decide) (fun h8 => ?_) (fun h8 => ?_)
    · refine pw_iconst 0 d_MO_noPeer_15 (by decide) ?_
      refine pw_putI d_MO_noPeer_16 f_MO_60 rfl rfl rfl ?_
      refine pw_aload_n d_MO_noPeer_19 rfl ?_
      refine pw_getI d_MO_noPeer_20 f_MO_60 rfl rfl ?_
      rw [sI_s]
      refine pw_if_le (tgt := 30) d_MO_noPeer_23 (by decide) (fun _ => ?_) (fun h => absurd (by decide) h)
      refine pw_iconst 0 d_MO_noPeer_30 (by decide) ?_
      refine pw_zreturn d_MO_noPeer_31 rfl ?_ ?_ ?_
      · first | exact Or.inl rfl | exact Or.inr rfl
      · (try simp only [lg_lt, lg_gt, lg_ge, lg_le, lg_eq, Classical.not_not] at h2 h8) <;> simp only [h2, h8, if_true, if_false]
      · (try simp only [lg_lt, lg_gt, lg_ge, lg_le, lg_eq, Classical.not_not] at h2 h8) <;> simp only [h2, h8, if_true, if_false]
    · refine pw_iconst 1 d_MO_noPeer_11 (by decide) ?_
      refine pw_goto (tgt := 16) d_MO_noPeer_12 (by decide) ?_
      refine pw_putI d_MO_noPeer_16 f_MO_60 rfl rfl rfl ?_
      refine pw_aload_n d_MO_noPeer_19 rfl ?_
      refine pw_getI d_MO_noPeer_20 f_MO_60 rfl rfl ?_
      rw [sI_s]
      refine pw_if_le (tgt := 30) d_MO_noPeer_23 (by decide) (fun h => absurd h (by decide)) (fun _ => ?_)
      refine pw_iconst 1 d_MO_noPeer_26 (by decide) ?_
      refine pw_goto (tgt := 31) d_MO_noPeer_27 (by decide) ?_
      refine pw_zreturn d_MO_noPeer_31 rfl ?_ ?_ ?_
      · first | exact Or.inl rfl | exact Or.inr rfl
      · (try simp only [lg_lt, lg_gt, lg_ge, lg_le, lg_eq, Classical.not_not] at h2 h8) <;> simp only [h2, h8, if_true, if_false]
      · (try simp only [lg_lt, lg_gt, lg_ge, lg_le, lg_eq, Classical.not_not] at h2 h8) <;> simp only [h2, h8, if_true, if_false]
end MO1
