/-! the class's simple calls -/
section TK1
variable {G : GG} {l : Launch} {M : Mem}
abbrev TKK : KK := (0, 0)
theorem vin_lt {i : Int32} {n N : Nat} (h0 : ¬ i < 0) (h : i < nI n) (hn : n ≤ N) (hN : N < 2 ^ 31) : vp_in i N := by
  rw [vp_in_iff]
  rw [Int32.lt_iff_toInt_lt, Int32.toInt_zero] at h0
  rw [Int32.lt_iff_toInt_lt, nI_toInt (by omega)] at h
  omega
theorem pm_wipe (hM : M.2.2.1 = rf) : PM G l m_TK_wipe [vR (some TKK)] M rV (sI M (0, 1) 1 0) 0 0 := by
  refine pm_in [some (vR (some TKK))] rfl ?_
  refine pw_aload_n d_TK_wipe_0 rfl ?_
  refine pw_getR d_TK_wipe_1 f_TK_14 rfl rfl (rfO hM rfl) ?_
  refine pw_iconst 0 d_TK_wipe_4 (by decide) ?_
  refine pw_putI d_TK_wipe_5 f_TK_49 rfl rfl rfl ?_
  refine pw_return d_TK_wipe_8 rfl ?_ ?_
  · rfl
  · rfl
theorem pm_clock (hM : M.2.2.1 = rf) : PM G l m_TK_clock [vR (some TKK)] M (rL (M.2.1 (0, 5) 0)) M 0 0 := by
  refine pm_in [some (vR (some TKK))] rfl ?_
  refine pw_aload_n d_TK_clock_0 rfl ?_
  refine pw_getR d_TK_clock_1 f_TK_24 rfl rfl (rfO hM rfl) ?_
  refine pw_getL d_TK_clock_4 f_TK_80 rfl rfl ?_
  refine pw_lreturn d_TK_clock_7 rfl ?_ ?_
  · rfl
  · rfl
theorem pm_set (hM : M.2.2.1 = rf) (x : Int64) : PM G l m_TK_set [vR (some TKK), vL x] M rV (sL M (0, 5) 0 x) 0 0 := by
  refine pm_in [some (vR (some TKK)), some (vL x), none] rfl ?_
  refine pw_aload_n d_TK_set_0 rfl ?_
  refine pw_getR d_TK_set_1 f_TK_24 rfl rfl (rfO hM rfl) ?_
  refine pw_lload_n d_TK_set_4 rfl ?_
  refine pw_putL d_TK_set_5 f_TK_80 rfl rfl rfl ?_
  refine pw_return d_TK_set_8 rfl ?_ ?_
  · rfl
  · rfl
theorem pm_size (hM : M.2.2.1 = rf) : PM G l m_TK_size [vR (some TKK)] M (rI (M.1 (0, 3) 1)) M 0 0 := by
  refine pm_in [some (vR (some TKK))] rfl ?_
  refine pw_aload_n d_TK_size_0 rfl ?_
  refine pw_getR d_TK_size_1 f_TK_18 rfl rfl (rfO hM rfl) ?_
  refine pw_getI d_TK_size_4 f_TK_49 rfl rfl ?_
  refine pw_ireturn d_TK_size_7 rfl ?_ ?_
  · rfl
  · rfl
theorem pm_turn (hM : M.2.2.1 = rf) (n : Nat) (hn : n ≤ 48) (hl : M.1 (0, 3) 1 = nI n) : PM G l m_TK_turn [vR (some TKK)] M rV (sI (cpI M (0, 4) (0, 2) n) (0, 1) 1 (nI n)) 0 0 := by
  refine pm_in [some (vR (some TKK))] rfl ?_
  refine pw_aload_n d_TK_turn_0 rfl ?_
  refine pw_getR d_TK_turn_1 f_TK_14 rfl rfl (rfO hM rfl) ?_
  refine pw_aload_n d_TK_turn_4 rfl ?_
  refine pw_getR d_TK_turn_5 f_TK_18 rfl rfl (rfO hM rfl) ?_
  refine c_TK_turn_8 rfl (Nat.le_of_ble_eq_true rfl) (pm_copy hM n hn hl) ?_
  refine pw_return d_TK_turn_11 rfl ?_ ?_
  · rfl
  · rfl
theorem pm_drift (hM : M.2.2.1 = rf) (d : Int32) : PM G l m_TK_drift [vR (some TKK), vI d] M (if d < -2000000 then tE 0 else if d ≤ 2000000 then rV else tE 0) (if d < -2000000 then M else if d ≤ 2000000 then sI M (0, 5) 2 d else M) 1 6 := by
  refine pm_in [some (vR (some TKK)), some (vI d)] rfl ?_
  refine pw_iload_n d_TK_drift_0 rfl ?_
  refine pw_ldc (-2000000) d_TK_drift_1 g437 ?_
  refine pw_icmp_lt (tgt := 12) d_TK_drift_3 (by decide) (fun h3 => ?_) (fun h3 => ?_)
  · refine th_TK_drift_12 (Nat.le_of_ble_eq_true rfl) ?_ ?_
    · (try simp only [lg_lt, lg_gt, lg_ge, lg_le, lg_eq, Classical.not_not] at h3) <;> simp only [h3, if_true, if_false]
    · (try simp only [lg_lt, lg_gt, lg_ge, lg_le, lg_eq, Classical.not_not] at h3) <;> simp only [h3, if_true, if_false]
  · refine pw_iload_n d_TK_drift_6 rfl ?_
    refine pw_ldc (2000000) d_TK_drift_7 g438 ?_
    refine pw_icmp_le (tgt := 22) d_TK_drift_9 (by decide) (fun h9 => ?_) (fun h9 => ?_)
    · refine pw_aload_n d_TK_drift_22 rfl ?_
      refine pw_getR d_TK_drift_23 f_TK_24 rfl rfl (rfO hM rfl) ?_
      refine pw_iload_n d_TK_drift_26 rfl ?_
      refine pw_putI d_TK_drift_27 f_TK_88 rfl rfl rfl ?_
      refine pw_return d_TK_drift_30 rfl ?_ ?_
      · (try simp only [lg_lt, lg_gt, lg_ge, lg_le, lg_eq, Classical.not_not] at h3 h9) <;> simp only [h3, h9, if_true, if_false]
      · (try simp only [lg_lt, lg_gt, lg_ge, lg_le, lg_eq, Classical.not_not] at h3 h9) <;> simp only [h3, h9, if_true, if_false]
    · refine th_TK_drift_12 (Nat.le_of_ble_eq_true rfl) ?_ ?_
      · (try simp only [lg_lt, lg_gt, lg_ge, lg_le, lg_eq, Classical.not_not] at h3 h9) <;> simp only [h3, h9, if_true, if_false]
      · (try simp only [lg_lt, lg_gt, lg_ge, lg_le, lg_eq, Classical.not_not] at h3 h9) <;> simp only [h3, h9, if_true, if_false]
theorem pm_isTravel (x : Int64) : PM G l m_TK_isTravel [vL x] M (rI (if x < 0 then 0 else if 1099511627776 < x then 0 else 1)) M 0 0 := by
  refine pm_in [some (vL x), none] rfl ?_
  refine pw_lload_n d_TK_isTravel_0 rfl ?_
  refine pw_lconst 0 d_TK_isTravel_1 (by decide) ?_
  refine pw_lcmp d_TK_isTravel_2 ?_
  refine pw_if_lt (tgt := 18) d_TK_isTravel_3 (by decide) (fun h3 => ?_) (fun h3 => ?_)
  · refine pw_iconst 0 d_TK_isTravel_18 (by decide) ?_
    refine pw_zreturn d_TK_isTravel_19 rfl ?_ ?_ ?_
    · first | exact Or.inl rfl | exact Or.inr rfl
    · (try simp only [lg_lt, lg_gt, lg_ge, lg_le, lg_eq, Classical.not_not] at h3) <;> simp only [h3, if_true, if_false]
    · rfl
  · refine pw_lload_n d_TK_isTravel_6 rfl ?_
    refine pw_ldc2 (1099511627776) d_TK_isTravel_7 g487 ?_
    refine pw_lcmp d_TK_isTravel_10 ?_
    refine pw_if_gt (tgt := 18) d_TK_isTravel_11 (by decide) (fun h11 => ?_) (fun h11 => ?_)
    · refine pw_iconst 0 d_TK_isTravel_18 (by decide) ?_
      refine pw_zreturn d_TK_isTravel_19 rfl ?_ ?_ ?_
      · first | exact Or.inl rfl | exact Or.inr rfl
      · (try simp only [lg_lt, lg_gt, lg_ge, lg_le, lg_eq, Classical.not_not] at h3 h11) <;> simp only [h3, h11, if_true, if_false]
      · rfl
    · refine pw_iconst 1 d_TK_isTravel_14 (by decide) ?_
      refine pw_goto (tgt := 19) d_TK_isTravel_15 (by decide) ?_
      refine pw_zreturn d_TK_isTravel_19 rfl ?_ ?_ ?_
      · first | exact Or.inl rfl | exact Or.inr rfl
      · (try simp only [lg_lt, lg_gt, lg_ge, lg_le, lg_eq, Classical.not_not] at h3 h11) <;> simp only [h3, h11, if_true, if_false]
      · rfl
theorem pm_known (hM : M.2.2.1 = rf) (p : Nat) (hp : p < 8) : PM G l m_TK_known [vR (some TKK), vI (nI p)] M (rR (some (p + 1, 0))) M 0 0 := by
  refine pm_in [some (vR (some TKK)), some (vI (nI p))] rfl ?_
  refine pw_iload_n d_TK_known_0 rfl ?_
  refine pw_if_lt (tgt := 10) d_TK_known_1 (by decide) (fun h => ?_) (fun h => ?_)
  · exact absurd h (nI_pos (by omega))
  · refine pw_iload_n d_TK_known_4 rfl ?_
    refine pw_bipush (8) d_TK_known_5 (by decide) ?_
    refine pw_icmp_lt (tgt := 20) d_TK_known_7 (by decide) (fun h2 => ?_) (fun h2 => ?_)
    · refine pw_aload_n d_TK_known_20 rfl ?_
      refine pw_getR d_TK_known_21 f_TK_30 rfl rfl (rfO hM rfl) ?_
      refine pw_iload_n d_TK_known_24 rfl ?_
      refine pw_aaload d_TK_known_25 rfl (vp_in_nI hp (by decide)) (rfO hM (rf6 hp)) ?_
      refine pw_areturn d_TK_known_26 rfl ?_ ?_
      · rfl
      · rfl
    · exact absurd (nI_lt (b := 8) hp (by decide)) h2
theorem pm_known_x (hM : M.2.2.1 = rf) (p : Int32) (hp : p < 0 ∨ 8 ≤ p) : PM G l m_TK_known [vR (some TKK), vI p] M (tE 2) M 1 6 := by
  refine pm_in [some (vR (some TKK)), some (vI p)] rfl ?_
  refine pw_iload_n d_TK_known_0 rfl ?_
  refine pw_if_lt (tgt := 10) d_TK_known_1 (by decide) (fun h => ?_) (fun h => ?_)
  · exact th_TK_known_10 (Nat.le_of_ble_eq_true rfl) rfl rfl
  · refine pw_iload_n d_TK_known_4 rfl ?_
    refine pw_bipush (8) d_TK_known_5 (by decide) ?_
    refine pw_icmp_lt (tgt := 20) d_TK_known_7 (by decide) (fun h2 => ?_) (fun h2 => ?_)
    · exact absurd hp (by rw [not_or, i32_nlt]; exact ⟨(i32_nlt _ _).mp h, fun q => (i32_nlt _ _).mpr q h2⟩)
    · exact th_TK_known_10 (Nat.le_of_ble_eq_true rfl) rfl rfl
theorem pm_put (hM : M.2.2.1 = rf) (n : Nat) (hn : n ≤ 64) (hl : M.1 (0, 1) 1 = nI n) (i v : Int32) : PM G l m_TK_put [vR (some TKK), vI i, vI v] M (if i < 0 then tE 2 else if i < nI n then (if v < 0 then tE 0 else if v ≤ 255 then rV else tE 0) else tE 2) (if i < 0 then M else if i < nI n then (if v < 0 then M else if v ≤ 255 then sI M (0, 2) i.toNatClampNeg v else M) else M) 1 6 := by
  refine pm_in [some (vR (some TKK)), some (vI i), some (vI v)] rfl ?_
  refine pw_iload_n d_TK_put_0 rfl ?_
  refine pw_if_lt (tgt := 15) d_TK_put_1 (by decide) (fun h1 => ?_) (fun h1 => ?_)
  · refine th_TK_put_15 (Nat.le_of_ble_eq_true rfl) ?_ ?_
    · (try simp only [lg_lt, lg_gt, lg_ge, lg_le, lg_eq, Classical.not_not] at h1) <;> simp only [h1, if_true, if_false]
    · (try simp only [lg_lt, lg_gt, lg_ge, lg_le, lg_eq, Classical.not_not] at h1) <;> simp only [h1, if_true, if_false]
  · refine pw_iload_n d_TK_put_4 rfl ?_
    refine pw_aload_n d_TK_put_5 rfl ?_
    refine pw_getR d_TK_put_6 f_TK_14 rfl rfl (rfO hM rfl) ?_
    refine pw_getI d_TK_put_9 f_TK_49 rfl rfl ?_
    rw [hl]
    refine pw_icmp_lt (tgt := 25) d_TK_put_12 (by decide) (fun h12 => ?_) (fun h12 => ?_)
    · refine pw_iload_n d_TK_put_25 rfl ?_
      refine pw_if_lt (tgt := 36) d_TK_put_26 (by decide) (fun h26 => ?_) (fun h26 => ?_)
      · refine th_TK_put_36 (Nat.le_of_ble_eq_true rfl) ?_ ?_
        · (try simp only [lg_lt, lg_gt, lg_ge, lg_le, lg_eq, Classical.not_not] at h1 h12 h26) <;> simp only [h1, h12, h26, if_true, if_false]
        · (try simp only [lg_lt, lg_gt, lg_ge, lg_le, lg_eq, Classical.not_not] at h1 h12 h26) <;> simp only [h1, h12, h26, if_true, if_false]
      · refine pw_iload_n d_TK_put_29 rfl ?_
        refine pw_sipush (255) d_TK_put_30 (by decide) ?_
        refine pw_icmp_le (tgt := 46) d_TK_put_33 (by decide) (fun h33 => ?_) (fun h33 => ?_)
        · refine pw_aload_n d_TK_put_46 rfl ?_
          refine pw_getR d_TK_put_47 f_TK_14 rfl rfl (rfO hM rfl) ?_
          refine pw_getR d_TK_put_50 f_TK_68 rfl rfl (rfO hM rfl) ?_
          refine pw_iload_n d_TK_put_53 rfl ?_
          refine pw_iload_n d_TK_put_54 rfl ?_
          refine pw_iastore d_TK_put_55 rfl (vin_lt h1 h12 hn (by decide)) ?_
          refine pw_return d_TK_put_56 rfl ?_ ?_
          · (try simp only [lg_lt, lg_gt, lg_ge, lg_le, lg_eq, Classical.not_not] at h1 h12 h26 h33) <;> simp only [h1, h12, h26, h33, if_true, if_false]
          · (try simp only [lg_lt, lg_gt, lg_ge, lg_le, lg_eq, Classical.not_not] at h1 h12 h26 h33) <;> simp only [h1, h12, h26, h33, if_true, if_false]
        · refine th_TK_put_36 (Nat.le_of_ble_eq_true rfl) ?_ ?_
          · (try simp only [lg_lt, lg_gt, lg_ge, lg_le, lg_eq, Classical.not_not] at h1 h12 h26 h33) <;> simp only [h1, h12, h26, h33, if_true, if_false]
          · (try simp only [lg_lt, lg_gt, lg_ge, lg_le, lg_eq, Classical.not_not] at h1 h12 h26 h33) <;> simp only [h1, h12, h26, h33, if_true, if_false]
    · refine th_TK_put_15 (Nat.le_of_ble_eq_true rfl) ?_ ?_
      · (try simp only [lg_lt, lg_gt, lg_ge, lg_le, lg_eq, Classical.not_not] at h1 h12) <;> simp only [h1, h12, if_true, if_false]
      · (try simp only [lg_lt, lg_gt, lg_ge, lg_le, lg_eq, Classical.not_not] at h1 h12) <;> simp only [h1, h12, if_true, if_false]
theorem pm_out (hM : M.2.2.1 = rf) (n : Nat) (hn : n ≤ 48) (hl : M.1 (0, 3) 1 = nI n) (i : Int32) : PM G l m_TK_out [vR (some TKK), vI i] M (if i < 0 then tE 2 else if i < nI n then rI (M.1 (0, 4) i.toNatClampNeg) else tE 2) M 1 6 := by
  refine pm_in [some (vR (some TKK)), some (vI i)] rfl ?_
  refine pw_iload_n d_TK_out_0 rfl ?_
  refine pw_if_lt (tgt := 15) d_TK_out_1 (by decide) (fun h1 => ?_) (fun h1 => ?_)
  · refine th_TK_out_15 (Nat.le_of_ble_eq_true rfl) ?_ ?_
    · (try simp only [lg_lt, lg_gt, lg_ge, lg_le, lg_eq, Classical.not_not] at h1) <;> simp only [h1, if_true, if_false]
    · rfl
  · refine pw_iload_n d_TK_out_4 rfl ?_
    refine pw_aload_n d_TK_out_5 rfl ?_
    refine pw_getR d_TK_out_6 f_TK_18 rfl rfl (rfO hM rfl) ?_
    refine pw_getI d_TK_out_9 f_TK_49 rfl rfl ?_
    rw [hl]
    refine pw_icmp_lt (tgt := 25) d_TK_out_12 (by decide) (fun h12 => ?_) (fun h12 => ?_)
    · refine pw_aload_n d_TK_out_25 rfl ?_
      refine pw_getR d_TK_out_26 f_TK_18 rfl rfl (rfO hM rfl) ?_
      refine pw_getR d_TK_out_29 f_TK_68 rfl rfl (rfO hM rfl) ?_
      refine pw_iload_n d_TK_out_32 rfl ?_
      refine pw_iaload d_TK_out_33 rfl (vin_lt h1 h12 hn (by decide)) ?_
      refine pw_ireturn d_TK_out_34 rfl ?_ ?_
      · (try simp only [lg_lt, lg_gt, lg_ge, lg_le, lg_eq, Classical.not_not] at h1 h12) <;> simp only [h1, h12, if_true, if_false]
      · rfl
    · refine th_TK_out_15 (Nat.le_of_ble_eq_true rfl) ?_ ?_
      · (try simp only [lg_lt, lg_gt, lg_ge, lg_le, lg_eq, Classical.not_not] at h1 h12) <;> simp only [h1, h12, if_true, if_false]
      · rfl
end TK1
