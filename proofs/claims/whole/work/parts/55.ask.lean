/-! what is asked of a peer, a sample, the choice -/
def peC (M : Mem) (p c : Nat) (o : Nat → Nat) : Nat → Int64
  | 0 => M.2.1 (PEK p) 0
  | 1 => M.2.1 (PEK p) 1
  | 2 => M.2.1 (p + 1, 1) (o 0)
  | 3 => M.2.1 (p + 1, 2) (o 0)
  | 4 => cDs M p c o (M.1 TPK 1)
  | 5 => M.2.1 (PEK p) 7
  | 6 => cDt M p c o (M.1 TPK 1)
  | 7 => (M.1 (PEK p) 6).toInt64
  | 8 => (M.1 (PEK p) 2).toInt64
  | _ => (M.1 (PEK p) 3).toInt64
def peM (M : Mem) (p c : Nat) : Nat → Int64
  | 0 => M.2.1 (0, 23) p
  | 1 => M.2.1 (0, 24) p
  | 2 => mOf M p c
  | 3 => mDe M p c
  | 4 => mDs M p c
  | 5 => mJi M p c
  | 6 => mDt M p c
  | 7 => (M.1 (0, 29) p).toInt64
  | 8 => (M.1 (0, 25) p).toInt64
  | _ => (M.1 (0, 26) p).toInt64
section ASK
variable {G : GG} {l : Launch} {M : Mem}
theorem pm_peer_x2 (hM : M.2.2.1 = rf) (p w : Int32) (hp : p < 0 ∨ 8 ≤ p) : PM G l m_TK_peer [vR (some TKK), vI p, vI w] M (tE 2) M 1 6 := by
  refine pm_in [some (vR (some TKK)), some (vI p), some (vI w), none] rfl ?_
  refine pw_aload_n d_TK_peer_0 rfl ?_
  refine pw_iload_n d_TK_peer_1 rfl ?_
  exact cX_TK_peer_2 rfl (Nat.le_of_ble_eq_true rfl) (pm_known_x hM p hp) rfl rfl
theorem pm_peer_x0 (hM : M.2.2.1 = rf) (p : Nat) (hp : p < 8) (w : Int32) (hw : w < 0 ∨ 9 < w) : PM G l m_TK_peer [vR (some TKK), vI (nI p), vI w] M (tE 0) M 1 6 := by
  refine pm_in [some (vR (some TKK)), some (vI (nI p)), some (vI w), none] rfl ?_
  refine pw_aload_n d_TK_peer_0 rfl ?_
  refine pw_iload_n d_TK_peer_1 rfl ?_
  refine c_TK_peer_2 rfl (Nat.le_of_ble_eq_true rfl) (pm_known hM p hp) ?_
  refine pw_astore_n d_TK_peer_5 (by decide) ?_
  dsimp only [stL, kil, isL, cat]
  refine pw_iload_n d_TK_peer_6 rfl ?_
  refine pw_if_lt (tgt := 16) d_TK_peer_7 (by decide) (fun h => ?_) (fun h => ?_)
  · exact th_TK_peer_16 (Nat.le_of_ble_eq_true rfl) rfl rfl
  · refine pw_iload_n d_TK_peer_10 rfl ?_
    refine pw_bipush (9) d_TK_peer_11 (by decide) ?_
    refine pw_icmp_le (tgt := 26) d_TK_peer_13 (by decide) (fun hQ => absurd hQ ((fun z => by rw [Int32.le_iff_toInt_le] at z; have := hw.resolve_left h; rw [Int32.lt_iff_toInt_lt] at this; omega))) (fun _ => ?_)
    exact th_TK_peer_16 (Nat.le_of_ble_eq_true rfl) rfl rfl
theorem pm_peer_x1 (hM : M.2.2.1 = rf) (p : Nat) (hp : p < 8) (w : Nat) (h2 : 2 ≤ w) (h6 : w ≤ 6) (hC : M.1 (PEK p) 6 = 0) : PM G l m_TK_peer [vR (some TKK), vI (nI p), vI (nI w)] M (tE 1) M 1 6 := by
  refine pm_in [some (vR (some TKK)), some (vI (nI p)), some (vI (nI w)), none] rfl ?_
  refine pw_aload_n d_TK_peer_0 rfl ?_
  refine pw_iload_n d_TK_peer_1 rfl ?_
  refine c_TK_peer_2 rfl (Nat.le_of_ble_eq_true rfl) (pm_known hM p hp) ?_
  refine pw_astore_n d_TK_peer_5 (by decide) ?_
  dsimp only [stL, kil, isL, cat]
  refine pw_iload_n d_TK_peer_6 rfl ?_
  refine pw_if_lt (tgt := 16) d_TK_peer_7 (by decide) (fun hQ => absurd hQ (nI_pos (by omega))) (fun _ => ?_)
  refine pw_iload_n d_TK_peer_10 rfl ?_
  refine pw_bipush (9) d_TK_peer_11 (by decide) ?_
  refine pw_icmp_le (tgt := 26) d_TK_peer_13 (by decide) (fun _ => ?_) (fun hQ => absurd (nI_le (b := 9) (by omega) (by omega)) hQ)
  refine pw_iload_n d_TK_peer_26 rfl ?_
  refine pw_iconst 2 d_TK_peer_27 (by decide) ?_
  refine pw_icmp_lt (tgt := 54) d_TK_peer_28 (by decide) (fun hQ => absurd hQ (nI_nlt (b := 2) h2 (by omega))) (fun _ => ?_)
  refine pw_iload_n d_TK_peer_31 rfl ?_
  refine pw_bipush (6) d_TK_peer_32 (by decide) ?_
  refine pw_icmp_gt (tgt := 54) d_TK_peer_34 (by decide) (fun hQ => absurd hQ (nI_nlt (a := 6) h6 (by omega))) (fun _ => ?_)
  refine pw_aload_n d_TK_peer_37 rfl ?_
  refine pw_getI d_TK_peer_38 f_TK_175 rfl rfl ?_
  rw [hC]
  refine pw_if_ne (tgt := 54) d_TK_peer_41 (by decide) (fun hQ => absurd (rfl) hQ) (fun _ => ?_)
  exact th_TK_peer_44 (Nat.le_of_ble_eq_true rfl) rfl rfl
theorem pm_peer (hM : M.2.2.1 = rf) (p c : Nat) (hp : p < 8) (hc : c ≤ 8) (hC : M.1 (PEK p) 6 = nI c) (o : Nat → Nat) (ho : oOK M p c o) (w : Nat) (hw : w ≤ 9) (h0 : 2 ≤ w → w ≤ 6 → 0 < c) : PM G l m_TK_peer [vR (some TKK), vI (nI p), vI (nI w)] M (rL (peC M p c o w)) M 0 0 := by
  refine pm_in [some (vR (some TKK)), some (vI (nI p)), some (vI (nI w)), none] rfl ?_
  refine pw_aload_n d_TK_peer_0 rfl ?_
  refine pw_iload_n d_TK_peer_1 rfl ?_
  refine c_TK_peer_2 rfl (Nat.le_of_ble_eq_true rfl) (pm_known hM p hp) ?_
  refine pw_astore_n d_TK_peer_5 (by decide) ?_
  dsimp only [stL, kil, isL, cat]
  refine pw_iload_n d_TK_peer_6 rfl ?_
  refine pw_if_lt (tgt := 16) d_TK_peer_7 (by decide) (fun hQ => absurd hQ (nI_pos (by omega))) (fun _ => ?_)
  refine pw_iload_n d_TK_peer_10 rfl ?_
  refine pw_bipush (9) d_TK_peer_11 (by decide) ?_
  refine pw_icmp_le (tgt := 26) d_TK_peer_13 (by decide) (fun _ => ?_) (fun hQ => absurd (nI_le (b := 9) (by omega) (by omega)) hQ)
  have hcase : w = 0 ∨ w = 1 ∨ w = 2 ∨ w = 3 ∨ w = 4 ∨ w = 5 ∨ w = 6 ∨ w = 7 ∨ w = 8 ∨ w = 9 := by omega
  rcases hcase with rfl | rfl | rfl | rfl | rfl | rfl | rfl | rfl | rfl | rfl
  · refine pw_iload_n d_TK_peer_26 rfl ?_
    refine pw_iconst 2 d_TK_peer_27 (by decide) ?_
    refine pw_icmp_lt (tgt := 54) d_TK_peer_28 (by decide) (fun _ => ?_) (fun hQ => absurd ((by decide)) hQ)
    refine pw_iload_n d_TK_peer_54 rfl ?_
    refine pw_tableIn (tgt := 104) d_TK_peer_55 (by decide) (by decide) rfl (by decide) ?_
    refine pw_aload_n d_TK_peer_104 rfl ?_
    refine pw_getL d_TK_peer_105 f_TK_106 rfl rfl ?_
    refine pw_lreturn d_TK_peer_108 rfl ?_ ?_
    · rfl
    · rfl
  · refine pw_iload_n d_TK_peer_26 rfl ?_
    refine pw_iconst 2 d_TK_peer_27 (by decide) ?_
    refine pw_icmp_lt (tgt := 54) d_TK_peer_28 (by decide) (fun _ => ?_) (fun hQ => absurd ((by decide)) hQ)
    refine pw_iload_n d_TK_peer_54 rfl ?_
    refine pw_tableIn (tgt := 109) d_TK_peer_55 (by decide) (by decide) rfl (by decide) ?_
    refine pw_aload_n d_TK_peer_109 rfl ?_
    refine pw_getL d_TK_peer_110 f_TK_180 rfl rfl ?_
    refine pw_lreturn d_TK_peer_113 rfl ?_ ?_
    · rfl
    · rfl
  · have h0 := h0 (by decide) (by decide)
    refine pw_iload_n d_TK_peer_26 rfl ?_
    refine pw_iconst 2 d_TK_peer_27 (by decide) ?_
    refine pw_icmp_lt (tgt := 54) d_TK_peer_28 (by decide) (fun hQ => absurd hQ ((by decide))) (fun _ => ?_)
    refine pw_iload_n d_TK_peer_31 rfl ?_
    refine pw_bipush (6) d_TK_peer_32 (by decide) ?_
    refine pw_icmp_gt (tgt := 54) d_TK_peer_34 (by decide) (fun hQ => absurd hQ ((by decide))) (fun _ => ?_)
    refine pw_aload_n d_TK_peer_37 rfl ?_
    refine pw_getI d_TK_peer_38 f_TK_175 rfl rfl ?_
    rw [hC]
    refine pw_if_ne (tgt := 54) d_TK_peer_41 (by decide) (fun _ => ?_) (fun hQ => absurd hQ ((nI_ne0 h0 (by omega))))
    refine pw_iload_n d_TK_peer_54 rfl ?_
    refine pw_tableIn (tgt := 114) d_TK_peer_55 (by decide) (by decide) rfl (by decide) ?_
    refine pw_aload_n d_TK_peer_114 rfl ?_
    refine pw_iconst 0 d_TK_peer_115 (by decide) ?_
    refine c_TK_peer_116 rfl (Nat.le_of_ble_eq_true rfl) (pm_offsetAt hM p c o ho 0 h0 hc) ?_
    refine pw_lreturn d_TK_peer_119 rfl ?_ ?_
    · rfl
    · rfl
  · have h0 := h0 (by decide) (by decide)
    refine pw_iload_n d_TK_peer_26 rfl ?_
    refine pw_iconst 2 d_TK_peer_27 (by decide) ?_
    refine pw_icmp_lt (tgt := 54) d_TK_peer_28 (by decide) (fun hQ => absurd hQ ((by decide))) (fun _ => ?_)
    refine pw_iload_n d_TK_peer_31 rfl ?_
    refine pw_bipush (6) d_TK_peer_32 (by decide) ?_
    refine pw_icmp_gt (tgt := 54) d_TK_peer_34 (by decide) (fun hQ => absurd hQ ((by decide))) (fun _ => ?_)
    refine pw_aload_n d_TK_peer_37 rfl ?_
    refine pw_getI d_TK_peer_38 f_TK_175 rfl rfl ?_
    rw [hC]
    refine pw_if_ne (tgt := 54) d_TK_peer_41 (by decide) (fun _ => ?_) (fun hQ => absurd hQ ((nI_ne0 h0 (by omega))))
    refine pw_iload_n d_TK_peer_54 rfl ?_
    refine pw_tableIn (tgt := 120) d_TK_peer_55 (by decide) (by decide) rfl (by decide) ?_
    refine pw_aload_n d_TK_peer_120 rfl ?_
    refine pw_iconst 0 d_TK_peer_121 (by decide) ?_
    refine c_TK_peer_122 rfl (Nat.le_of_ble_eq_true rfl) (pm_delayAt hM p c o ho 0 h0 hc) ?_
    refine pw_lreturn d_TK_peer_125 rfl ?_ ?_
    · rfl
    · rfl
  · have h0 := h0 (by decide) (by decide)
    refine pw_iload_n d_TK_peer_26 rfl ?_
    refine pw_iconst 2 d_TK_peer_27 (by decide) ?_
    refine pw_icmp_lt (tgt := 54) d_TK_peer_28 (by decide) (fun hQ => absurd hQ ((by decide))) (fun _ => ?_)
    refine pw_iload_n d_TK_peer_31 rfl ?_
    refine pw_bipush (6) d_TK_peer_32 (by decide) ?_
    refine pw_icmp_gt (tgt := 54) d_TK_peer_34 (by decide) (fun hQ => absurd hQ ((by decide))) (fun _ => ?_)
    refine pw_aload_n d_TK_peer_37 rfl ?_
    refine pw_getI d_TK_peer_38 f_TK_175 rfl rfl ?_
    rw [hC]
    refine pw_if_ne (tgt := 54) d_TK_peer_41 (by decide) (fun _ => ?_) (fun hQ => absurd hQ ((nI_ne0 h0 (by omega))))
    refine pw_iload_n d_TK_peer_54 rfl ?_
    refine pw_tableIn (tgt := 126) d_TK_peer_55 (by decide) (by decide) rfl (by decide) ?_
    refine pw_aload_n d_TK_peer_126 rfl ?_
    refine pw_aload_n d_TK_peer_127 rfl ?_
    refine pw_getR d_TK_peer_128 f_TK_24 rfl rfl (rfO hM rfl) ?_
    refine pw_getI d_TK_peer_131 f_TK_77 rfl rfl ?_
    refine c_TK_peer_134 rfl (Nat.le_of_ble_eq_true rfl) (pm_dispersion hM p c o ho hc hC _) ?_
    refine pw_lreturn d_TK_peer_137 rfl ?_ ?_
    · rfl
    · rfl
  · have h0 := h0 (by decide) (by decide)
    refine pw_iload_n d_TK_peer_26 rfl ?_
    refine pw_iconst 2 d_TK_peer_27 (by decide) ?_
    refine pw_icmp_lt (tgt := 54) d_TK_peer_28 (by decide) (fun hQ => absurd hQ ((by decide))) (fun _ => ?_)
    refine pw_iload_n d_TK_peer_31 rfl ?_
    refine pw_bipush (6) d_TK_peer_32 (by decide) ?_
    refine pw_icmp_gt (tgt := 54) d_TK_peer_34 (by decide) (fun hQ => absurd hQ ((by decide))) (fun _ => ?_)
    refine pw_aload_n d_TK_peer_37 rfl ?_
    refine pw_getI d_TK_peer_38 f_TK_175 rfl rfl ?_
    rw [hC]
    refine pw_if_ne (tgt := 54) d_TK_peer_41 (by decide) (fun _ => ?_) (fun hQ => absurd hQ ((nI_ne0 h0 (by omega))))
    refine pw_iload_n d_TK_peer_54 rfl ?_
    refine pw_tableIn (tgt := 138) d_TK_peer_55 (by decide) (by decide) rfl (by decide) ?_
    refine pw_aload_n d_TK_peer_138 rfl ?_
    refine pw_getL d_TK_peer_139 f_TK_193 rfl rfl ?_
    refine pw_lreturn d_TK_peer_142 rfl ?_ ?_
    · rfl
    · rfl
  · have h0 := h0 (by decide) (by decide)
    refine pw_iload_n d_TK_peer_26 rfl ?_
    refine pw_iconst 2 d_TK_peer_27 (by decide) ?_
    refine pw_icmp_lt (tgt := 54) d_TK_peer_28 (by decide) (fun hQ => absurd hQ ((by decide))) (fun _ => ?_)
    refine pw_iload_n d_TK_peer_31 rfl ?_
    refine pw_bipush (6) d_TK_peer_32 (by decide) ?_
    refine pw_icmp_gt (tgt := 54) d_TK_peer_34 (by decide) (fun hQ => absurd hQ ((by decide))) (fun _ => ?_)
    refine pw_aload_n d_TK_peer_37 rfl ?_
    refine pw_getI d_TK_peer_38 f_TK_175 rfl rfl ?_
    rw [hC]
    refine pw_if_ne (tgt := 54) d_TK_peer_41 (by decide) (fun _ => ?_) (fun hQ => absurd hQ ((nI_ne0 h0 (by omega))))
    refine pw_iload_n d_TK_peer_54 rfl ?_
    refine pw_tableIn (tgt := 143) d_TK_peer_55 (by decide) (by decide) rfl (by decide) ?_
    refine pw_aload_n d_TK_peer_143 rfl ?_
    refine pw_aload_n d_TK_peer_144 rfl ?_
    refine pw_getR d_TK_peer_145 f_TK_24 rfl rfl (rfO hM rfl) ?_
    refine pw_getI d_TK_peer_148 f_TK_77 rfl rfl ?_
    refine c_TK_peer_151 rfl (Nat.le_of_ble_eq_true rfl) (pm_distance hM p c o ho hc h0 hC _) ?_
    refine pw_lreturn d_TK_peer_154 rfl ?_ ?_
    · rfl
    · rfl
  · refine pw_iload_n d_TK_peer_26 rfl ?_
    refine pw_iconst 2 d_TK_peer_27 (by decide) ?_
    refine pw_icmp_lt (tgt := 54) d_TK_peer_28 (by decide) (fun hQ => absurd hQ ((by decide))) (fun _ => ?_)
    refine pw_iload_n d_TK_peer_31 rfl ?_
    refine pw_bipush (6) d_TK_peer_32 (by decide) ?_
    refine pw_icmp_gt (tgt := 54) d_TK_peer_34 (by decide) (fun _ => ?_) (fun hQ => absurd ((by decide)) hQ)
    refine pw_iload_n d_TK_peer_54 rfl ?_
    refine pw_tableIn (tgt := 155) d_TK_peer_55 (by decide) (by decide) rfl (by decide) ?_
    refine pw_aload_n d_TK_peer_155 rfl ?_
    refine pw_getI d_TK_peer_156 f_TK_175 rfl rfl ?_
    refine pw_i2l d_TK_peer_159 ?_
    refine pw_lreturn d_TK_peer_160 rfl ?_ ?_
    · rfl
    · rfl
  · refine pw_iload_n d_TK_peer_26 rfl ?_
    refine pw_iconst 2 d_TK_peer_27 (by decide) ?_
    refine pw_icmp_lt (tgt := 54) d_TK_peer_28 (by decide) (fun hQ => absurd hQ ((by decide))) (fun _ => ?_)
    refine pw_iload_n d_TK_peer_31 rfl ?_
    refine pw_bipush (6) d_TK_peer_32 (by decide) ?_
    refine pw_icmp_gt (tgt := 54) d_TK_peer_34 (by decide) (fun _ => ?_) (fun hQ => absurd ((by decide)) hQ)
    refine pw_iload_n d_TK_peer_54 rfl ?_
    refine pw_tableIn (tgt := 161) d_TK_peer_55 (by decide) (by decide) rfl (by decide) ?_
    refine pw_aload_n d_TK_peer_161 rfl ?_
    refine pw_getI d_TK_peer_162 f_TK_197 rfl rfl ?_
    refine pw_i2l d_TK_peer_165 ?_
    refine pw_lreturn d_TK_peer_166 rfl ?_ ?_
    · rfl
    · rfl
  · refine pw_iload_n d_TK_peer_26 rfl ?_
    refine pw_iconst 2 d_TK_peer_27 (by decide) ?_
    refine pw_icmp_lt (tgt := 54) d_TK_peer_28 (by decide) (fun hQ => absurd hQ ((by decide))) (fun _ => ?_)
    refine pw_iload_n d_TK_peer_31 rfl ?_
    refine pw_bipush (6) d_TK_peer_32 (by decide) ?_
    refine pw_icmp_gt (tgt := 54) d_TK_peer_34 (by decide) (fun _ => ?_) (fun hQ => absurd ((by decide)) hQ)
    refine pw_iload_n d_TK_peer_54 rfl ?_
    refine pw_tableOut (tgt := 167) d_TK_peer_55 (by first | exact Or.inr (by decide) | exact Or.inl (by decide) | assumption) (by decide) ?_
    refine pw_aload_n d_TK_peer_167 rfl ?_
    refine pw_getI d_TK_peer_168 f_TK_200 rfl rfl ?_
    refine pw_i2l d_TK_peer_171 ?_
    refine pw_lreturn d_TK_peer_172 rfl ?_ ?_
    · rfl
    · rfl
theorem pm_sample_x2 (hM : M.2.2.1 = rf) (p i w : Int32) (hp : p < 0 ∨ 8 ≤ p) : PM G l m_TK_sample [vR (some TKK), vI p, vI i, vI w] M (tE 2) M 1 6 := by
  refine pm_in [some (vR (some TKK)), some (vI p), some (vI i), some (vI w), none] rfl ?_
  refine pw_aload_n d_TK_sample_0 rfl ?_
  refine pw_iload_n d_TK_sample_1 rfl ?_
  exact cX_TK_sample_2 rfl (Nat.le_of_ble_eq_true rfl) (pm_known_x hM p hp) rfl rfl
theorem pm_sample_x2i (hM : M.2.2.1 = rf) (p c : Nat) (hp : p < 8) (hC : M.1 (PEK p) 6 = nI c) (i w : Int32) (hi : i < 0 ∨ nI c ≤ i) : PM G l m_TK_sample [vR (some TKK), vI (nI p), vI i, vI w] M (tE 2) M 1 6 := by
  refine pm_in [some (vR (some TKK)), some (vI (nI p)), some (vI i), some (vI w), none] rfl ?_
  refine pw_aload_n d_TK_sample_0 rfl ?_
  refine pw_iload_n d_TK_sample_1 rfl ?_
  refine c_TK_sample_2 rfl (Nat.le_of_ble_eq_true rfl) (pm_known hM p hp) ?_
  refine pw_astore d_TK_sample_5 (by decide) ?_
  dsimp only [stL, kil, isL, cat]
  refine pw_iload_n d_TK_sample_7 rfl ?_
  refine pw_if_lt (tgt := 20) d_TK_sample_8 (by decide) (fun h => ?_) (fun h => ?_)
  · exact th_TK_sample_20 (Nat.le_of_ble_eq_true rfl) rfl rfl
  · refine pw_iload_n d_TK_sample_11 rfl ?_
    refine pw_aload d_TK_sample_12 rfl ?_
    refine pw_getI d_TK_sample_14 f_TK_175 rfl rfl ?_
    rw [hC]
    refine pw_icmp_lt (tgt := 30) d_TK_sample_17 (by decide) (fun hQ => absurd hQ ((fun z => (i32_nlt _ _).mpr (hi.resolve_left h) z))) (fun _ => ?_)
    exact th_TK_sample_20 (Nat.le_of_ble_eq_true rfl) rfl rfl
theorem pm_sample_x0 (hM : M.2.2.1 = rf) (p c : Nat) (hp : p < 8) (hc : c ≤ 8) (hC : M.1 (PEK p) 6 = nI c) (i : Nat) (hi : i < c) (w : Int32) (hw : w.toInt < 0 ∨ 2 < w.toInt) : PM G l m_TK_sample [vR (some TKK), vI (nI p), vI (nI i), vI w] M (tE 0) M 1 6 := by
  refine pm_in [some (vR (some TKK)), some (vI (nI p)), some (vI (nI i)), some (vI w), none] rfl ?_
  refine pw_aload_n d_TK_sample_0 rfl ?_
  refine pw_iload_n d_TK_sample_1 rfl ?_
  refine c_TK_sample_2 rfl (Nat.le_of_ble_eq_true rfl) (pm_known hM p hp) ?_
  refine pw_astore d_TK_sample_5 (by decide) ?_
  dsimp only [stL, kil, isL, cat]
  refine pw_iload_n d_TK_sample_7 rfl ?_
  refine pw_if_lt (tgt := 20) d_TK_sample_8 (by decide) (fun hQ => absurd hQ (nI_pos (by omega))) (fun _ => ?_)
  refine pw_iload_n d_TK_sample_11 rfl ?_
  refine pw_aload d_TK_sample_12 rfl ?_
  refine pw_getI d_TK_sample_14 f_TK_175 rfl rfl ?_
  rw [hC]
  refine pw_icmp_lt (tgt := 30) d_TK_sample_17 (by decide) (fun _ => ?_) (fun hQ => absurd (nI_lt hi (by omega)) hQ)
  refine pw_iload_n d_TK_sample_30 rfl ?_
  refine pw_tableOut (tgt := 84) d_TK_sample_31 (by first | exact Or.inr (by decide) | exact Or.inl (by decide) | assumption) (by decide) ?_
  exact th_TK_sample_84 (Nat.le_of_ble_eq_true rfl) rfl rfl
def saC (M : Mem) (p : Nat) (k : Nat) : Nat → Int64
  | 0 => M.2.1 (p + 1, 1) k
  | 1 => M.2.1 (p + 1, 2) k
  | _ => cNw M p (M.1 TPK 1) k
theorem pm_sample (hM : M.2.2.1 = rf) (p c : Nat) (hp : p < 8) (hc : c ≤ 8) (hC : M.1 (PEK p) 6 = nI c) (o : Nat → Nat) (ho : oOK M p c o) (i : Nat) (hi : i < c) (w : Nat) (hw : w ≤ 2) : PM G l m_TK_sample [vR (some TKK), vI (nI p), vI (nI i), vI (nI w)] M (rL (saC M p (o i) w)) M 0 0 := by
  refine pm_in [some (vR (some TKK)), some (vI (nI p)), some (vI (nI i)), some (vI (nI w)), none] rfl ?_
  refine pw_aload_n d_TK_sample_0 rfl ?_
  refine pw_iload_n d_TK_sample_1 rfl ?_
  refine c_TK_sample_2 rfl (Nat.le_of_ble_eq_true rfl) (pm_known hM p hp) ?_
  refine pw_astore d_TK_sample_5 (by decide) ?_
  dsimp only [stL, kil, isL, cat]
  refine pw_iload_n d_TK_sample_7 rfl ?_
  refine pw_if_lt (tgt := 20) d_TK_sample_8 (by decide) (fun hQ => absurd hQ (nI_pos (by omega))) (fun _ => ?_)
  refine pw_iload_n d_TK_sample_11 rfl ?_
  refine pw_aload d_TK_sample_12 rfl ?_
  refine pw_getI d_TK_sample_14 f_TK_175 rfl rfl ?_
  rw [hC]
  refine pw_icmp_lt (tgt := 30) d_TK_sample_17 (by decide) (fun _ => ?_) (fun hQ => absurd (nI_lt hi (by omega)) hQ)
  refine pw_iload_n d_TK_sample_30 rfl ?_
  have hcase : w = 0 ∨ w = 1 ∨ w = 2 := by omega
  rcases hcase with rfl | rfl | rfl
  · refine pw_tableIn (tgt := 56) d_TK_sample_31 (by decide) (by decide) rfl (by decide) ?_
    refine pw_aload d_TK_sample_56 rfl ?_
    refine pw_iload_n d_TK_sample_58 rfl ?_
    refine c_TK_sample_59 rfl (Nat.le_of_ble_eq_true rfl) (pm_offsetAt hM p c o ho i hi hc) ?_
    refine pw_lreturn d_TK_sample_62 rfl ?_ ?_
    · rfl
    · rfl
  · refine pw_tableIn (tgt := 63) d_TK_sample_31 (by decide) (by decide) rfl (by decide) ?_
    refine pw_aload d_TK_sample_63 rfl ?_
    refine pw_iload_n d_TK_sample_65 rfl ?_
    refine c_TK_sample_66 rfl (Nat.le_of_ble_eq_true rfl) (pm_delayAt hM p c o ho i hi hc) ?_
    refine pw_lreturn d_TK_sample_69 rfl ?_ ?_
    · rfl
    · rfl
  · refine pw_tableIn (tgt := 70) d_TK_sample_31 (by decide) (by decide) rfl (by decide) ?_
    refine pw_aload d_TK_sample_70 rfl ?_
    refine pw_iload_n d_TK_sample_72 rfl ?_
    refine pw_aload_n d_TK_sample_73 rfl ?_
    refine pw_getR d_TK_sample_74 f_TK_24 rfl rfl (rfO hM rfl) ?_
    refine pw_getI d_TK_sample_77 f_TK_77 rfl rfl ?_
    refine c_TK_sample_80 rfl (Nat.le_of_ble_eq_true rfl) (pm_dispersionAt hM p c o ho i hi hc _) ?_
    refine pw_lreturn d_TK_sample_83 rfl ?_ ?_
    · rfl
    · rfl
def chC (M : Mem) : Nat → Int32
  | 0 => M.1 CHK 1
  | 1 => M.1 CHK 2
  | _ => M.1 CHK 3
theorem pm_chosen_x (hM : M.2.2.1 = rf) (w : Int32) (hw : w.toInt < 0 ∨ 2 < w.toInt) : PM G l m_TK_chosen [vR (some TKK), vI w] M (tE 0) M 1 6 := by
  refine pm_in [some (vR (some TKK)), some (vI w)] rfl ?_
  refine pw_iload_n d_TK_chosen_0 rfl ?_
  refine pw_tableOut (tgt := 52) d_TK_chosen_1 (by first | exact Or.inr (by decide) | exact Or.inl (by decide) | assumption) (by decide) ?_
  exact th_TK_chosen_52 (Nat.le_of_ble_eq_true rfl) rfl rfl
theorem pm_chosen (hM : M.2.2.1 = rf) (w : Nat) (hw : w ≤ 2) : PM G l m_TK_chosen [vR (some TKK), vI (nI w)] M (rI (chC M w)) M 0 0 := by
  refine pm_in [some (vR (some TKK)), some (vI (nI w))] rfl ?_
  refine pw_iload_n d_TK_chosen_0 rfl ?_
  have hcase : w = 0 ∨ w = 1 ∨ w = 2 := by omega
  rcases hcase with rfl | rfl | rfl
  · refine pw_tableIn (tgt := 28) d_TK_chosen_1 (by decide) (by decide) rfl (by decide) ?_
    refine pw_aload_n d_TK_chosen_28 rfl ?_
    refine pw_getR d_TK_chosen_29 f_TK_38 rfl rfl (rfO hM rfl) ?_
    refine pw_getI d_TK_chosen_32 f_TK_208 rfl rfl ?_
    refine pw_ireturn d_TK_chosen_35 rfl ?_ ?_
    · rfl
    · rfl
  · refine pw_tableIn (tgt := 36) d_TK_chosen_1 (by decide) (by decide) rfl (by decide) ?_
    refine pw_aload_n d_TK_chosen_36 rfl ?_
    refine pw_getR d_TK_chosen_37 f_TK_38 rfl rfl (rfO hM rfl) ?_
    refine pw_getI d_TK_chosen_40 f_TK_211 rfl rfl ?_
    refine pw_ireturn d_TK_chosen_43 rfl ?_ ?_
    · rfl
    · rfl
  · refine pw_tableIn (tgt := 44) d_TK_chosen_1 (by decide) (by decide) rfl (by decide) ?_
    refine pw_aload_n d_TK_chosen_44 rfl ?_
    refine pw_getR d_TK_chosen_45 f_TK_38 rfl rfl (rfO hM rfl) ?_
    refine pw_getI d_TK_chosen_48 f_TK_214 rfl rfl ?_
    refine pw_ireturn d_TK_chosen_51 rfl ?_ ?_
    · rfl
    · rfl
def abC (M : Mem) : Nat → Int64
  | 0 => M.2.1 CHK 5
  | 1 => M.2.1 CHK 6
  | 2 => (M.1 CHK 7).toInt64
  | 3 => M.2.1 CHK 8
  | 4 => M.2.1 CHK 9
  | 5 => M.2.1 TPK 3
  | 6 => M.2.1 TPK 4
  | 7 => (M.1 TPK 5).toInt64
  | 8 => (M.1 TPK 6).toInt64
  | 9 => (M.1 TPK 9).toInt64
  | _ => (M.1 TPK 8).toInt64
def abM (M : Mem) : Nat → Int64
  | 0 => M.2.1 MK 26
  | 1 => M.2.1 MK 27
  | 2 => (M.1 MK 28).toInt64
  | 3 => M.2.1 MK 29
  | 4 => M.2.1 MK 30
  | 5 => M.2.1 MK 8
  | 6 => M.2.1 MK 9
  | 7 => (M.1 MK 33).toInt64
  | 8 => (M.1 MK 34).toInt64
  | 9 => (M.1 MK 35).toInt64
  | _ => (M.1 MK 36).toInt64
theorem pm_about_x0 (hM : M.2.2.1 = rf) (w : Int32) (hw : w < 0 ∨ 10 < w) : PM G l m_TK_about [vR (some TKK), vI w] M (tE 0) M 1 6 := by
  refine pm_in [some (vR (some TKK)), some (vI w)] rfl ?_
  refine pw_iload_n d_TK_about_0 rfl ?_
  refine pw_if_lt (tgt := 10) d_TK_about_1 (by decide) (fun h => ?_) (fun h => ?_)
  · exact th_TK_about_10 (Nat.le_of_ble_eq_true rfl) rfl rfl
  · refine pw_iload_n d_TK_about_4 rfl ?_
    refine pw_bipush (10) d_TK_about_5 (by decide) ?_
    refine pw_icmp_le (tgt := 20) d_TK_about_7 (by decide) (fun hQ => absurd hQ ((fun z => by rw [Int32.le_iff_toInt_le] at z; have := hw.resolve_left h; rw [Int32.lt_iff_toInt_lt] at this; omega))) (fun _ => ?_)
    exact th_TK_about_10 (Nat.le_of_ble_eq_true rfl) rfl rfl
theorem pm_about_x1 (hM : M.2.2.1 = rf) (w : Nat) (h4 : w ≤ 4) (hC : M.1 CHK 4 = 0) : PM G l m_TK_about [vR (some TKK), vI (nI w)] M (tE 1) M 1 6 := by
  refine pm_in [some (vR (some TKK)), some (vI (nI w))] rfl ?_
  refine pw_iload_n d_TK_about_0 rfl ?_
  refine pw_if_lt (tgt := 10) d_TK_about_1 (by decide) (fun hQ => absurd hQ (nI_pos (by omega))) (fun _ => ?_)
  refine pw_iload_n d_TK_about_4 rfl ?_
  refine pw_bipush (10) d_TK_about_5 (by decide) ?_
  refine pw_icmp_le (tgt := 20) d_TK_about_7 (by decide) (fun _ => ?_) (fun hQ => absurd (nI_le (b := 10) (by omega) (by omega)) hQ)
  refine pw_iload_n d_TK_about_20 rfl ?_
  refine pw_iconst 4 d_TK_about_21 (by decide) ?_
  refine pw_icmp_gt (tgt := 45) d_TK_about_22 (by decide) (fun hQ => absurd hQ (nI_nlt (a := 4) h4 (by omega))) (fun _ => ?_)
  refine pw_aload_n d_TK_about_25 rfl ?_
  refine pw_getR d_TK_about_26 f_TK_38 rfl rfl (rfO hM rfl) ?_
  refine pw_getZ d_TK_about_29 f_TK_219 rfl rfl ?_
  rw [hC]
  refine pw_if_ne (tgt := 45) d_TK_about_32 (by decide) (fun hQ => absurd (rfl) hQ) (fun _ => ?_)
  exact th_TK_about_35 (Nat.le_of_ble_eq_true rfl) rfl rfl
theorem pm_about (hM : M.2.2.1 = rf) (w : Nat) (hw : w ≤ 10) (h0 : w ≤ 4 → ¬ M.1 CHK 4 = 0) : PM G l m_TK_about [vR (some TKK), vI (nI w)] M (rL (abC M w)) M 0 0 := by
  refine pm_in [some (vR (some TKK)), some (vI (nI w))] rfl ?_
  refine pw_iload_n d_TK_about_0 rfl ?_
  refine pw_if_lt (tgt := 10) d_TK_about_1 (by decide) (fun hQ => absurd hQ (nI_pos (by omega))) (fun _ => ?_)
  refine pw_iload_n d_TK_about_4 rfl ?_
  refine pw_bipush (10) d_TK_about_5 (by decide) ?_
  refine pw_icmp_le (tgt := 20) d_TK_about_7 (by decide) (fun _ => ?_) (fun hQ => absurd (nI_le (b := 10) (by omega) (by omega)) hQ)
  have hcase : w = 0 ∨ w = 1 ∨ w = 2 ∨ w = 3 ∨ w = 4 ∨ w = 5 ∨ w = 6 ∨ w = 7 ∨ w = 8 ∨ w = 9 ∨ w = 10 := by omega
  rcases hcase with rfl | rfl | rfl | rfl | rfl | rfl | rfl | rfl | rfl | rfl | rfl
  · refine pw_iload_n d_TK_about_20 rfl ?_
    refine pw_iconst 4 d_TK_about_21 (by decide) ?_
    refine pw_icmp_gt (tgt := 45) d_TK_about_22 (by decide) (fun hQ => absurd hQ ((by decide))) (fun _ => ?_)
    refine pw_aload_n d_TK_about_25 rfl ?_
    refine pw_getR d_TK_about_26 f_TK_38 rfl rfl (rfO hM rfl) ?_
    refine pw_getZ d_TK_about_29 f_TK_219 rfl rfl ?_
    refine pw_if_ne (tgt := 45) d_TK_about_32 (by decide) (fun _ => ?_) (fun hQ => absurd hQ ((h0 (by decide))))
    refine pw_iload_n d_TK_about_45 rfl ?_
    refine pw_tableIn (tgt := 100) d_TK_about_46 (by decide) (by decide) rfl (by decide) ?_
    refine pw_aload_n d_TK_about_100 rfl ?_
    refine pw_getR d_TK_about_101 f_TK_38 rfl rfl (rfO hM rfl) ?_
    refine pw_getL d_TK_about_104 f_TK_129 rfl rfl ?_
    refine pw_lreturn d_TK_about_107 rfl ?_ ?_
    · rfl
    · rfl
  · refine pw_iload_n d_TK_about_20 rfl ?_
    refine pw_iconst 4 d_TK_about_21 (by decide) ?_
    refine pw_icmp_gt (tgt := 45) d_TK_about_22 (by decide) (fun hQ => absurd hQ ((by decide))) (fun _ => ?_)
    refine pw_aload_n d_TK_about_25 rfl ?_
    refine pw_getR d_TK_about_26 f_TK_38 rfl rfl (rfO hM rfl) ?_
    refine pw_getZ d_TK_about_29 f_TK_219 rfl rfl ?_
    refine pw_if_ne (tgt := 45) d_TK_about_32 (by decide) (fun _ => ?_) (fun hQ => absurd hQ ((h0 (by decide))))
    refine pw_iload_n d_TK_about_45 rfl ?_
    refine pw_tableIn (tgt := 108) d_TK_about_46 (by decide) (by decide) rfl (by decide) ?_
    refine pw_aload_n d_TK_about_108 rfl ?_
    refine pw_getR d_TK_about_109 f_TK_38 rfl rfl (rfO hM rfl) ?_
    refine pw_getL d_TK_about_112 f_TK_132 rfl rfl ?_
    refine pw_lreturn d_TK_about_115 rfl ?_ ?_
    · rfl
    · rfl
  · refine pw_iload_n d_TK_about_20 rfl ?_
    refine pw_iconst 4 d_TK_about_21 (by decide) ?_
    refine pw_icmp_gt (tgt := 45) d_TK_about_22 (by decide) (fun hQ => absurd hQ ((by decide))) (fun _ => ?_)
    refine pw_aload_n d_TK_about_25 rfl ?_
    refine pw_getR d_TK_about_26 f_TK_38 rfl rfl (rfO hM rfl) ?_
    refine pw_getZ d_TK_about_29 f_TK_219 rfl rfl ?_
    refine pw_if_ne (tgt := 45) d_TK_about_32 (by decide) (fun _ => ?_) (fun hQ => absurd hQ ((h0 (by decide))))
    refine pw_iload_n d_TK_about_45 rfl ?_
    refine pw_tableIn (tgt := 116) d_TK_about_46 (by decide) (by decide) rfl (by decide) ?_
    refine pw_aload_n d_TK_about_116 rfl ?_
    refine pw_getR d_TK_about_117 f_TK_38 rfl rfl (rfO hM rfl) ?_
    refine pw_getI d_TK_about_120 f_TK_149 rfl rfl ?_
    refine pw_i2l d_TK_about_123 ?_
    refine pw_lreturn d_TK_about_124 rfl ?_ ?_
    · rfl
    · rfl
  · refine pw_iload_n d_TK_about_20 rfl ?_
    refine pw_iconst 4 d_TK_about_21 (by decide) ?_
    refine pw_icmp_gt (tgt := 45) d_TK_about_22 (by decide) (fun hQ => absurd hQ ((by decide))) (fun _ => ?_)
    refine pw_aload_n d_TK_about_25 rfl ?_
    refine pw_getR d_TK_about_26 f_TK_38 rfl rfl (rfO hM rfl) ?_
    refine pw_getZ d_TK_about_29 f_TK_219 rfl rfl ?_
    refine pw_if_ne (tgt := 45) d_TK_about_32 (by decide) (fun _ => ?_) (fun hQ => absurd hQ ((h0 (by decide))))
    refine pw_iload_n d_TK_about_45 rfl ?_
    refine pw_tableIn (tgt := 125) d_TK_about_46 (by decide) (by decide) rfl (by decide) ?_
    refine pw_aload_n d_TK_about_125 rfl ?_
    refine pw_getR d_TK_about_126 f_TK_38 rfl rfl (rfO hM rfl) ?_
    refine pw_getL d_TK_about_129 f_TK_225 rfl rfl ?_
    refine pw_lreturn d_TK_about_132 rfl ?_ ?_
    · rfl
    · rfl
  · refine pw_iload_n d_TK_about_20 rfl ?_
    refine pw_iconst 4 d_TK_about_21 (by decide) ?_
    refine pw_icmp_gt (tgt := 45) d_TK_about_22 (by decide) (fun hQ => absurd hQ ((by decide))) (fun _ => ?_)
    refine pw_aload_n d_TK_about_25 rfl ?_
    refine pw_getR d_TK_about_26 f_TK_38 rfl rfl (rfO hM rfl) ?_
    refine pw_getZ d_TK_about_29 f_TK_219 rfl rfl ?_
    refine pw_if_ne (tgt := 45) d_TK_about_32 (by decide) (fun _ => ?_) (fun hQ => absurd hQ ((h0 (by decide))))
    refine pw_iload_n d_TK_about_45 rfl ?_
    refine pw_tableIn (tgt := 133) d_TK_about_46 (by decide) (by decide) rfl (by decide) ?_
    refine pw_aload_n d_TK_about_133 rfl ?_
    refine pw_getR d_TK_about_134 f_TK_38 rfl rfl (rfO hM rfl) ?_
    refine pw_getL d_TK_about_137 f_TK_228 rfl rfl ?_
    refine pw_lreturn d_TK_about_140 rfl ?_ ?_
    · rfl
    · rfl
  · refine pw_iload_n d_TK_about_20 rfl ?_
    refine pw_iconst 4 d_TK_about_21 (by decide) ?_
    refine pw_icmp_gt (tgt := 45) d_TK_about_22 (by decide) (fun _ => ?_) (fun hQ => absurd ((by decide)) hQ)
    refine pw_iload_n d_TK_about_45 rfl ?_
    refine pw_tableIn (tgt := 141) d_TK_about_46 (by decide) (by decide) rfl (by decide) ?_
    refine pw_aload_n d_TK_about_141 rfl ?_
    refine pw_getR d_TK_about_142 f_TK_24 rfl rfl (rfO hM rfl) ?_
    refine pw_getL d_TK_about_145 f_TK_231 rfl rfl ?_
    refine pw_lreturn d_TK_about_148 rfl ?_ ?_
    · rfl
    · rfl
  · refine pw_iload_n d_TK_about_20 rfl ?_
    refine pw_iconst 4 d_TK_about_21 (by decide) ?_
    refine pw_icmp_gt (tgt := 45) d_TK_about_22 (by decide) (fun _ => ?_) (fun hQ => absurd ((by decide)) hQ)
    refine pw_iload_n d_TK_about_45 rfl ?_
    refine pw_tableIn (tgt := 149) d_TK_about_46 (by decide) (by decide) rfl (by decide) ?_
    refine pw_aload_n d_TK_about_149 rfl ?_
    refine pw_getR d_TK_about_150 f_TK_24 rfl rfl (rfO hM rfl) ?_
    refine pw_getL d_TK_about_153 f_TK_234 rfl rfl ?_
    refine pw_lreturn d_TK_about_156 rfl ?_ ?_
    · rfl
    · rfl
  · refine pw_iload_n d_TK_about_20 rfl ?_
    refine pw_iconst 4 d_TK_about_21 (by decide) ?_
    refine pw_icmp_gt (tgt := 45) d_TK_about_22 (by decide) (fun _ => ?_) (fun hQ => absurd ((by decide)) hQ)
    refine pw_iload_n d_TK_about_45 rfl ?_
    refine pw_tableIn (tgt := 157) d_TK_about_46 (by decide) (by decide) rfl (by decide) ?_
    refine pw_aload_n d_TK_about_157 rfl ?_
    refine pw_getR d_TK_about_158 f_TK_24 rfl rfl (rfO hM rfl) ?_
    refine pw_getI d_TK_about_161 f_TK_103 rfl rfl ?_
    refine pw_i2l d_TK_about_164 ?_
    refine pw_lreturn d_TK_about_165 rfl ?_ ?_
    · rfl
    · rfl
  · refine pw_iload_n d_TK_about_20 rfl ?_
    refine pw_iconst 4 d_TK_about_21 (by decide) ?_
    refine pw_icmp_gt (tgt := 45) d_TK_about_22 (by decide) (fun _ => ?_) (fun hQ => absurd ((by decide)) hQ)
    refine pw_iload_n d_TK_about_45 rfl ?_
    refine pw_tableIn (tgt := 166) d_TK_about_46 (by decide) (by decide) rfl (by decide) ?_
    refine pw_aload_n d_TK_about_166 rfl ?_
    refine pw_getR d_TK_about_167 f_TK_24 rfl rfl (rfO hM rfl) ?_
    refine pw_getI d_TK_about_170 f_TK_237 rfl rfl ?_
    refine pw_i2l d_TK_about_173 ?_
    refine pw_lreturn d_TK_about_174 rfl ?_ ?_
    · rfl
    · rfl
  · refine pw_iload_n d_TK_about_20 rfl ?_
    refine pw_iconst 4 d_TK_about_21 (by decide) ?_
    refine pw_icmp_gt (tgt := 45) d_TK_about_22 (by decide) (fun _ => ?_) (fun hQ => absurd ((by decide)) hQ)
    refine pw_iload_n d_TK_about_45 rfl ?_
    refine pw_tableIn (tgt := 175) d_TK_about_46 (by decide) (by decide) rfl (by decide) ?_
    refine pw_aload_n d_TK_about_175 rfl ?_
    refine pw_getR d_TK_about_176 f_TK_24 rfl rfl (rfO hM rfl) ?_
    refine pw_getI d_TK_about_179 f_TK_238 rfl rfl ?_
    refine pw_i2l d_TK_about_182 ?_
    refine pw_lreturn d_TK_about_183 rfl ?_ ?_
    · rfl
    · rfl
  · refine pw_iload_n d_TK_about_20 rfl ?_
    refine pw_iconst 4 d_TK_about_21 (by decide) ?_
    refine pw_icmp_gt (tgt := 45) d_TK_about_22 (by decide) (fun _ => ?_) (fun hQ => absurd ((by decide)) hQ)
    refine pw_iload_n d_TK_about_45 rfl ?_
    refine pw_tableOut (tgt := 184) d_TK_about_46 (by first | exact Or.inr (by decide) | exact Or.inl (by decide) | assumption) (by decide) ?_
    refine pw_aload_n d_TK_about_184 rfl ?_
    refine pw_getR d_TK_about_185 f_TK_24 rfl rfl (rfO hM rfl) ?_
    refine pw_getI d_TK_about_188 f_TK_241 rfl rfl ?_
    refine pw_i2l d_TK_about_191 ?_
    refine pw_lreturn d_TK_about_192 rfl ?_ ?_
    · rfl
    · rfl
theorem sI00 {x y : Int32} : sI (sI M MK 0 x) MK 0 y = sI M MK 0 y := sI_sI
theorem code_sm {x : Int32} : SM M (sI M MK 0 x) := SM_i (by decide)
theorem mo_peer_x1 (hM : M.2.2.1 = rf) (p w : Int32) (hp : p < 0 ∨ 8 ≤ p) : PM G l m_MO_peer [vR (some MK), vI p, vI w] M (rL 0) (sI M MK 0 1) 0 0 := by
  refine pm_in [some (vR (some MK)), some (vI p), some (vI w)] rfl ?_
  have q := mo_noPeer (G := G) (l := l) (M := M) p
  have e : (if p < 0 then (1 : Int32) else if p < 8 then 0 else 1) = 1 := by
    by_cases h : p < 0
    · rw [if_pos h]
    · rw [if_neg h, if_neg ((i32_nlt _ _).mpr (hp.resolve_left h))]
  rw [e] at q
  refine pw_aload_n d_MO_peer_0 rfl ?_
  refine pw_iload_n d_MO_peer_1 rfl ?_
  refine c_MO_peer_2 rfl (Nat.le_of_ble_eq_true rfl) q ?_
  refine pw_if_eq (tgt := 10) d_MO_peer_5 (by decide) (fun hQ => absurd hQ ((by decide))) (fun _ => ?_)
  refine pw_lconst 0 d_MO_peer_8 (by decide) ?_
  refine pw_lreturn d_MO_peer_9 rfl ?_ ?_
  · rfl
  · rfl
theorem noPeer_y (p : Nat) (hp : p < 8) : PM G l m_MO_noPeer [vR (some MK), vI (nI p)] M (rI 0) (sI M MK 0 0) 0 0 := by
  have q := mo_noPeer (G := G) (l := l) (M := M) (nI p)
  rw [if_neg (nI_pos (by omega)), show (if nI p < 8 then (0 : Int32) else 1) = 0 from if_pos (nI_lt (b := 8) hp (by decide))] at q
  exact q
theorem mo_peer_x2 (hM : M.2.2.1 = rf) (p : Nat) (hp : p < 8) (w : Int32) (hw : w < 0 ∨ 9 < w) : PM G l m_MO_peer [vR (some MK), vI (nI p), vI w] M (rL 0) (sI M MK 0 2) 0 0 := by
  refine pm_in [some (vR (some MK)), some (vI (nI p)), some (vI w)] rfl ?_
  have tail : PW G l m_MO_peer 21 [some (vR (some MK)), some (vI (nI p)), some (vI w)] [vR (some MK)] (sI M MK 0 0) (rL 0) (sI M MK 0 2) 0 0 := by
    refine pw_iconst 2 d_MO_peer_21 (by decide) ?_
    refine pw_goto (tgt := 50) d_MO_peer_22 (by decide) ?_
    refine pw_putI d_MO_peer_50 f_MO_60 rfl rfl rfl ?_
    refine pw_aload_n d_MO_peer_53 rfl ?_
    refine pw_getI d_MO_peer_54 f_MO_60 rfl rfl ?_
    rw [sI_s]
    refine pw_if_le (tgt := 62) d_MO_peer_57 (by decide) (fun hQ => absurd hQ ((by decide))) (fun _ => ?_)
    refine pw_lconst 0 d_MO_peer_60 (by decide) ?_
    refine pw_lreturn d_MO_peer_61 rfl ?_ ?_
    · rfl
    · rw [sI00]
  refine pw_aload_n d_MO_peer_0 rfl ?_
  refine pw_iload_n d_MO_peer_1 rfl ?_
  refine c_MO_peer_2 rfl (Nat.le_of_ble_eq_true rfl) (noPeer_y p hp) ?_
  refine pw_if_eq (tgt := 10) d_MO_peer_5 (by decide) (fun _ => ?_) (fun hQ => absurd (rfl) hQ)
  refine pw_aload_n d_MO_peer_10 rfl ?_
  refine pw_iload_n d_MO_peer_11 rfl ?_
  refine pw_if_lt (tgt := 21) d_MO_peer_12 (by decide) (fun h => ?_) (fun h => ?_)
  · exact tail
  · refine pw_iload_n d_MO_peer_15 rfl ?_
    refine pw_bipush (9) d_MO_peer_16 (by decide) ?_
    refine pw_icmp_le (tgt := 25) d_MO_peer_18 (by decide) (fun hQ => absurd hQ ((fun z => by rw [Int32.le_iff_toInt_le] at z; have := hw.resolve_left h; rw [Int32.lt_iff_toInt_lt] at this; omega))) (fun _ => ?_)
    exact tail
theorem mo_peer_x3 (hM : M.2.2.1 = rf) (p : Nat) (hp : p < 8) (w : Nat) (h2 : 2 ≤ w) (h6 : w ≤ 6) (hC : M.1 (0, 29) p = 0) : PM G l m_MO_peer [vR (some MK), vI (nI p), vI (nI w)] M (rL 0) (sI M MK 0 3) 0 0 := by
  refine pm_in [some (vR (some MK)), some (vI (nI p)), some (vI (nI w))] rfl ?_
  refine pw_aload_n d_MO_peer_0 rfl ?_
  refine pw_iload_n d_MO_peer_1 rfl ?_
  refine c_MO_peer_2 rfl (Nat.le_of_ble_eq_true rfl) (noPeer_y p hp) ?_
  refine pw_if_eq (tgt := 10) d_MO_peer_5 (by decide) (fun _ => ?_) (fun hQ => absurd (rfl) hQ)
  refine pw_aload_n d_MO_peer_10 rfl ?_
  refine pw_iload_n d_MO_peer_11 rfl ?_
  refine pw_if_lt (tgt := 21) d_MO_peer_12 (by decide) (fun hQ => absurd hQ (nI_pos (by omega))) (fun _ => ?_)
  refine pw_iload_n d_MO_peer_15 rfl ?_
  refine pw_bipush (9) d_MO_peer_16 (by decide) ?_
  refine pw_icmp_le (tgt := 25) d_MO_peer_18 (by decide) (fun _ => ?_) (fun hQ => absurd (nI_le (b := 9) (by omega) (by omega)) hQ)
  refine pw_iload_n d_MO_peer_25 rfl ?_
  refine pw_iconst 1 d_MO_peer_26 (by decide) ?_
  refine pw_icmp_le (tgt := 49) d_MO_peer_27 (by decide) (fun hQ => absurd hQ (nI_ge (a := 1) (by omega) (by omega))) (fun _ => ?_)
  refine pw_iload_n d_MO_peer_30 rfl ?_
  refine pw_bipush (7) d_MO_peer_31 (by decide) ?_
  refine pw_icmp_ge (tgt := 49) d_MO_peer_33 (by decide) (fun hQ => absurd hQ (nI_ge (b := 7) (by omega) (by omega))) (fun _ => ?_)
  refine pw_aload_n d_MO_peer_36 rfl ?_
  refine pw_getR d_MO_peer_37 f_MO_35 rfl rfl (rfO hM rfl) ?_
  refine pw_iload_n d_MO_peer_40 rfl ?_
  refine pw_iaN (n := p) d_MO_peer_41 rfl (by omega) (by decide) ?_
  rw [show (sI M MK 0 0).1 (0, 29) p = 0 from by rw [← hC]; simp [sI]]
  refine pw_if_ne (tgt := 49) d_MO_peer_42 (by decide) (fun hQ => absurd (rfl) hQ) (fun _ => ?_)
  refine pw_iconst 3 d_MO_peer_45 (by decide) ?_
  refine pw_goto (tgt := 50) d_MO_peer_46 (by decide) ?_
  refine pw_putI d_MO_peer_50 f_MO_60 rfl rfl rfl ?_
  refine pw_aload_n d_MO_peer_53 rfl ?_
  refine pw_getI d_MO_peer_54 f_MO_60 rfl rfl ?_
  rw [sI_s]
  refine pw_if_le (tgt := 62) d_MO_peer_57 (by decide) (fun hQ => absurd hQ ((by decide))) (fun _ => ?_)
  refine pw_lconst 0 d_MO_peer_60 (by decide) ?_
  refine pw_lreturn d_MO_peer_61 rfl ?_ ?_
  · rfl
  · rw [sI00]
theorem mo_peer (hM : M.2.2.1 = rf) (p c : Nat) (hp : p < 8) (hc : c ≤ 8) (hC : M.1 (0, 29) p = nI c) (hJ : 1 < c → 0 ≤ (mJs M p c / lN (c - 1)).toInt) (w : Nat) (hw : w ≤ 9) (h0 : 2 ≤ w → w ≤ 6 → 0 < c) : PM G l m_MO_peer [vR (some MK), vI (nI p), vI (nI w)] M (rL (peM M p c w)) (sI M MK 0 0) 0 0 := by
  refine pm_in [some (vR (some MK)), some (vI (nI p)), some (vI (nI w))] rfl ?_
  have hs := code_sm (M := M) (x := 0)
  have hM1 : (sI M MK 0 0).2.2.1 = rf := hM
  have hC1 : (sI M MK 0 0).1 (0, 29) p = nI c := by rw [← hC]; simp [sI]
  have hJ1 : 1 < c → 0 ≤ (mJs (sI M MK 0 0) p c / lN (c - 1)).toInt := by rw [sm_mJs hs]; exact hJ
  have e : peM (sI M MK 0 0) p c w = peM M p c w := by
    have hcase : w = 0 ∨ w = 1 ∨ w = 2 ∨ w = 3 ∨ w = 4 ∨ w = 5 ∨ w = 6 ∨ w = 7 ∨ w = 8 ∨ w = 9 := by omega
    rcases hcase with rfl | rfl | rfl | rfl | rfl | rfl | rfl | rfl | rfl | rfl
    · rfl
    · rfl
    · exact sm_mOf hs p c
    · show (sI M MK 0 0).2.1 (0, 32) (mOk (sI M MK 0 0) p c 0) = _
      rw [sm_mOk hs]; rfl
    · show mDs (sI M MK 0 0) p c = mDs M p c
      unfold mDs mNw
      simp only [sm_mOk hs, hs.2.2, (hs.2.1 (0, 33) (by decide) (by decide)).2, (hs.2.1 (0, 34) (by decide) (by decide)).1]
    · exact sm_mJi hs p c
    · exact sm_mDt hs p c
    · show ((sI M MK 0 0).1 (0, 29) p).toInt64 = _
      rw [(hs.2.1 (0, 29) (by decide) (by decide)).1]; rfl
    · show ((sI M MK 0 0).1 (0, 25) p).toInt64 = _
      rw [(hs.2.1 (0, 25) (by decide) (by decide)).1]; rfl
    · show ((sI M MK 0 0).1 (0, 26) p).toInt64 = _
      rw [(hs.2.1 (0, 26) (by decide) (by decide)).1]; rfl
  rw [← e]
  have tail : PW G l m_MO_peer 49 [some (vR (some MK)), some (vI (nI p)), some (vI (nI w))] [vR (some MK)] (sI M MK 0 0) (rL (peM (sI M MK 0 0) p c w)) (sI M MK 0 0) 0 0 := by
    refine pw_iconst 0 d_MO_peer_49 (by decide) ?_
    refine pw_putI d_MO_peer_50 f_MO_60 rfl rfl rfl ?_
    refine pw_aload_n d_MO_peer_53 rfl ?_
    refine pw_getI d_MO_peer_54 f_MO_60 rfl rfl ?_
    rw [sI_s]
    refine pw_if_le (tgt := 62) d_MO_peer_57 (by decide) (fun _ => ?_) (fun hQ => absurd ((by decide)) hQ)
    rw [sI00]
    refine pw_iload_n d_MO_peer_62 rfl ?_
    have hcase : w = 0 ∨ w = 1 ∨ w = 2 ∨ w = 3 ∨ w = 4 ∨ w = 5 ∨ w = 6 ∨ w = 7 ∨ w = 8 ∨ w = 9 := by omega
    rcases hcase with rfl | rfl | rfl | rfl | rfl | rfl | rfl | rfl | rfl | rfl
    · refine pw_tableIn (tgt := 112) d_MO_peer_63 (by decide) (by decide) rfl (by decide) ?_
      refine pw_aload_n d_MO_peer_112 rfl ?_
      refine pw_getR d_MO_peer_113 f_MO_16 rfl rfl (rfO hM1 rfl) ?_
      refine pw_iload_n d_MO_peer_116 rfl ?_
      refine pw_laN (n := p) d_MO_peer_117 rfl (by omega) (by decide) ?_
      refine pw_lreturn d_MO_peer_118 rfl ?_ ?_
      · rfl
      · rfl
    · refine pw_tableIn (tgt := 119) d_MO_peer_63 (by decide) (by decide) rfl (by decide) ?_
      refine pw_aload_n d_MO_peer_119 rfl ?_
      refine pw_getR d_MO_peer_120 f_MO_20 rfl rfl (rfO hM1 rfl) ?_
      refine pw_iload_n d_MO_peer_123 rfl ?_
      refine pw_laN (n := p) d_MO_peer_124 rfl (by omega) (by decide) ?_
      refine pw_lreturn d_MO_peer_125 rfl ?_ ?_
      · rfl
      · rfl
    · have h0 := h0 (by decide) (by decide)
      refine pw_tableIn (tgt := 126) d_MO_peer_63 (by decide) (by decide) rfl (by decide) ?_
      refine pw_aload_n d_MO_peer_126 rfl ?_
      refine pw_iload_n d_MO_peer_127 rfl ?_
      refine c_MO_peer_128 rfl (Nat.le_of_ble_eq_true rfl) (mo_offsetOf hM1 p c hp hc h0 hC1) ?_
      refine pw_lreturn d_MO_peer_131 rfl ?_ ?_
      · rfl
      · rfl
    · have h0 := h0 (by decide) (by decide)
      refine pw_tableIn (tgt := 132) d_MO_peer_63 (by decide) (by decide) rfl (by decide) ?_
      refine pw_aload_n d_MO_peer_132 rfl ?_
      refine pw_iload_n d_MO_peer_133 rfl ?_
      refine c_MO_peer_134 rfl (Nat.le_of_ble_eq_true rfl) (mo_delayOf hM1 p c hp hc h0 hC1) ?_
      refine pw_lreturn d_MO_peer_137 rfl ?_ ?_
      · rfl
      · rfl
    · have h0 := h0 (by decide) (by decide)
      refine pw_tableIn (tgt := 138) d_MO_peer_63 (by decide) (by decide) rfl (by decide) ?_
      refine pw_aload_n d_MO_peer_138 rfl ?_
      refine pw_iload_n d_MO_peer_139 rfl ?_
      refine c_MO_peer_140 rfl (Nat.le_of_ble_eq_true rfl) (mo_dispersionOf hM1 p c hp hc hC1) ?_
      refine pw_lreturn d_MO_peer_143 rfl ?_ ?_
      · rfl
      · rfl
    · have h0 := h0 (by decide) (by decide)
      refine pw_tableIn (tgt := 144) d_MO_peer_63 (by decide) (by decide) rfl (by decide) ?_
      refine pw_aload_n d_MO_peer_144 rfl ?_
      refine pw_iload_n d_MO_peer_145 rfl ?_
      refine c_MO_peer_146 rfl (Nat.le_of_ble_eq_true rfl) (mo_jitterOf hM1 p c hp hc h0 hC1 hJ1) ?_
      refine pw_lreturn d_MO_peer_149 rfl ?_ ?_
      · rfl
      · rfl
    · have h0 := h0 (by decide) (by decide)
      refine pw_tableIn (tgt := 150) d_MO_peer_63 (by decide) (by decide) rfl (by decide) ?_
      refine pw_aload_n d_MO_peer_150 rfl ?_
      refine pw_iload_n d_MO_peer_151 rfl ?_
      refine c_MO_peer_152 rfl (Nat.le_of_ble_eq_true rfl) (mo_distanceOf hM1 p c hp hc h0 hC1 hJ1) ?_
      refine pw_lreturn d_MO_peer_155 rfl ?_ ?_
      · rfl
      · rfl
    · refine pw_tableIn (tgt := 156) d_MO_peer_63 (by decide) (by decide) rfl (by decide) ?_
      refine pw_aload_n d_MO_peer_156 rfl ?_
      refine pw_getR d_MO_peer_157 f_MO_35 rfl rfl (rfO hM1 rfl) ?_
      refine pw_iload_n d_MO_peer_160 rfl ?_
      refine pw_iaN (n := p) d_MO_peer_161 rfl (by omega) (by decide) ?_
      refine pw_i2l d_MO_peer_162 ?_
      refine pw_lreturn d_MO_peer_163 rfl ?_ ?_
      · rfl
      · rfl
    · refine pw_tableIn (tgt := 164) d_MO_peer_63 (by decide) (by decide) rfl (by decide) ?_
      refine pw_aload_n d_MO_peer_164 rfl ?_
      refine pw_getR d_MO_peer_165 f_MO_23 rfl rfl (rfO hM1 rfl) ?_
      refine pw_iload_n d_MO_peer_168 rfl ?_
      refine pw_iaN (n := p) d_MO_peer_169 rfl (by omega) (by decide) ?_
      refine pw_i2l d_MO_peer_170 ?_
      refine pw_lreturn d_MO_peer_171 rfl ?_ ?_
      · rfl
      · rfl
    · refine pw_tableOut (tgt := 172) d_MO_peer_63 (by first | exact Or.inr (by decide) | exact Or.inl (by decide) | assumption) (by decide) ?_
      refine pw_aload_n d_MO_peer_172 rfl ?_
      refine pw_getR d_MO_peer_173 f_MO_26 rfl rfl (rfO hM1 rfl) ?_
      refine pw_iload_n d_MO_peer_176 rfl ?_
      refine pw_iaN (n := p) d_MO_peer_177 rfl (by omega) (by decide) ?_
      refine pw_i2l d_MO_peer_178 ?_
      refine pw_lreturn d_MO_peer_179 rfl ?_ ?_
      · rfl
      · rfl
  refine pw_aload_n d_MO_peer_0 rfl ?_
  refine pw_iload_n d_MO_peer_1 rfl ?_
  refine c_MO_peer_2 rfl (Nat.le_of_ble_eq_true rfl) (noPeer_y p hp) ?_
  refine pw_if_eq (tgt := 10) d_MO_peer_5 (by decide) (fun _ => ?_) (fun hQ => absurd (rfl) hQ)
  refine pw_aload_n d_MO_peer_10 rfl ?_
  refine pw_iload_n d_MO_peer_11 rfl ?_
  refine pw_if_lt (tgt := 21) d_MO_peer_12 (by decide) (fun hQ => absurd hQ (nI_pos (by omega))) (fun _ => ?_)
  refine pw_iload_n d_MO_peer_15 rfl ?_
  refine pw_bipush (9) d_MO_peer_16 (by decide) ?_
  refine pw_icmp_le (tgt := 25) d_MO_peer_18 (by decide) (fun _ => ?_) (fun hQ => absurd (nI_le (b := 9) (by omega) (by omega)) hQ)
  refine pw_iload_n d_MO_peer_25 rfl ?_
  refine pw_iconst 1 d_MO_peer_26 (by decide) ?_
  by_cases h1 : w ≤ 1
  · refine pw_icmp_le (tgt := 49) d_MO_peer_27 (by decide) (fun _ => ?_) (fun hQ => absurd (nI_le (b := 1) h1 (by omega)) hQ)
    exact tail
  · refine pw_icmp_le (tgt := 49) d_MO_peer_27 (by decide) (fun hQ => absurd hQ (nI_ge (a := 1) (by omega) (by omega))) (fun _ => ?_)
    refine pw_iload_n d_MO_peer_30 rfl ?_
    refine pw_bipush (7) d_MO_peer_31 (by decide) ?_
    by_cases h7 : 7 ≤ w
    · refine pw_icmp_ge (tgt := 49) d_MO_peer_33 (by decide) (fun _ => ?_) (fun hQ => absurd (nI_le (a := 7) h7 (by omega)) hQ)
      exact tail
    · refine pw_icmp_ge (tgt := 49) d_MO_peer_33 (by decide) (fun hQ => absurd hQ (nI_ge (b := 7) (by omega) (by omega))) (fun _ => ?_)
      refine pw_aload_n d_MO_peer_36 rfl ?_
      refine pw_getR d_MO_peer_37 f_MO_35 rfl rfl (rfO hM rfl) ?_
      refine pw_iload_n d_MO_peer_40 rfl ?_
      refine pw_iaN (n := p) d_MO_peer_41 rfl (by omega) (by decide) ?_
      rw [hC1]
      refine pw_if_ne (tgt := 49) d_MO_peer_42 (by decide) (fun _ => ?_) (fun hQ => absurd hQ ((nI_ne0 (h0 (by omega) (by omega)) (by omega))))
      exact tail
def saM (M : Mem) (s : Nat) : Nat → Int64
  | 0 => M.2.1 (0, 31) s
  | 1 => M.2.1 (0, 32) s
  | _ => mNw M s
theorem mo_sample_1 (hM : M.2.2.1 = rf) (p i w : Int32) (h : (p < 0 ∨ 8 ≤ p) ∨ ∃ q c, q < 8 ∧ c ≤ 8 ∧ p = nI q ∧ M.1 (0, 29) q = nI c ∧ (i < 0 ∨ nI c ≤ i)) : PM G l m_MO_sample [vR (some MK), vI p, vI i, vI w] M (rL 0) (sI M MK 0 1) 0 0 := by
  refine pm_in [some (vR (some MK)), some (vI p), some (vI i), some (vI w), none] rfl ?_
  have tail : PW G l m_MO_sample 25 [some (vR (some MK)), some (vI p), some (vI i), some (vI w), none] [vR (some MK)] M (rL 0) (sI M MK 0 1) 0 0 := by
    refine pw_iconst 1 d_MO_sample_25 (by decide) ?_
    refine pw_goto (tgt := 43) d_MO_sample_26 (by decide) ?_
    refine pw_putI d_MO_sample_43 f_MO_60 rfl rfl rfl ?_
    refine pw_aload_n d_MO_sample_46 rfl ?_
    refine pw_getI d_MO_sample_47 f_MO_60 rfl rfl ?_
    rw [sI_s]
    refine pw_if_le (tgt := 55) d_MO_sample_50 (by decide) (fun hQ => absurd hQ ((by decide))) (fun _ => ?_)
    refine pw_lconst 0 d_MO_sample_53 (by decide) ?_
    refine pw_lreturn d_MO_sample_54 rfl ?_ ?_
    · rfl
    · rfl
  refine pw_aload_n d_MO_sample_0 rfl ?_
  refine pw_iload_n d_MO_sample_1 rfl ?_
  refine pw_if_lt (tgt := 25) d_MO_sample_2 (by decide) (fun h1 => ?_) (fun h1 => ?_)
  · exact tail
  · refine pw_iload_n d_MO_sample_5 rfl ?_
    refine pw_bipush (8) d_MO_sample_6 (by decide) ?_
    refine pw_icmp_ge (tgt := 25) d_MO_sample_8 (by decide) (fun h2 => ?_) (fun h2 => ?_)
    · exact tail
    · rcases h with h | ⟨q, c, hq, hc, rfl, hC, h⟩
      · exact absurd (h.resolve_left h1) h2
      · refine pw_iload_n d_MO_sample_11 rfl ?_
        refine pw_if_lt (tgt := 25) d_MO_sample_12 (by decide) (fun h3 => ?_) (fun h3 => ?_)
        · exact tail
        · refine pw_iload_n d_MO_sample_15 rfl ?_
          refine pw_aload_n d_MO_sample_16 rfl ?_
          refine pw_getR d_MO_sample_17 f_MO_35 rfl rfl (rfO hM rfl) ?_
          refine pw_iload_n d_MO_sample_20 rfl ?_
          refine pw_iaN (n := q) d_MO_sample_21 rfl (by omega) (by decide) ?_
          rw [hC]
          refine pw_icmp_lt (tgt := 29) d_MO_sample_22 (by decide) (fun hQ => absurd hQ ((fun z => (i32_nlt _ _).mpr (h.resolve_left h3) z))) (fun _ => ?_)
          exact tail
theorem mo_sample_2 (hM : M.2.2.1 = rf) (p c i : Nat) (hp : p < 8) (hc : c ≤ 8) (hC : M.1 (0, 29) p = nI c) (hi : i < c) (w : Int32) (hw : w < 0 ∨ 2 < w) : PM G l m_MO_sample [vR (some MK), vI (nI p), vI (nI i), vI w] M (rL 0) (sI M MK 0 2) 0 0 := by
  refine pm_in [some (vR (some MK)), some (vI (nI p)), some (vI (nI i)), some (vI w), none] rfl ?_
  have tail : PW G l m_MO_sample 38 [some (vR (some MK)), some (vI (nI p)), some (vI (nI i)), some (vI w), none] [vR (some MK)] M (rL 0) (sI M MK 0 2) 0 0 := by
    refine pw_iconst 2 d_MO_sample_38 (by decide) ?_
    refine pw_goto (tgt := 43) d_MO_sample_39 (by decide) ?_
    refine pw_putI d_MO_sample_43 f_MO_60 rfl rfl rfl ?_
    refine pw_aload_n d_MO_sample_46 rfl ?_
    refine pw_getI d_MO_sample_47 f_MO_60 rfl rfl ?_
    rw [sI_s]
    refine pw_if_le (tgt := 55) d_MO_sample_50 (by decide) (fun hQ => absurd hQ ((by decide))) (fun _ => ?_)
    refine pw_lconst 0 d_MO_sample_53 (by decide) ?_
    refine pw_lreturn d_MO_sample_54 rfl ?_ ?_
    · rfl
    · rfl
  refine pw_aload_n d_MO_sample_0 rfl ?_
  refine pw_iload_n d_MO_sample_1 rfl ?_
  refine pw_if_lt (tgt := 25) d_MO_sample_2 (by decide) (fun hQ => absurd hQ (nI_pos (by omega))) (fun _ => ?_)
  refine pw_iload_n d_MO_sample_5 rfl ?_
  refine pw_bipush (8) d_MO_sample_6 (by decide) ?_
  refine pw_icmp_ge (tgt := 25) d_MO_sample_8 (by decide) (fun hQ => absurd hQ (nI_ge (b := 8) hp (by omega))) (fun _ => ?_)
  refine pw_iload_n d_MO_sample_11 rfl ?_
  refine pw_if_lt (tgt := 25) d_MO_sample_12 (by decide) (fun hQ => absurd hQ (nI_pos (by omega))) (fun _ => ?_)
  refine pw_iload_n d_MO_sample_15 rfl ?_
  refine pw_aload_n d_MO_sample_16 rfl ?_
  refine pw_getR d_MO_sample_17 f_MO_35 rfl rfl (rfO hM rfl) ?_
  refine pw_iload_n d_MO_sample_20 rfl ?_
  refine pw_iaN (n := p) d_MO_sample_21 rfl (by omega) (by decide) ?_
  rw [hC]
  refine pw_icmp_lt (tgt := 29) d_MO_sample_22 (by decide) (fun _ => ?_) (fun hQ => absurd (nI_lt hi (by omega)) hQ)
  refine pw_iload_n d_MO_sample_29 rfl ?_
  refine pw_if_lt (tgt := 38) d_MO_sample_30 (by decide) (fun h => ?_) (fun h => ?_)
  · exact tail
  · refine pw_iload_n d_MO_sample_33 rfl ?_
    refine pw_iconst 2 d_MO_sample_34 (by decide) ?_
    refine pw_icmp_le (tgt := 42) d_MO_sample_35 (by decide) (fun hQ => absurd hQ ((fun z => by rw [Int32.le_iff_toInt_le] at z; have := hw.resolve_left h; rw [Int32.lt_iff_toInt_lt] at this; omega))) (fun _ => ?_)
    exact tail
theorem mo_sample (hM : M.2.2.1 = rf) (p c i : Nat) (hp : p < 8) (hc : c ≤ 8) (hC : M.1 (0, 29) p = nI c) (hi : i < c) (w : Nat) (hw : w ≤ 2) : PM G l m_MO_sample [vR (some MK), vI (nI p), vI (nI i), vI (nI w)] M (rL (saM M (mOk M p c i) w)) (sI M MK 0 0) 0 0 := by
  refine pm_in [some (vR (some MK)), some (vI (nI p)), some (vI (nI i)), some (vI (nI w)), none] rfl ?_
  have hs := code_sm (M := M) (x := 0)
  have hM1 : (sI M MK 0 0).2.2.1 = rf := hM
  have hC1 : (sI M MK 0 0).1 (0, 29) p = nI c := by rw [← hC]; simp [sI]
  have ho := mo_ordK (G := G) (l := l) hM1 p i c hp hc hi hC1
  rw [sm_mOk hs] at ho
  have hk := mOk_lt (M := M) hp hc hi
  have hn := mo_now (G := G) (l := l) hM1 _ hk
  have en : mNw (sI M MK 0 0) (mOk M p c i) = mNw M (mOk M p c i) := by
    unfold mNw
    rw [hs.2.2, (hs.2.1 (0, 33) (by decide) (by decide)).2, (hs.2.1 (0, 34) (by decide) (by decide)).1]
  rw [en] at hn
  refine pw_aload_n d_MO_sample_0 rfl ?_
  refine pw_iload_n d_MO_sample_1 rfl ?_
  refine pw_if_lt (tgt := 25) d_MO_sample_2 (by decide) (fun hQ => absurd hQ (nI_pos (by omega))) (fun _ => ?_)
  refine pw_iload_n d_MO_sample_5 rfl ?_
  refine pw_bipush (8) d_MO_sample_6 (by decide) ?_
  refine pw_icmp_ge (tgt := 25) d_MO_sample_8 (by decide) (fun hQ => absurd hQ (nI_ge (b := 8) hp (by omega))) (fun _ => ?_)
  refine pw_iload_n d_MO_sample_11 rfl ?_
  refine pw_if_lt (tgt := 25) d_MO_sample_12 (by decide) (fun hQ => absurd hQ (nI_pos (by omega))) (fun _ => ?_)
  refine pw_iload_n d_MO_sample_15 rfl ?_
  refine pw_aload_n d_MO_sample_16 rfl ?_
  refine pw_getR d_MO_sample_17 f_MO_35 rfl rfl (rfO hM rfl) ?_
  refine pw_iload_n d_MO_sample_20 rfl ?_
  refine pw_iaN (n := p) d_MO_sample_21 rfl (by omega) (by decide) ?_
  rw [hC]
  refine pw_icmp_lt (tgt := 29) d_MO_sample_22 (by decide) (fun _ => ?_) (fun hQ => absurd (nI_lt hi (by omega)) hQ)
  refine pw_iload_n d_MO_sample_29 rfl ?_
  refine pw_if_lt (tgt := 38) d_MO_sample_30 (by decide) (fun hQ => absurd hQ (nI_pos (by omega))) (fun _ => ?_)
  refine pw_iload_n d_MO_sample_33 rfl ?_
  refine pw_iconst 2 d_MO_sample_34 (by decide) ?_
  refine pw_icmp_le (tgt := 42) d_MO_sample_35 (by decide) (fun _ => ?_) (fun hQ => absurd (nI_le (b := 2) hw (by omega)) hQ)
  refine pw_iconst 0 d_MO_sample_42 (by decide) ?_
  refine pw_putI d_MO_sample_43 f_MO_60 rfl rfl rfl ?_
  refine pw_aload_n d_MO_sample_46 rfl ?_
  refine pw_getI d_MO_sample_47 f_MO_60 rfl rfl ?_
  rw [sI_s]
  refine pw_if_le (tgt := 55) d_MO_sample_50 (by decide) (fun _ => ?_) (fun hQ => absurd ((by decide)) hQ)
  refine pw_aload_n d_MO_sample_55 rfl ?_
  refine pw_iload_n d_MO_sample_56 rfl ?_
  refine pw_iload_n d_MO_sample_57 rfl ?_
  refine c_MO_sample_58 rfl (Nat.le_of_ble_eq_true rfl) ho ?_
  refine pw_istore d_MO_sample_61 (by decide) ?_
  dsimp only [stL, kil, isL, cat]
  refine pw_iload_n d_MO_sample_63 rfl ?_
  have hcase : w = 0 ∨ w = 1 ∨ w = 2 := by omega
  rcases hcase with rfl | rfl | rfl
  · refine pw_if_ne (tgt := 77) d_MO_sample_64 (by decide) (fun hQ => absurd (rfl) hQ) (fun _ => ?_)
    refine pw_aload_n d_MO_sample_67 rfl ?_
    refine pw_getR d_MO_sample_68 f_MO_41 rfl rfl (rfO hM1 rfl) ?_
    refine pw_iload d_MO_sample_71 rfl ?_
    refine pw_laN (n := mOk M p c i) d_MO_sample_73 rfl (by omega) (by decide) ?_
    refine pw_goto (tgt := 98) d_MO_sample_74 (by decide) ?_
    refine pw_lreturn d_MO_sample_98 rfl ?_ ?_
    · rfl
    · rfl
  · refine pw_if_ne (tgt := 77) d_MO_sample_64 (by decide) (fun _ => ?_) (fun hQ => absurd hQ ((by decide)))
    refine pw_iload_n d_MO_sample_77 rfl ?_
    refine pw_iconst 1 d_MO_sample_78 (by decide) ?_
    refine pw_icmp_ne (tgt := 92) d_MO_sample_79 (by decide) (fun hQ => absurd (rfl) hQ) (fun _ => ?_)
    refine pw_aload_n d_MO_sample_82 rfl ?_
    refine pw_getR d_MO_sample_83 f_MO_44 rfl rfl (rfO hM1 rfl) ?_
    refine pw_iload d_MO_sample_86 rfl ?_
    refine pw_laN (n := mOk M p c i) d_MO_sample_88 rfl (by omega) (by decide) ?_
    refine pw_goto (tgt := 98) d_MO_sample_89 (by decide) ?_
    refine pw_lreturn d_MO_sample_98 rfl ?_ ?_
    · rfl
    · rfl
  · refine pw_if_ne (tgt := 77) d_MO_sample_64 (by decide) (fun _ => ?_) (fun hQ => absurd hQ ((by decide)))
    refine pw_iload_n d_MO_sample_77 rfl ?_
    refine pw_iconst 1 d_MO_sample_78 (by decide) ?_
    refine pw_icmp_ne (tgt := 92) d_MO_sample_79 (by decide) (fun _ => ?_) (fun hQ => absurd hQ ((by decide)))
    refine pw_aload_n d_MO_sample_92 rfl ?_
    refine pw_iload d_MO_sample_93 rfl ?_
    refine c_MO_sample_95 rfl (Nat.le_of_ble_eq_true rfl) hn ?_
    refine pw_lreturn d_MO_sample_98 rfl ?_ ?_
    · rfl
    · rfl
def chM (M : Mem) : Nat → Int32
  | 0 => M.1 MK 22
  | 1 => M.1 MK 23
  | _ => M.1 MK 24
theorem mo_chosen_x (w : Int32) (hw : w < 0 ∨ 2 < w) : PM G l m_MO_chosen [vR (some MK), vI w] M (rI 0) (sI M MK 0 1) 0 0 := by
  refine pm_in [some (vR (some MK)), some (vI w)] rfl ?_
  have tail : PW G l m_MO_chosen 10 [some (vR (some MK)), some (vI w)] [vR (some MK)] M (rI 0) (sI M MK 0 1) 0 0 := by
    refine pw_iconst 1 d_MO_chosen_10 (by decide) ?_
    refine pw_goto (tgt := 15) d_MO_chosen_11 (by decide) ?_
    refine pw_putI d_MO_chosen_15 f_MO_60 rfl rfl rfl ?_
    refine pw_aload_n d_MO_chosen_18 rfl ?_
    refine pw_getI d_MO_chosen_19 f_MO_60 rfl rfl ?_
    rw [sI_s]
    refine pw_if_le (tgt := 29) d_MO_chosen_22 (by decide) (fun hQ => absurd hQ ((by decide))) (fun _ => ?_)
    refine pw_iconst 0 d_MO_chosen_25 (by decide) ?_
    refine pw_goto (tgt := 56) d_MO_chosen_26 (by decide) ?_
    refine pw_ireturn d_MO_chosen_56 rfl ?_ ?_
    · rfl
    · rfl
  refine pw_aload_n d_MO_chosen_0 rfl ?_
  refine pw_iload_n d_MO_chosen_1 rfl ?_
  refine pw_if_lt (tgt := 10) d_MO_chosen_2 (by decide) (fun h => ?_) (fun h => ?_)
  · exact tail
  · refine pw_iload_n d_MO_chosen_5 rfl ?_
    refine pw_iconst 2 d_MO_chosen_6 (by decide) ?_
    refine pw_icmp_le (tgt := 14) d_MO_chosen_7 (by decide) (fun hQ => absurd hQ ((fun z => by rw [Int32.le_iff_toInt_le] at z; have := hw.resolve_left h; rw [Int32.lt_iff_toInt_lt] at this; omega))) (fun _ => ?_)
    exact tail
theorem mo_chosen (w : Nat) (hw : w ≤ 2) : PM G l m_MO_chosen [vR (some MK), vI (nI w)] M (rI (chM M w)) (sI M MK 0 0) 0 0 := by
  refine pm_in [some (vR (some MK)), some (vI (nI w))] rfl ?_
  refine pw_aload_n d_MO_chosen_0 rfl ?_
  refine pw_iload_n d_MO_chosen_1 rfl ?_
  refine pw_if_lt (tgt := 10) d_MO_chosen_2 (by decide) (fun hQ => absurd hQ (nI_pos (by omega))) (fun _ => ?_)
  refine pw_iload_n d_MO_chosen_5 rfl ?_
  refine pw_iconst 2 d_MO_chosen_6 (by decide) ?_
  refine pw_icmp_le (tgt := 14) d_MO_chosen_7 (by decide) (fun _ => ?_) (fun hQ => absurd (nI_le (b := 2) hw (by omega)) hQ)
  refine pw_iconst 0 d_MO_chosen_14 (by decide) ?_
  refine pw_putI d_MO_chosen_15 f_MO_60 rfl rfl rfl ?_
  refine pw_aload_n d_MO_chosen_18 rfl ?_
  refine pw_getI d_MO_chosen_19 f_MO_60 rfl rfl ?_
  rw [sI_s]
  refine pw_if_le (tgt := 29) d_MO_chosen_22 (by decide) (fun _ => ?_) (fun hQ => absurd ((by decide)) hQ)
  refine pw_iload_n d_MO_chosen_29 rfl ?_
  have hcase : w = 0 ∨ w = 1 ∨ w = 2 := by omega
  rcases hcase with rfl | rfl | rfl
  · refine pw_if_ne (tgt := 40) d_MO_chosen_30 (by decide) (fun hQ => absurd (rfl) hQ) (fun _ => ?_)
    refine pw_aload_n d_MO_chosen_33 rfl ?_
    refine pw_getI d_MO_chosen_34 f_MO_200 rfl rfl ?_
    refine pw_goto (tgt := 56) d_MO_chosen_37 (by decide) ?_
    refine pw_ireturn d_MO_chosen_56 rfl ?_ ?_
    · simp [sI, chM]
    · rfl
  · refine pw_if_ne (tgt := 40) d_MO_chosen_30 (by decide) (fun _ => ?_) (fun hQ => absurd hQ ((by decide)))
    refine pw_iload_n d_MO_chosen_40 rfl ?_
    refine pw_iconst 1 d_MO_chosen_41 (by decide) ?_
    refine pw_icmp_ne (tgt := 52) d_MO_chosen_42 (by decide) (fun hQ => absurd (rfl) hQ) (fun _ => ?_)
    refine pw_aload_n d_MO_chosen_45 rfl ?_
    refine pw_getI d_MO_chosen_46 f_MO_210 rfl rfl ?_
    refine pw_goto (tgt := 56) d_MO_chosen_49 (by decide) ?_
    refine pw_ireturn d_MO_chosen_56 rfl ?_ ?_
    · simp [sI, chM]
    · rfl
  · refine pw_if_ne (tgt := 40) d_MO_chosen_30 (by decide) (fun _ => ?_) (fun hQ => absurd hQ ((by decide)))
    refine pw_iload_n d_MO_chosen_40 rfl ?_
    refine pw_iconst 1 d_MO_chosen_41 (by decide) ?_
    refine pw_icmp_ne (tgt := 52) d_MO_chosen_42 (by decide) (fun _ => ?_) (fun hQ => absurd hQ ((by decide)))
    refine pw_aload_n d_MO_chosen_52 rfl ?_
    refine pw_getI d_MO_chosen_53 f_MO_236 rfl rfl ?_
    refine pw_ireturn d_MO_chosen_56 rfl ?_ ?_
    · simp [sI, chM]
    · rfl
theorem mo_about_x1 (w : Int32) (hw : w < 0 ∨ 10 < w) : PM G l m_MO_about [vR (some MK), vI w] M (rL 0) (sI M MK 0 1) 0 0 := by
  refine pm_in [some (vR (some MK)), some (vI w)] rfl ?_
  have tail : PW G l m_MO_about 11 [some (vR (some MK)), some (vI w)] [vR (some MK)] M (rL 0) (sI M MK 0 1) 0 0 := by
    refine pw_iconst 1 d_MO_about_11 (by decide) ?_
    refine pw_goto (tgt := 32) d_MO_about_12 (by decide) ?_
    refine pw_putI d_MO_about_32 f_MO_60 rfl rfl rfl ?_
    refine pw_aload_n d_MO_about_35 rfl ?_
    refine pw_getI d_MO_about_36 f_MO_60 rfl rfl ?_
    rw [sI_s]
    refine pw_if_le (tgt := 44) d_MO_about_39 (by decide) (fun hQ => absurd hQ ((by decide))) (fun _ => ?_)
    refine pw_lconst 0 d_MO_about_42 (by decide) ?_
    refine pw_lreturn d_MO_about_43 rfl ?_ ?_
    · rfl
    · rfl
  refine pw_aload_n d_MO_about_0 rfl ?_
  refine pw_iload_n d_MO_about_1 rfl ?_
  refine pw_if_lt (tgt := 11) d_MO_about_2 (by decide) (fun h => ?_) (fun h => ?_)
  · exact tail
  · refine pw_iload_n d_MO_about_5 rfl ?_
    refine pw_bipush (10) d_MO_about_6 (by decide) ?_
    refine pw_icmp_le (tgt := 15) d_MO_about_8 (by decide) (fun hQ => absurd hQ ((fun z => by rw [Int32.le_iff_toInt_le] at z; have := hw.resolve_left h; rw [Int32.lt_iff_toInt_lt] at this; omega))) (fun _ => ?_)
    exact tail
theorem mo_about_x2 (w : Nat) (h4 : w ≤ 4) (hC : M.1 MK 25 = 0) : PM G l m_MO_about [vR (some MK), vI (nI w)] M (rL 0) (sI M MK 0 2) 0 0 := by
  refine pm_in [some (vR (some MK)), some (vI (nI w))] rfl ?_
  refine pw_aload_n d_MO_about_0 rfl ?_
  refine pw_iload_n d_MO_about_1 rfl ?_
  refine pw_if_lt (tgt := 11) d_MO_about_2 (by decide) (fun hQ => absurd hQ (nI_pos (by omega))) (fun _ => ?_)
  refine pw_iload_n d_MO_about_5 rfl ?_
  refine pw_bipush (10) d_MO_about_6 (by decide) ?_
  refine pw_icmp_le (tgt := 15) d_MO_about_8 (by decide) (fun _ => ?_) (fun hQ => absurd (nI_le (b := 10) (by omega) (by omega)) hQ)
  refine pw_iload_n d_MO_about_15 rfl ?_
  refine pw_iconst 5 d_MO_about_16 (by decide) ?_
  refine pw_icmp_ge (tgt := 31) d_MO_about_17 (by decide) (fun hQ => absurd hQ (nI_ge (b := 5) (by omega) (by omega))) (fun _ => ?_)
  refine pw_aload_n d_MO_about_20 rfl ?_
  refine pw_getZ d_MO_about_21 f_MO_245 rfl rfl ?_
  rw [hC]
  refine pw_if_ne (tgt := 31) d_MO_about_24 (by decide) (fun hQ => absurd (rfl) hQ) (fun _ => ?_)
  refine pw_iconst 2 d_MO_about_27 (by decide) ?_
  refine pw_goto (tgt := 32) d_MO_about_28 (by decide) ?_
  refine pw_putI d_MO_about_32 f_MO_60 rfl rfl rfl ?_
  refine pw_aload_n d_MO_about_35 rfl ?_
  refine pw_getI d_MO_about_36 f_MO_60 rfl rfl ?_
  rw [sI_s]
  refine pw_if_le (tgt := 44) d_MO_about_39 (by decide) (fun hQ => absurd hQ ((by decide))) (fun _ => ?_)
  refine pw_lconst 0 d_MO_about_42 (by decide) ?_
  refine pw_lreturn d_MO_about_43 rfl ?_ ?_
  · rfl
  · rfl
theorem mo_about (w : Nat) (hw : w ≤ 10) (h0 : w ≤ 4 → ¬ M.1 MK 25 = 0) : PM G l m_MO_about [vR (some MK), vI (nI w)] M (rL (abM M w)) (sI M MK 0 0) 0 0 := by
  refine pm_in [some (vR (some MK)), some (vI (nI w))] rfl ?_
  have tail : PW G l m_MO_about 31 [some (vR (some MK)), some (vI (nI w))] [vR (some MK)] M (rL (abM M w)) (sI M MK 0 0) 0 0 := by
    refine pw_iconst 0 d_MO_about_31 (by decide) ?_
    refine pw_putI d_MO_about_32 f_MO_60 rfl rfl rfl ?_
    refine pw_aload_n d_MO_about_35 rfl ?_
    refine pw_getI d_MO_about_36 f_MO_60 rfl rfl ?_
    rw [sI_s]
    refine pw_if_le (tgt := 44) d_MO_about_39 (by decide) (fun _ => ?_) (fun hQ => absurd ((by decide)) hQ)
    refine pw_iload_n d_MO_about_44 rfl ?_
    have hcase : w = 0 ∨ w = 1 ∨ w = 2 ∨ w = 3 ∨ w = 4 ∨ w = 5 ∨ w = 6 ∨ w = 7 ∨ w = 8 ∨ w = 9 ∨ w = 10 := by omega
    rcases hcase with rfl | rfl | rfl | rfl | rfl | rfl | rfl | rfl | rfl | rfl | rfl
    · refine pw_tableIn (tgt := 100) d_MO_about_45 (by decide) (by decide) rfl (by decide) ?_
      refine pw_aload_n d_MO_about_100 rfl ?_
      refine pw_getL d_MO_about_101 f_MO_230 rfl rfl ?_
      refine pw_lreturn d_MO_about_104 rfl ?_ ?_
      · simp [sI, abM]
      · rfl
    · refine pw_tableIn (tgt := 105) d_MO_about_45 (by decide) (by decide) rfl (by decide) ?_
      refine pw_aload_n d_MO_about_105 rfl ?_
      refine pw_getL d_MO_about_106 f_MO_233 rfl rfl ?_
      refine pw_lreturn d_MO_about_109 rfl ?_ ?_
      · simp [sI, abM]
      · rfl
    · refine pw_tableIn (tgt := 110) d_MO_about_45 (by decide) (by decide) rfl (by decide) ?_
      refine pw_aload_n d_MO_about_110 rfl ?_
      refine pw_getI d_MO_about_111 f_MO_184 rfl rfl ?_
      refine pw_i2l d_MO_about_114 ?_
      refine pw_lreturn d_MO_about_115 rfl ?_ ?_
      · simp [sI, abM]
      · rfl
    · refine pw_tableIn (tgt := 116) d_MO_about_45 (by decide) (by decide) rfl (by decide) ?_
      refine pw_aload_n d_MO_about_116 rfl ?_
      refine pw_getL d_MO_about_117 f_MO_213 rfl rfl ?_
      refine pw_lreturn d_MO_about_120 rfl ?_ ?_
      · simp [sI, abM]
      · rfl
    · refine pw_tableIn (tgt := 121) d_MO_about_45 (by decide) (by decide) rfl (by decide) ?_
      refine pw_aload_n d_MO_about_121 rfl ?_
      refine pw_getL d_MO_about_122 f_MO_216 rfl rfl ?_
      refine pw_lreturn d_MO_about_125 rfl ?_ ?_
      · simp [sI, abM]
      · rfl
    · refine pw_tableIn (tgt := 126) d_MO_about_45 (by decide) (by decide) rfl (by decide) ?_
      refine pw_aload_n d_MO_about_126 rfl ?_
      refine pw_getL d_MO_about_127 f_MO_87 rfl rfl ?_
      refine pw_lreturn d_MO_about_130 rfl ?_ ?_
      · simp [sI, abM]
      · rfl
    · refine pw_tableIn (tgt := 131) d_MO_about_45 (by decide) (by decide) rfl (by decide) ?_
      refine pw_aload_n d_MO_about_131 rfl ?_
      refine pw_getL d_MO_about_132 f_MO_73 rfl rfl ?_
      refine pw_lreturn d_MO_about_135 rfl ?_ ?_
      · simp [sI, abM]
      · rfl
    · refine pw_tableIn (tgt := 136) d_MO_about_45 (by decide) (by decide) rfl (by decide) ?_
      refine pw_aload_n d_MO_about_136 rfl ?_
      refine pw_getI d_MO_about_137 f_MO_56 rfl rfl ?_
      refine pw_i2l d_MO_about_140 ?_
      refine pw_lreturn d_MO_about_141 rfl ?_ ?_
      · simp [sI, abM]
      · rfl
    · refine pw_tableIn (tgt := 142) d_MO_about_45 (by decide) (by decide) rfl (by decide) ?_
      refine pw_aload_n d_MO_about_142 rfl ?_
      refine pw_getI d_MO_about_143 f_MO_287 rfl rfl ?_
      refine pw_i2l d_MO_about_146 ?_
      refine pw_lreturn d_MO_about_147 rfl ?_ ?_
      · simp [sI, abM]
      · rfl
    · refine pw_tableIn (tgt := 148) d_MO_about_45 (by decide) (by decide) rfl (by decide) ?_
      refine pw_aload_n d_MO_about_148 rfl ?_
      refine pw_getI d_MO_about_149 f_MO_272 rfl rfl ?_
      refine pw_i2l d_MO_about_152 ?_
      refine pw_lreturn d_MO_about_153 rfl ?_ ?_
      · simp [sI, abM]
      · rfl
    · refine pw_tableOut (tgt := 154) d_MO_about_45 (by first | exact Or.inr (by decide) | exact Or.inl (by decide) | assumption) (by decide) ?_
      refine pw_aload_n d_MO_about_154 rfl ?_
      refine pw_getI d_MO_about_155 f_MO_269 rfl rfl ?_
      refine pw_i2l d_MO_about_158 ?_
      refine pw_lreturn d_MO_about_159 rfl ?_ ?_
      · simp [sI, abM]
      · rfl
  refine pw_aload_n d_MO_about_0 rfl ?_
  refine pw_iload_n d_MO_about_1 rfl ?_
  refine pw_if_lt (tgt := 11) d_MO_about_2 (by decide) (fun hQ => absurd hQ (nI_pos (by omega))) (fun _ => ?_)
  refine pw_iload_n d_MO_about_5 rfl ?_
  refine pw_bipush (10) d_MO_about_6 (by decide) ?_
  refine pw_icmp_le (tgt := 15) d_MO_about_8 (by decide) (fun _ => ?_) (fun hQ => absurd (nI_le (b := 10) (by omega) (by omega)) hQ)
  refine pw_iload_n d_MO_about_15 rfl ?_
  refine pw_iconst 5 d_MO_about_16 (by decide) ?_
  by_cases h5 : 5 ≤ w
  · refine pw_icmp_ge (tgt := 31) d_MO_about_17 (by decide) (fun _ => ?_) (fun hQ => absurd (nI_le (a := 5) h5 (by omega)) hQ)
    exact tail
  · refine pw_icmp_ge (tgt := 31) d_MO_about_17 (by decide) (fun hQ => absurd hQ (nI_ge (b := 5) (by omega) (by omega))) (fun _ => ?_)
    refine pw_aload_n d_MO_about_20 rfl ?_
    refine pw_getZ d_MO_about_21 f_MO_245 rfl rfl ?_
    refine pw_if_ne (tgt := 31) d_MO_about_24 (by decide) (fun _ => ?_) (fun hQ => absurd hQ ((h0 (by omega))))
    exact tail
end ASK
