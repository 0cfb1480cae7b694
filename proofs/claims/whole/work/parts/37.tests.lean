/-! the tests, on both sides -/
def oNw (r t s c : Int64) : Int64 := flr (r - s + (t - c)) 2
def dNw (r t s c : Int64) : Int64 := c - s - (t - r)
def clp (y : Int64) : Int64 := if y < 16384 then 16384 else if 68719476736 < y then 68719476736 else y
def ftC (len b0 b1 : Int32) (tr og rc ls sn tw off : Int64) : Int32 :=
  if len = 48 then (if (1 ≤ (b0 >>> ((3 : Int32) &&& 31) &&& 7) ∧ (b0 >>> ((3 : Int32) &&& 31) &&& 7) ≤ 4) ∧ b0 &&& 7 = 4 then
    (if tr = ls ∧ ¬ tr = 0 then 3 else if sn = 0 ∨ ¬ og = sn then 4 else if rc = 0 ∨ tr = 0 then 5 else if b0 >>> ((6 : Int32) &&& 31) = 3 ∨ b1 = 0 ∨ ¬ b1 ≤ 15 then 6 else if 2097152 < tw then 7 else if ¬ (-1099511627776) < off ∨ ¬ off < 1099511627776 then 8 else 0) else 2) else 1
def ftM (len b0 b1 : Int32) (tr og rc ls sn tw off : Int64) : Int32 :=
  if len = 48 then (if (¬ vrM b0 < 1 ∧ ¬ 4 < vrM b0) ∧ mdM b0 = 4 then
    (if tr = ls ∧ ¬ tr = 0 then 3 else if sn = 0 ∨ ¬ og = sn then 4 else if rc = 0 ∨ tr = 0 then 5 else if b0 / 64 = 3 ∨ b1 = 0 ∨ ¬ b1 ≤ 15 then 6 else if 68719476736 < tw then 7 else if ¬ (-1099511627776) < off ∨ ¬ off < 1099511627776 then 8 else 0) else 2) else 1
theorem clp_mm (x : Int64) : (if (16384 : Int64) < (if x < 68719476736 then x else 68719476736) then (if x < 68719476736 then x else 68719476736) else 16384) = clp x := by
  unfold clp
  by_cases h : x < 68719476736
  · simp only [h, if_true]
    have : ¬ (68719476736 : Int64) < x := fun q => by rw [Int64.lt_iff_toInt_lt] at *; omega
    simp only [this, if_false]
    by_cases h2 : x < 16384
    · have : ¬ (16384 : Int64) < x := fun q => by rw [Int64.lt_iff_toInt_lt] at *; omega
      simp only [h2, this, if_true, if_false]
    · by_cases h3 : (16384 : Int64) < x
      · simp only [h2, h3, if_true, if_false]
      · simp only [h2, h3, if_true, if_false]
        apply Int64.toInt_inj.mp
        rw [Int64.lt_iff_toInt_lt] at h2 h3
        omega
  · simp only [h, if_false]
    rw [if_pos (by decide)]
    have : ¬ x < 16384 := fun q => h (by rw [Int64.lt_iff_toInt_lt] at *; exact Int.lt_trans q (by decide))
    rw [if_neg this]
    by_cases h2 : (68719476736 : Int64) < x
    · rw [if_pos h2]
    · rw [if_neg h2]
      apply Int64.toInt_inj.mp
      rw [Int64.lt_iff_toInt_lt] at h h2
      omega
theorem ft_if (c : Prop) [Decidable c] : (if c then (1 : Int32) else 0) = 0 ↔ ¬ c := by
  by_cases h : c
  · simp [h]
  · simp [h]
theorem ft_vr (b : Int32) : mdM (b / 8) = vrM b := rfl
theorem ft_md (b : Int32) : b - b / 8 * 8 = mdM b := rfl
section FT
variable {G : GG} {l : Launch} {M : Mem}
theorem pm_toldOffset (hM : M.2.2.1 = rf) (hb : ∀ j, byteOK (M.1 (0, 2) j)) (p : Nat) : PM G l m_TK_toldOffset [vR (some TKK), vR (some (PEK p))] M (rL (oNw (rdN (M.1 (0, 2)) 32 8) (rdN (M.1 (0, 2)) 40 8) (M.2.1 (PEK p) 0) (M.2.1 TPK 0))) M 0 0 := by
  refine pm_in [some (vR (some TKK)), some (vR (some (PEK p))), none, none, none, none] rfl ?_
  refine pw_aload_n d_TK_toldOffset_0 rfl ?_
  refine pw_getR d_TK_toldOffset_1 f_TK_14 rfl rfl (rfO hM rfl) ?_
  refine pw_bipush (32) d_TK_toldOffset_4 (by decide) ?_
  refine pw_bipush (8) d_TK_toldOffset_6 (by decide) ?_
  refine c_TK_toldOffset_8 rfl (Nat.le_of_ble_eq_true rfl) (pm_read hM hb 32 8 (by decide)) ?_
  refine pw_aload_n d_TK_toldOffset_11 rfl ?_
  refine pw_getL d_TK_toldOffset_12 f_TK_106 rfl rfl ?_
  refine pw_lsub d_TK_toldOffset_15 ?_
  refine pw_lstore_n d_TK_toldOffset_16 (by decide) ?_
  dsimp only [stL, kil, isL, cat]
  refine pw_aload_n d_TK_toldOffset_17 rfl ?_
  refine pw_getR d_TK_toldOffset_18 f_TK_14 rfl rfl (rfO hM rfl) ?_
  refine pw_bipush (40) d_TK_toldOffset_21 (by decide) ?_
  refine pw_bipush (8) d_TK_toldOffset_23 (by decide) ?_
  refine c_TK_toldOffset_25 rfl (Nat.le_of_ble_eq_true rfl) (pm_read hM hb 40 8 (by decide)) ?_
  refine pw_aload_n d_TK_toldOffset_28 rfl ?_
  refine pw_getR d_TK_toldOffset_29 f_TK_24 rfl rfl (rfO hM rfl) ?_
  refine pw_getL d_TK_toldOffset_32 f_TK_80 rfl rfl ?_
  refine pw_lsub d_TK_toldOffset_35 ?_
  refine pw_lstore d_TK_toldOffset_36 (by decide) ?_
  dsimp only [stL, kil, isL, cat]
  refine pw_lload_n d_TK_toldOffset_38 rfl ?_
  refine pw_lload d_TK_toldOffset_39 rfl ?_
  refine pw_ladd d_TK_toldOffset_41 ?_
  refine pw_ldc2 (2) d_TK_toldOffset_42 g482 ?_
  refine c_TK_toldOffset_45 (Nat.le_of_ble_eq_true rfl) (pm_floorDiv _ 2 (by decide)) ?_
  refine pw_lreturn d_TK_toldOffset_48 rfl ?_ ?_
  · rw [fdv_flr (by decide)]
    rfl
  · rfl
theorem pm_toldDelay (hM : M.2.2.1 = rf) (hb : ∀ j, byteOK (M.1 (0, 2) j)) (p : Nat) : PM G l m_TK_toldDelay [vR (some TKK), vR (some (PEK p))] M (rL (clp (dNw (rdN (M.1 (0, 2)) 32 8) (rdN (M.1 (0, 2)) 40 8) (M.2.1 (PEK p) 0) (M.2.1 TPK 0)))) M 0 0 := by
  refine pm_in [some (vR (some TKK)), some (vR (some (PEK p))), none, none, none, none] rfl ?_
  refine pw_aload_n d_TK_toldDelay_0 rfl ?_
  refine pw_getR d_TK_toldDelay_1 f_TK_24 rfl rfl (rfO hM rfl) ?_
  refine pw_getL d_TK_toldDelay_4 f_TK_80 rfl rfl ?_
  refine pw_aload_n d_TK_toldDelay_7 rfl ?_
  refine pw_getL d_TK_toldDelay_8 f_TK_106 rfl rfl ?_
  refine pw_lsub d_TK_toldDelay_11 ?_
  refine pw_lstore_n d_TK_toldDelay_12 (by decide) ?_
  dsimp only [stL, kil, isL, cat]
  refine pw_aload_n d_TK_toldDelay_13 rfl ?_
  refine pw_getR d_TK_toldDelay_14 f_TK_14 rfl rfl (rfO hM rfl) ?_
  refine pw_bipush (40) d_TK_toldDelay_17 (by decide) ?_
  refine pw_bipush (8) d_TK_toldDelay_19 (by decide) ?_
  refine c_TK_toldDelay_21 rfl (Nat.le_of_ble_eq_true rfl) (pm_read hM hb 40 8 (by decide)) ?_
  refine pw_aload_n d_TK_toldDelay_24 rfl ?_
  refine pw_getR d_TK_toldDelay_25 f_TK_14 rfl rfl (rfO hM rfl) ?_
  refine pw_bipush (32) d_TK_toldDelay_28 (by decide) ?_
  refine pw_bipush (8) d_TK_toldDelay_30 (by decide) ?_
  refine c_TK_toldDelay_32 rfl (Nat.le_of_ble_eq_true rfl) (pm_read hM hb 32 8 (by decide)) ?_
  refine pw_lsub d_TK_toldDelay_35 ?_
  refine pw_lstore d_TK_toldDelay_36 (by decide) ?_
  dsimp only [stL, kil, isL, cat]
  refine pw_ldc2 (16384) d_TK_toldDelay_38 g496 ?_
  refine pw_ldc2 (68719476736) d_TK_toldDelay_41 g497 ?_
  refine pw_lload_n d_TK_toldDelay_44 rfl ?_
  refine pw_lload d_TK_toldDelay_45 rfl ?_
  refine pw_lsub d_TK_toldDelay_47 ?_
  refine c_TK_toldDelay_48 (Nat.le_of_ble_eq_true rfl) (pm_min_JJ _ _) ?_
  refine c_TK_toldDelay_51 (Nat.le_of_ble_eq_true rfl) (pm_max_JJ _ _) ?_
  refine pw_lreturn d_TK_toldDelay_54 rfl ?_ ?_
  · rw [clp_mm]
    rfl
  · rfl
theorem pm_failedTest (hM : M.2.2.1 = rf) (hb : ∀ j, byteOK (M.1 (0, 2) j)) (p : Nat) : PM G l m_TK_failedTest [vR (some TKK), vR (some (PEK p))] M (rI (ftC (M.1 (0, 1) 1) (M.1 (0, 2) 0) (M.1 (0, 2) 1) (rdN (M.1 (0, 2)) 40 8) (rdN (M.1 (0, 2)) 24 8) (rdN (M.1 (0, 2)) 32 8) (M.2.1 (PEK p) 1) (M.2.1 (PEK p) 0) (rdN (M.1 (0, 2)) 4 4 + 2 * rdN (M.1 (0, 2)) 8 4) (oNw (rdN (M.1 (0, 2)) 32 8) (rdN (M.1 (0, 2)) 40 8) (M.2.1 (PEK p) 0) (M.2.1 TPK 0)))) M 0 0 := by
  refine pm_in [some (vR (some TKK)), some (vR (some (PEK p))), none, none, none, none, none] rfl ?_
  unfold ftC
  refine pw_aload_n d_TK_failedTest_0 rfl ?_
  refine pw_getR d_TK_failedTest_1 f_TK_14 rfl rfl (rfO hM rfl) ?_
  refine pw_getI d_TK_failedTest_4 f_TK_49 rfl rfl ?_
  refine pw_bipush (48) d_TK_failedTest_7 (by decide) ?_
  refine pw_icmp_eq (tgt := 14) d_TK_failedTest_9 (by decide) (fun h9 => ?_) (fun h9 => ?_)
  · refine pw_aload_n d_TK_failedTest_14 rfl ?_
    refine pw_getR d_TK_failedTest_15 f_TK_14 rfl rfl (rfO hM rfl) ?_
    refine c_TK_failedTest_18 rfl (Nat.le_of_ble_eq_true rfl) (pm_isOfKnownVersion hM) ?_
    refine pw_if_eq (tgt := 35) d_TK_failedTest_21 (by decide) (fun h21 => ?_) (fun h21 => ?_)
    · refine pw_iconst 2 d_TK_failedTest_35 (by decide) ?_
      refine pw_ireturn d_TK_failedTest_36 rfl ?_ ?_
      · (try simp only [lg_lt, lg_gt, lg_ge, lg_le, lg_eq, Classical.not_not, ft_if] at h9 h21); first | exact absurd h61 h115 | ((first | have kh9 := eq_false h9 | have kh9 := eq_true h9); (first | have kh21 := eq_false h21 | have kh21 := eq_true h21); simp only [kh9, kh21, and_true, true_and, and_false, false_and, not_true_eq_false, not_false_eq_true, or_true, true_or, or_false, false_or, if_true, if_false, and_self, or_self])
      · rfl
    · refine pw_aload_n d_TK_failedTest_24 rfl ?_
      refine pw_getR d_TK_failedTest_25 f_TK_14 rfl rfl (rfO hM rfl) ?_
      refine c_TK_failedTest_28 rfl (Nat.le_of_ble_eq_true rfl) (pm_mode hM) ?_
      refine pw_iconst 4 d_TK_failedTest_31 (by decide) ?_
      refine pw_icmp_eq (tgt := 37) d_TK_failedTest_32 (by decide) (fun h32 => ?_) (fun h32 => ?_)
      · refine pw_aload_n d_TK_failedTest_37 rfl ?_
        refine pw_getR d_TK_failedTest_38 f_TK_14 rfl rfl (rfO hM rfl) ?_
        refine pw_bipush (40) d_TK_failedTest_41 (by decide) ?_
        refine pw_bipush (8) d_TK_failedTest_43 (by decide) ?_
        refine c_TK_failedTest_45 rfl (Nat.le_of_ble_eq_true rfl) (pm_read hM hb 40 8 (by decide)) ?_
        refine pw_lstore_n d_TK_failedTest_48 (by decide) ?_
        dsimp only [stL, kil, isL, cat]
        refine pw_lload_n d_TK_failedTest_49 rfl ?_
        refine pw_aload_n d_TK_failedTest_50 rfl ?_
        refine pw_getL d_TK_failedTest_51 f_TK_180 rfl rfl ?_
        refine pw_lcmp d_TK_failedTest_54 ?_
        refine pw_if_ne (tgt := 66) d_TK_failedTest_55 (by decide) (fun h55 => ?_) (fun h55 => ?_)
        · refine pw_aload_n d_TK_failedTest_66 rfl ?_
          refine pw_getL d_TK_failedTest_67 f_TK_106 rfl rfl ?_
          refine pw_lconst 0 d_TK_failedTest_70 (by decide) ?_
          refine pw_lcmp d_TK_failedTest_71 ?_
          refine pw_if_eq (tgt := 94) d_TK_failedTest_72 (by decide) (fun h72 => ?_) (fun h72 => ?_)
          · refine pw_iconst 4 d_TK_failedTest_94 (by decide) ?_
            refine pw_ireturn d_TK_failedTest_95 rfl ?_ ?_
            · (try simp only [lg_lt, lg_gt, lg_ge, lg_le, lg_eq, Classical.not_not, ft_if] at h9 h21 h32 h55 h72); first | exact absurd h61 h115 | ((first | have kh9 := eq_false h9 | have kh9 := eq_true h9); (first | have kh21 := eq_false h21 | have kh21 := eq_true h21); (first | have kh32 := eq_false h32 | have kh32 := eq_true h32); (first | have kh55 := eq_false h55 | have kh55 := eq_true h55); (first | have kh72 := eq_false h72 | have kh72 := eq_true h72); simp only [kh9, kh21, kh32, kh55, kh72, and_true, true_and, and_false, false_and, not_true_eq_false, not_false_eq_true, or_true, true_or, or_false, false_or, if_true, if_false, and_self, or_self])
            · rfl
          · refine pw_aload_n d_TK_failedTest_75 rfl ?_
            refine pw_getR d_TK_failedTest_76 f_TK_14 rfl rfl (rfO hM rfl) ?_
            refine pw_bipush (24) d_TK_failedTest_79 (by decide) ?_
            refine pw_bipush (8) d_TK_failedTest_81 (by decide) ?_
            refine c_TK_failedTest_83 rfl (Nat.le_of_ble_eq_true rfl) (pm_read hM hb 24 8 (by decide)) ?_
            refine pw_aload_n d_TK_failedTest_86 rfl ?_
            refine pw_getL d_TK_failedTest_87 f_TK_106 rfl rfl ?_
            refine pw_lcmp d_TK_failedTest_90 ?_
            refine pw_if_eq (tgt := 96) d_TK_failedTest_91 (by decide) (fun h91 => ?_) (fun h91 => ?_)
            · refine pw_aload_n d_TK_failedTest_96 rfl ?_
              refine pw_getR d_TK_failedTest_97 f_TK_14 rfl rfl (rfO hM rfl) ?_
              refine pw_bipush (32) d_TK_failedTest_100 (by decide) ?_
              refine pw_bipush (8) d_TK_failedTest_102 (by decide) ?_
              refine c_TK_failedTest_104 rfl (Nat.le_of_ble_eq_true rfl) (pm_read hM hb 32 8 (by decide)) ?_
              refine pw_lconst 0 d_TK_failedTest_107 (by decide) ?_
              refine pw_lcmp d_TK_failedTest_108 ?_
              refine pw_if_eq (tgt := 118) d_TK_failedTest_109 (by decide) (fun h109 => ?_) (fun h109 => ?_)
              · refine pw_iconst 5 d_TK_failedTest_118 (by decide) ?_
                refine pw_ireturn d_TK_failedTest_119 rfl ?_ ?_
                · (try simp only [lg_lt, lg_gt, lg_ge, lg_le, lg_eq, Classical.not_not, ft_if] at h9 h21 h32 h55 h72 h91 h109); first | exact absurd h61 h115 | ((first | have kh9 := eq_false h9 | have kh9 := eq_true h9); (first | have kh21 := eq_false h21 | have kh21 := eq_true h21); (first | have kh32 := eq_false h32 | have kh32 := eq_true h32); (first | have kh55 := eq_false h55 | have kh55 := eq_true h55); (first | have kh72 := eq_false h72 | have kh72 := eq_true h72); (first | have kh91 := eq_false h91 | have kh91 := eq_true h91); (first | have kh109 := eq_false h109 | have kh109 := eq_true h109); simp only [kh9, kh21, kh32, kh55, kh72, kh91, kh109, and_true, true_and, and_false, false_and, not_true_eq_false, not_false_eq_true, or_true, true_or, or_false, false_or, if_true, if_false, and_self, or_self])
                · rfl
              · refine pw_lload_n d_TK_failedTest_112 rfl ?_
                refine pw_lconst 0 d_TK_failedTest_113 (by decide) ?_
                refine pw_lcmp d_TK_failedTest_114 ?_
                refine pw_if_ne (tgt := 120) d_TK_failedTest_115 (by decide) (fun h115 => ?_) (fun h115 => ?_)
                · refine pw_aload_n d_TK_failedTest_120 rfl ?_
                  refine pw_getR d_TK_failedTest_121 f_TK_14 rfl rfl (rfO hM rfl) ?_
                  refine pw_getR d_TK_failedTest_124 f_TK_68 rfl rfl (rfO hM rfl) ?_
                  refine pw_iconst 1 d_TK_failedTest_127 (by decide) ?_
                  refine pw_iaN (n := 1) d_TK_failedTest_128 rfl (by omega) (by decide) ?_
                  refine pw_istore d_TK_failedTest_129 (by decide) ?_
                  dsimp only [stL, kil, isL, cat]
                  refine pw_aload_n d_TK_failedTest_131 rfl ?_
                  refine pw_getR d_TK_failedTest_132 f_TK_14 rfl rfl (rfO hM rfl) ?_
                  refine c_TK_failedTest_135 rfl (Nat.le_of_ble_eq_true rfl) (pm_leap hM) ?_
                  refine pw_iconst 3 d_TK_failedTest_138 (by decide) ?_
                  refine pw_icmp_eq (tgt := 154) d_TK_failedTest_139 (by decide) (fun h139 => ?_) (fun h139 => ?_)
                  · refine pw_bipush (6) d_TK_failedTest_154 (by decide) ?_
                    refine pw_ireturn d_TK_failedTest_156 rfl ?_ ?_
                    · (try simp only [lg_lt, lg_gt, lg_ge, lg_le, lg_eq, Classical.not_not, ft_if] at h9 h21 h32 h55 h72 h91 h109 h115 h139); first | exact absurd h61 h115 | ((first | have kh9 := eq_false h9 | have kh9 := eq_true h9); (first | have kh21 := eq_false h21 | have kh21 := eq_true h21); (first | have kh32 := eq_false h32 | have kh32 := eq_true h32); (first | have kh55 := eq_false h55 | have kh55 := eq_true h55); (first | have kh72 := eq_false h72 | have kh72 := eq_true h72); (first | have kh91 := eq_false h91 | have kh91 := eq_true h91); (first | have kh109 := eq_false h109 | have kh109 := eq_true h109); (first | have kh115 := eq_false h115 | have kh115 := eq_true h115); (first | have kh139 := eq_false h139 | have kh139 := eq_true h139); simp only [kh9, kh21, kh32, kh55, kh72, kh91, kh109, kh115, kh139, and_true, true_and, and_false, false_and, not_true_eq_false, not_false_eq_true, or_true, true_or, or_false, false_or, if_true, if_false, and_self, or_self])
                    · rfl
                  · refine pw_iload d_TK_failedTest_142 rfl ?_
                    refine pw_if_eq (tgt := 154) d_TK_failedTest_144 (by decide) (fun h144 => ?_) (fun h144 => ?_)
                    · refine pw_bipush (6) d_TK_failedTest_154 (by decide) ?_
                      refine pw_ireturn d_TK_failedTest_156 rfl ?_ ?_
                      · (try simp only [lg_lt, lg_gt, lg_ge, lg_le, lg_eq, Classical.not_not, ft_if] at h9 h21 h32 h55 h72 h91 h109 h115 h139 h144); first | exact absurd h61 h115 | ((first | have kh9 := eq_false h9 | have kh9 := eq_true h9); (first | have kh21 := eq_false h21 | have kh21 := eq_true h21); (first | have kh32 := eq_false h32 | have kh32 := eq_true h32); (first | have kh55 := eq_false h55 | have kh55 := eq_true h55); (first | have kh72 := eq_false h72 | have kh72 := eq_true h72); (first | have kh91 := eq_false h91 | have kh91 := eq_true h91); (first | have kh109 := eq_false h109 | have kh109 := eq_true h109); (first | have kh115 := eq_false h115 | have kh115 := eq_true h115); (first | have kh139 := eq_false h139 | have kh139 := eq_true h139); (first | have kh144 := eq_false h144 | have kh144 := eq_true h144); simp only [kh9, kh21, kh32, kh55, kh72, kh91, kh109, kh115, kh139, kh144, and_true, true_and, and_false, false_and, not_true_eq_false, not_false_eq_true, or_true, true_or, or_false, false_or, if_true, if_false, and_self, or_self])
                      · rfl
                    · refine pw_iload d_TK_failedTest_147 rfl ?_
                      refine pw_bipush (15) d_TK_failedTest_149 (by decide) ?_
                      refine pw_icmp_le (tgt := 157) d_TK_failedTest_151 (by decide) (fun h151 => ?_) (fun h151 => ?_)
                      · refine pw_aload_n d_TK_failedTest_157 rfl ?_
                        refine pw_getR d_TK_failedTest_158 f_TK_14 rfl rfl (rfO hM rfl) ?_
                        refine c_TK_failedTest_161 rfl (Nat.le_of_ble_eq_true rfl) (pm_twiceRootDistance hM hb) ?_
                        refine pw_ldc2 (2097152) d_TK_failedTest_164 g477 ?_
                        refine pw_lcmp d_TK_failedTest_167 ?_
                        refine pw_if_le (tgt := 174) d_TK_failedTest_168 (by decide) (fun h168 => ?_) (fun h168 => ?_)
                        · refine pw_aload_n d_TK_failedTest_174 rfl ?_
                          refine pw_aload_n d_TK_failedTest_175 rfl ?_
                          refine c_TK_failedTest_176 rfl (Nat.le_of_ble_eq_true rfl) (pm_toldOffset hM hb p) ?_
                          refine pw_lstore d_TK_failedTest_179 (by decide) ?_
                          dsimp only [stL, kil, isL, cat]
                          refine pw_lload d_TK_failedTest_181 rfl ?_
                          refine pw_ldc2 (-1099511627776) d_TK_failedTest_183 g486 ?_
                          refine pw_lcmp d_TK_failedTest_186 ?_
                          refine pw_if_le (tgt := 199) d_TK_failedTest_187 (by decide) (fun h187 => ?_) (fun h187 => ?_)
                          · refine pw_bipush (8) d_TK_failedTest_199 (by decide) ?_
                            refine pw_goto (tgt := 205) d_TK_failedTest_201 (by decide) ?_
                            refine pw_ireturn d_TK_failedTest_205 rfl ?_ ?_
                            · (try simp only [lg_lt, lg_gt, lg_ge, lg_le, lg_eq, Classical.not_not, ft_if] at h9 h21 h32 h55 h72 h91 h109 h115 h139 h144 h151 h168 h187); first | exact absurd h61 h115 | ((first | have kh9 := eq_false h9 | have kh9 := eq_true h9); (first | have kh21 := eq_false h21 | have kh21 := eq_true h21); (first | have kh32 := eq_false h32 | have kh32 := eq_true h32); (first | have kh55 := eq_false h55 | have kh55 := eq_true h55); (first | have kh72 := eq_false h72 | have kh72 := eq_true h72); (first | have kh91 := eq_false h91 | have kh91 := eq_true h91); (first | have kh109 := eq_false h109 | have kh109 := eq_true h109); (first | have kh115 := eq_false h115 | have kh115 := eq_true h115); (first | have kh139 := eq_false h139 | have kh139 := eq_true h139); (first | have kh144 := eq_false h144 | have kh144 := eq_true h144); (first | have kh151 := eq_false h151 | have kh151 := eq_true h151); (first | have kh168 := eq_false h168 | have kh168 := eq_true h168); (first | have kh187 := eq_false h187 | have kh187 := eq_true h187); simp only [kh9, kh21, kh32, kh55, kh72, kh91, kh109, kh115, kh139, kh144, kh151, kh168, kh187, and_true, true_and, and_false, false_and, not_true_eq_false, not_false_eq_true, or_true, true_or, or_false, false_or, if_true, if_false, and_self, or_self])
                            · rfl
                          · refine pw_lload d_TK_failedTest_190 rfl ?_
                            refine pw_ldc2 (1099511627776) d_TK_failedTest_192 g487 ?_
                            refine pw_lcmp d_TK_failedTest_195 ?_
                            refine pw_if_lt (tgt := 204) d_TK_failedTest_196 (by decide) (fun h196 => ?_) (fun h196 => ?_)
                            · refine pw_iconst 0 d_TK_failedTest_204 (by decide) ?_
                              refine pw_ireturn d_TK_failedTest_205 rfl ?_ ?_
                              · (try simp only [lg_lt, lg_gt, lg_ge, lg_le, lg_eq, Classical.not_not, ft_if] at h9 h21 h32 h55 h72 h91 h109 h115 h139 h144 h151 h168 h187 h196); first | exact absurd h61 h115 | ((first | have kh9 := eq_false h9 | have kh9 := eq_true h9); (first | have kh21 := eq_false h21 | have kh21 := eq_true h21); (first | have kh32 := eq_false h32 | have kh32 := eq_true h32); (first | have kh55 := eq_false h55 | have kh55 := eq_true h55); (first | have kh72 := eq_false h72 | have kh72 := eq_true h72); (first | have kh91 := eq_false h91 | have kh91 := eq_true h91); (first | have kh109 := eq_false h109 | have kh109 := eq_true h109); (first | have kh115 := eq_false h115 | have kh115 := eq_true h115); (first | have kh139 := eq_false h139 | have kh139 := eq_true h139); (first | have kh144 := eq_false h144 | have kh144 := eq_true h144); (first | have kh151 := eq_false h151 | have kh151 := eq_true h151); (first | have kh168 := eq_false h168 | have kh168 := eq_true h168); (first | have kh187 := eq_false h187 | have kh187 := eq_true h187); (first | have kh196 := eq_false h196 | have kh196 := eq_true h196); simp only [kh9, kh21, kh32, kh55, kh72, kh91, kh109, kh115, kh139, kh144, kh151, kh168, kh187, kh196, and_true, true_and, and_false, false_and, not_true_eq_false, not_false_eq_true, or_true, true_or, or_false, false_or, if_true, if_false, and_self, or_self])
                              · rfl
                            · refine pw_bipush (8) d_TK_failedTest_199 (by decide) ?_
                              refine pw_goto (tgt := 205) d_TK_failedTest_201 (by decide) ?_
                              refine pw_ireturn d_TK_failedTest_205 rfl ?_ ?_
                              · (try simp only [lg_lt, lg_gt, lg_ge, lg_le, lg_eq, Classical.not_not, ft_if] at h9 h21 h32 h55 h72 h91 h109 h115 h139 h144 h151 h168 h187 h196); first | exact absurd h61 h115 | ((first | have kh9 := eq_false h9 | have kh9 := eq_true h9); (first | have kh21 := eq_false h21 | have kh21 := eq_true h21); (first | have kh32 := eq_false h32 | have kh32 := eq_true h32); (first | have kh55 := eq_false h55 | have kh55 := eq_true h55); (first | have kh72 := eq_false h72 | have kh72 := eq_true h72); (first | have kh91 := eq_false h91 | have kh91 := eq_true h91); (first | have kh109 := eq_false h109 | have kh109 := eq_true h109); (first | have kh115 := eq_false h115 | have kh115 := eq_true h115); (first | have kh139 := eq_false h139 | have kh139 := eq_true h139); (first | have kh144 := eq_false h144 | have kh144 := eq_true h144); (first | have kh151 := eq_false h151 | have kh151 := eq_true h151); (first | have kh168 := eq_false h168 | have kh168 := eq_true h168); (first | have kh187 := eq_false h187 | have kh187 := eq_true h187); (first | have kh196 := eq_false h196 | have kh196 := eq_true h196); simp only [kh9, kh21, kh32, kh55, kh72, kh91, kh109, kh115, kh139, kh144, kh151, kh168, kh187, kh196, and_true, true_and, and_false, false_and, not_true_eq_false, not_false_eq_true, or_true, true_or, or_false, false_or, if_true, if_false, and_self, or_self])
                              · rfl
                        · refine pw_bipush (7) d_TK_failedTest_171 (by decide) ?_
                          refine pw_ireturn d_TK_failedTest_173 rfl ?_ ?_
                          · (try simp only [lg_lt, lg_gt, lg_ge, lg_le, lg_eq, Classical.not_not, ft_if] at h9 h21 h32 h55 h72 h91 h109 h115 h139 h144 h151 h168); first | exact absurd h61 h115 | ((first | have kh9 := eq_false h9 | have kh9 := eq_true h9); (first | have kh21 := eq_false h21 | have kh21 := eq_true h21); (first | have kh32 := eq_false h32 | have kh32 := eq_true h32); (first | have kh55 := eq_false h55 | have kh55 := eq_true h55); (first | have kh72 := eq_false h72 | have kh72 := eq_true h72); (first | have kh91 := eq_false h91 | have kh91 := eq_true h91); (first | have kh109 := eq_false h109 | have kh109 := eq_true h109); (first | have kh115 := eq_false h115 | have kh115 := eq_true h115); (first | have kh139 := eq_false h139 | have kh139 := eq_true h139); (first | have kh144 := eq_false h144 | have kh144 := eq_true h144); (first | have kh151 := eq_false h151 | have kh151 := eq_true h151); (first | have kh168 := eq_false h168 | have kh168 := eq_true h168); simp only [kh9, kh21, kh32, kh55, kh72, kh91, kh109, kh115, kh139, kh144, kh151, kh168, and_true, true_and, and_false, false_and, not_true_eq_false, not_false_eq_true, or_true, true_or, or_false, false_or, if_true, if_false, and_self, or_self])
                          · rfl
                      · refine pw_bipush (6) d_TK_failedTest_154 (by decide) ?_
                        refine pw_ireturn d_TK_failedTest_156 rfl ?_ ?_
                        · (try simp only [lg_lt, lg_gt, lg_ge, lg_le, lg_eq, Classical.not_not, ft_if] at h9 h21 h32 h55 h72 h91 h109 h115 h139 h144 h151); first | exact absurd h61 h115 | ((first | have kh9 := eq_false h9 | have kh9 := eq_true h9); (first | have kh21 := eq_false h21 | have kh21 := eq_true h21); (first | have kh32 := eq_false h32 | have kh32 := eq_true h32); (first | have kh55 := eq_false h55 | have kh55 := eq_true h55); (first | have kh72 := eq_false h72 | have kh72 := eq_true h72); (first | have kh91 := eq_false h91 | have kh91 := eq_true h91); (first | have kh109 := eq_false h109 | have kh109 := eq_true h109); (first | have kh115 := eq_false h115 | have kh115 := eq_true h115); (first | have kh139 := eq_false h139 | have kh139 := eq_true h139); (first | have kh144 := eq_false h144 | have kh144 := eq_true h144); (first | have kh151 := eq_false h151 | have kh151 := eq_true h151); simp only [kh9, kh21, kh32, kh55, kh72, kh91, kh109, kh115, kh139, kh144, kh151, and_true, true_and, and_false, false_and, not_true_eq_false, not_false_eq_true, or_true, true_or, or_false, false_or, if_true, if_false, and_self, or_self])
                        · rfl
                · refine pw_iconst 5 d_TK_failedTest_118 (by decide) ?_
                  refine pw_ireturn d_TK_failedTest_119 rfl ?_ ?_
                  · (try simp only [lg_lt, lg_gt, lg_ge, lg_le, lg_eq, Classical.not_not, ft_if] at h9 h21 h32 h55 h72 h91 h109 h115); first | exact absurd h61 h115 | ((first | have kh9 := eq_false h9 | have kh9 := eq_true h9); (first | have kh21 := eq_false h21 | have kh21 := eq_true h21); (first | have kh32 := eq_false h32 | have kh32 := eq_true h32); (first | have kh55 := eq_false h55 | have kh55 := eq_true h55); (first | have kh72 := eq_false h72 | have kh72 := eq_true h72); (first | have kh91 := eq_false h91 | have kh91 := eq_true h91); (first | have kh109 := eq_false h109 | have kh109 := eq_true h109); (first | have kh115 := eq_false h115 | have kh115 := eq_true h115); simp only [kh9, kh21, kh32, kh55, kh72, kh91, kh109, kh115, and_true, true_and, and_false, false_and, not_true_eq_false, not_false_eq_true, or_true, true_or, or_false, false_or, if_true, if_false, and_self, or_self])
                  · rfl
            · refine pw_iconst 4 d_TK_failedTest_94 (by decide) ?_
              refine pw_ireturn d_TK_failedTest_95 rfl ?_ ?_
              · (try simp only [lg_lt, lg_gt, lg_ge, lg_le, lg_eq, Classical.not_not, ft_if] at h9 h21 h32 h55 h72 h91); first | exact absurd h61 h115 | ((first | have kh9 := eq_false h9 | have kh9 := eq_true h9); (first | have kh21 := eq_false h21 | have kh21 := eq_true h21); (first | have kh32 := eq_false h32 | have kh32 := eq_true h32); (first | have kh55 := eq_false h55 | have kh55 := eq_true h55); (first | have kh72 := eq_false h72 | have kh72 := eq_true h72); (first | have kh91 := eq_false h91 | have kh91 := eq_true h91); simp only [kh9, kh21, kh32, kh55, kh72, kh91, and_true, true_and, and_false, false_and, not_true_eq_false, not_false_eq_true, or_true, true_or, or_false, false_or, if_true, if_false, and_self, or_self])
              · rfl
        · refine pw_lload_n d_TK_failedTest_58 rfl ?_
          refine pw_lconst 0 d_TK_failedTest_59 (by decide) ?_
          refine pw_lcmp d_TK_failedTest_60 ?_
          refine pw_if_eq (tgt := 66) d_TK_failedTest_61 (by decide) (fun h61 => ?_) (fun h61 => ?_)
          · refine pw_aload_n d_TK_failedTest_66 rfl ?_
            refine pw_getL d_TK_failedTest_67 f_TK_106 rfl rfl ?_
            refine pw_lconst 0 d_TK_failedTest_70 (by decide) ?_
            refine pw_lcmp d_TK_failedTest_71 ?_
            refine pw_if_eq (tgt := 94) d_TK_failedTest_72 (by decide) (fun h72 => ?_) (fun h72 => ?_)
            · refine pw_iconst 4 d_TK_failedTest_94 (by decide) ?_
              refine pw_ireturn d_TK_failedTest_95 rfl ?_ ?_
              · (try simp only [lg_lt, lg_gt, lg_ge, lg_le, lg_eq, Classical.not_not, ft_if] at h9 h21 h32 h55 h61 h72); first | exact absurd h61 h115 | ((first | have kh9 := eq_false h9 | have kh9 := eq_true h9); (first | have kh21 := eq_false h21 | have kh21 := eq_true h21); (first | have kh32 := eq_false h32 | have kh32 := eq_true h32); (first | have kh55 := eq_false h55 | have kh55 := eq_true h55); (first | have kh61 := eq_false h61 | have kh61 := eq_true h61); (first | have kh72 := eq_false h72 | have kh72 := eq_true h72); simp only [kh9, kh21, kh32, kh55, kh61, kh72, and_true, true_and, and_false, false_and, not_true_eq_false, not_false_eq_true, or_true, true_or, or_false, false_or, if_true, if_false, and_self, or_self])
              · rfl
            · refine pw_aload_n d_TK_failedTest_75 rfl ?_
              refine pw_getR d_TK_failedTest_76 f_TK_14 rfl rfl (rfO hM rfl) ?_
              refine pw_bipush (24) d_TK_failedTest_79 (by decide) ?_
              refine pw_bipush (8) d_TK_failedTest_81 (by decide) ?_
              refine c_TK_failedTest_83 rfl (Nat.le_of_ble_eq_true rfl) (pm_read hM hb 24 8 (by decide)) ?_
              refine pw_aload_n d_TK_failedTest_86 rfl ?_
              refine pw_getL d_TK_failedTest_87 f_TK_106 rfl rfl ?_
              refine pw_lcmp d_TK_failedTest_90 ?_
              refine pw_if_eq (tgt := 96) d_TK_failedTest_91 (by decide) (fun h91 => ?_) (fun h91 => ?_)
              · refine pw_aload_n d_TK_failedTest_96 rfl ?_
                refine pw_getR d_TK_failedTest_97 f_TK_14 rfl rfl (rfO hM rfl) ?_
                refine pw_bipush (32) d_TK_failedTest_100 (by decide) ?_
                refine pw_bipush (8) d_TK_failedTest_102 (by decide) ?_
                refine c_TK_failedTest_104 rfl (Nat.le_of_ble_eq_true rfl) (pm_read hM hb 32 8 (by decide)) ?_
                refine pw_lconst 0 d_TK_failedTest_107 (by decide) ?_
                refine pw_lcmp d_TK_failedTest_108 ?_
                refine pw_if_eq (tgt := 118) d_TK_failedTest_109 (by decide) (fun h109 => ?_) (fun h109 => ?_)
                · refine pw_iconst 5 d_TK_failedTest_118 (by decide) ?_
                  refine pw_ireturn d_TK_failedTest_119 rfl ?_ ?_
                  · (try simp only [lg_lt, lg_gt, lg_ge, lg_le, lg_eq, Classical.not_not, ft_if] at h9 h21 h32 h55 h61 h72 h91 h109); first | exact absurd h61 h115 | ((first | have kh9 := eq_false h9 | have kh9 := eq_true h9); (first | have kh21 := eq_false h21 | have kh21 := eq_true h21); (first | have kh32 := eq_false h32 | have kh32 := eq_true h32); (first | have kh55 := eq_false h55 | have kh55 := eq_true h55); (first | have kh61 := eq_false h61 | have kh61 := eq_true h61); (first | have kh72 := eq_false h72 | have kh72 := eq_true h72); (first | have kh91 := eq_false h91 | have kh91 := eq_true h91); (first | have kh109 := eq_false h109 | have kh109 := eq_true h109); simp only [kh9, kh21, kh32, kh55, kh61, kh72, kh91, kh109, and_true, true_and, and_false, false_and, not_true_eq_false, not_false_eq_true, or_true, true_or, or_false, false_or, if_true, if_false, and_self, or_self])
                  · rfl
                · refine pw_lload_n d_TK_failedTest_112 rfl ?_
                  refine pw_lconst 0 d_TK_failedTest_113 (by decide) ?_
                  refine pw_lcmp d_TK_failedTest_114 ?_
                  refine pw_if_ne (tgt := 120) d_TK_failedTest_115 (by decide) (fun h115 => ?_) (fun h115 => ?_)
                  · refine pw_aload_n d_TK_failedTest_120 rfl ?_
                    refine pw_getR d_TK_failedTest_121 f_TK_14 rfl rfl (rfO hM rfl) ?_
                    refine pw_getR d_TK_failedTest_124 f_TK_68 rfl rfl (rfO hM rfl) ?_
                    refine pw_iconst 1 d_TK_failedTest_127 (by decide) ?_
                    refine pw_iaN (n := 1) d_TK_failedTest_128 rfl (by omega) (by decide) ?_
                    refine pw_istore d_TK_failedTest_129 (by decide) ?_
                    dsimp only [stL, kil, isL, cat]
                    refine pw_aload_n d_TK_failedTest_131 rfl ?_
                    refine pw_getR d_TK_failedTest_132 f_TK_14 rfl rfl (rfO hM rfl) ?_
                    refine c_TK_failedTest_135 rfl (Nat.le_of_ble_eq_true rfl) (pm_leap hM) ?_
                    refine pw_iconst 3 d_TK_failedTest_138 (by decide) ?_
                    refine pw_icmp_eq (tgt := 154) d_TK_failedTest_139 (by decide) (fun h139 => ?_) (fun h139 => ?_)
                    · refine pw_bipush (6) d_TK_failedTest_154 (by decide) ?_
                      refine pw_ireturn d_TK_failedTest_156 rfl ?_ ?_
                      · (try simp only [lg_lt, lg_gt, lg_ge, lg_le, lg_eq, Classical.not_not, ft_if] at h9 h21 h32 h55 h61 h72 h91 h109 h115 h139); first | exact absurd h61 h115 | ((first | have kh9 := eq_false h9 | have kh9 := eq_true h9); (first | have kh21 := eq_false h21 | have kh21 := eq_true h21); (first | have kh32 := eq_false h32 | have kh32 := eq_true h32); (first | have kh55 := eq_false h55 | have kh55 := eq_true h55); (first | have kh61 := eq_false h61 | have kh61 := eq_true h61); (first | have kh72 := eq_false h72 | have kh72 := eq_true h72); (first | have kh91 := eq_false h91 | have kh91 := eq_true h91); (first | have kh109 := eq_false h109 | have kh109 := eq_true h109); (first | have kh115 := eq_false h115 | have kh115 := eq_true h115); (first | have kh139 := eq_false h139 | have kh139 := eq_true h139); simp only [kh9, kh21, kh32, kh55, kh61, kh72, kh91, kh109, kh115, kh139, and_true, true_and, and_false, false_and, not_true_eq_false, not_false_eq_true, or_true, true_or, or_false, false_or, if_true, if_false, and_self, or_self])
                      · rfl
                    · refine pw_iload d_TK_failedTest_142 rfl ?_
                      refine pw_if_eq (tgt := 154) d_TK_failedTest_144 (by decide) (fun h144 => ?_) (fun h144 => ?_)
                      · refine pw_bipush (6) d_TK_failedTest_154 (by decide) ?_
                        refine pw_ireturn d_TK_failedTest_156 rfl ?_ ?_
                        · (try simp only [lg_lt, lg_gt, lg_ge, lg_le, lg_eq, Classical.not_not, ft_if] at h9 h21 h32 h55 h61 h72 h91 h109 h115 h139 h144); first | exact absurd h61 h115 | ((first | have kh9 := eq_false h9 | have kh9 := eq_true h9); (first | have kh21 := eq_false h21 | have kh21 := eq_true h21); (first | have kh32 := eq_false h32 | have kh32 := eq_true h32); (first | have kh55 := eq_false h55 | have kh55 := eq_true h55); (first | have kh61 := eq_false h61 | have kh61 := eq_true h61); (first | have kh72 := eq_false h72 | have kh72 := eq_true h72); (first | have kh91 := eq_false h91 | have kh91 := eq_true h91); (first | have kh109 := eq_false h109 | have kh109 := eq_true h109); (first | have kh115 := eq_false h115 | have kh115 := eq_true h115); (first | have kh139 := eq_false h139 | have kh139 := eq_true h139); (first | have kh144 := eq_false h144 | have kh144 := eq_true h144); simp only [kh9, kh21, kh32, kh55, kh61, kh72, kh91, kh109, kh115, kh139, kh144, and_true, true_and, and_false, false_and, not_true_eq_false, not_false_eq_true, or_true, true_or, or_false, false_or, if_true, if_false, and_self, or_self])
                        · rfl
                      · refine pw_iload d_TK_failedTest_147 rfl ?_
                        refine pw_bipush (15) d_TK_failedTest_149 (by decide) ?_
                        refine pw_icmp_le (tgt := 157) d_TK_failedTest_151 (by decide) (fun h151 => ?_) (fun h151 => ?_)
                        · refine pw_aload_n d_TK_failedTest_157 rfl ?_
                          refine pw_getR d_TK_failedTest_158 f_TK_14 rfl rfl (rfO hM rfl) ?_
                          refine c_TK_failedTest_161 rfl (Nat.le_of_ble_eq_true rfl) (pm_twiceRootDistance hM hb) ?_
                          refine pw_ldc2 (2097152) d_TK_failedTest_164 g477 ?_
                          refine pw_lcmp d_TK_failedTest_167 ?_
                          refine pw_if_le (tgt := 174) d_TK_failedTest_168 (by decide) (fun h168 => ?_) (fun h168 => ?_)
                          · refine pw_aload_n d_TK_failedTest_174 rfl ?_
                            refine pw_aload_n d_TK_failedTest_175 rfl ?_
                            refine c_TK_failedTest_176 rfl (Nat.le_of_ble_eq_true rfl) (pm_toldOffset hM hb p) ?_
                            refine pw_lstore d_TK_failedTest_179 (by decide) ?_
                            dsimp only [stL, kil, isL, cat]
                            refine pw_lload d_TK_failedTest_181 rfl ?_
                            refine pw_ldc2 (-1099511627776) d_TK_failedTest_183 g486 ?_
                            refine pw_lcmp d_TK_failedTest_186 ?_
                            refine pw_if_le (tgt := 199) d_TK_failedTest_187 (by decide) (fun h187 => ?_) (fun h187 => ?_)
                            · refine pw_bipush (8) d_TK_failedTest_199 (by decide) ?_
                              refine pw_goto (tgt := 205) d_TK_failedTest_201 (by decide) ?_
                              refine pw_ireturn d_TK_failedTest_205 rfl ?_ ?_
                              · (try simp only [lg_lt, lg_gt, lg_ge, lg_le, lg_eq, Classical.not_not, ft_if] at h9 h21 h32 h55 h61 h72 h91 h109 h115 h139 h144 h151 h168 h187); first | exact absurd h61 h115 | ((first | have kh9 := eq_false h9 | have kh9 := eq_true h9); (first | have kh21 := eq_false h21 | have kh21 := eq_true h21); (first | have kh32 := eq_false h32 | have kh32 := eq_true h32); (first | have kh55 := eq_false h55 | have kh55 := eq_true h55); (first | have kh61 := eq_false h61 | have kh61 := eq_true h61); (first | have kh72 := eq_false h72 | have kh72 := eq_true h72); (first | have kh91 := eq_false h91 | have kh91 := eq_true h91); (first | have kh109 := eq_false h109 | have kh109 := eq_true h109); (first | have kh115 := eq_false h115 | have kh115 := eq_true h115); (first | have kh139 := eq_false h139 | have kh139 := eq_true h139); (first | have kh144 := eq_false h144 | have kh144 := eq_true h144); (first | have kh151 := eq_false h151 | have kh151 := eq_true h151); (first | have kh168 := eq_false h168 | have kh168 := eq_true h168); (first | have kh187 := eq_false h187 | have kh187 := eq_true h187); simp only [kh9, kh21, kh32, kh55, kh61, kh72, kh91, kh109, kh115, kh139, kh144, kh151, kh168, kh187, and_true, true_and, and_false, false_and, not_true_eq_false, not_false_eq_true, or_true, true_or, or_false, false_or, if_true, if_false, and_self, or_self])
                              · rfl
                            · refine pw_lload d_TK_failedTest_190 rfl ?_
                              refine pw_ldc2 (1099511627776) d_TK_failedTest_192 g487 ?_
                              refine pw_lcmp d_TK_failedTest_195 ?_
                              refine pw_if_lt (tgt := 204) d_TK_failedTest_196 (by decide) (fun h196 => ?_) (fun h196 => ?_)
                              · refine pw_iconst 0 d_TK_failedTest_204 (by decide) ?_
                                refine pw_ireturn d_TK_failedTest_205 rfl ?_ ?_
                                · (try simp only [lg_lt, lg_gt, lg_ge, lg_le, lg_eq, Classical.not_not, ft_if] at h9 h21 h32 h55 h61 h72 h91 h109 h115 h139 h144 h151 h168 h187 h196); first | exact absurd h61 h115 | ((first | have kh9 := eq_false h9 | have kh9 := eq_true h9); (first | have kh21 := eq_false h21 | have kh21 := eq_true h21); (first | have kh32 := eq_false h32 | have kh32 := eq_true h32); (first | have kh55 := eq_false h55 | have kh55 := eq_true h55); (first | have kh61 := eq_false h61 | have kh61 := eq_true h61); (first | have kh72 := eq_false h72 | have kh72 := eq_true h72); (first | have kh91 := eq_false h91 | have kh91 := eq_true h91); (first | have kh109 := eq_false h109 | have kh109 := eq_true h109); (first | have kh115 := eq_false h115 | have kh115 := eq_true h115); (first | have kh139 := eq_false h139 | have kh139 := eq_true h139); (first | have kh144 := eq_false h144 | have kh144 := eq_true h144); (first | have kh151 := eq_false h151 | have kh151 := eq_true h151); (first | have kh168 := eq_false h168 | have kh168 := eq_true h168); (first | have kh187 := eq_false h187 | have kh187 := eq_true h187); (first | have kh196 := eq_false h196 | have kh196 := eq_true h196); simp only [kh9, kh21, kh32, kh55, kh61, kh72, kh91, kh109, kh115, kh139, kh144, kh151, kh168, kh187, kh196, and_true, true_and, and_false, false_and, not_true_eq_false, not_false_eq_true, or_true, true_or, or_false, false_or, if_true, if_false, and_self, or_self])
                                · rfl
                              · refine pw_bipush (8) d_TK_failedTest_199 (by decide) ?_
                                refine pw_goto (tgt := 205) d_TK_failedTest_201 (by decide) ?_
                                refine pw_ireturn d_TK_failedTest_205 rfl ?_ ?_
                                · (try simp only [lg_lt, lg_gt, lg_ge, lg_le, lg_eq, Classical.not_not, ft_if] at h9 h21 h32 h55 h61 h72 h91 h109 h115 h139 h144 h151 h168 h187 h196); first | exact absurd h61 h115 | ((first | have kh9 := eq_false h9 | have kh9 := eq_true h9); (first | have kh21 := eq_false h21 | have kh21 := eq_true h21); (first | have kh32 := eq_false h32 | have kh32 := eq_true h32); (first | have kh55 := eq_false h55 | have kh55 := eq_true h55); (first | have kh61 := eq_false h61 | have kh61 := eq_true h61); (first | have kh72 := eq_false h72 | have kh72 := eq_true h72); (first | have kh91 := eq_false h91 | have kh91 := eq_true h91); (first | have kh109 := eq_false h109 | have kh109 := eq_true h109); (first | have kh115 := eq_false h115 | have kh115 := eq_true h115); (first | have kh139 := eq_false h139 | have kh139 := eq_true h139); (first | have kh144 := eq_false h144 | have kh144 := eq_true h144); (first | have kh151 := eq_false h151 | have kh151 := eq_true h151); (first | have kh168 := eq_false h168 | have kh168 := eq_true h168); (first | have kh187 := eq_false h187 | have kh187 := eq_true h187); (first | have kh196 := eq_false h196 | have kh196 := eq_true h196); simp only [kh9, kh21, kh32, kh55, kh61, kh72, kh91, kh109, kh115, kh139, kh144, kh151, kh168, kh187, kh196, and_true, true_and, and_false, false_and, not_true_eq_false, not_false_eq_true, or_true, true_or, or_false, false_or, if_true, if_false, and_self, or_self])
                                · rfl
                          · refine pw_bipush (7) d_TK_failedTest_171 (by decide) ?_
                            refine pw_ireturn d_TK_failedTest_173 rfl ?_ ?_
                            · (try simp only [lg_lt, lg_gt, lg_ge, lg_le, lg_eq, Classical.not_not, ft_if] at h9 h21 h32 h55 h61 h72 h91 h109 h115 h139 h144 h151 h168); first | exact absurd h61 h115 | ((first | have kh9 := eq_false h9 | have kh9 := eq_true h9); (first | have kh21 := eq_false h21 | have kh21 := eq_true h21); (first | have kh32 := eq_false h32 | have kh32 := eq_true h32); (first | have kh55 := eq_false h55 | have kh55 := eq_true h55); (first | have kh61 := eq_false h61 | have kh61 := eq_true h61); (first | have kh72 := eq_false h72 | have kh72 := eq_true h72); (first | have kh91 := eq_false h91 | have kh91 := eq_true h91); (first | have kh109 := eq_false h109 | have kh109 := eq_true h109); (first | have kh115 := eq_false h115 | have kh115 := eq_true h115); (first | have kh139 := eq_false h139 | have kh139 := eq_true h139); (first | have kh144 := eq_false h144 | have kh144 := eq_true h144); (first | have kh151 := eq_false h151 | have kh151 := eq_true h151); (first | have kh168 := eq_false h168 | have kh168 := eq_true h168); simp only [kh9, kh21, kh32, kh55, kh61, kh72, kh91, kh109, kh115, kh139, kh144, kh151, kh168, and_true, true_and, and_false, false_and, not_true_eq_false, not_false_eq_true, or_true, true_or, or_false, false_or, if_true, if_false, and_self, or_self])
                            · rfl
                        · refine pw_bipush (6) d_TK_failedTest_154 (by decide) ?_
                          refine pw_ireturn d_TK_failedTest_156 rfl ?_ ?_
                          · (try simp only [lg_lt, lg_gt, lg_ge, lg_le, lg_eq, Classical.not_not, ft_if] at h9 h21 h32 h55 h61 h72 h91 h109 h115 h139 h144 h151); first | exact absurd h61 h115 | ((first | have kh9 := eq_false h9 | have kh9 := eq_true h9); (first | have kh21 := eq_false h21 | have kh21 := eq_true h21); (first | have kh32 := eq_false h32 | have kh32 := eq_true h32); (first | have kh55 := eq_false h55 | have kh55 := eq_true h55); (first | have kh61 := eq_false h61 | have kh61 := eq_true h61); (first | have kh72 := eq_false h72 | have kh72 := eq_true h72); (first | have kh91 := eq_false h91 | have kh91 := eq_true h91); (first | have kh109 := eq_false h109 | have kh109 := eq_true h109); (first | have kh115 := eq_false h115 | have kh115 := eq_true h115); (first | have kh139 := eq_false h139 | have kh139 := eq_true h139); (first | have kh144 := eq_false h144 | have kh144 := eq_true h144); (first | have kh151 := eq_false h151 | have kh151 := eq_true h151); simp only [kh9, kh21, kh32, kh55, kh61, kh72, kh91, kh109, kh115, kh139, kh144, kh151, and_true, true_and, and_false, false_and, not_true_eq_false, not_false_eq_true, or_true, true_or, or_false, false_or, if_true, if_false, and_self, or_self])
                          · rfl
                  · refine pw_iconst 5 d_TK_failedTest_118 (by decide) ?_
                    refine pw_ireturn d_TK_failedTest_119 rfl ?_ ?_
                    · (try simp only [lg_lt, lg_gt, lg_ge, lg_le, lg_eq, Classical.not_not, ft_if] at h9 h21 h32 h55 h61 h72 h91 h109 h115); first | exact absurd h61 h115 | ((first | have kh9 := eq_false h9 | have kh9 := eq_true h9); (first | have kh21 := eq_false h21 | have kh21 := eq_true h21); (first | have kh32 := eq_false h32 | have kh32 := eq_true h32); (first | have kh55 := eq_false h55 | have kh55 := eq_true h55); (first | have kh61 := eq_false h61 | have kh61 := eq_true h61); (first | have kh72 := eq_false h72 | have kh72 := eq_true h72); (first | have kh91 := eq_false h91 | have kh91 := eq_true h91); (first | have kh109 := eq_false h109 | have kh109 := eq_true h109); (first | have kh115 := eq_false h115 | have kh115 := eq_true h115); simp only [kh9, kh21, kh32, kh55, kh61, kh72, kh91, kh109, kh115, and_true, true_and, and_false, false_and, not_true_eq_false, not_false_eq_true, or_true, true_or, or_false, false_or, if_true, if_false, and_self, or_self])
                    · rfl
              · refine pw_iconst 4 d_TK_failedTest_94 (by decide) ?_
                refine pw_ireturn d_TK_failedTest_95 rfl ?_ ?_
                · (try simp only [lg_lt, lg_gt, lg_ge, lg_le, lg_eq, Classical.not_not, ft_if] at h9 h21 h32 h55 h61 h72 h91); first | exact absurd h61 h115 | ((first | have kh9 := eq_false h9 | have kh9 := eq_true h9); (first | have kh21 := eq_false h21 | have kh21 := eq_true h21); (first | have kh32 := eq_false h32 | have kh32 := eq_true h32); (first | have kh55 := eq_false h55 | have kh55 := eq_true h55); (first | have kh61 := eq_false h61 | have kh61 := eq_true h61); (first | have kh72 := eq_false h72 | have kh72 := eq_true h72); (first | have kh91 := eq_false h91 | have kh91 := eq_true h91); simp only [kh9, kh21, kh32, kh55, kh61, kh72, kh91, and_true, true_and, and_false, false_and, not_true_eq_false, not_false_eq_true, or_true, true_or, or_false, false_or, if_true, if_false, and_self, or_self])
                · rfl
          · refine pw_iconst 3 d_TK_failedTest_64 (by decide) ?_
            refine pw_ireturn d_TK_failedTest_65 rfl ?_ ?_
            · (try simp only [lg_lt, lg_gt, lg_ge, lg_le, lg_eq, Classical.not_not, ft_if] at h9 h21 h32 h55 h61); first | exact absurd h61 h115 | ((first | have kh9 := eq_false h9 | have kh9 := eq_true h9); (first | have kh21 := eq_false h21 | have kh21 := eq_true h21); (first | have kh32 := eq_false h32 | have kh32 := eq_true h32); (first | have kh55 := eq_false h55 | have kh55 := eq_true h55); (first | have kh61 := eq_false h61 | have kh61 := eq_true h61); simp only [kh9, kh21, kh32, kh55, kh61, and_true, true_and, and_false, false_and, not_true_eq_false, not_false_eq_true, or_true, true_or, or_false, false_or, if_true, if_false, and_self, or_self])
            · rfl
      · refine pw_iconst 2 d_TK_failedTest_35 (by decide) ?_
        refine pw_ireturn d_TK_failedTest_36 rfl ?_ ?_
        · (try simp only [lg_lt, lg_gt, lg_ge, lg_le, lg_eq, Classical.not_not, ft_if] at h9 h21 h32); first | exact absurd h61 h115 | ((first | have kh9 := eq_false h9 | have kh9 := eq_true h9); (first | have kh21 := eq_false h21 | have kh21 := eq_true h21); (first | have kh32 := eq_false h32 | have kh32 := eq_true h32); simp only [kh9, kh21, kh32, and_true, true_and, and_false, false_and, not_true_eq_false, not_false_eq_true, or_true, true_or, or_false, false_or, if_true, if_false, and_self, or_self])
        · rfl
  · refine pw_iconst 1 d_TK_failedTest_12 (by decide) ?_
    refine pw_ireturn d_TK_failedTest_13 rfl ?_ ?_
    · (try simp only [lg_lt, lg_gt, lg_ge, lg_le, lg_eq, Classical.not_not, ft_if] at h9); first | exact absurd h61 h115 | ((first | have kh9 := eq_false h9 | have kh9 := eq_true h9); simp only [kh9, and_true, true_and, and_false, false_and, not_true_eq_false, not_false_eq_true, or_true, true_or, or_false, false_or, if_true, if_false, and_self, or_self])
    · rfl
theorem mo_offsetNow (hM : M.2.2.1 = rf) (p : Nat) (hp : p < 8) : PM G l m_MO_offsetNow [vR (some MK), vI (nI p)] M (rL (oNw (rdN (M.1 (0, 21)) 32 8) (rdN (M.1 (0, 21)) 40 8) (M.2.1 (0, 23) p) (M.2.1 MK 5))) M 0 0 := by
  refine pm_in [some (vR (some MK)), some (vI (nI p)), none, none, none, none] rfl ?_
  refine pw_aload_n d_MO_offsetNow_0 rfl ?_
  refine pw_bipush (32) d_MO_offsetNow_1 (by decide) ?_
  refine pw_bipush (8) d_MO_offsetNow_3 (by decide) ?_
  refine c_MO_offsetNow_5 rfl (Nat.le_of_ble_eq_true rfl) (mo_number hM 32 8 (by decide)) ?_
  refine pw_aload_n d_MO_offsetNow_8 rfl ?_
  refine pw_getR d_MO_offsetNow_9 f_MO_16 rfl rfl (rfO hM rfl) ?_
  refine pw_iload_n d_MO_offsetNow_12 rfl ?_
  refine pw_laN (n := p) d_MO_offsetNow_13 rfl (by omega) (by decide) ?_
  refine pw_lsub d_MO_offsetNow_14 ?_
  refine pw_lstore_n d_MO_offsetNow_15 (by decide) ?_
  dsimp only [stL, kil, isL, cat]
  refine pw_aload_n d_MO_offsetNow_16 rfl ?_
  refine pw_bipush (40) d_MO_offsetNow_17 (by decide) ?_
  refine pw_bipush (8) d_MO_offsetNow_19 (by decide) ?_
  refine c_MO_offsetNow_21 rfl (Nat.le_of_ble_eq_true rfl) (mo_number hM 40 8 (by decide)) ?_
  refine pw_aload_n d_MO_offsetNow_24 rfl ?_
  refine pw_getL d_MO_offsetNow_25 f_MO_79 rfl rfl ?_
  refine pw_lsub d_MO_offsetNow_28 ?_
  refine pw_lstore d_MO_offsetNow_29 (by decide) ?_
  dsimp only [stL, kil, isL, cat]
  refine pw_lload_n d_MO_offsetNow_31 rfl ?_
  refine pw_lload d_MO_offsetNow_32 rfl ?_
  refine pw_ladd d_MO_offsetNow_34 ?_
  refine pw_ldc2 (2) d_MO_offsetNow_35 g955 ?_
  refine c_MO_offsetNow_38 (Nat.le_of_ble_eq_true rfl) (mo_floor _ 2 (by decide)) ?_
  refine pw_lreturn d_MO_offsetNow_41 rfl ?_ ?_
  · rfl
  · rfl
theorem mo_failed (hM : M.2.2.1 = rf) (p : Nat) (hp : p < 8) : PM G l m_MO_failed [vR (some MK), vI (nI p)] M (rI (ftM (M.1 MK 2) (M.1 (0, 21) 0) (M.1 (0, 21) 1) (rdN (M.1 (0, 21)) 40 8) (rdN (M.1 (0, 21)) 24 8) (rdN (M.1 (0, 21)) 32 8) (M.2.1 (0, 24) p) (M.2.1 (0, 23) p) (rdN (M.1 (0, 21)) 4 4 * 65536 / 2 + rdN (M.1 (0, 21)) 8 4 * 65536) (oNw (rdN (M.1 (0, 21)) 32 8) (rdN (M.1 (0, 21)) 40 8) (M.2.1 (0, 23) p) (M.2.1 MK 5)))) M 0 0 := by
  refine pm_in [some (vR (some MK)), some (vI (nI p)), none, none, none, none, none, none, none, none] rfl ?_
  unfold ftM
  refine pw_aload_n d_MO_failed_0 rfl ?_
  refine pw_getI d_MO_failed_1 f_MO_63 rfl rfl ?_
  refine pw_bipush (48) d_MO_failed_4 (by decide) ?_
  refine pw_icmp_eq (tgt := 11) d_MO_failed_6 (by decide) (fun h6 => ?_) (fun h6 => ?_)
  · refine pw_aload_n d_MO_failed_11 rfl ?_
    refine c_MO_failed_12 rfl (Nat.le_of_ble_eq_true rfl) (mo_version hM) ?_
    refine pw_iconst 1 d_MO_failed_15 (by decide) ?_
    refine pw_icmp_lt (tgt := 40) d_MO_failed_16 (by decide) (fun h16 => ?_) (fun h16 => ?_)
    · refine pw_iconst 2 d_MO_failed_40 (by decide) ?_
      refine pw_ireturn d_MO_failed_41 rfl ?_ ?_
      · (try simp only [lg_lt, lg_gt, lg_ge, lg_le, lg_eq, Classical.not_not, ft_vr, ft_md] at h6 h16); first | exact absurd h87 h127 | exact absurd h127 h87 | ((first | have kh6 := eq_false h6 | have kh6 := eq_true h6); (first | have kh16 := eq_false h16 | have kh16 := eq_true h16); simp only [kh6, kh16, and_true, true_and, and_false, false_and, not_true_eq_false, not_false_eq_true, or_true, true_or, or_false, false_or, if_true, if_false, and_self, or_self])
      · rfl
    · refine pw_aload_n d_MO_failed_19 rfl ?_
      refine c_MO_failed_20 rfl (Nat.le_of_ble_eq_true rfl) (mo_version hM) ?_
      refine pw_iconst 4 d_MO_failed_23 (by decide) ?_
      refine pw_icmp_gt (tgt := 40) d_MO_failed_24 (by decide) (fun h24 => ?_) (fun h24 => ?_)
      · refine pw_iconst 2 d_MO_failed_40 (by decide) ?_
        refine pw_ireturn d_MO_failed_41 rfl ?_ ?_
        · (try simp only [lg_lt, lg_gt, lg_ge, lg_le, lg_eq, Classical.not_not, ft_vr, ft_md] at h6 h16 h24); first | exact absurd h87 h127 | exact absurd h127 h87 | ((first | have kh6 := eq_false h6 | have kh6 := eq_true h6); (first | have kh16 := eq_false h16 | have kh16 := eq_true h16); (first | have kh24 := eq_false h24 | have kh24 := eq_true h24); simp only [kh6, kh16, kh24, and_true, true_and, and_false, false_and, not_true_eq_false, not_false_eq_true, or_true, true_or, or_false, false_or, if_true, if_false, and_self, or_self])
        · rfl
      · refine pw_aload_n d_MO_failed_27 rfl ?_
        refine pw_getR d_MO_failed_28 f_MO_7 rfl rfl (rfO hM rfl) ?_
        refine pw_iconst 0 d_MO_failed_31 (by decide) ?_
        refine pw_iaN (n := 0) d_MO_failed_32 rfl (by omega) (by decide) ?_
        refine pw_bipush (8) d_MO_failed_33 (by decide) ?_
        refine pw_irem d_MO_failed_35 (by decide) ?_
        refine pw_iconst 4 d_MO_failed_36 (by decide) ?_
        refine pw_icmp_eq (tgt := 42) d_MO_failed_37 (by decide) (fun h37 => ?_) (fun h37 => ?_)
        · refine pw_aload_n d_MO_failed_42 rfl ?_
          refine pw_bipush (24) d_MO_failed_43 (by decide) ?_
          refine pw_bipush (8) d_MO_failed_45 (by decide) ?_
          refine c_MO_failed_47 rfl (Nat.le_of_ble_eq_true rfl) (mo_number hM 24 8 (by decide)) ?_
          refine pw_lstore_n d_MO_failed_50 (by decide) ?_
          dsimp only [stL, kil, isL, cat]
          refine pw_aload_n d_MO_failed_51 rfl ?_
          refine pw_bipush (32) d_MO_failed_52 (by decide) ?_
          refine pw_bipush (8) d_MO_failed_54 (by decide) ?_
          refine c_MO_failed_56 rfl (Nat.le_of_ble_eq_true rfl) (mo_number hM 32 8 (by decide)) ?_
          refine pw_lstore d_MO_failed_59 (by decide) ?_
          dsimp only [stL, kil, isL, cat]
          refine pw_aload_n d_MO_failed_61 rfl ?_
          refine pw_bipush (40) d_MO_failed_62 (by decide) ?_
          refine pw_bipush (8) d_MO_failed_64 (by decide) ?_
          refine c_MO_failed_66 rfl (Nat.le_of_ble_eq_true rfl) (mo_number hM 40 8 (by decide)) ?_
          refine pw_lstore d_MO_failed_69 (by decide) ?_
          dsimp only [stL, kil, isL, cat]
          refine pw_lload d_MO_failed_71 rfl ?_
          refine pw_aload_n d_MO_failed_73 rfl ?_
          refine pw_getR d_MO_failed_74 f_MO_20 rfl rfl (rfO hM rfl) ?_
          refine pw_iload_n d_MO_failed_77 rfl ?_
          refine pw_laN (n := p) d_MO_failed_78 rfl (by omega) (by decide) ?_
          refine pw_lcmp d_MO_failed_79 ?_
          refine pw_if_ne (tgt := 92) d_MO_failed_80 (by decide) (fun h80 => ?_) (fun h80 => ?_)
          · refine pw_aload_n d_MO_failed_92 rfl ?_
            refine pw_getR d_MO_failed_93 f_MO_16 rfl rfl (rfO hM rfl) ?_
            refine pw_iload_n d_MO_failed_96 rfl ?_
            refine pw_laN (n := p) d_MO_failed_97 rfl (by omega) (by decide) ?_
            refine pw_lconst 0 d_MO_failed_98 (by decide) ?_
            refine pw_lcmp d_MO_failed_99 ?_
            refine pw_if_eq (tgt := 114) d_MO_failed_100 (by decide) (fun h100 => ?_) (fun h100 => ?_)
            · refine pw_iconst 4 d_MO_failed_114 (by decide) ?_
              refine pw_ireturn d_MO_failed_115 rfl ?_ ?_
              · (try simp only [lg_lt, lg_gt, lg_ge, lg_le, lg_eq, Classical.not_not, ft_vr, ft_md] at h6 h16 h24 h37 h80 h100); first | exact absurd h87 h127 | exact absurd h127 h87 | ((first | have kh6 := eq_false h6 | have kh6 := eq_true h6); (first | have kh16 := eq_false h16 | have kh16 := eq_true h16); (first | have kh24 := eq_false h24 | have kh24 := eq_true h24); (first | have kh37 := eq_false h37 | have kh37 := eq_true h37); (first | have kh80 := eq_false h80 | have kh80 := eq_true h80); (first | have kh100 := eq_false h100 | have kh100 := eq_true h100); simp only [kh6, kh16, kh24, kh37, kh80, kh100, and_true, true_and, and_false, false_and, not_true_eq_false, not_false_eq_true, or_true, true_or, or_false, false_or, if_true, if_false, and_self, or_self])
              · rfl
            · refine pw_lload_n d_MO_failed_103 rfl ?_
              refine pw_aload_n d_MO_failed_104 rfl ?_
              refine pw_getR d_MO_failed_105 f_MO_16 rfl rfl (rfO hM rfl) ?_
              refine pw_iload_n d_MO_failed_108 rfl ?_
              refine pw_laN (n := p) d_MO_failed_109 rfl (by omega) (by decide) ?_
              refine pw_lcmp d_MO_failed_110 ?_
              refine pw_if_eq (tgt := 116) d_MO_failed_111 (by decide) (fun h111 => ?_) (fun h111 => ?_)
              · refine pw_lload d_MO_failed_116 rfl ?_
                refine pw_lconst 0 d_MO_failed_118 (by decide) ?_
                refine pw_lcmp d_MO_failed_119 ?_
                refine pw_if_eq (tgt := 130) d_MO_failed_120 (by decide) (fun h120 => ?_) (fun h120 => ?_)
                · refine pw_iconst 5 d_MO_failed_130 (by decide) ?_
                  refine pw_ireturn d_MO_failed_131 rfl ?_ ?_
                  · (try simp only [lg_lt, lg_gt, lg_ge, lg_le, lg_eq, Classical.not_not, ft_vr, ft_md] at h6 h16 h24 h37 h80 h100 h111 h120); first | exact absurd h87 h127 | exact absurd h127 h87 | ((first | have kh6 := eq_false h6 | have kh6 := eq_true h6); (first | have kh16 := eq_false h16 | have kh16 := eq_true h16); (first | have kh24 := eq_false h24 | have kh24 := eq_true h24); (first | have kh37 := eq_false h37 | have kh37 := eq_true h37); (first | have kh80 := eq_false h80 | have kh80 := eq_true h80); (first | have kh100 := eq_false h100 | have kh100 := eq_true h100); (first | have kh111 := eq_false h111 | have kh111 := eq_true h111); (first | have kh120 := eq_false h120 | have kh120 := eq_true h120); simp only [kh6, kh16, kh24, kh37, kh80, kh100, kh111, kh120, and_true, true_and, and_false, false_and, not_true_eq_false, not_false_eq_true, or_true, true_or, or_false, false_or, if_true, if_false, and_self, or_self])
                  · rfl
                · refine pw_lload d_MO_failed_123 rfl ?_
                  refine pw_lconst 0 d_MO_failed_125 (by decide) ?_
                  refine pw_lcmp d_MO_failed_126 ?_
                  refine pw_if_ne (tgt := 132) d_MO_failed_127 (by decide) (fun h127 => ?_) (fun h127 => ?_)
                  · refine pw_aload_n d_MO_failed_132 rfl ?_
                    refine pw_getR d_MO_failed_133 f_MO_7 rfl rfl (rfO hM rfl) ?_
                    refine pw_iconst 0 d_MO_failed_136 (by decide) ?_
                    refine pw_iaN (n := 0) d_MO_failed_137 rfl (by omega) (by decide) ?_
                    refine pw_bipush (64) d_MO_failed_138 (by decide) ?_
                    refine pw_idiv d_MO_failed_140 (by decide) ?_
                    refine pw_iconst 3 d_MO_failed_141 (by decide) ?_
                    refine pw_icmp_eq (tgt := 165) d_MO_failed_142 (by decide) (fun h142 => ?_) (fun h142 => ?_)
                    · refine pw_bipush (6) d_MO_failed_165 (by decide) ?_
                      refine pw_ireturn d_MO_failed_167 rfl ?_ ?_
                      · (try simp only [lg_lt, lg_gt, lg_ge, lg_le, lg_eq, Classical.not_not, ft_vr, ft_md] at h6 h16 h24 h37 h80 h100 h111 h120 h127 h142); first | exact absurd h87 h127 | exact absurd h127 h87 | ((first | have kh6 := eq_false h6 | have kh6 := eq_true h6); (first | have kh16 := eq_false h16 | have kh16 := eq_true h16); (first | have kh24 := eq_false h24 | have kh24 := eq_true h24); (first | have kh37 := eq_false h37 | have kh37 := eq_true h37); (first | have kh80 := eq_false h80 | have kh80 := eq_true h80); (first | have kh100 := eq_false h100 | have kh100 := eq_true h100); (first | have kh111 := eq_false h111 | have kh111 := eq_true h111); (first | have kh120 := eq_false h120 | have kh120 := eq_true h120); (first | have kh127 := eq_false h127 | have kh127 := eq_true h127); (first | have kh142 := eq_false h142 | have kh142 := eq_true h142); simp only [kh6, kh16, kh24, kh37, kh80, kh100, kh111, kh120, kh127, kh142, and_true, true_and, and_false, false_and, not_true_eq_false, not_false_eq_true, or_true, true_or, or_false, false_or, if_true, if_false, and_self, or_self])
                      · rfl
                    · refine pw_aload_n d_MO_failed_145 rfl ?_
                      refine pw_getR d_MO_failed_146 f_MO_7 rfl rfl (rfO hM rfl) ?_
                      refine pw_iconst 1 d_MO_failed_149 (by decide) ?_
                      refine pw_iaN (n := 1) d_MO_failed_150 rfl (by omega) (by decide) ?_
                      refine pw_if_eq (tgt := 165) d_MO_failed_151 (by decide) (fun h151 => ?_) (fun h151 => ?_)
                      · refine pw_bipush (6) d_MO_failed_165 (by decide) ?_
                        refine pw_ireturn d_MO_failed_167 rfl ?_ ?_
                        · (try simp only [lg_lt, lg_gt, lg_ge, lg_le, lg_eq, Classical.not_not, ft_vr, ft_md] at h6 h16 h24 h37 h80 h100 h111 h120 h127 h142 h151); first | exact absurd h87 h127 | exact absurd h127 h87 | ((first | have kh6 := eq_false h6 | have kh6 := eq_true h6); (first | have kh16 := eq_false h16 | have kh16 := eq_true h16); (first | have kh24 := eq_false h24 | have kh24 := eq_true h24); (first | have kh37 := eq_false h37 | have kh37 := eq_true h37); (first | have kh80 := eq_false h80 | have kh80 := eq_true h80); (first | have kh100 := eq_false h100 | have kh100 := eq_true h100); (first | have kh111 := eq_false h111 | have kh111 := eq_true h111); (first | have kh120 := eq_false h120 | have kh120 := eq_true h120); (first | have kh127 := eq_false h127 | have kh127 := eq_true h127); (first | have kh142 := eq_false h142 | have kh142 := eq_true h142); (first | have kh151 := eq_false h151 | have kh151 := eq_true h151); simp only [kh6, kh16, kh24, kh37, kh80, kh100, kh111, kh120, kh127, kh142, kh151, and_true, true_and, and_false, false_and, not_true_eq_false, not_false_eq_true, or_true, true_or, or_false, false_or, if_true, if_false, and_self, or_self])
                        · rfl
                      · refine pw_aload_n d_MO_failed_154 rfl ?_
                        refine pw_getR d_MO_failed_155 f_MO_7 rfl rfl (rfO hM rfl) ?_
                        refine pw_iconst 1 d_MO_failed_158 (by decide) ?_
                        refine pw_iaN (n := 1) d_MO_failed_159 rfl (by omega) (by decide) ?_
                        refine pw_bipush (15) d_MO_failed_160 (by decide) ?_
                        refine pw_icmp_le (tgt := 168) d_MO_failed_162 (by decide) (fun h162 => ?_) (fun h162 => ?_)
                        · refine pw_aload_n d_MO_failed_168 rfl ?_
                          refine pw_iconst 4 d_MO_failed_169 (by decide) ?_
                          refine pw_iconst 4 d_MO_failed_170 (by decide) ?_
                          refine c_MO_failed_171 rfl (Nat.le_of_ble_eq_true rfl) (mo_number hM 4 4 (by decide)) ?_
                          refine pw_ldc2 (65536) d_MO_failed_174 g954 ?_
                          refine pw_lmul d_MO_failed_177 ?_
                          refine pw_ldc2 (2) d_MO_failed_178 g955 ?_
                          refine pw_ldiv d_MO_failed_181 (by decide) ?_
                          refine pw_aload_n d_MO_failed_182 rfl ?_
                          refine pw_bipush (8) d_MO_failed_183 (by decide) ?_
                          refine pw_iconst 4 d_MO_failed_185 (by decide) ?_
                          refine c_MO_failed_186 rfl (Nat.le_of_ble_eq_true rfl) (mo_number hM 8 4 (by decide)) ?_
                          refine pw_ldc2 (65536) d_MO_failed_189 g954 ?_
                          refine pw_lmul d_MO_failed_192 ?_
                          refine pw_ladd d_MO_failed_193 ?_
                          refine pw_ldc2 (68719476736) d_MO_failed_194 g956 ?_
                          refine pw_lcmp d_MO_failed_197 ?_
                          refine pw_if_le (tgt := 204) d_MO_failed_198 (by decide) (fun h198 => ?_) (fun h198 => ?_)
                          · refine pw_aload_n d_MO_failed_204 rfl ?_
                            refine pw_iload_n d_MO_failed_205 rfl ?_
                            refine c_MO_failed_206 rfl (Nat.le_of_ble_eq_true rfl) (mo_offsetNow hM p hp) ?_
                            refine pw_lstore d_MO_failed_209 (by decide) ?_
                            dsimp only [stL, kil, isL, cat]
                            refine pw_lload d_MO_failed_211 rfl ?_
                            refine pw_ldc2 (1099511627776) d_MO_failed_213 g964 ?_
                            refine pw_lcmp d_MO_failed_216 ?_
                            refine pw_if_ge (tgt := 229) d_MO_failed_217 (by decide) (fun h217 => ?_) (fun h217 => ?_)
                            · refine pw_bipush (8) d_MO_failed_229 (by decide) ?_
                              refine pw_goto (tgt := 235) d_MO_failed_231 (by decide) ?_
                              refine pw_ireturn d_MO_failed_235 rfl ?_ ?_
                              · (try simp only [lg_lt, lg_gt, lg_ge, lg_le, lg_eq, Classical.not_not, ft_vr, ft_md] at h6 h16 h24 h37 h80 h100 h111 h120 h127 h142 h151 h162 h198 h217); first | exact absurd h87 h127 | exact absurd h127 h87 | ((first | have kh6 := eq_false h6 | have kh6 := eq_true h6); (first | have kh16 := eq_false h16 | have kh16 := eq_true h16); (first | have kh24 := eq_false h24 | have kh24 := eq_true h24); (first | have kh37 := eq_false h37 | have kh37 := eq_true h37); (first | have kh80 := eq_false h80 | have kh80 := eq_true h80); (first | have kh100 := eq_false h100 | have kh100 := eq_true h100); (first | have kh111 := eq_false h111 | have kh111 := eq_true h111); (first | have kh120 := eq_false h120 | have kh120 := eq_true h120); (first | have kh127 := eq_false h127 | have kh127 := eq_true h127); (first | have kh142 := eq_false h142 | have kh142 := eq_true h142); (first | have kh151 := eq_false h151 | have kh151 := eq_true h151); (first | have kh162 := eq_false h162 | have kh162 := eq_true h162); (first | have kh198 := eq_false h198 | have kh198 := eq_true h198); (first | have kh217 := eq_false h217 | have kh217 := eq_true h217); simp only [kh6, kh16, kh24, kh37, kh80, kh100, kh111, kh120, kh127, kh142, kh151, kh162, kh198, kh217, and_true, true_and, and_false, false_and, not_true_eq_false, not_false_eq_true, or_true, true_or, or_false, false_or, if_true, if_false, and_self, or_self])
                              · rfl
                            · refine pw_lload d_MO_failed_220 rfl ?_
                              refine pw_ldc2 (-1099511627776) d_MO_failed_222 g965 ?_
                              refine pw_lcmp d_MO_failed_225 ?_
                              refine pw_if_gt (tgt := 234) d_MO_failed_226 (by decide) (fun h226 => ?_) (fun h226 => ?_)
                              · refine pw_iconst 0 d_MO_failed_234 (by decide) ?_
                                refine pw_ireturn d_MO_failed_235 rfl ?_ ?_
                                · (try simp only [lg_lt, lg_gt, lg_ge, lg_le, lg_eq, Classical.not_not, ft_vr, ft_md] at h6 h16 h24 h37 h80 h100 h111 h120 h127 h142 h151 h162 h198 h217 h226); first | exact absurd h87 h127 | exact absurd h127 h87 | ((first | have kh6 := eq_false h6 | have kh6 := eq_true h6); (first | have kh16 := eq_false h16 | have kh16 := eq_true h16); (first | have kh24 := eq_false h24 | have kh24 := eq_true h24); (first | have kh37 := eq_false h37 | have kh37 := eq_true h37); (first | have kh80 := eq_false h80 | have kh80 := eq_true h80); (first | have kh100 := eq_false h100 | have kh100 := eq_true h100); (first | have kh111 := eq_false h111 | have kh111 := eq_true h111); (first | have kh120 := eq_false h120 | have kh120 := eq_true h120); (first | have kh127 := eq_false h127 | have kh127 := eq_true h127); (first | have kh142 := eq_false h142 | have kh142 := eq_true h142); (first | have kh151 := eq_false h151 | have kh151 := eq_true h151); (first | have kh162 := eq_false h162 | have kh162 := eq_true h162); (first | have kh198 := eq_false h198 | have kh198 := eq_true h198); (first | have kh217 := eq_false h217 | have kh217 := eq_true h217); (first | have kh226 := eq_false h226 | have kh226 := eq_true h226); simp only [kh6, kh16, kh24, kh37, kh80, kh100, kh111, kh120, kh127, kh142, kh151, kh162, kh198, kh217, kh226, and_true, true_and, and_false, false_and, not_true_eq_false, not_false_eq_true, or_true, true_or, or_false, false_or, if_true, if_false, and_self, or_self])
                                · rfl
                              · refine pw_bipush (8) d_MO_failed_229 (by decide) ?_
                                refine pw_goto (tgt := 235) d_MO_failed_231 (by decide) ?_
                                refine pw_ireturn d_MO_failed_235 rfl ?_ ?_
                                · (try simp only [lg_lt, lg_gt, lg_ge, lg_le, lg_eq, Classical.not_not, ft_vr, ft_md] at h6 h16 h24 h37 h80 h100 h111 h120 h127 h142 h151 h162 h198 h217 h226); first | exact absurd h87 h127 | exact absurd h127 h87 | ((first | have kh6 := eq_false h6 | have kh6 := eq_true h6); (first | have kh16 := eq_false h16 | have kh16 := eq_true h16); (first | have kh24 := eq_false h24 | have kh24 := eq_true h24); (first | have kh37 := eq_false h37 | have kh37 := eq_true h37); (first | have kh80 := eq_false h80 | have kh80 := eq_true h80); (first | have kh100 := eq_false h100 | have kh100 := eq_true h100); (first | have kh111 := eq_false h111 | have kh111 := eq_true h111); (first | have kh120 := eq_false h120 | have kh120 := eq_true h120); (first | have kh127 := eq_false h127 | have kh127 := eq_true h127); (first | have kh142 := eq_false h142 | have kh142 := eq_true h142); (first | have kh151 := eq_false h151 | have kh151 := eq_true h151); (first | have kh162 := eq_false h162 | have kh162 := eq_true h162); (first | have kh198 := eq_false h198 | have kh198 := eq_true h198); (first | have kh217 := eq_false h217 | have kh217 := eq_true h217); (first | have kh226 := eq_false h226 | have kh226 := eq_true h226); simp only [kh6, kh16, kh24, kh37, kh80, kh100, kh111, kh120, kh127, kh142, kh151, kh162, kh198, kh217, kh226, and_true, true_and, and_false, false_and, not_true_eq_false, not_false_eq_true, or_true, true_or, or_false, false_or, if_true, if_false, and_self, or_self])
                                · rfl
                          · refine pw_bipush (7) d_MO_failed_201 (by decide) ?_
                            refine pw_ireturn d_MO_failed_203 rfl ?_ ?_
                            · (try simp only [lg_lt, lg_gt, lg_ge, lg_le, lg_eq, Classical.not_not, ft_vr, ft_md] at h6 h16 h24 h37 h80 h100 h111 h120 h127 h142 h151 h162 h198); first | exact absurd h87 h127 | exact absurd h127 h87 | ((first | have kh6 := eq_false h6 | have kh6 := eq_true h6); (first | have kh16 := eq_false h16 | have kh16 := eq_true h16); (first | have kh24 := eq_false h24 | have kh24 := eq_true h24); (first | have kh37 := eq_false h37 | have kh37 := eq_true h37); (first | have kh80 := eq_false h80 | have kh80 := eq_true h80); (first | have kh100 := eq_false h100 | have kh100 := eq_true h100); (first | have kh111 := eq_false h111 | have kh111 := eq_true h111); (first | have kh120 := eq_false h120 | have kh120 := eq_true h120); (first | have kh127 := eq_false h127 | have kh127 := eq_true h127); (first | have kh142 := eq_false h142 | have kh142 := eq_true h142); (first | have kh151 := eq_false h151 | have kh151 := eq_true h151); (first | have kh162 := eq_false h162 | have kh162 := eq_true h162); (first | have kh198 := eq_false h198 | have kh198 := eq_true h198); simp only [kh6, kh16, kh24, kh37, kh80, kh100, kh111, kh120, kh127, kh142, kh151, kh162, kh198, and_true, true_and, and_false, false_and, not_true_eq_false, not_false_eq_true, or_true, true_or, or_false, false_or, if_true, if_false, and_self, or_self])
                            · rfl
                        · refine pw_bipush (6) d_MO_failed_165 (by decide) ?_
                          refine pw_ireturn d_MO_failed_167 rfl ?_ ?_
                          · (try simp only [lg_lt, lg_gt, lg_ge, lg_le, lg_eq, Classical.not_not, ft_vr, ft_md] at h6 h16 h24 h37 h80 h100 h111 h120 h127 h142 h151 h162); first | exact absurd h87 h127 | exact absurd h127 h87 | ((first | have kh6 := eq_false h6 | have kh6 := eq_true h6); (first | have kh16 := eq_false h16 | have kh16 := eq_true h16); (first | have kh24 := eq_false h24 | have kh24 := eq_true h24); (first | have kh37 := eq_false h37 | have kh37 := eq_true h37); (first | have kh80 := eq_false h80 | have kh80 := eq_true h80); (first | have kh100 := eq_false h100 | have kh100 := eq_true h100); (first | have kh111 := eq_false h111 | have kh111 := eq_true h111); (first | have kh120 := eq_false h120 | have kh120 := eq_true h120); (first | have kh127 := eq_false h127 | have kh127 := eq_true h127); (first | have kh142 := eq_false h142 | have kh142 := eq_true h142); (first | have kh151 := eq_false h151 | have kh151 := eq_true h151); (first | have kh162 := eq_false h162 | have kh162 := eq_true h162); simp only [kh6, kh16, kh24, kh37, kh80, kh100, kh111, kh120, kh127, kh142, kh151, kh162, and_true, true_and, and_false, false_and, not_true_eq_false, not_false_eq_true, or_true, true_or, or_false, false_or, if_true, if_false, and_self, or_self])
                          · rfl
                  · refine pw_iconst 5 d_MO_failed_130 (by decide) ?_
                    refine pw_ireturn d_MO_failed_131 rfl ?_ ?_
                    · (try simp only [lg_lt, lg_gt, lg_ge, lg_le, lg_eq, Classical.not_not, ft_vr, ft_md] at h6 h16 h24 h37 h80 h100 h111 h120 h127); first | exact absurd h87 h127 | exact absurd h127 h87 | ((first | have kh6 := eq_false h6 | have kh6 := eq_true h6); (first | have kh16 := eq_false h16 | have kh16 := eq_true h16); (first | have kh24 := eq_false h24 | have kh24 := eq_true h24); (first | have kh37 := eq_false h37 | have kh37 := eq_true h37); (first | have kh80 := eq_false h80 | have kh80 := eq_true h80); (first | have kh100 := eq_false h100 | have kh100 := eq_true h100); (first | have kh111 := eq_false h111 | have kh111 := eq_true h111); (first | have kh120 := eq_false h120 | have kh120 := eq_true h120); (first | have kh127 := eq_false h127 | have kh127 := eq_true h127); simp only [kh6, kh16, kh24, kh37, kh80, kh100, kh111, kh120, kh127, and_true, true_and, and_false, false_and, not_true_eq_false, not_false_eq_true, or_true, true_or, or_false, false_or, if_true, if_false, and_self, or_self])
                    · rfl
              · refine pw_iconst 4 d_MO_failed_114 (by decide) ?_
                refine pw_ireturn d_MO_failed_115 rfl ?_ ?_
                · (try simp only [lg_lt, lg_gt, lg_ge, lg_le, lg_eq, Classical.not_not, ft_vr, ft_md] at h6 h16 h24 h37 h80 h100 h111); first | exact absurd h87 h127 | exact absurd h127 h87 | ((first | have kh6 := eq_false h6 | have kh6 := eq_true h6); (first | have kh16 := eq_false h16 | have kh16 := eq_true h16); (first | have kh24 := eq_false h24 | have kh24 := eq_true h24); (first | have kh37 := eq_false h37 | have kh37 := eq_true h37); (first | have kh80 := eq_false h80 | have kh80 := eq_true h80); (first | have kh100 := eq_false h100 | have kh100 := eq_true h100); (first | have kh111 := eq_false h111 | have kh111 := eq_true h111); simp only [kh6, kh16, kh24, kh37, kh80, kh100, kh111, and_true, true_and, and_false, false_and, not_true_eq_false, not_false_eq_true, or_true, true_or, or_false, false_or, if_true, if_false, and_self, or_self])
                · rfl
          · refine pw_lload d_MO_failed_83 rfl ?_
            refine pw_lconst 0 d_MO_failed_85 (by decide) ?_
            refine pw_lcmp d_MO_failed_86 ?_
            refine pw_if_eq (tgt := 92) d_MO_failed_87 (by decide) (fun h87 => ?_) (fun h87 => ?_)
            · refine pw_aload_n d_MO_failed_92 rfl ?_
              refine pw_getR d_MO_failed_93 f_MO_16 rfl rfl (rfO hM rfl) ?_
              refine pw_iload_n d_MO_failed_96 rfl ?_
              refine pw_laN (n := p) d_MO_failed_97 rfl (by omega) (by decide) ?_
              refine pw_lconst 0 d_MO_failed_98 (by decide) ?_
              refine pw_lcmp d_MO_failed_99 ?_
              refine pw_if_eq (tgt := 114) d_MO_failed_100 (by decide) (fun h100 => ?_) (fun h100 => ?_)
              · refine pw_iconst 4 d_MO_failed_114 (by decide) ?_
                refine pw_ireturn d_MO_failed_115 rfl ?_ ?_
                · (try simp only [lg_lt, lg_gt, lg_ge, lg_le, lg_eq, Classical.not_not, ft_vr, ft_md] at h6 h16 h24 h37 h80 h87 h100); first | exact absurd h87 h127 | exact absurd h127 h87 | ((first | have kh6 := eq_false h6 | have kh6 := eq_true h6); (first | have kh16 := eq_false h16 | have kh16 := eq_true h16); (first | have kh24 := eq_false h24 | have kh24 := eq_true h24); (first | have kh37 := eq_false h37 | have kh37 := eq_true h37); (first | have kh80 := eq_false h80 | have kh80 := eq_true h80); (first | have kh87 := eq_false h87 | have kh87 := eq_true h87); (first | have kh100 := eq_false h100 | have kh100 := eq_true h100); simp only [kh6, kh16, kh24, kh37, kh80, kh87, kh100, and_true, true_and, and_false, false_and, not_true_eq_false, not_false_eq_true, or_true, true_or, or_false, false_or, if_true, if_false, and_self, or_self])
                · rfl
              · refine pw_lload_n d_MO_failed_103 rfl ?_
                refine pw_aload_n d_MO_failed_104 rfl ?_
                refine pw_getR d_MO_failed_105 f_MO_16 rfl rfl (rfO hM rfl) ?_
                refine pw_iload_n d_MO_failed_108 rfl ?_
                refine pw_laN (n := p) d_MO_failed_109 rfl (by omega) (by decide) ?_
                refine pw_lcmp d_MO_failed_110 ?_
                refine pw_if_eq (tgt := 116) d_MO_failed_111 (by decide) (fun h111 => ?_) (fun h111 => ?_)
                · refine pw_lload d_MO_failed_116 rfl ?_
                  refine pw_lconst 0 d_MO_failed_118 (by decide) ?_
                  refine pw_lcmp d_MO_failed_119 ?_
                  refine pw_if_eq (tgt := 130) d_MO_failed_120 (by decide) (fun h120 => ?_) (fun h120 => ?_)
                  · refine pw_iconst 5 d_MO_failed_130 (by decide) ?_
                    refine pw_ireturn d_MO_failed_131 rfl ?_ ?_
                    · (try simp only [lg_lt, lg_gt, lg_ge, lg_le, lg_eq, Classical.not_not, ft_vr, ft_md] at h6 h16 h24 h37 h80 h87 h100 h111 h120); first | exact absurd h87 h127 | exact absurd h127 h87 | ((first | have kh6 := eq_false h6 | have kh6 := eq_true h6); (first | have kh16 := eq_false h16 | have kh16 := eq_true h16); (first | have kh24 := eq_false h24 | have kh24 := eq_true h24); (first | have kh37 := eq_false h37 | have kh37 := eq_true h37); (first | have kh80 := eq_false h80 | have kh80 := eq_true h80); (first | have kh87 := eq_false h87 | have kh87 := eq_true h87); (first | have kh100 := eq_false h100 | have kh100 := eq_true h100); (first | have kh111 := eq_false h111 | have kh111 := eq_true h111); (first | have kh120 := eq_false h120 | have kh120 := eq_true h120); simp only [kh6, kh16, kh24, kh37, kh80, kh87, kh100, kh111, kh120, and_true, true_and, and_false, false_and, not_true_eq_false, not_false_eq_true, or_true, true_or, or_false, false_or, if_true, if_false, and_self, or_self])
                    · rfl
                  · refine pw_lload d_MO_failed_123 rfl ?_
                    refine pw_lconst 0 d_MO_failed_125 (by decide) ?_
                    refine pw_lcmp d_MO_failed_126 ?_
                    refine pw_if_ne (tgt := 132) d_MO_failed_127 (by decide) (fun h127 => ?_) (fun h127 => ?_)
                    · refine pw_aload_n d_MO_failed_132 rfl ?_
                      refine pw_getR d_MO_failed_133 f_MO_7 rfl rfl (rfO hM rfl) ?_
                      refine pw_iconst 0 d_MO_failed_136 (by decide) ?_
                      refine pw_iaN (n := 0) d_MO_failed_137 rfl (by omega) (by decide) ?_
                      refine pw_bipush (64) d_MO_failed_138 (by decide) ?_
                      refine pw_idiv d_MO_failed_140 (by decide) ?_
                      refine pw_iconst 3 d_MO_failed_141 (by decide) ?_
                      refine pw_icmp_eq (tgt := 165) d_MO_failed_142 (by decide) (fun h142 => ?_) (fun h142 => ?_)
                      · refine pw_bipush (6) d_MO_failed_165 (by decide) ?_
                        refine pw_ireturn d_MO_failed_167 rfl ?_ ?_
                        · (try simp only [lg_lt, lg_gt, lg_ge, lg_le, lg_eq, Classical.not_not, ft_vr, ft_md] at h6 h16 h24 h37 h80 h87 h100 h111 h120 h127 h142); first | exact absurd h87 h127 | exact absurd h127 h87 | ((first | have kh6 := eq_false h6 | have kh6 := eq_true h6); (first | have kh16 := eq_false h16 | have kh16 := eq_true h16); (first | have kh24 := eq_false h24 | have kh24 := eq_true h24); (first | have kh37 := eq_false h37 | have kh37 := eq_true h37); (first | have kh80 := eq_false h80 | have kh80 := eq_true h80); (first | have kh87 := eq_false h87 | have kh87 := eq_true h87); (first | have kh100 := eq_false h100 | have kh100 := eq_true h100); (first | have kh111 := eq_false h111 | have kh111 := eq_true h111); (first | have kh120 := eq_false h120 | have kh120 := eq_true h120); (first | have kh127 := eq_false h127 | have kh127 := eq_true h127); (first | have kh142 := eq_false h142 | have kh142 := eq_true h142); simp only [kh6, kh16, kh24, kh37, kh80, kh87, kh100, kh111, kh120, kh127, kh142, and_true, true_and, and_false, false_and, not_true_eq_false, not_false_eq_true, or_true, true_or, or_false, false_or, if_true, if_false, and_self, or_self])
                        · rfl
                      · refine pw_aload_n d_MO_failed_145 rfl ?_
                        refine pw_getR d_MO_failed_146 f_MO_7 rfl rfl (rfO hM rfl) ?_
                        refine pw_iconst 1 d_MO_failed_149 (by decide) ?_
                        refine pw_iaN (n := 1) d_MO_failed_150 rfl (by omega) (by decide) ?_
                        refine pw_if_eq (tgt := 165) d_MO_failed_151 (by decide) (fun h151 => ?_) (fun h151 => ?_)
                        · refine pw_bipush (6) d_MO_failed_165 (by decide) ?_
                          refine pw_ireturn d_MO_failed_167 rfl ?_ ?_
                          · (try simp only [lg_lt, lg_gt, lg_ge, lg_le, lg_eq, Classical.not_not, ft_vr, ft_md] at h6 h16 h24 h37 h80 h87 h100 h111 h120 h127 h142 h151); first | exact absurd h87 h127 | exact absurd h127 h87 | ((first | have kh6 := eq_false h6 | have kh6 := eq_true h6); (first | have kh16 := eq_false h16 | have kh16 := eq_true h16); (first | have kh24 := eq_false h24 | have kh24 := eq_true h24); (first | have kh37 := eq_false h37 | have kh37 := eq_true h37); (first | have kh80 := eq_false h80 | have kh80 := eq_true h80); (first | have kh87 := eq_false h87 | have kh87 := eq_true h87); (first | have kh100 := eq_false h100 | have kh100 := eq_true h100); (first | have kh111 := eq_false h111 | have kh111 := eq_true h111); (first | have kh120 := eq_false h120 | have kh120 := eq_true h120); (first | have kh127 := eq_false h127 | have kh127 := eq_true h127); (first | have kh142 := eq_false h142 | have kh142 := eq_true h142); (first | have kh151 := eq_false h151 | have kh151 := eq_true h151); simp only [kh6, kh16, kh24, kh37, kh80, kh87, kh100, kh111, kh120, kh127, kh142, kh151, and_true, true_and, and_false, false_and, not_true_eq_false, not_false_eq_true, or_true, true_or, or_false, false_or, if_true, if_false, and_self, or_self])
                          · rfl
                        · refine pw_aload_n d_MO_failed_154 rfl ?_
                          refine pw_getR d_MO_failed_155 f_MO_7 rfl rfl (rfO hM rfl) ?_
                          refine pw_iconst 1 d_MO_failed_158 (by decide) ?_
                          refine pw_iaN (n := 1) d_MO_failed_159 rfl (by omega) (by decide) ?_
                          refine pw_bipush (15) d_MO_failed_160 (by decide) ?_
                          refine pw_icmp_le (tgt := 168) d_MO_failed_162 (by decide) (fun h162 => ?_) (fun h162 => ?_)
                          · refine pw_aload_n d_MO_failed_168 rfl ?_
                            refine pw_iconst 4 d_MO_failed_169 (by decide) ?_
                            refine pw_iconst 4 d_MO_failed_170 (by decide) ?_
                            refine c_MO_failed_171 rfl (Nat.le_of_ble_eq_true rfl) (mo_number hM 4 4 (by decide)) ?_
                            refine pw_ldc2 (65536) d_MO_failed_174 g954 ?_
                            refine pw_lmul d_MO_failed_177 ?_
                            refine pw_ldc2 (2) d_MO_failed_178 g955 ?_
                            refine pw_ldiv d_MO_failed_181 (by decide) ?_
                            refine pw_aload_n d_MO_failed_182 rfl ?_
                            refine pw_bipush (8) d_MO_failed_183 (by decide) ?_
                            refine pw_iconst 4 d_MO_failed_185 (by decide) ?_
                            refine c_MO_failed_186 rfl (Nat.le_of_ble_eq_true rfl) (mo_number hM 8 4 (by decide)) ?_
                            refine pw_ldc2 (65536) d_MO_failed_189 g954 ?_
                            refine pw_lmul d_MO_failed_192 ?_
                            refine pw_ladd d_MO_failed_193 ?_
                            refine pw_ldc2 (68719476736) d_MO_failed_194 g956 ?_
                            refine pw_lcmp d_MO_failed_197 ?_
                            refine pw_if_le (tgt := 204) d_MO_failed_198 (by decide) (fun h198 => ?_) (fun h198 => ?_)
                            · refine pw_aload_n d_MO_failed_204 rfl ?_
                              refine pw_iload_n d_MO_failed_205 rfl ?_
                              refine c_MO_failed_206 rfl (Nat.le_of_ble_eq_true rfl) (mo_offsetNow hM p hp) ?_
                              refine pw_lstore d_MO_failed_209 (by decide) ?_
                              dsimp only [stL, kil, isL, cat]
                              refine pw_lload d_MO_failed_211 rfl ?_
                              refine pw_ldc2 (1099511627776) d_MO_failed_213 g964 ?_
                              refine pw_lcmp d_MO_failed_216 ?_
                              refine pw_if_ge (tgt := 229) d_MO_failed_217 (by decide) (fun h217 => ?_) (fun h217 => ?_)
                              · refine pw_bipush (8) d_MO_failed_229 (by decide) ?_
                                refine pw_goto (tgt := 235) d_MO_failed_231 (by decide) ?_
                                refine pw_ireturn d_MO_failed_235 rfl ?_ ?_
                                · (try simp only [lg_lt, lg_gt, lg_ge, lg_le, lg_eq, Classical.not_not, ft_vr, ft_md] at h6 h16 h24 h37 h80 h87 h100 h111 h120 h127 h142 h151 h162 h198 h217); first | exact absurd h87 h127 | exact absurd h127 h87 | ((first | have kh6 := eq_false h6 | have kh6 := eq_true h6); (first | have kh16 := eq_false h16 | have kh16 := eq_true h16); (first | have kh24 := eq_false h24 | have kh24 := eq_true h24); (first | have kh37 := eq_false h37 | have kh37 := eq_true h37); (first | have kh80 := eq_false h80 | have kh80 := eq_true h80); (first | have kh87 := eq_false h87 | have kh87 := eq_true h87); (first | have kh100 := eq_false h100 | have kh100 := eq_true h100); (first | have kh111 := eq_false h111 | have kh111 := eq_true h111); (first | have kh120 := eq_false h120 | have kh120 := eq_true h120); (first | have kh127 := eq_false h127 | have kh127 := eq_true h127); (first | have kh142 := eq_false h142 | have kh142 := eq_true h142); (first | have kh151 := eq_false h151 | have kh151 := eq_true h151); (first | have kh162 := eq_false h162 | have kh162 := eq_true h162); (first | have kh198 := eq_false h198 | have kh198 := eq_true h198); (first | have kh217 := eq_false h217 | have kh217 := eq_true h217); simp only [kh6, kh16, kh24, kh37, kh80, kh87, kh100, kh111, kh120, kh127, kh142, kh151, kh162, kh198, kh217, and_true, true_and, and_false, false_and, not_true_eq_false, not_false_eq_true, or_true, true_or, or_false, false_or, if_true, if_false, and_self, or_self])
                                · rfl
                              · refine pw_lload d_MO_failed_220 rfl ?_
                                refine pw_ldc2 (-1099511627776) d_MO_failed_222 g965 ?_
                                refine pw_lcmp d_MO_failed_225 ?_
                                refine pw_if_gt (tgt := 234) d_MO_failed_226 (by decide) (fun h226 => ?_) (fun h226 => ?_)
                                · refine pw_iconst 0 d_MO_failed_234 (by decide) ?_
                                  refine pw_ireturn d_MO_failed_235 rfl ?_ ?_
                                  · (try simp only [lg_lt, lg_gt, lg_ge, lg_le, lg_eq, Classical.not_not, ft_vr, ft_md] at h6 h16 h24 h37 h80 h87 h100 h111 h120 h127 h142 h151 h162 h198 h217 h226); first | exact absurd h87 h127 | exact absurd h127 h87 | ((first | have kh6 := eq_false h6 | have kh6 := eq_true h6); (first | have kh16 := eq_false h16 | have kh16 := eq_true h16); (first | have kh24 := eq_false h24 | have kh24 := eq_true h24); (first | have kh37 := eq_false h37 | have kh37 := eq_true h37); (first | have kh80 := eq_false h80 | have kh80 := eq_true h80); (first | have kh87 := eq_false h87 | have kh87 := eq_true h87); (first | have kh100 := eq_false h100 | have kh100 := eq_true h100); (first | have kh111 := eq_false h111 | have kh111 := eq_true h111); (first | have kh120 := eq_false h120 | have kh120 := eq_true h120); (first | have kh127 := eq_false h127 | have kh127 := eq_true h127); (first | have kh142 := eq_false h142 | have kh142 := eq_true h142); (first | have kh151 := eq_false h151 | have kh151 := eq_true h151); (first | have kh162 := eq_false h162 | have kh162 := eq_true h162); (first | have kh198 := eq_false h198 | have kh198 := eq_true h198); (first | have kh217 := eq_false h217 | have kh217 := eq_true h217); (first | have kh226 := eq_false h226 | have kh226 := eq_true h226); simp only [kh6, kh16, kh24, kh37, kh80, kh87, kh100, kh111, kh120, kh127, kh142, kh151, kh162, kh198, kh217, kh226, and_true, true_and, and_false, false_and, not_true_eq_false, not_false_eq_true, or_true, true_or, or_false, false_or, if_true, if_false, and_self, or_self])
                                  · rfl
                                · refine pw_bipush (8) d_MO_failed_229 (by decide) ?_
                                  refine pw_goto (tgt := 235) d_MO_failed_231 (by decide) ?_
                                  refine pw_ireturn d_MO_failed_235 rfl ?_ ?_
                                  · (try simp only [lg_lt, lg_gt, lg_ge, lg_le, lg_eq, Classical.not_not, ft_vr, ft_md] at h6 h16 h24 h37 h80 h87 h100 h111 h120 h127 h142 h151 h162 h198 h217 h226); first | exact absurd h87 h127 | exact absurd h127 h87 | ((first | have kh6 := eq_false h6 | have kh6 := eq_true h6); (first | have kh16 := eq_false h16 | have kh16 := eq_true h16); (first | have kh24 := eq_false h24 | have kh24 := eq_true h24); (first | have kh37 := eq_false h37 | have kh37 := eq_true h37); (first | have kh80 := eq_false h80 | have kh80 := eq_true h80); (first | have kh87 := eq_false h87 | have kh87 := eq_true h87); (first | have kh100 := eq_false h100 | have kh100 := eq_true h100); (first | have kh111 := eq_false h111 | have kh111 := eq_true h111); (first | have kh120 := eq_false h120 | have kh120 := eq_true h120); (first | have kh127 := eq_false h127 | have kh127 := eq_true h127); (first | have kh142 := eq_false h142 | have kh142 := eq_true h142); (first | have kh151 := eq_false h151 | have kh151 := eq_true h151); (first | have kh162 := eq_false h162 | have kh162 := eq_true h162); (first | have kh198 := eq_false h198 | have kh198 := eq_true h198); (first | have kh217 := eq_false h217 | have kh217 := eq_true h217); (first | have kh226 := eq_false h226 | have kh226 := eq_true h226); simp only [kh6, kh16, kh24, kh37, kh80, kh87, kh100, kh111, kh120, kh127, kh142, kh151, kh162, kh198, kh217, kh226, and_true, true_and, and_false, false_and, not_true_eq_false, not_false_eq_true, or_true, true_or, or_false, false_or, if_true, if_false, and_self, or_self])
                                  · rfl
                            · refine pw_bipush (7) d_MO_failed_201 (by decide) ?_
                              refine pw_ireturn d_MO_failed_203 rfl ?_ ?_
                              · (try simp only [lg_lt, lg_gt, lg_ge, lg_le, lg_eq, Classical.not_not, ft_vr, ft_md] at h6 h16 h24 h37 h80 h87 h100 h111 h120 h127 h142 h151 h162 h198); first | exact absurd h87 h127 | exact absurd h127 h87 | ((first | have kh6 := eq_false h6 | have kh6 := eq_true h6); (first | have kh16 := eq_false h16 | have kh16 := eq_true h16); (first | have kh24 := eq_false h24 | have kh24 := eq_true h24); (first | have kh37 := eq_false h37 | have kh37 := eq_true h37); (first | have kh80 := eq_false h80 | have kh80 := eq_true h80); (first | have kh87 := eq_false h87 | have kh87 := eq_true h87); (first | have kh100 := eq_false h100 | have kh100 := eq_true h100); (first | have kh111 := eq_false h111 | have kh111 := eq_true h111); (first | have kh120 := eq_false h120 | have kh120 := eq_true h120); (first | have kh127 := eq_false h127 | have kh127 := eq_true h127); (first | have kh142 := eq_false h142 | have kh142 := eq_true h142); (first | have kh151 := eq_false h151 | have kh151 := eq_true h151); (first | have kh162 := eq_false h162 | have kh162 := eq_true h162); (first | have kh198 := eq_false h198 | have kh198 := eq_true h198); simp only [kh6, kh16, kh24, kh37, kh80, kh87, kh100, kh111, kh120, kh127, kh142, kh151, kh162, kh198, and_true, true_and, and_false, false_and, not_true_eq_false, not_false_eq_true, or_true, true_or, or_false, false_or, if_true, if_false, and_self, or_self])
                              · rfl
                          · refine pw_bipush (6) d_MO_failed_165 (by decide) ?_
                            refine pw_ireturn d_MO_failed_167 rfl ?_ ?_
                            · (try simp only [lg_lt, lg_gt, lg_ge, lg_le, lg_eq, Classical.not_not, ft_vr, ft_md] at h6 h16 h24 h37 h80 h87 h100 h111 h120 h127 h142 h151 h162); first | exact absurd h87 h127 | exact absurd h127 h87 | ((first | have kh6 := eq_false h6 | have kh6 := eq_true h6); (first | have kh16 := eq_false h16 | have kh16 := eq_true h16); (first | have kh24 := eq_false h24 | have kh24 := eq_true h24); (first | have kh37 := eq_false h37 | have kh37 := eq_true h37); (first | have kh80 := eq_false h80 | have kh80 := eq_true h80); (first | have kh87 := eq_false h87 | have kh87 := eq_true h87); (first | have kh100 := eq_false h100 | have kh100 := eq_true h100); (first | have kh111 := eq_false h111 | have kh111 := eq_true h111); (first | have kh120 := eq_false h120 | have kh120 := eq_true h120); (first | have kh127 := eq_false h127 | have kh127 := eq_true h127); (first | have kh142 := eq_false h142 | have kh142 := eq_true h142); (first | have kh151 := eq_false h151 | have kh151 := eq_true h151); (first | have kh162 := eq_false h162 | have kh162 := eq_true h162); simp only [kh6, kh16, kh24, kh37, kh80, kh87, kh100, kh111, kh120, kh127, kh142, kh151, kh162, and_true, true_and, and_false, false_and, not_true_eq_false, not_false_eq_true, or_true, true_or, or_false, false_or, if_true, if_false, and_self, or_self])
                            · rfl
                    · refine pw_iconst 5 d_MO_failed_130 (by decide) ?_
                      refine pw_ireturn d_MO_failed_131 rfl ?_ ?_
                      · (try simp only [lg_lt, lg_gt, lg_ge, lg_le, lg_eq, Classical.not_not, ft_vr, ft_md] at h6 h16 h24 h37 h80 h87 h100 h111 h120 h127); first | exact absurd h87 h127 | exact absurd h127 h87 | ((first | have kh6 := eq_false h6 | have kh6 := eq_true h6); (first | have kh16 := eq_false h16 | have kh16 := eq_true h16); (first | have kh24 := eq_false h24 | have kh24 := eq_true h24); (first | have kh37 := eq_false h37 | have kh37 := eq_true h37); (first | have kh80 := eq_false h80 | have kh80 := eq_true h80); (first | have kh87 := eq_false h87 | have kh87 := eq_true h87); (first | have kh100 := eq_false h100 | have kh100 := eq_true h100); (first | have kh111 := eq_false h111 | have kh111 := eq_true h111); (first | have kh120 := eq_false h120 | have kh120 := eq_true h120); (first | have kh127 := eq_false h127 | have kh127 := eq_true h127); simp only [kh6, kh16, kh24, kh37, kh80, kh87, kh100, kh111, kh120, kh127, and_true, true_and, and_false, false_and, not_true_eq_false, not_false_eq_true, or_true, true_or, or_false, false_or, if_true, if_false, and_self, or_self])
                      · rfl
                · refine pw_iconst 4 d_MO_failed_114 (by decide) ?_
                  refine pw_ireturn d_MO_failed_115 rfl ?_ ?_
                  · (try simp only [lg_lt, lg_gt, lg_ge, lg_le, lg_eq, Classical.not_not, ft_vr, ft_md] at h6 h16 h24 h37 h80 h87 h100 h111); first | exact absurd h87 h127 | exact absurd h127 h87 | ((first | have kh6 := eq_false h6 | have kh6 := eq_true h6); (first | have kh16 := eq_false h16 | have kh16 := eq_true h16); (first | have kh24 := eq_false h24 | have kh24 := eq_true h24); (first | have kh37 := eq_false h37 | have kh37 := eq_true h37); (first | have kh80 := eq_false h80 | have kh80 := eq_true h80); (first | have kh87 := eq_false h87 | have kh87 := eq_true h87); (first | have kh100 := eq_false h100 | have kh100 := eq_true h100); (first | have kh111 := eq_false h111 | have kh111 := eq_true h111); simp only [kh6, kh16, kh24, kh37, kh80, kh87, kh100, kh111, and_true, true_and, and_false, false_and, not_true_eq_false, not_false_eq_true, or_true, true_or, or_false, false_or, if_true, if_false, and_self, or_self])
                  · rfl
            · refine pw_iconst 3 d_MO_failed_90 (by decide) ?_
              refine pw_ireturn d_MO_failed_91 rfl ?_ ?_
              · (try simp only [lg_lt, lg_gt, lg_ge, lg_le, lg_eq, Classical.not_not, ft_vr, ft_md] at h6 h16 h24 h37 h80 h87); first | exact absurd h87 h127 | exact absurd h127 h87 | ((first | have kh6 := eq_false h6 | have kh6 := eq_true h6); (first | have kh16 := eq_false h16 | have kh16 := eq_true h16); (first | have kh24 := eq_false h24 | have kh24 := eq_true h24); (first | have kh37 := eq_false h37 | have kh37 := eq_true h37); (first | have kh80 := eq_false h80 | have kh80 := eq_true h80); (first | have kh87 := eq_false h87 | have kh87 := eq_true h87); simp only [kh6, kh16, kh24, kh37, kh80, kh87, and_true, true_and, and_false, false_and, not_true_eq_false, not_false_eq_true, or_true, true_or, or_false, false_or, if_true, if_false, and_self, or_self])
              · rfl
        · refine pw_iconst 2 d_MO_failed_40 (by decide) ?_
          refine pw_ireturn d_MO_failed_41 rfl ?_ ?_
          · (try simp only [lg_lt, lg_gt, lg_ge, lg_le, lg_eq, Classical.not_not, ft_vr, ft_md] at h6 h16 h24 h37); first | exact absurd h87 h127 | exact absurd h127 h87 | ((first | have kh6 := eq_false h6 | have kh6 := eq_true h6); (first | have kh16 := eq_false h16 | have kh16 := eq_true h16); (first | have kh24 := eq_false h24 | have kh24 := eq_true h24); (first | have kh37 := eq_false h37 | have kh37 := eq_true h37); simp only [kh6, kh16, kh24, kh37, and_true, true_and, and_false, false_and, not_true_eq_false, not_false_eq_true, or_true, true_or, or_false, false_or, if_true, if_false, and_self, or_self])
          · rfl
  · refine pw_iconst 1 d_MO_failed_9 (by decide) ?_
    refine pw_ireturn d_MO_failed_10 rfl ?_ ?_
    · (try simp only [lg_lt, lg_gt, lg_ge, lg_le, lg_eq, Classical.not_not, ft_vr, ft_md] at h6); first | exact absurd h87 h127 | exact absurd h127 h87 | ((first | have kh6 := eq_false h6 | have kh6 := eq_true h6); simp only [kh6, and_true, true_and, and_false, false_and, not_true_eq_false, not_false_eq_true, or_true, true_or, or_false, false_or, if_true, if_false, and_self, or_self])
    · rfl
end FT
