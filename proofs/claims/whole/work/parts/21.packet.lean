/-! packets -/
/-- the byte s of a long, as the class cuts it out -/
def byU (v : Int64) (s : Nat) : Int32 := (v.toUInt64 >>> ((nI (8 * s)).toInt64.toUInt64 &&& Int64.toUInt64 63)).toInt64.toInt32 &&& 255
/-- bytes laid into an array, the highest first -/
def wrB (g : Int64 → Nat → Int32) (M : Mem) (b : KK) (from_ n : Nat) (v : Int64) (i : Nat) : Mem := (fun q j => if q = b ∧ from_ ≤ j ∧ j < from_ + i then g v (n - 1 - (j - from_)) else M.1 q j, M.2)
/-- bytes read as a number, the highest first -/
def rdN (f : Nat → Int32) (from_ : Nat) : Nat → Int64
  | 0 => 0
  | n + 1 => 256 * rdN f from_ n + (f (from_ + n)).toInt64
def byteOK (x : Int32) : Prop := 0 ≤ x.toInt ∧ x.toInt < 256
theorem or_add (v : Int64) (x : Int32) (h : byteOK x) : v <<< ((8 : Int32).toInt64 &&& 63) ||| x.toInt64 = 256 * v + x.toInt64 := by
  obtain ⟨h0, h1⟩ := h
  obtain ⟨n, hn, rfl⟩ : ∃ n : Nat, n < 256 ∧ x = nI n := by
    refine ⟨x.toInt.toNat, by omega, ?_⟩
    apply Int32.toInt_inj.mp
    rw [nI_toInt (by omega)]
    omega
  rw [nI_l (by omega)]
  have e8 : ((8 : Int32).toInt64 &&& 63) = 8 := by decide
  rw [e8]
  apply Int64.toBitVec_inj.mp
  have e1 : (v <<< (8 : Int64)).toBitVec = v.toBitVec <<< 8 := by
    rw [Int64.toBitVec_shiftLeft]
    rfl
  rw [Int64.toBitVec_or, Int64.toBitVec_add, Int64.toBitVec_mul, e1]
  have e2 : (lN n).toBitVec = BitVec.ofNat 64 n := rfl
  have e3 : (256 : Int64).toBitVec = BitVec.ofNat 64 256 := rfl
  have hand : (v.toBitVec <<< 8) &&& BitVec.ofNat 64 n = 0#64 := by
    apply BitVec.eq_of_getLsbD_eq
    intro i hi
    simp only [BitVec.getLsbD_and, BitVec.getLsbD_shiftLeft, BitVec.getLsbD_ofNat, BitVec.getLsbD_zero]
    by_cases q : i < 8
    · simp [q]
    · have : n.testBit i = false := Nat.testBit_lt_two_pow (Nat.lt_of_lt_of_le hn (Nat.pow_le_pow_right (by decide) (Nat.not_lt.mp q) : 2 ^ 8 ≤ 2 ^ i))
      simp [this]
  rw [e2, ← BitVec.add_eq_or_of_and_eq_zero _ _ hand, e3]
  congr 1
  apply BitVec.eq_of_toNat_eq
  rw [BitVec.toNat_shiftLeft, BitVec.toNat_mul, BitVec.toNat_ofNat, Nat.shiftLeft_eq]
  congr 1
  rw [Nat.mul_comm]
section PK1
variable {G : GG} {l : Launch} {M : Mem}
theorem nI_8 : (8 : Int32) = nI 8 := rfl
theorem pm_leap (hM : M.2.2.1 = rf) : PM G l m_PK_leap [vR (some (0, 1))] M (rI (M.1 (0, 2) 0 >>> ((6 : Int32) &&& 31))) M 0 0 := by
  refine pm_in [some (vR (some (0, 1)))] rfl ?_
  refine pw_aload_n d_PK_leap_0 rfl ?_
  refine pw_getR d_PK_leap_1 f_PK_9 rfl rfl (rfO hM rfl) ?_
  refine pw_iconst 0 d_PK_leap_4 (by decide) ?_
  refine pw_iaload d_PK_leap_5 rfl (vp_in_nI (n := 0) (by decide) (by decide)) ?_
  refine pw_bipush (6) d_PK_leap_6 (by decide) ?_
  refine pw_ishr d_PK_leap_8 ?_
  refine pw_ireturn d_PK_leap_9 rfl ?_ ?_
  · rfl
  · rfl
theorem pm_version (hM : M.2.2.1 = rf) : PM G l m_PK_version [vR (some (0, 1))] M (rI (M.1 (0, 2) 0 >>> ((3 : Int32) &&& 31) &&& 7)) M 0 0 := by
  refine pm_in [some (vR (some (0, 1)))] rfl ?_
  refine pw_aload_n d_PK_version_0 rfl ?_
  refine pw_getR d_PK_version_1 f_PK_9 rfl rfl (rfO hM rfl) ?_
  refine pw_iconst 0 d_PK_version_4 (by decide) ?_
  refine pw_iaload d_PK_version_5 rfl (vp_in_nI (n := 0) (by decide) (by decide)) ?_
  refine pw_iconst 3 d_PK_version_6 (by decide) ?_
  refine pw_ishr d_PK_version_7 ?_
  refine pw_bipush (7) d_PK_version_8 (by decide) ?_
  refine pw_iand d_PK_version_10 ?_
  refine pw_ireturn d_PK_version_11 rfl ?_ ?_
  · rfl
  · rfl
theorem pm_mode (hM : M.2.2.1 = rf) : PM G l m_PK_mode [vR (some (0, 1))] M (rI (M.1 (0, 2) 0 &&& 7)) M 0 0 := by
  refine pm_in [some (vR (some (0, 1)))] rfl ?_
  refine pw_aload_n d_PK_mode_0 rfl ?_
  refine pw_getR d_PK_mode_1 f_PK_9 rfl rfl (rfO hM rfl) ?_
  refine pw_iconst 0 d_PK_mode_4 (by decide) ?_
  refine pw_iaload d_PK_mode_5 rfl (vp_in_nI (n := 0) (by decide) (by decide)) ?_
  refine pw_bipush (7) d_PK_mode_6 (by decide) ?_
  refine pw_iand d_PK_mode_8 ?_
  refine pw_ireturn d_PK_mode_9 rfl ?_ ?_
  · rfl
  · rfl
theorem lp_read (hM : M.2.2.1 = rf) (hb : ∀ j, byteOK (M.1 (0, 2) j)) (a n : Nat) (hz : a + n ≤ 64) : ∀ (m i : Nat), i + m = n → PW G l m_PK_read 5 [some (vR (some (0, 1))), some (vI (nI a)), some (vI (nI n)), some (vL (rdN (M.1 (0, 2)) a i)), none, some (vI (nI i))] [] M (rL (rdN (M.1 (0, 2)) a n)) M 0 0 := by
  intro m
  induction m with
  | zero =>
    intro i hi
    have : i = n := by omega
    subst this
    refine pw_iload d_PK_read_5 rfl ?_
    refine pw_iload_n d_PK_read_7 rfl ?_
    refine pw_icmp_ge (tgt := 33) d_PK_read_8 (by decide) (fun h => ?_) (fun h => ?_)
    · refine pw_lload_n d_PK_read_33 rfl ?_
      refine pw_lreturn d_PK_read_34 rfl ?_ ?_
      · rfl
      · rfl
    · exact absurd (nI_le (Nat.le_refl i) (by omega)) h
  | succ m ih =>
    intro i hi
    refine pw_iload d_PK_read_5 rfl ?_
    refine pw_iload_n d_PK_read_7 rfl ?_
    refine pw_icmp_ge (tgt := 33) d_PK_read_8 (by decide) (fun h => ?_) (fun h => ?_)
    · rw [nI_leI (by omega) (by omega)] at h
      omega
    · refine pw_lload_n d_PK_read_11 rfl ?_
      refine pw_bipush (8) d_PK_read_12 (by decide) ?_
      refine pw_lshl d_PK_read_14 ?_
      refine pw_aload_n d_PK_read_15 rfl ?_
      refine pw_getR d_PK_read_16 f_PK_9 rfl rfl (rfO hM rfl) ?_
      refine pw_iload_n d_PK_read_19 rfl ?_
      refine pw_iload d_PK_read_20 rfl ?_
      refine pw_iadd d_PK_read_22 ?_
      rw [nI_add]
      refine pw_iaload d_PK_read_23 rfl (vp_in_nI (by omega) (by decide)) ?_
      rw [nI_clamp (by omega)]
      refine pw_i2l d_PK_read_24 ?_
      refine pw_lor d_PK_read_25 ?_
      rw [or_add _ _ (hb _)]
      refine pw_lstore_n d_PK_read_26 (by decide) ?_
      dsimp only [stL, kil, isL, cat]
      refine pw_iinc (1) d_PK_read_27 rfl (by decide) (by decide) ?_
      dsimp only [stL, kil, isL, cat]
      refine pw_goto (tgt := 5) d_PK_read_30 (by decide) ?_
      rw [nI_1]
      exact ih (i + 1) (by omega)
theorem pm_read (hM : M.2.2.1 = rf) (hb : ∀ j, byteOK (M.1 (0, 2) j)) (a n : Nat) (hz : a + n ≤ 64) : PM G l m_PK_read [vR (some (0, 1)), vI (nI a), vI (nI n)] M (rL (rdN (M.1 (0, 2)) a n)) M 0 0 := by
  refine pm_in [some (vR (some (0, 1))), some (vI (nI a)), some (vI (nI n)), none, none, none] rfl ?_
  refine pw_lconst 0 d_PK_read_0 (by decide) ?_
  refine pw_lstore_n d_PK_read_1 (by decide) ?_
  dsimp only [stL, kil, isL, cat]
  refine pw_iconst 0 d_PK_read_2 (by decide) ?_
  refine pw_istore d_PK_read_3 (by decide) ?_
  dsimp only [stL, kil, isL, cat]
  exact lp_read hM hb a n hz n 0 (by omega)
theorem pm_isOfKnownVersion (hM : M.2.2.1 = rf) : PM G l m_PK_isOfKnownVersion [vR (some (0, 1))] M (rI (if 1 ≤ (M.1 (0, 2) 0 >>> ((3 : Int32) &&& 31) &&& 7) ∧ (M.1 (0, 2) 0 >>> ((3 : Int32) &&& 31) &&& 7) ≤ 4 then 1 else 0)) M 0 0 := by
  refine pm_in [some (vR (some (0, 1)))] rfl ?_
  refine pw_aload_n d_PK_isOfKnownVersion_0 rfl ?_
  refine c_PK_isOfKnownVersion_1 rfl (Nat.le_of_ble_eq_true rfl) (pm_version hM) ?_
  refine pw_iconst 1 d_PK_isOfKnownVersion_4 (by decide) ?_
  refine pw_icmp_lt (tgt := 20) d_PK_isOfKnownVersion_5 (by decide) (fun h => ?_) (fun h => ?_)
  · refine pw_iconst 0 d_PK_isOfKnownVersion_20 (by decide) ?_
    refine pw_zreturn d_PK_isOfKnownVersion_21 rfl ?_ ?_ ?_
    · exact Or.inl rfl
    · rw [if_neg (fun q => (i32_nlt _ _).mpr q.1 h)]
    · rfl
  · refine pw_aload_n d_PK_isOfKnownVersion_8 rfl ?_
    refine c_PK_isOfKnownVersion_9 rfl (Nat.le_of_ble_eq_true rfl) (pm_version hM) ?_
    refine pw_iconst 4 d_PK_isOfKnownVersion_12 (by decide) ?_
    refine pw_icmp_gt (tgt := 20) d_PK_isOfKnownVersion_13 (by decide) (fun h2 => ?_) (fun h2 => ?_)
    · refine pw_iconst 0 d_PK_isOfKnownVersion_20 (by decide) ?_
      refine pw_zreturn d_PK_isOfKnownVersion_21 rfl ?_ ?_ ?_
      · exact Or.inl rfl
      · rw [if_neg (fun q => (i32_nlt _ _).mpr q.2 h2)]
      · rfl
    · refine pw_iconst 1 d_PK_isOfKnownVersion_16 (by decide) ?_
      refine pw_goto (tgt := 21) d_PK_isOfKnownVersion_17 (by decide) ?_
      refine pw_zreturn d_PK_isOfKnownVersion_21 rfl ?_ ?_ ?_
      · exact Or.inr rfl
      · rw [if_pos ⟨(i32_nlt _ _).mp h, (i32_nlt _ _).mp h2⟩]
      · rfl
theorem pm_twiceRootDistance (hM : M.2.2.1 = rf) (hb : ∀ j, byteOK (M.1 (0, 2) j)) : PM G l m_PK_twiceRootDistance [vR (some (0, 1))] M (rL (rdN (M.1 (0, 2)) 4 4 + 2 * rdN (M.1 (0, 2)) 8 4)) M 0 0 := by
  refine pm_in [some (vR (some (0, 1)))] rfl ?_
  refine pw_aload_n d_PK_twiceRootDistance_0 rfl ?_
  refine pw_iconst 4 d_PK_twiceRootDistance_1 (by decide) ?_
  refine pw_iconst 4 d_PK_twiceRootDistance_2 (by decide) ?_
  refine c_PK_twiceRootDistance_3 rfl (Nat.le_of_ble_eq_true rfl) (pm_read hM hb 4 4 (by decide)) ?_
  refine pw_ldc2 (2) d_PK_twiceRootDistance_6 g476 ?_
  refine pw_aload_n d_PK_twiceRootDistance_9 rfl ?_
  refine pw_bipush (8) d_PK_twiceRootDistance_10 (by decide) ?_
  refine pw_iconst 4 d_PK_twiceRootDistance_12 (by decide) ?_
  refine c_PK_twiceRootDistance_13 rfl (Nat.le_of_ble_eq_true rfl) (pm_read hM hb 8 4 (by decide)) ?_
  refine pw_lmul d_PK_twiceRootDistance_16 ?_
  refine pw_ladd d_PK_twiceRootDistance_17 ?_
  refine pw_lreturn d_PK_twiceRootDistance_18 rfl ?_ ?_
  · rfl
  · rfl
theorem pm_append (hM : M.2.2.1 = rf) (n : Nat) (hn : n < 64) (hl : M.1 (0, 1) 1 = nI n) (x : Int32) : PM G l m_PK_append [vR (some (0, 1)), vI x] M rV (sI (sI M (0, 2) n x) (0, 1) 1 (nI (n + 1))) 0 0 := by
  refine pm_in [some (vR (some (0, 1))), some (vI x)] rfl ?_
  refine pw_aload_n d_PK_append_0 rfl ?_
  refine pw_getR d_PK_append_1 f_PK_9 rfl rfl (rfO hM rfl) ?_
  refine pw_aload_n d_PK_append_4 rfl ?_
  refine pw_getI d_PK_append_5 f_PK_15 rfl rfl ?_
  refine pw_iload_n d_PK_append_8 rfl ?_
  rw [hl]
  refine pw_iastore d_PK_append_9 rfl (vp_in_nI hn (by decide)) ?_
  rw [nI_clamp (by omega)]
  refine pw_aload_n d_PK_append_10 rfl ?_
  refine pw_dup d_PK_append_11 rfl ?_
  refine pw_getI d_PK_append_12 f_PK_15 rfl rfl ?_
  refine pw_iconst 1 d_PK_append_15 (by decide) ?_
  refine pw_iadd d_PK_append_16 ?_
  rw [show (sI M (0, 2) n x).1 (0, 1) 1 = nI n from by simp [sI, hl], nI_1]
  refine pw_putI d_PK_append_17 f_PK_15 rfl rfl rfl ?_
  refine pw_return d_PK_append_20 rfl ?_ ?_
  · rfl
  · rfl
theorem pm_copy (hM : M.2.2.1 = rf) (n : Nat) (hn : n ≤ 48) (hl : M.1 (0, 3) 1 = nI n) : PM G l m_PK_copy [vR (some (0, 1)), vR (some (0, 3))] M rV (sI (cpI M (0, 4) (0, 2) n) (0, 1) 1 (nI n)) 0 0 := by
  refine pm_in [some (vR (some (0, 1))), some (vR (some (0, 3)))] rfl ?_
  refine pw_aload_n d_PK_copy_0 rfl ?_
  refine pw_getR d_PK_copy_1 f_PK_9 rfl rfl (rfO hM rfl) ?_
  refine pw_iconst 0 d_PK_copy_4 (by decide) ?_
  refine pw_aload_n d_PK_copy_5 rfl ?_
  refine pw_getR d_PK_copy_6 f_PK_9 rfl rfl (rfO hM rfl) ?_
  refine pw_iconst 0 d_PK_copy_9 (by decide) ?_
  refine pw_aload_n d_PK_copy_10 rfl ?_
  refine pw_getI d_PK_copy_11 f_PK_15 rfl rfl ?_
  rw [hl]
  refine c_PK_copy_14 rfl rfl (nI_pos (by omega)) (by rw [nI_clamp (by omega)]; exact hn) (by rw [nI_clamp (by omega)]; omega) (Nat.le_of_ble_eq_true rfl) ?_
  rw [nI_clamp (by omega)]
  refine pw_aload_n d_PK_copy_17 rfl ?_
  refine pw_aload_n d_PK_copy_18 rfl ?_
  refine pw_getI d_PK_copy_19 f_PK_15 rfl rfl ?_
  rw [show (cpI M (0, 4) (0, 2) n).1 (0, 3) 1 = nI n from by simp [cpI, hl]]
  refine pw_putI d_PK_copy_22 f_PK_15 rfl rfl rfl ?_
  refine pw_return d_PK_copy_25 rfl ?_ ?_
  · rfl
  · rfl
/-- the first n bytes zero but byte 0 -/
def blB_t (M : Mem) (i : Nat) : Mem := (fun q j => if q = (0, 2) ∧ 1 ≤ j ∧ j < i then 0 else M.1 q j, M.2)
theorem lp_blank_t (hM : M.2.2.1 = rf) (o : PO) (M' : Mem) (x y z : Int32) (hend : PW G l m_PK_blank 30 [some (vR (some (0, 1))), some (vI x), some (vI y), some (vI z), some (vI (nI 48))] [] (blB_t M 48) o M' 0 0) : ∀ (m i : Nat), i + m = 48 → 1 ≤ i → PW G l m_PK_blank 9 [some (vR (some (0, 1))), some (vI x), some (vI y), some (vI z), some (vI (nI i))] [] (blB_t M i) o M' 0 0 := by
  intro m
  induction m with
  | zero =>
    intro i hi h1
    have : i = 48 := by omega
    subst this
    refine pw_iload d_PK_blank_9 rfl ?_
    refine pw_bipush (48) d_PK_blank_11 (by decide) ?_
    refine pw_icmp_ge (tgt := 30) d_PK_blank_13 (by decide) (fun h => ?_) (fun h => ?_)
    · exact hend
    · exact absurd (nI_le (Nat.le_refl 48) (by omega)) h
  | succ m ih =>
    intro i hi h1
    refine pw_iload d_PK_blank_9 rfl ?_
    refine pw_bipush (48) d_PK_blank_11 (by decide) ?_
    refine pw_icmp_ge (tgt := 30) d_PK_blank_13 (by decide) (fun h => ?_) (fun h => ?_)
    · exact absurd h (nI_ge (b := 48) (by omega) (by decide))
    · refine pw_aload_n d_PK_blank_16 rfl ?_
      refine pw_getR d_PK_blank_17 f_PK_9 rfl rfl (rfO hM rfl) ?_
      refine pw_iload d_PK_blank_20 rfl ?_
      refine pw_iconst 0 d_PK_blank_22 (by decide) ?_
      refine pw_iastore d_PK_blank_23 rfl (vp_in_nI (by omega) (by decide)) ?_
      rw [nI_clamp (by omega)]
      refine pw_iinc (1) d_PK_blank_24 rfl (by decide) (by decide) ?_
      dsimp only [stL, kil, isL, cat]
      refine pw_goto (tgt := 9) d_PK_blank_27 (by decide) ?_
      rw [nI_1]
      have e : sI (blB_t M i) (0, 2) i 0 = blB_t M (i + 1) := by
        unfold sI blB_t
        congr 1
        funext q j
        by_cases hq : q = (0, 2)
        · subst hq
          by_cases hj : j = i
          · subst hj; simp [h1]
          · by_cases a1 : 1 ≤ j ∧ j < i
            · simp [a1, show j < i + 1 by omega, hj]
            · have a2 : ¬ (1 ≤ j ∧ j < i + 1) := by omega
              simp only [true_and, a1, a2, hj, if_false]
        · simp [hq]
      rw [e]
      exact ih (i + 1) (by omega) (by omega)
def blnk_t (M : Mem) (h : Int32) : Mem := (fun q j => if q = (0, 1) ∧ j = 1 then 48 else if q = (0, 2) ∧ j = 0 then h else if q = (0, 2) ∧ j < 48 then 0 else M.1 q j, M.2)
theorem pm_blank_t (hM : M.2.2.1 = rf) (x y z : Int32) : PM G l m_PK_blank [vR (some (0, 1)), vI x, vI y, vI z] M rV (blnk_t M (64 * x + 8 * y + z)) 0 0 := by
  refine pm_in [some (vR (some (0, 1))), some (vI x), some (vI y), some (vI z), none] rfl ?_
  refine pw_aload_n d_PK_blank_0 rfl ?_
  refine pw_bipush (48) d_PK_blank_1 (by decide) ?_
  refine pw_putI d_PK_blank_3 f_PK_15 rfl rfl rfl ?_
  refine pw_iconst 1 d_PK_blank_6 (by decide) ?_
  refine pw_istore d_PK_blank_7 (by decide) ?_
  dsimp only [stL, kil, isL, cat]
  have e0 : sI M (0, 1) 1 48 = blB_t (sI M (0, 1) 1 48) 1 := by
    unfold blB_t
    refine Prod.ext ?_ rfl
    funext q j
    by_cases a1 : 1 ≤ j ∧ j < 1
    · omega
    · show _ = ite _ _ _
      rw [if_neg (fun c => a1 c.2)]
  rw [e0]
  refine lp_blank_t (M := sI M (0, 1) 1 48) hM _ _ x y z ?_ 47 1 (by omega) (by omega)
  refine pw_aload_n d_PK_blank_30 rfl ?_
  refine pw_getR d_PK_blank_31 f_PK_9 rfl rfl (rfO hM rfl) ?_
  refine pw_iconst 0 d_PK_blank_34 (by decide) ?_
  refine pw_bipush (64) d_PK_blank_35 (by decide) ?_
  refine pw_iload_n d_PK_blank_37 rfl ?_
  refine pw_imul d_PK_blank_38 ?_
  refine pw_bipush (8) d_PK_blank_39 (by decide) ?_
  refine pw_iload_n d_PK_blank_41 rfl ?_
  refine pw_imul d_PK_blank_42 ?_
  refine pw_iadd d_PK_blank_43 ?_
  refine pw_iload_n d_PK_blank_44 rfl ?_
  refine pw_iadd d_PK_blank_45 ?_
  refine pw_iastore d_PK_blank_46 rfl (vp_in_nI (n := 0) (by decide) (by decide)) ?_
  refine pw_return d_PK_blank_47 rfl ?_ ?_
  · rfl
  · unfold blnk_t
    refine Prod.ext ?_ rfl
    funext q j
    show _ = (if q = (0, 2) ∧ j = (0 : Int32).toNatClampNeg then _ else if q = (0, 2) ∧ 1 ≤ j ∧ j < 48 then 0 else if q = (0, 1) ∧ j = 1 then 48 else M.1 q j)
    rw [sb_cl0]
    by_cases hq : q = (0, 2)
    · subst hq
      by_cases hj : j = 0
      · subst hj; simp
      · by_cases a1 : j < 48
        · simp [hj, a1, show 1 ≤ j by omega]
        · simp [hj, a1]
    · simp [hq]
theorem lp_write_t (hM : M.2.2.1 = rf) (a n : Nat) (v : Int64) (hz : a + n ≤ 64) (hn : n ≤ 8) : ∀ (m i : Nat), i + m = n → PW G l m_PK_write 3 [some (vR (some (0, 1))), some (vI (nI a)), some (vI (nI n)), some (vL v), none, some (vI (nI i))] [] (wrB byU M (0, 2) a n v i) rV (wrB byU M (0, 2) a n v n) 0 0 := by
  intro m
  induction m with
  | zero =>
    intro i hi
    have : i = n := by omega
    subst this
    refine pw_iload d_PK_write_3 rfl ?_
    refine pw_iload_n d_PK_write_5 rfl ?_
    refine pw_icmp_ge (tgt := 40) d_PK_write_6 (by decide) (fun h => ?_) (fun h => ?_)
    · refine pw_return d_PK_write_40 rfl ?_ ?_
      · rfl
      · rfl
    · exact absurd (nI_le (Nat.le_refl i) (by omega)) h
  | succ m ih =>
    intro i hi
    refine pw_iload d_PK_write_3 rfl ?_
    refine pw_iload_n d_PK_write_5 rfl ?_
    refine pw_icmp_ge (tgt := 40) d_PK_write_6 (by decide) (fun h => ?_) (fun h => ?_)
    · rw [nI_leI (by omega) (by omega)] at h
      omega
    · refine pw_aload_n d_PK_write_9 rfl ?_
      refine pw_getR d_PK_write_10 f_PK_9 rfl rfl (rfO hM rfl) ?_
      refine pw_iload_n d_PK_write_13 rfl ?_
      refine pw_iload d_PK_write_14 rfl ?_
      refine pw_iadd d_PK_write_16 ?_
      rw [nI_add]
      refine pw_lload_n d_PK_write_17 rfl ?_
      refine pw_bipush (8) d_PK_write_18 (by decide) ?_
      refine pw_iload_n d_PK_write_20 rfl ?_
      refine pw_iconst 1 d_PK_write_21 (by decide) ?_
      refine pw_isub d_PK_write_22 ?_
      refine pw_iload d_PK_write_23 rfl ?_
      refine pw_isub d_PK_write_25 ?_
      refine pw_imul d_PK_write_26 ?_
      rw [show nI n - 1 - nI i = nI (n - 1 - i) from by rw [show (1 : Int32) = nI 1 from rfl, pk_sub (by omega), pk_sub (by omega)], show (8 : Int32) * nI (n - 1 - i) = nI (8 * (n - 1 - i)) from by rw [nI_8, pk_mul]]
      refine pw_lushr d_PK_write_27 ?_
      refine pw_l2i d_PK_write_28 ?_
      refine pw_sipush (255) d_PK_write_29 (by decide) ?_
      refine pw_iand d_PK_write_32 ?_
      refine pw_iastore d_PK_write_33 rfl (vp_in_nI (by omega) (by decide)) ?_
      rw [nI_clamp (by omega)]
      refine pw_iinc (1) d_PK_write_34 rfl (by decide) (by decide) ?_
      dsimp only [stL, kil, isL, cat]
      refine pw_goto (tgt := 3) d_PK_write_37 (by decide) ?_
      rw [nI_1]
      have e : ∀ x, x = byU v (n - 1 - i) → sI (wrB byU M (0, 2) a n v i) (0, 2) (a + i) x = wrB byU M (0, 2) a n v (i + 1) := by
        intro x hx
        unfold sI wrB
        congr 1
        funext q j
        by_cases hq : q = (0, 2)
        · subst hq
          by_cases hj : j = a + i
          · subst hj
            have : a ≤ a + i ∧ a + i < a + (i + 1) := by omega
            simp only [true_and, this, if_true, and_self]
            rw [hx, Nat.add_sub_cancel_left]
          · by_cases a1 : a ≤ j ∧ j < a + i
            · have a2 : a ≤ j ∧ j < a + (i + 1) := by omega
              simp only [true_and, hj, if_false, a1, a2, if_true, and_self]
            · have a2 : ¬ (a ≤ j ∧ j < a + (i + 1)) := by omega
              simp only [true_and, hj, if_false, a1, a2]
        · simp [hq]
      have q := ih (i + 1) (by omega)
      rw [← e _ rfl] at q
      exact q
theorem pm_write_t (hM : M.2.2.1 = rf) (a n : Nat) (v : Int64) (hz : a + n ≤ 64) (hn : n ≤ 8) : PM G l m_PK_write [vR (some (0, 1)), vI (nI a), vI (nI n), vL v] M rV (wrB byU M (0, 2) a n v n) 0 0 := by
  refine pm_in [some (vR (some (0, 1))), some (vI (nI a)), some (vI (nI n)), some (vL v), none, none] rfl ?_
  refine pw_iconst 0 d_PK_write_0 (by decide) ?_
  refine pw_istore d_PK_write_1 (by decide) ?_
  dsimp only [stL, kil, isL, cat]
  have e0 : wrB byU M (0, 2) a n v 0 = M := by
    unfold wrB
    refine Prod.ext ?_ rfl
    funext q j
    show ite _ _ _ = _
    rw [if_neg (fun c => by omega)]
  have := lp_write_t (G := G) (l := l) hM a n v hz hn n 0 (by omega)
  rw [e0] at this
  exact this
/-- the first n bytes zero but byte 0 -/
def blB_o (M : Mem) (i : Nat) : Mem := (fun q j => if q = (0, 4) ∧ 1 ≤ j ∧ j < i then 0 else M.1 q j, M.2)
theorem lp_blank_o (hM : M.2.2.1 = rf) (o : PO) (M' : Mem) (x y z : Int32) (hend : PW G l m_PK_blank 30 [some (vR (some (0, 3))), some (vI x), some (vI y), some (vI z), some (vI (nI 48))] [] (blB_o M 48) o M' 0 0) : ∀ (m i : Nat), i + m = 48 → 1 ≤ i → PW G l m_PK_blank 9 [some (vR (some (0, 3))), some (vI x), some (vI y), some (vI z), some (vI (nI i))] [] (blB_o M i) o M' 0 0 := by
  intro m
  induction m with
  | zero =>
    intro i hi h1
    have : i = 48 := by omega
    subst this
    refine pw_iload d_PK_blank_9 rfl ?_
    refine pw_bipush (48) d_PK_blank_11 (by decide) ?_
    refine pw_icmp_ge (tgt := 30) d_PK_blank_13 (by decide) (fun h => ?_) (fun h => ?_)
    · exact hend
    · exact absurd (nI_le (Nat.le_refl 48) (by omega)) h
  | succ m ih =>
    intro i hi h1
    refine pw_iload d_PK_blank_9 rfl ?_
    refine pw_bipush (48) d_PK_blank_11 (by decide) ?_
    refine pw_icmp_ge (tgt := 30) d_PK_blank_13 (by decide) (fun h => ?_) (fun h => ?_)
    · exact absurd h (nI_ge (b := 48) (by omega) (by decide))
    · refine pw_aload_n d_PK_blank_16 rfl ?_
      refine pw_getR d_PK_blank_17 f_PK_9 rfl rfl (rfO hM rfl) ?_
      refine pw_iload d_PK_blank_20 rfl ?_
      refine pw_iconst 0 d_PK_blank_22 (by decide) ?_
      refine pw_iastore d_PK_blank_23 rfl (vp_in_nI (by omega) (by decide)) ?_
      rw [nI_clamp (by omega)]
      refine pw_iinc (1) d_PK_blank_24 rfl (by decide) (by decide) ?_
      dsimp only [stL, kil, isL, cat]
      refine pw_goto (tgt := 9) d_PK_blank_27 (by decide) ?_
      rw [nI_1]
      have e : sI (blB_o M i) (0, 4) i 0 = blB_o M (i + 1) := by
        unfold sI blB_o
        congr 1
        funext q j
        by_cases hq : q = (0, 4)
        · subst hq
          by_cases hj : j = i
          · subst hj; simp [h1]
          · by_cases a1 : 1 ≤ j ∧ j < i
            · simp [a1, show j < i + 1 by omega, hj]
            · have a2 : ¬ (1 ≤ j ∧ j < i + 1) := by omega
              simp only [true_and, a1, a2, hj, if_false]
        · simp [hq]
      rw [e]
      exact ih (i + 1) (by omega) (by omega)
def blnk_o (M : Mem) (h : Int32) : Mem := (fun q j => if q = (0, 3) ∧ j = 1 then 48 else if q = (0, 4) ∧ j = 0 then h else if q = (0, 4) ∧ j < 48 then 0 else M.1 q j, M.2)
theorem pm_blank_o (hM : M.2.2.1 = rf) (x y z : Int32) : PM G l m_PK_blank [vR (some (0, 3)), vI x, vI y, vI z] M rV (blnk_o M (64 * x + 8 * y + z)) 0 0 := by
  refine pm_in [some (vR (some (0, 3))), some (vI x), some (vI y), some (vI z), none] rfl ?_
  refine pw_aload_n d_PK_blank_0 rfl ?_
  refine pw_bipush (48) d_PK_blank_1 (by decide) ?_
  refine pw_putI d_PK_blank_3 f_PK_15 rfl rfl rfl ?_
  refine pw_iconst 1 d_PK_blank_6 (by decide) ?_
  refine pw_istore d_PK_blank_7 (by decide) ?_
  dsimp only [stL, kil, isL, cat]
  have e0 : sI M (0, 3) 1 48 = blB_o (sI M (0, 3) 1 48) 1 := by
    unfold blB_o
    refine Prod.ext ?_ rfl
    funext q j
    by_cases a1 : 1 ≤ j ∧ j < 1
    · omega
    · show _ = ite _ _ _
      rw [if_neg (fun c => a1 c.2)]
  rw [e0]
  refine lp_blank_o (M := sI M (0, 3) 1 48) hM _ _ x y z ?_ 47 1 (by omega) (by omega)
  refine pw_aload_n d_PK_blank_30 rfl ?_
  refine pw_getR d_PK_blank_31 f_PK_9 rfl rfl (rfO hM rfl) ?_
  refine pw_iconst 0 d_PK_blank_34 (by decide) ?_
  refine pw_bipush (64) d_PK_blank_35 (by decide) ?_
  refine pw_iload_n d_PK_blank_37 rfl ?_
  refine pw_imul d_PK_blank_38 ?_
  refine pw_bipush (8) d_PK_blank_39 (by decide) ?_
  refine pw_iload_n d_PK_blank_41 rfl ?_
  refine pw_imul d_PK_blank_42 ?_
  refine pw_iadd d_PK_blank_43 ?_
  refine pw_iload_n d_PK_blank_44 rfl ?_
  refine pw_iadd d_PK_blank_45 ?_
  refine pw_iastore d_PK_blank_46 rfl (vp_in_nI (n := 0) (by decide) (by decide)) ?_
  refine pw_return d_PK_blank_47 rfl ?_ ?_
  · rfl
  · unfold blnk_o
    refine Prod.ext ?_ rfl
    funext q j
    show _ = (if q = (0, 4) ∧ j = (0 : Int32).toNatClampNeg then _ else if q = (0, 4) ∧ 1 ≤ j ∧ j < 48 then 0 else if q = (0, 3) ∧ j = 1 then 48 else M.1 q j)
    rw [sb_cl0]
    by_cases hq : q = (0, 4)
    · subst hq
      by_cases hj : j = 0
      · subst hj; simp
      · by_cases a1 : j < 48
        · simp [hj, a1, show 1 ≤ j by omega]
        · simp [hj, a1]
    · simp [hq]
theorem lp_write_o (hM : M.2.2.1 = rf) (a n : Nat) (v : Int64) (hz : a + n ≤ 48) (hn : n ≤ 8) : ∀ (m i : Nat), i + m = n → PW G l m_PK_write 3 [some (vR (some (0, 3))), some (vI (nI a)), some (vI (nI n)), some (vL v), none, some (vI (nI i))] [] (wrB byU M (0, 4) a n v i) rV (wrB byU M (0, 4) a n v n) 0 0 := by
  intro m
  induction m with
  | zero =>
    intro i hi
    have : i = n := by omega
    subst this
    refine pw_iload d_PK_write_3 rfl ?_
    refine pw_iload_n d_PK_write_5 rfl ?_
    refine pw_icmp_ge (tgt := 40) d_PK_write_6 (by decide) (fun h => ?_) (fun h => ?_)
    · refine pw_return d_PK_write_40 rfl ?_ ?_
      · rfl
      · rfl
    · exact absurd (nI_le (Nat.le_refl i) (by omega)) h
  | succ m ih =>
    intro i hi
    refine pw_iload d_PK_write_3 rfl ?_
    refine pw_iload_n d_PK_write_5 rfl ?_
    refine pw_icmp_ge (tgt := 40) d_PK_write_6 (by decide) (fun h => ?_) (fun h => ?_)
    · rw [nI_leI (by omega) (by omega)] at h
      omega
    · refine pw_aload_n d_PK_write_9 rfl ?_
      refine pw_getR d_PK_write_10 f_PK_9 rfl rfl (rfO hM rfl) ?_
      refine pw_iload_n d_PK_write_13 rfl ?_
      refine pw_iload d_PK_write_14 rfl ?_
      refine pw_iadd d_PK_write_16 ?_
      rw [nI_add]
      refine pw_lload_n d_PK_write_17 rfl ?_
      refine pw_bipush (8) d_PK_write_18 (by decide) ?_
      refine pw_iload_n d_PK_write_20 rfl ?_
      refine pw_iconst 1 d_PK_write_21 (by decide) ?_
      refine pw_isub d_PK_write_22 ?_
      refine pw_iload d_PK_write_23 rfl ?_
      refine pw_isub d_PK_write_25 ?_
      refine pw_imul d_PK_write_26 ?_
      rw [show nI n - 1 - nI i = nI (n - 1 - i) from by rw [show (1 : Int32) = nI 1 from rfl, pk_sub (by omega), pk_sub (by omega)], show (8 : Int32) * nI (n - 1 - i) = nI (8 * (n - 1 - i)) from by rw [nI_8, pk_mul]]
      refine pw_lushr d_PK_write_27 ?_
      refine pw_l2i d_PK_write_28 ?_
      refine pw_sipush (255) d_PK_write_29 (by decide) ?_
      refine pw_iand d_PK_write_32 ?_
      refine pw_iastore d_PK_write_33 rfl (vp_in_nI (by omega) (by decide)) ?_
      rw [nI_clamp (by omega)]
      refine pw_iinc (1) d_PK_write_34 rfl (by decide) (by decide) ?_
      dsimp only [stL, kil, isL, cat]
      refine pw_goto (tgt := 3) d_PK_write_37 (by decide) ?_
      rw [nI_1]
      have e : ∀ x, x = byU v (n - 1 - i) → sI (wrB byU M (0, 4) a n v i) (0, 4) (a + i) x = wrB byU M (0, 4) a n v (i + 1) := by
        intro x hx
        unfold sI wrB
        congr 1
        funext q j
        by_cases hq : q = (0, 4)
        · subst hq
          by_cases hj : j = a + i
          · subst hj
            have : a ≤ a + i ∧ a + i < a + (i + 1) := by omega
            simp only [true_and, this, if_true, and_self]
            rw [hx, Nat.add_sub_cancel_left]
          · by_cases a1 : a ≤ j ∧ j < a + i
            · have a2 : a ≤ j ∧ j < a + (i + 1) := by omega
              simp only [true_and, hj, if_false, a1, a2, if_true, and_self]
            · have a2 : ¬ (a ≤ j ∧ j < a + (i + 1)) := by omega
              simp only [true_and, hj, if_false, a1, a2]
        · simp [hq]
      have q := ih (i + 1) (by omega)
      rw [← e _ rfl] at q
      exact q
theorem pm_write_o (hM : M.2.2.1 = rf) (a n : Nat) (v : Int64) (hz : a + n ≤ 48) (hn : n ≤ 8) : PM G l m_PK_write [vR (some (0, 3)), vI (nI a), vI (nI n), vL v] M rV (wrB byU M (0, 4) a n v n) 0 0 := by
  refine pm_in [some (vR (some (0, 3))), some (vI (nI a)), some (vI (nI n)), some (vL v), none, none] rfl ?_
  refine pw_iconst 0 d_PK_write_0 (by decide) ?_
  refine pw_istore d_PK_write_1 (by decide) ?_
  dsimp only [stL, kil, isL, cat]
  have e0 : wrB byU M (0, 4) a n v 0 = M := by
    unfold wrB
    refine Prod.ext ?_ rfl
    funext q j
    show ite _ _ _ = _
    rw [if_neg (fun c => by omega)]
  have := lp_write_o (G := G) (l := l) hM a n v hz hn n 0 (by omega)
  rw [e0] at this
  exact this
end PK1
