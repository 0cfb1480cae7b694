/-! the class: what a peer says -/
theorem i64_msb (a : Int64) : a < 0 ↔ a.toBitVec.msb = true := by
  rw [Int64.lt_iff_toInt_lt, Int64.toInt_zero, BitVec.msb_eq_toInt]
  simp
theorem i64_xlt {a b : Int64} (hb : 0 < b) : a ^^^ b < 0 ↔ a < 0 := by
  rw [i64_msb, i64_msb, Int64.toBitVec_xor, BitVec.msb_xor]
  have : ¬ b.toBitVec.msb = true := fun q => by
    rw [← i64_msb, Int64.lt_iff_toInt_lt] at q
    rw [Int64.lt_iff_toInt_lt] at hb
    omega
  simp only [Bool.not_eq_true] at this
  rw [this]
  simp
theorem fdv_flr {a b : Int64} (hb : 0 < b) : fdv a b = flr a b := by
  unfold fdv flr
  simp only [i64_xlt hb]
  by_cases h1 : a < 0
  · by_cases h2 : a / b * b = a
    · simp [h1, h2]
    · simp [h1, h2]
  · simp [h1]
theorem nowV_min (d : Int64) (t u : Int32) : (if d + 64424 * (u - t).toInt64 < 68719476736 then d + 64424 * (u - t).toInt64 else 68719476736) = nowV d t u := by
  unfold nowV
  generalize d + 64424 * (u - t).toInt64 = v
  by_cases h : v < 68719476736
  · rw [if_pos h, if_neg]
    rw [Int64.lt_iff_toInt_lt] at *
    omega
  · by_cases h2 : (68719476736 : Int64) < v
    · rw [if_neg h, if_pos h2]
    · rw [if_neg h, if_neg h2]
      rw [Int64.lt_iff_toInt_lt] at *
      apply Int64.toInt_inj.mp
      omega
theorem mx14_max (x : Int64) : (if (16384 : Int64) < x then x else 16384) = mx14 x := by
  unfold mx14
  by_cases h : (16384 : Int64) < x
  · rw [if_pos h, if_neg]
    rw [Int64.lt_iff_toInt_lt] at *
    omega
  · by_cases h2 : x < 16384
    · rw [if_neg h, if_pos h2]
    · rw [if_neg h, if_neg h2]
      rw [Int64.lt_iff_toInt_lt] at *
      apply Int64.toInt_inj.mp
      omega
def shN (v : Int64) (i : Nat) : Int64 := v >>> ((nI (i + 1)).toInt64 &&& 63)
abbrev PEK (p : Nat) : KK := (p + 1, 0)
/-- the samples' numbers, as the class lays them in THE ORDER -/
def oOK (M : Mem) (p c : Nat) (o : Nat → Nat) : Prop := ∀ pl, pl < c → M.1 (p + 1, 5) pl = nI (o pl) ∧ o pl < 8
def cNw (M : Mem) (p : Nat) (u : Int32) (k : Nat) : Int64 := nowV (M.2.1 (p + 1, 3) k) (M.1 (p + 1, 4) k) u
def cDs (M : Mem) (p c : Nat) (o : Nat → Nat) (u : Int32) : Int64 := smL (fun i => shN (if i < c then cNw M p u (o i) else 68719476736) i) 8
def cDt (M : Mem) (p c : Nat) (o : Nat → Nat) (u : Int32) : Int64 := dsV (M.2.1 (PEK p) 4) (M.2.1 (p + 1, 2) (o 0)) (M.2.1 (PEK p) 5) (cDs M p c o u) (M.2.1 (PEK p) 7)
section PE1
variable {G : GG} {l : Launch} {M : Mem}
theorem pm_offsetAt (hM : M.2.2.1 = rf) (p c : Nat) (o : Nat → Nat) (ho : oOK M p c o) (pl : Nat) (h : pl < c) (hc : c ≤ 8) : PM G l m_PE_offsetAt [vR (some (PEK p)), vI (nI pl)] M (rL (M.2.1 (p + 1, 1) (o pl))) M 0 0 := by
  refine pm_in [some (vR (some (PEK p))), some (vI (nI pl))] rfl ?_
  obtain ⟨h1, h2⟩ := ho pl h
  refine pw_aload_n d_PE_offsetAt_0 rfl ?_
  refine pw_getR d_PE_offsetAt_1 f_PE_9 rfl rfl (rfO hM rfl) ?_
  refine pw_aload_n d_PE_offsetAt_4 rfl ?_
  refine pw_getR d_PE_offsetAt_5 f_PE_25 rfl rfl (rfO hM rfl) ?_
  refine pw_iload_n d_PE_offsetAt_8 rfl ?_
  refine pw_iaN (n := pl) d_PE_offsetAt_9 rfl (by omega) (by decide) ?_
  rw [h1]
  refine pw_laN (n := o pl) d_PE_offsetAt_10 rfl (by omega) (by decide) ?_
  refine pw_lreturn d_PE_offsetAt_11 rfl ?_ ?_
  · rfl
  · rfl
theorem pm_delayAt (hM : M.2.2.1 = rf) (p c : Nat) (o : Nat → Nat) (ho : oOK M p c o) (pl : Nat) (h : pl < c) (hc : c ≤ 8) : PM G l m_PE_delayAt [vR (some (PEK p)), vI (nI pl)] M (rL (M.2.1 (p + 1, 2) (o pl))) M 0 0 := by
  refine pm_in [some (vR (some (PEK p))), some (vI (nI pl))] rfl ?_
  obtain ⟨h1, h2⟩ := ho pl h
  refine pw_aload_n d_PE_delayAt_0 rfl ?_
  refine pw_getR d_PE_delayAt_1 f_PE_15 rfl rfl (rfO hM rfl) ?_
  refine pw_aload_n d_PE_delayAt_4 rfl ?_
  refine pw_getR d_PE_delayAt_5 f_PE_25 rfl rfl (rfO hM rfl) ?_
  refine pw_iload_n d_PE_delayAt_8 rfl ?_
  refine pw_iaN (n := pl) d_PE_delayAt_9 rfl (by omega) (by decide) ?_
  rw [h1]
  refine pw_laN (n := o pl) d_PE_delayAt_10 rfl (by omega) (by decide) ?_
  refine pw_lreturn d_PE_delayAt_11 rfl ?_ ?_
  · rfl
  · rfl
theorem pm_dispersionAt (hM : M.2.2.1 = rf) (p c : Nat) (o : Nat → Nat) (ho : oOK M p c o) (pl : Nat) (h : pl < c) (hc : c ≤ 8) (u : Int32) : PM G l m_PE_dispersionAt [vR (some (PEK p)), vI (nI pl), vI u] M (rL (cNw M p u (o pl))) M 0 0 := by
  refine pm_in [some (vR (some (PEK p))), some (vI (nI pl)), some (vI u), none] rfl ?_
  obtain ⟨h1, h2⟩ := ho pl h
  refine pw_aload_n d_PE_dispersionAt_0 rfl ?_
  refine pw_getR d_PE_dispersionAt_1 f_PE_25 rfl rfl (rfO hM rfl) ?_
  refine pw_iload_n d_PE_dispersionAt_4 rfl ?_
  refine pw_iaN (n := pl) d_PE_dispersionAt_5 rfl (by omega) (by decide) ?_
  rw [h1]
  refine pw_istore_n d_PE_dispersionAt_6 (by decide) ?_
  dsimp only [stL, kil, isL, cat]
  refine pw_ldc2 (68719476736) d_PE_dispersionAt_7 g559 ?_
  refine pw_aload_n d_PE_dispersionAt_10 rfl ?_
  refine pw_getR d_PE_dispersionAt_11 f_PE_18 rfl rfl (rfO hM rfl) ?_
  refine pw_iload_n d_PE_dispersionAt_14 rfl ?_
  refine pw_laN (n := o pl) d_PE_dispersionAt_15 rfl (by omega) (by decide) ?_
  refine pw_ldc2 (64424) d_PE_dispersionAt_16 g560 ?_
  refine pw_iload_n d_PE_dispersionAt_19 rfl ?_
  refine pw_aload_n d_PE_dispersionAt_20 rfl ?_
  refine pw_getR d_PE_dispersionAt_21 f_PE_21 rfl rfl (rfO hM rfl) ?_
  refine pw_iload_n d_PE_dispersionAt_24 rfl ?_
  refine pw_iaN (n := o pl) d_PE_dispersionAt_25 rfl (by omega) (by decide) ?_
  refine pw_isub d_PE_dispersionAt_26 ?_
  refine pw_i2l d_PE_dispersionAt_27 ?_
  refine pw_lmul d_PE_dispersionAt_28 ?_
  refine pw_ladd d_PE_dispersionAt_29 ?_
  refine c_PE_dispersionAt_30 (Nat.le_of_ble_eq_true rfl) (pm_min_JJ _ _) ?_
  refine pw_lreturn d_PE_dispersionAt_33 rfl ?_ ?_
  · unfold cNw
    rw [← nowV_min]
  · rfl
theorem lp_cdisp (hM : M.2.2.1 = rf) (p c : Nat) (o : Nat → Nat) (ho : oOK M p c o) (hc : c ≤ 8) (hC : M.1 (PEK p) 6 = nI c) (u : Int32) : ∀ i, i ≤ 8 → ∀ x : Option PV, PW G l m_PE_dispersion 5 [some (vR (some (PEK p))), some (vI u), some (vL (smL (fun i => shN (if i < c then cNw M p u (o i) else 68719476736) i) i)), none, some (vI (nI i)), x, none] [] M (rL (cDs M p c o u)) M 0 0 := by
  refine lpU ?_ ?_
  · intro x
    refine pw_iload d_PE_dispersion_5 rfl ?_
    refine pw_bipush (8) d_PE_dispersion_7 (by decide) ?_
    refine pw_icmp_ge (tgt := 52) d_PE_dispersion_9 (by decide) (fun _ => ?_) (fun h => absurd (nI_le (a := 8) (b := 8) (by omega) (by omega)) h)
    refine pw_lload_n d_PE_dispersion_52 rfl ?_
    refine pw_lreturn d_PE_dispersion_53 rfl ?_ ?_
    · rfl
    · rfl
  · intro i hi ih x
    refine pw_iload d_PE_dispersion_5 rfl ?_
    refine pw_bipush (8) d_PE_dispersion_7 (by decide) ?_
    refine pw_icmp_ge (tgt := 52) d_PE_dispersion_9 (by decide) (fun h => absurd h (nI_ge (b := 8) hi (by omega))) (fun _ => ?_)
    refine pw_iload d_PE_dispersion_12 rfl ?_
    refine pw_aload_n d_PE_dispersion_14 rfl ?_
    refine pw_getI d_PE_dispersion_15 f_PE_39 rfl rfl ?_
    rw [hC]
    refine pw_icmp_ge (tgt := 31) d_PE_dispersion_18 (by decide) (fun h => ?_) (fun h => ?_)
    · rw [nI_leI (by omega) (by omega)] at h
      refine pw_ldc2 (68719476736) d_PE_dispersion_31 g559 ?_
      refine pw_lstore d_PE_dispersion_34 (by decide) ?_
      dsimp only [stL, kil, isL, cat]
      refine pw_lload_n d_PE_dispersion_36 rfl ?_
      refine pw_lload d_PE_dispersion_37 rfl ?_
      refine pw_iload d_PE_dispersion_39 rfl ?_
      refine pw_iconst 1 d_PE_dispersion_41 (by decide) ?_
      refine pw_iadd d_PE_dispersion_42 ?_
      rw [nI_1]
      refine pw_lshr d_PE_dispersion_43 ?_
      refine pw_ladd d_PE_dispersion_44 ?_
      refine pw_lstore_n d_PE_dispersion_45 (by decide) ?_
      dsimp only [stL, kil, isL, cat]
      refine pw_iinc (1) d_PE_dispersion_46 rfl (by decide) (by decide) ?_
      dsimp only [stL, kil, isL, cat]
      refine pw_goto (tgt := 5) d_PE_dispersion_49 (by decide) ?_
      rw [nI_1]
      have q := ih (some (vL 68719476736))
      rw [smL, if_neg (by omega)] at q
      exact q
    · rw [nI_leI (by omega) (by omega)] at h
      refine pw_aload_n d_PE_dispersion_21 rfl ?_
      refine pw_iload d_PE_dispersion_22 rfl ?_
      refine pw_iload_n d_PE_dispersion_24 rfl ?_
      refine c_PE_dispersion_25 rfl (Nat.le_of_ble_eq_true rfl) (pm_dispersionAt hM p c o ho i (by omega) hc u) ?_
      refine pw_goto (tgt := 34) d_PE_dispersion_28 (by decide) ?_
      refine pw_lstore d_PE_dispersion_34 (by decide) ?_
      dsimp only [stL, kil, isL, cat]
      refine pw_lload_n d_PE_dispersion_36 rfl ?_
      refine pw_lload d_PE_dispersion_37 rfl ?_
      refine pw_iload d_PE_dispersion_39 rfl ?_
      refine pw_iconst 1 d_PE_dispersion_41 (by decide) ?_
      refine pw_iadd d_PE_dispersion_42 ?_
      rw [nI_1]
      refine pw_lshr d_PE_dispersion_43 ?_
      refine pw_ladd d_PE_dispersion_44 ?_
      refine pw_lstore_n d_PE_dispersion_45 (by decide) ?_
      dsimp only [stL, kil, isL, cat]
      refine pw_iinc (1) d_PE_dispersion_46 rfl (by decide) (by decide) ?_
      dsimp only [stL, kil, isL, cat]
      refine pw_goto (tgt := 5) d_PE_dispersion_49 (by decide) ?_
      rw [nI_1]
      have q := ih (some (vL (cNw M p u (o i))))
      rw [smL, if_pos (by omega)] at q
      exact q
theorem pm_dispersion (hM : M.2.2.1 = rf) (p c : Nat) (o : Nat → Nat) (ho : oOK M p c o) (hc : c ≤ 8) (hC : M.1 (PEK p) 6 = nI c) (u : Int32) : PM G l m_PE_dispersion [vR (some (PEK p)), vI u] M (rL (cDs M p c o u)) M 0 0 := by
  refine pm_in [some (vR (some (PEK p))), some (vI u), none, none, none, none, none] rfl ?_
  refine pw_lconst 0 d_PE_dispersion_0 (by decide) ?_
  refine pw_lstore_n d_PE_dispersion_1 (by decide) ?_
  dsimp only [stL, kil, isL, cat]
  refine pw_iconst 0 d_PE_dispersion_2 (by decide) ?_
  refine pw_istore d_PE_dispersion_3 (by decide) ?_
  dsimp only [stL, kil, isL, cat]
  exact lp_cdisp hM p c o ho hc hC u 0 (by omega) none
theorem pm_distance (hM : M.2.2.1 = rf) (p c : Nat) (o : Nat → Nat) (ho : oOK M p c o) (hc : c ≤ 8) (h0 : 0 < c) (hC : M.1 (PEK p) 6 = nI c) (u : Int32) : PM G l m_PE_distance [vR (some (PEK p)), vI u] M (rL (cDt M p c o u)) M 0 0 := by
  refine pm_in [some (vR (some (PEK p))), some (vI u), none, none] rfl ?_
  refine pw_ldc2 (16384) d_PE_distance_0 g511 ?_
  refine pw_aload_n d_PE_distance_3 rfl ?_
  refine pw_getL d_PE_distance_4 f_PE_80 rfl rfl ?_
  refine pw_aload_n d_PE_distance_7 rfl ?_
  refine pw_iconst 0 d_PE_distance_8 (by decide) ?_
  refine c_PE_distance_9 rfl (Nat.le_of_ble_eq_true rfl) (pm_delayAt hM p c o ho 0 h0 hc) ?_
  refine pw_ladd d_PE_distance_12 ?_
  refine c_PE_distance_13 (Nat.le_of_ble_eq_true rfl) (pm_max_JJ _ _) ?_
  refine pw_lstore_n d_PE_distance_16 (by decide) ?_
  dsimp only [stL, kil, isL, cat]
  refine pw_lload_n d_PE_distance_17 rfl ?_
  refine pw_ldc2 (2) d_PE_distance_18 g550 ?_
  refine pw_ldiv d_PE_distance_21 (by decide) ?_
  refine pw_aload_n d_PE_distance_22 rfl ?_
  refine pw_getL d_PE_distance_23 f_PE_88 rfl rfl ?_
  refine pw_ladd d_PE_distance_26 ?_
  refine pw_aload_n d_PE_distance_27 rfl ?_
  refine pw_iload_n d_PE_distance_28 rfl ?_
  refine c_PE_distance_29 rfl (Nat.le_of_ble_eq_true rfl) (pm_dispersion hM p c o ho hc hC u) ?_
  refine pw_ladd d_PE_distance_32 ?_
  refine pw_aload_n d_PE_distance_33 rfl ?_
  refine pw_getL d_PE_distance_34 f_PE_67 rfl rfl ?_
  refine pw_ladd d_PE_distance_37 ?_
  refine pw_lreturn d_PE_distance_38 rfl ?_ ?_
  · unfold cDt dsV
    rw [← mx14_max]
  · rfl
theorem pm_hasNews (hM : M.2.2.1 = rf) (p c : Nat) (o : Nat → Nat) (ho : oOK M p c o) (h0 : 0 < c) : PM G l m_PE_hasNews [vR (some (PEK p))] M (rI (if M.1 (PEK p) 13 < M.1 (p + 1, 4) (o 0) then 1 else 0)) (if M.1 (PEK p) 13 < M.1 (p + 1, 4) (o 0) then sI M (PEK p) 13 (M.1 (p + 1, 4) (o 0)) else M) 0 0 := by
  refine pm_in [some (vR (some (PEK p))), none] rfl ?_
  obtain ⟨h1, h2⟩ := ho 0 h0
  refine pw_aload_n d_PE_hasNews_0 rfl ?_
  refine pw_getR d_PE_hasNews_1 f_PE_21 rfl rfl (rfO hM rfl) ?_
  refine pw_aload_n d_PE_hasNews_4 rfl ?_
  refine pw_getR d_PE_hasNews_5 f_PE_25 rfl rfl (rfO hM rfl) ?_
  refine pw_iconst 0 d_PE_hasNews_8 (by decide) ?_
  refine pw_iaN (n := 0) d_PE_hasNews_9 rfl (by omega) (by decide) ?_
  rw [h1]
  refine pw_iaN (n := o 0) d_PE_hasNews_10 rfl (by omega) (by decide) ?_
  refine pw_istore_n d_PE_hasNews_11 (by decide) ?_
  dsimp only [stL, kil, isL, cat]
  refine pw_iload_n d_PE_hasNews_12 rfl ?_
  refine pw_aload_n d_PE_hasNews_13 rfl ?_
  refine pw_getI d_PE_hasNews_14 f_PE_28 rfl rfl ?_
  refine pw_icmp_gt (tgt := 22) d_PE_hasNews_17 (by decide) (fun h17 => ?_) (fun h17 => ?_)
  · refine pw_aload_n d_PE_hasNews_22 rfl ?_
    refine pw_iload_n d_PE_hasNews_23 rfl ?_
    refine pw_putI d_PE_hasNews_24 f_PE_28 rfl rfl rfl ?_
    refine pw_iconst 1 d_PE_hasNews_27 (by decide) ?_
    refine pw_zreturn d_PE_hasNews_28 rfl ?_ ?_ ?_
    · first | exact Or.inl rfl | exact Or.inr rfl
    · (try simp only [lg_lt, lg_gt, lg_ge, lg_le, lg_eq, Classical.not_not] at h17) <;> simp only [h17, if_true, if_false]
    · (try simp only [lg_lt, lg_gt, lg_ge, lg_le, lg_eq, Classical.not_not] at h17) <;> simp only [h17, if_true, if_false]
  · refine pw_iconst 0 d_PE_hasNews_20 (by decide) ?_
    refine pw_zreturn d_PE_hasNews_21 rfl ?_ ?_ ?_
    · first | exact Or.inl rfl | exact Or.inr rfl
    · (try simp only [lg_lt, lg_gt, lg_ge, lg_le, lg_eq, Classical.not_not] at h17) <;> simp only [h17, if_true, if_false]
    · (try simp only [lg_lt, lg_gt, lg_ge, lg_le, lg_eq, Classical.not_not] at h17) <;> simp only [h17, if_true, if_false]
/-- the spread of n numbers of an array, but one -/
def spS (f : Nat → Int64) (b : Int64) (w : Int32) (n : Nat) : Int64 := smL (fun i => if nI i = w then 0 else sqL (f i - b)) n
def spC (w : Int32) : Nat → Nat
  | 0 => 0
  | n + 1 => if nI n = w then spC w n else spC w n + 1
def spV (f : Nat → Int64) (b : Int64) (w : Int32) (n : Nat) : Int64 := if spC w n = 0 then 0 else 4096 * rtL (spS f b w n / lN (spC w n))
theorem spC_le (w : Int32) : ∀ n, spC w n ≤ n
  | 0 => Nat.le_refl _
  | n + 1 => by have := spC_le w n; rw [spC]; split <;> omega
theorem lp_spread (k : KK) (hk : shp k = (2, 8)) (n : Nat) (hn : n ≤ 8) (b : Int64) (w : Int32) (hR : ¬ spC w n = 0 → 0 ≤ (spS (M.2.1 k) b w n / lN (spC w n)).toInt ∧ (spS (M.2.1 k) b w n / lN (spC w n)).toInt < 2 ^ 62) : ∀ i, i ≤ n → ∀ x : Option PV, PW G l m_TK_spread 9 [some (vR (some k)), some (vI (nI n)), some (vL b), none, some (vI w), some (vL (spS (M.2.1 k) b w i)), none, some (vI (nI (spC w i))), some (vI (nI i)), x, none] [] M (rL (spV (M.2.1 k) b w n)) M 0 0 := by
  refine lpU ?_ ?_
  · intro x
    refine pw_iload d_TK_spread_9 rfl ?_
    refine pw_iload_n d_TK_spread_11 rfl ?_
    refine pw_icmp_ge (tgt := 55) d_TK_spread_12 (by decide) (fun _ => ?_) (fun h => absurd (nI_le (Nat.le_refl n) (by omega)) h)
    have hcl := spC_le w n
    refine pw_iload d_TK_spread_55 rfl ?_
    by_cases hz : spC w n = 0
    · refine pw_if_ne (tgt := 64) d_TK_spread_57 (by decide) (fun h => absurd ((by rw [hz]; rfl)) h) (fun _ => ?_)
      refine pw_lconst 0 d_TK_spread_60 (by decide) ?_
      refine pw_goto (tgt := 77) d_TK_spread_61 (by decide) ?_
      refine pw_lreturn d_TK_spread_77 rfl ?_ ?_
      · unfold spV; rw [if_pos hz]
      · rfl
    · refine pw_if_ne (tgt := 64) d_TK_spread_57 (by decide) (fun _ => ?_) (fun h => absurd h ((nI_ne0 (by omega) (by omega))))
      refine pw_ldc2 (4096) d_TK_spread_64 g524 ?_
      refine pw_lload d_TK_spread_67 rfl ?_
      refine pw_iload d_TK_spread_69 rfl ?_
      refine pw_i2l d_TK_spread_71 ?_
      rw [nI_l (by omega)]
      refine pw_ldiv d_TK_spread_72 (lN_ne0 _ (by omega) (by omega)) ?_
      refine c_TK_spread_73 (Nat.le_of_ble_eq_true rfl) (pm_rootL _ (hR hz).1 (hR hz).2) ?_
      refine pw_lmul d_TK_spread_76 ?_
      refine pw_lreturn d_TK_spread_77 rfl ?_ ?_
      · unfold spV; rw [if_neg hz]
      · rfl
  · intro i hi ih x
    refine pw_iload d_TK_spread_9 rfl ?_
    refine pw_iload_n d_TK_spread_11 rfl ?_
    refine pw_icmp_ge (tgt := 55) d_TK_spread_12 (by decide) (fun h => absurd h (nI_ge hi (by omega))) (fun _ => ?_)
    refine pw_iload d_TK_spread_15 rfl ?_
    refine pw_iload d_TK_spread_17 rfl ?_
    by_cases hw : nI i = w
    · refine pw_icmp_eq (tgt := 49) d_TK_spread_19 (by decide) (fun _ => ?_) (fun h => absurd (hw) h)
      refine pw_iinc (1) d_TK_spread_49 rfl (by decide) (by decide) ?_
      dsimp only [stL, kil, isL, cat]
      refine pw_goto (tgt := 9) d_TK_spread_52 (by decide) ?_
      rw [nI_1]
      have q := ih x
      unfold spS at q
      rw [smL, if_pos hw, i64_add0, spC, if_pos hw] at q
      exact q
    · refine pw_icmp_eq (tgt := 49) d_TK_spread_19 (by decide) (fun h => absurd h (hw)) (fun _ => ?_)
      refine pw_aload_n d_TK_spread_22 rfl ?_
      refine pw_iload d_TK_spread_23 rfl ?_
      refine pw_laN (n := i) d_TK_spread_25 hk (by omega) (by decide) ?_
      refine pw_lload_n d_TK_spread_26 rfl ?_
      refine pw_lsub d_TK_spread_27 ?_
      refine pw_ldc2 (4096) d_TK_spread_28 g524 ?_
      refine c_TK_spread_31 (Nat.le_of_ble_eq_true rfl) (pm_floorDiv _ 4096 (by decide)) ?_
      rw [fdv_flr (by decide)]
      refine pw_lstore d_TK_spread_34 (by decide) ?_
      dsimp only [stL, kil, isL, cat]
      refine pw_lload d_TK_spread_36 rfl ?_
      refine pw_lload d_TK_spread_38 rfl ?_
      refine pw_lload d_TK_spread_40 rfl ?_
      refine pw_lmul d_TK_spread_42 ?_
      refine pw_ladd d_TK_spread_43 ?_
      refine pw_lstore d_TK_spread_44 (by decide) ?_
      dsimp only [stL, kil, isL, cat]
      refine pw_iinc (1) d_TK_spread_46 rfl (by decide) (by decide) ?_
      dsimp only [stL, kil, isL, cat]
      refine pw_iinc (1) d_TK_spread_49 rfl (by decide) (by decide) ?_
      dsimp only [stL, kil, isL, cat]
      refine pw_goto (tgt := 9) d_TK_spread_52 (by decide) ?_
      rw [nI_1, nI_1]
      have q := ih (some (vL (flr (M.2.1 k i - b) 4096)))
      unfold spS at q
      rw [smL, if_neg hw, spC, if_neg hw] at q
      exact q
theorem pm_spread (k : KK) (hk : shp k = (2, 8)) (n : Nat) (hn : n ≤ 8) (b : Int64) (w : Int32) (hR : ¬ spC w n = 0 → 0 ≤ (spS (M.2.1 k) b w n / lN (spC w n)).toInt ∧ (spS (M.2.1 k) b w n / lN (spC w n)).toInt < 2 ^ 62) : PM G l m_TK_spread [vR (some k), vI (nI n), vL b, vI w] M (rL (spV (M.2.1 k) b w n)) M 0 0 := by
  refine pm_in [some (vR (some k)), some (vI (nI n)), some (vL b), none, some (vI w), none, none, none, none, none, none] rfl ?_
  refine pw_lconst 0 d_TK_spread_0 (by decide) ?_
  refine pw_lstore d_TK_spread_1 (by decide) ?_
  dsimp only [stL, kil, isL, cat]
  refine pw_iconst 0 d_TK_spread_3 (by decide) ?_
  refine pw_istore d_TK_spread_4 (by decide) ?_
  dsimp only [stL, kil, isL, cat]
  refine pw_iconst 0 d_TK_spread_6 (by decide) ?_
  refine pw_istore d_TK_spread_7 (by decide) ?_
  dsimp only [stL, kil, isL, cat]
  exact lp_spread k hk n hn b w hR 0 (by omega) none
end PE1
