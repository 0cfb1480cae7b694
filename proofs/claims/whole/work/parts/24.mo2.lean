/-! the reference's loops over bytes -/
def byS (v : Int64) (s : Nat) : Int32 := (v >>> ((nI (8 * s)).toInt64 &&& 63) &&& 255).toInt32
section MO2
variable {G : GG} {l : Launch} {M : Mem}
theorem lp_number (hM : M.2.2.1 = rf) (a n : Nat) (hz : a + n ≤ 64) : ∀ (m i : Nat), i + m = n → PW G l m_MO_number 5 [some (vR (some MK)), some (vI (nI a)), some (vI (nI n)), some (vL (rdN (M.1 (0, 21)) a i)), none, some (vI (nI i))] [] M (rL (rdN (M.1 (0, 21)) a n)) M 0 0 := by
  intro m
  induction m with
  | zero =>
    intro i hi
    have : i = n := by omega
    subst this
    refine pw_iload d_MO_number_5 rfl ?_
    refine pw_iload_n d_MO_number_7 rfl ?_
    refine pw_icmp_ge (tgt := 34) d_MO_number_8 (by decide) (fun h => ?_) (fun h => ?_)
    · refine pw_lload_n d_MO_number_34 rfl ?_
      refine pw_lreturn d_MO_number_35 rfl ?_ ?_
      · rfl
      · rfl
    · exact absurd (nI_le (Nat.le_refl i) (by omega)) h
  | succ m ih =>
    intro i hi
    refine pw_iload d_MO_number_5 rfl ?_
    refine pw_iload_n d_MO_number_7 rfl ?_
    refine pw_icmp_ge (tgt := 34) d_MO_number_8 (by decide) (fun h => ?_) (fun h => ?_)
    · rw [nI_leI (by omega) (by omega)] at h
      omega
    · refine pw_ldc2 (256) d_MO_number_11 g953 ?_
      refine pw_lload_n d_MO_number_14 rfl ?_
      refine pw_lmul d_MO_number_15 ?_
      refine pw_aload_n d_MO_number_16 rfl ?_
      refine pw_getR d_MO_number_17 f_MO_7 rfl rfl (rfO hM rfl) ?_
      refine pw_iload_n d_MO_number_20 rfl ?_
      refine pw_iload d_MO_number_21 rfl ?_
      refine pw_iadd d_MO_number_23 ?_
      rw [nI_add]
      refine pw_iaload d_MO_number_24 rfl (vp_in_nI (by omega) (by decide)) ?_
      rw [nI_clamp (by omega)]
      refine pw_i2l d_MO_number_25 ?_
      refine pw_ladd d_MO_number_26 ?_
      refine pw_lstore_n d_MO_number_27 (by decide) ?_
      dsimp only [stL, kil, isL, cat]
      refine pw_iinc (1) d_MO_number_28 rfl (by decide) (by decide) ?_
      dsimp only [stL, kil, isL, cat]
      refine pw_goto (tgt := 5) d_MO_number_31 (by decide) ?_
      rw [nI_1]
      exact ih (i + 1) (by omega)
theorem mo_number (hM : M.2.2.1 = rf) (a n : Nat) (hz : a + n ≤ 64) : PM G l m_MO_number [vR (some MK), vI (nI a), vI (nI n)] M (rL (rdN (M.1 (0, 21)) a n)) M 0 0 := by
  refine pm_in [some (vR (some MK)), some (vI (nI a)), some (vI (nI n)), none, none, none] rfl ?_
  refine pw_lconst 0 d_MO_number_0 (by decide) ?_
  refine pw_lstore_n d_MO_number_1 (by decide) ?_
  dsimp only [stL, kil, isL, cat]
  refine pw_iconst 0 d_MO_number_2 (by decide) ?_
  refine pw_istore d_MO_number_3 (by decide) ?_
  dsimp only [stL, kil, isL, cat]
  exact lp_number hM a n hz n 0 (by omega)
def zrO (M : Mem) (i : Nat) : Mem := (fun q j => if q = (0, 22) ∧ j < i then 0 else M.1 q j, M.2)
theorem lp_clearOut (hM : M.2.2.1 = rf) : ∀ (m i : Nat), i + m = 48 → PW G l m_MO_clearOut 2 [some (vR (some MK)), some (vI (nI i))] [] (zrO M i) rV (sI (zrO M 48) MK 4 48) 0 0 := by
  intro m
  induction m with
  | zero =>
    intro i hi
    have : i = 48 := by omega
    subst this
    refine pw_iload_n d_MO_clearOut_2 rfl ?_
    refine pw_bipush (48) d_MO_clearOut_3 (by decide) ?_
    refine pw_icmp_ge (tgt := 21) d_MO_clearOut_5 (by decide) (fun h => ?_) (fun h => ?_)
    · refine pw_aload_n d_MO_clearOut_21 rfl ?_
      refine pw_bipush (48) d_MO_clearOut_22 (by decide) ?_
      refine pw_putI d_MO_clearOut_24 f_MO_70 rfl rfl rfl ?_
      refine pw_return d_MO_clearOut_27 rfl ?_ ?_
      · rfl
      · rfl
    · exact absurd (nI_le (Nat.le_refl 48) (by omega)) h
  | succ m ih =>
    intro i hi
    refine pw_iload_n d_MO_clearOut_2 rfl ?_
    refine pw_bipush (48) d_MO_clearOut_3 (by decide) ?_
    refine pw_icmp_ge (tgt := 21) d_MO_clearOut_5 (by decide) (fun h => ?_) (fun h => ?_)
    · exact absurd h (nI_ge (b := 48) (by omega) (by decide))
    · refine pw_aload_n d_MO_clearOut_8 rfl ?_
      refine pw_getR d_MO_clearOut_9 f_MO_13 rfl rfl (rfO hM rfl) ?_
      refine pw_iload_n d_MO_clearOut_12 rfl ?_
      refine pw_iconst 0 d_MO_clearOut_13 (by decide) ?_
      refine pw_iastore d_MO_clearOut_14 rfl (vp_in_nI (by omega) (by decide)) ?_
      rw [nI_clamp (by omega)]
      refine pw_iinc (1) d_MO_clearOut_15 rfl (by decide) (by decide) ?_
      dsimp only [stL, kil, isL, cat]
      refine pw_goto (tgt := 2) d_MO_clearOut_18 (by decide) ?_
      rw [nI_1]
      have e : sI (zrO M i) (0, 22) i 0 = zrO M (i + 1) := by
        unfold sI zrO
        congr 1
        funext q j
        by_cases hq : q = (0, 22)
        · subst hq
          by_cases hj : j = i
          · subst hj; simp
          · by_cases a1 : j < i
            · simp [a1, show j < i + 1 by omega, hj]
            · have a2 : ¬ (j < i + 1) := by omega
              simp only [true_and, a1, a2, hj, if_false]
        · simp [hq]
      rw [e]
      exact ih (i + 1) (by omega)
theorem mo_clearOut (hM : M.2.2.1 = rf) : PM G l m_MO_clearOut [vR (some MK)] M rV (sI (zrO M 48) MK 4 48) 0 0 := by
  refine pm_in [some (vR (some MK)), none] rfl ?_
  refine pw_iconst 0 d_MO_clearOut_0 (by decide) ?_
  refine pw_istore_n d_MO_clearOut_1 (by decide) ?_
  dsimp only [stL, kil, isL, cat]
  have e0 : zrO M 0 = M := by
    unfold zrO
    refine Prod.ext ?_ rfl
    funext q j
    show ite _ _ _ = _
    rw [if_neg (fun c => by omega)]
  have := lp_clearOut (G := G) (l := l) (M := M) hM 48 0 (by omega)
  rw [e0] at this
  exact this
theorem lp_lay_t (hM : M.2.2.1 = rf) (a n : Nat) (v : Int64) (hz : a + n ≤ 64) (hn : n ≤ 8) : ∀ (m i : Nat), i + m = n → PW G l m_MO_lay 3 [some (vR (some (0, 21))), some (vI (nI a)), some (vI (nI n)), some (vL v), none, some (vI (nI i))] [] (wrB byS M (0, 21) a n v i) rV (wrB byS M (0, 21) a n v n) 0 0 := by
  intro m
  induction m with
  | zero =>
    intro i hi
    have : i = n := by omega
    subst this
    refine pw_iload d_MO_lay_3 rfl ?_
    refine pw_iload_n d_MO_lay_5 rfl ?_
    refine pw_icmp_ge (tgt := 37) d_MO_lay_6 (by decide) (fun h => ?_) (fun h => ?_)
    · refine pw_return d_MO_lay_37 rfl ?_ ?_
      · rfl
      · rfl
    · exact absurd (nI_le (Nat.le_refl i) (by omega)) h
  | succ m ih =>
    intro i hi
    refine pw_iload d_MO_lay_3 rfl ?_
    refine pw_iload_n d_MO_lay_5 rfl ?_
    refine pw_icmp_ge (tgt := 37) d_MO_lay_6 (by decide) (fun h => ?_) (fun h => ?_)
    · rw [nI_leI (by omega) (by omega)] at h
      omega
    · refine pw_aload_n d_MO_lay_9 rfl ?_
      refine pw_iload_n d_MO_lay_10 rfl ?_
      refine pw_iload d_MO_lay_11 rfl ?_
      refine pw_iadd d_MO_lay_13 ?_
      rw [nI_add]
      refine pw_lload_n d_MO_lay_14 rfl ?_
      refine pw_bipush (8) d_MO_lay_15 (by decide) ?_
      refine pw_iload_n d_MO_lay_17 rfl ?_
      refine pw_iconst 1 d_MO_lay_18 (by decide) ?_
      refine pw_isub d_MO_lay_19 ?_
      refine pw_iload d_MO_lay_20 rfl ?_
      refine pw_isub d_MO_lay_22 ?_
      refine pw_imul d_MO_lay_23 ?_
      rw [show nI n - 1 - nI i = nI (n - 1 - i) from by rw [show (1 : Int32) = nI 1 from rfl, pk_sub (by omega), pk_sub (by omega)], show (8 : Int32) * nI (n - 1 - i) = nI (8 * (n - 1 - i)) from by rw [nI_8, pk_mul]]
      refine pw_lshr d_MO_lay_24 ?_
      refine pw_ldc2 (255) d_MO_lay_25 g881 ?_
      refine pw_land d_MO_lay_28 ?_
      refine pw_l2i d_MO_lay_29 ?_
      refine pw_iastore d_MO_lay_30 rfl (vp_in_nI (by omega) (by decide)) ?_
      rw [nI_clamp (by omega)]
      refine pw_iinc (1) d_MO_lay_31 rfl (by decide) (by decide) ?_
      dsimp only [stL, kil, isL, cat]
      refine pw_goto (tgt := 3) d_MO_lay_34 (by decide) ?_
      rw [nI_1]
      have e : ∀ x, x = byS v (n - 1 - i) → sI (wrB byS M (0, 21) a n v i) (0, 21) (a + i) x = wrB byS M (0, 21) a n v (i + 1) := by
        intro x hx
        unfold sI wrB
        congr 1
        funext q j
        by_cases hq : q = (0, 21)
        · subst hq
          by_cases hj : j = a + i
          · subst hj
            have : a ≤ a + i ∧ a + i < a + (i + 1) := by omega
            simp only [true_and, this, if_true, and_self]
            rw [hx, Nat.add_sub_cancel_left]
          · by_cases a1 : a ≤ j ∧ j < a + i
            · have a2 : a ≤ j ∧ j < a + (i + 1) := by omega
              simp only [true_and, hj, if_false, a1, a2, if_true, and_self]
            · have a2 : ¬ (a ≤ j ∧ j < a + (i + 1)) := by omega
              simp only [true_and, hj, if_false, a1, a2]
        · simp [hq]
      have q := ih (i + 1) (by omega)
      rw [← e _ rfl] at q
      exact q
theorem mo_lay_t (hM : M.2.2.1 = rf) (a n : Nat) (v : Int64) (hz : a + n ≤ 64) (hn : n ≤ 8) : PM G l m_MO_lay [vR (some (0, 21)), vI (nI a), vI (nI n), vL v] M rV (wrB byS M (0, 21) a n v n) 0 0 := by
  refine pm_in [some (vR (some (0, 21))), some (vI (nI a)), some (vI (nI n)), some (vL v), none, none] rfl ?_
  refine pw_iconst 0 d_MO_lay_0 (by decide) ?_
  refine pw_istore d_MO_lay_1 (by decide) ?_
  dsimp only [stL, kil, isL, cat]
  have e0 : wrB byS M (0, 21) a n v 0 = M := by
    unfold wrB
    refine Prod.ext ?_ rfl
    funext q j
    show ite _ _ _ = _
    rw [if_neg (fun c => by omega)]
  have := lp_lay_t (G := G) (l := l) hM a n v hz hn n 0 (by omega)
  rw [e0] at this
  exact this
theorem lp_lay_o (hM : M.2.2.1 = rf) (a n : Nat) (v : Int64) (hz : a + n ≤ 48) (hn : n ≤ 8) : ∀ (m i : Nat), i + m = n → PW G l m_MO_lay 3 [some (vR (some (0, 22))), some (vI (nI a)), some (vI (nI n)), some (vL v), none, some (vI (nI i))] [] (wrB byS M (0, 22) a n v i) rV (wrB byS M (0, 22) a n v n) 0 0 := by
  intro m
  induction m with
  | zero =>
    intro i hi
    have : i = n := by omega
    subst this
    refine pw_iload d_MO_lay_3 rfl ?_
    refine pw_iload_n d_MO_lay_5 rfl ?_
    refine pw_icmp_ge (tgt := 37) d_MO_lay_6 (by decide) (fun h => ?_) (fun h => ?_)
    · refine pw_return d_MO_lay_37 rfl ?_ ?_
      · rfl
      · rfl
    · exact absurd (nI_le (Nat.le_refl i) (by omega)) h
  | succ m ih =>
    intro i hi
    refine pw_iload d_MO_lay_3 rfl ?_
    refine pw_iload_n d_MO_lay_5 rfl ?_
    refine pw_icmp_ge (tgt := 37) d_MO_lay_6 (by decide) (fun h => ?_) (fun h => ?_)
    · rw [nI_leI (by omega) (by omega)] at h
      omega
    · refine pw_aload_n d_MO_lay_9 rfl ?_
      refine pw_iload_n d_MO_lay_10 rfl ?_
      refine pw_iload d_MO_lay_11 rfl ?_
      refine pw_iadd d_MO_lay_13 ?_
      rw [nI_add]
      refine pw_lload_n d_MO_lay_14 rfl ?_
      refine pw_bipush (8) d_MO_lay_15 (by decide) ?_
      refine pw_iload_n d_MO_lay_17 rfl ?_
      refine pw_iconst 1 d_MO_lay_18 (by decide) ?_
      refine pw_isub d_MO_lay_19 ?_
      refine pw_iload d_MO_lay_20 rfl ?_
      refine pw_isub d_MO_lay_22 ?_
      refine pw_imul d_MO_lay_23 ?_
      rw [show nI n - 1 - nI i = nI (n - 1 - i) from by rw [show (1 : Int32) = nI 1 from rfl, pk_sub (by omega), pk_sub (by omega)], show (8 : Int32) * nI (n - 1 - i) = nI (8 * (n - 1 - i)) from by rw [nI_8, pk_mul]]
      refine pw_lshr d_MO_lay_24 ?_
      refine pw_ldc2 (255) d_MO_lay_25 g881 ?_
      refine pw_land d_MO_lay_28 ?_
      refine pw_l2i d_MO_lay_29 ?_
      refine pw_iastore d_MO_lay_30 rfl (vp_in_nI (by omega) (by decide)) ?_
      rw [nI_clamp (by omega)]
      refine pw_iinc (1) d_MO_lay_31 rfl (by decide) (by decide) ?_
      dsimp only [stL, kil, isL, cat]
      refine pw_goto (tgt := 3) d_MO_lay_34 (by decide) ?_
      rw [nI_1]
      have e : ∀ x, x = byS v (n - 1 - i) → sI (wrB byS M (0, 22) a n v i) (0, 22) (a + i) x = wrB byS M (0, 22) a n v (i + 1) := by
        intro x hx
        unfold sI wrB
        congr 1
        funext q j
        by_cases hq : q = (0, 22)
        · subst hq
          by_cases hj : j = a + i
          · subst hj
            have : a ≤ a + i ∧ a + i < a + (i + 1) := by omega
            simp only [true_and, this, if_true, and_self]
            rw [hx, Nat.add_sub_cancel_left]
          · by_cases a1 : a ≤ j ∧ j < a + i
            · have a2 : a ≤ j ∧ j < a + (i + 1) := by omega
              simp only [true_and, hj, if_false, a1, a2, if_true, and_self]
            · have a2 : ¬ (a ≤ j ∧ j < a + (i + 1)) := by omega
              simp only [true_and, hj, if_false, a1, a2]
        · simp [hq]
      have q := ih (i + 1) (by omega)
      rw [← e _ rfl] at q
      exact q
theorem mo_lay_o (hM : M.2.2.1 = rf) (a n : Nat) (v : Int64) (hz : a + n ≤ 48) (hn : n ≤ 8) : PM G l m_MO_lay [vR (some (0, 22)), vI (nI a), vI (nI n), vL v] M rV (wrB byS M (0, 22) a n v n) 0 0 := by
  refine pm_in [some (vR (some (0, 22))), some (vI (nI a)), some (vI (nI n)), some (vL v), none, none] rfl ?_
  refine pw_iconst 0 d_MO_lay_0 (by decide) ?_
  refine pw_istore d_MO_lay_1 (by decide) ?_
  dsimp only [stL, kil, isL, cat]
  have e0 : wrB byS M (0, 22) a n v 0 = M := by
    unfold wrB
    refine Prod.ext ?_ rfl
    funext q j
    show ite _ _ _ = _
    rw [if_neg (fun c => by omega)]
  have := lp_lay_o (G := G) (l := l) hM a n v hz hn n 0 (by omega)
  rw [e0] at this
  exact this
theorem lp_moturn (hM : M.2.2.1 = rf) (n : Nat) (hn : n ≤ 48) (hl : M.1 MK 4 = nI n) : ∀ (m i : Nat), i + m = n → PW G l m_MO_turn 7 [some (vR (some MK)), some (vI (nI i))] [] (cpI M (0, 22) (0, 21) i) rV (sI (cpI M (0, 22) (0, 21) n) MK 2 (nI n)) 0 0 := by
  intro m
  have hl2 : ∀ i, (cpI M (0, 22) (0, 21) i).1 MK 4 = nI n := fun i => by simp [cpI, hl]
  induction m with
  | zero =>
    intro i hi
    have : i = n := by omega
    subst this
    refine pw_iload_n d_MO_turn_7 rfl ?_
    refine pw_aload_n d_MO_turn_8 rfl ?_
    refine pw_getI d_MO_turn_9 f_MO_70 rfl rfl ?_
    rw [hl2]
    refine pw_icmp_ge (tgt := 33) d_MO_turn_12 (by decide) (fun h => ?_) (fun h => ?_)
    · refine pw_aload_n d_MO_turn_33 rfl ?_
      refine pw_aload_n d_MO_turn_34 rfl ?_
      refine pw_getI d_MO_turn_35 f_MO_70 rfl rfl ?_
      rw [hl2]
      refine pw_putI d_MO_turn_38 f_MO_63 rfl rfl rfl ?_
      refine pw_return d_MO_turn_41 rfl ?_ ?_
      · rfl
      · rfl
    · exact absurd (nI_le (Nat.le_refl i) (by omega)) h
  | succ m ih =>
    intro i hi
    refine pw_iload_n d_MO_turn_7 rfl ?_
    refine pw_aload_n d_MO_turn_8 rfl ?_
    refine pw_getI d_MO_turn_9 f_MO_70 rfl rfl ?_
    rw [hl2]
    refine pw_icmp_ge (tgt := 33) d_MO_turn_12 (by decide) (fun h => ?_) (fun h => ?_)
    · rw [nI_leI (by omega) (by omega)] at h
      omega
    · refine pw_aload_n d_MO_turn_15 rfl ?_
      refine pw_getR d_MO_turn_16 f_MO_7 rfl rfl (rfO hM rfl) ?_
      refine pw_iload_n d_MO_turn_19 rfl ?_
      refine pw_aload_n d_MO_turn_20 rfl ?_
      refine pw_getR d_MO_turn_21 f_MO_13 rfl rfl (rfO hM rfl) ?_
      refine pw_iload_n d_MO_turn_24 rfl ?_
      refine pw_iaload d_MO_turn_25 rfl (vp_in_nI (by omega) (by decide)) ?_
      rw [nI_clamp (by omega)]
      refine pw_iastore d_MO_turn_26 rfl (vp_in_nI (by omega) (by decide)) ?_
      rw [nI_clamp (by omega)]
      refine pw_iinc (1) d_MO_turn_27 rfl (by decide) (by decide) ?_
      dsimp only [stL, kil, isL, cat]
      refine pw_goto (tgt := 7) d_MO_turn_30 (by decide) ?_
      rw [nI_1]
      have e : sI (cpI M (0, 22) (0, 21) i) (0, 21) i ((cpI M (0, 22) (0, 21) i).1 (0, 22) i) = cpI M (0, 22) (0, 21) (i + 1) := by
        unfold sI cpI
        congr 1
        funext q j
        by_cases hq : q = (0, 21)
        · subst hq
          by_cases hj : j = i
          · subst hj; simp
          · by_cases a1 : j < i
            · simp [a1, show j < i + 1 by omega, hj]
            · have a2 : ¬ (j < i + 1) := by omega
              simp only [true_and, a1, a2, hj, if_false]
        · simp [hq]
      rw [e]
      exact ih (i + 1) (by omega)
theorem mo_turn (hM : M.2.2.1 = rf) (n : Nat) (hn : n ≤ 48) (hl : M.1 MK 4 = nI n) : PM G l m_MO_turn [vR (some MK)] M rV (sI (cpI (sI M MK 0 0) (0, 22) (0, 21) n) MK 2 (nI n)) 0 0 := by
  refine pm_in [some (vR (some MK)), none] rfl ?_
  refine pw_aload_n d_MO_turn_0 rfl ?_
  refine pw_iconst 0 d_MO_turn_1 (by decide) ?_
  refine pw_putI d_MO_turn_2 f_MO_60 rfl rfl rfl ?_
  refine pw_iconst 0 d_MO_turn_5 (by decide) ?_
  refine pw_istore_n d_MO_turn_6 (by decide) ?_
  dsimp only [stL, kil, isL, cat]
  have e0 : cpI (sI M MK 0 0) (0, 22) (0, 21) 0 = sI M MK 0 0 := by
    unfold cpI
    refine Prod.ext ?_ rfl
    funext q j
    show ite _ _ _ = _
    rw [if_neg (fun c => by omega)]
  have := lp_moturn (G := G) (l := l) (M := sI M MK 0 0) hM n hn (by simp [sI, hl]) n 0 (by omega)
  rw [e0] at this
  exact this
end MO2
