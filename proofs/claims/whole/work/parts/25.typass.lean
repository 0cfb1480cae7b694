/-! type and pass, on both sides -/
/-- i bytes of w laid behind the first n0; the length -/
def tyG (g : Int64 → Nat → Int32) (kl : KK) (jl : Nat) (kb : KK) (M : Mem) (n0 : Nat) (w : Int64) (i : Nat) : Mem := (fun q j => if q = kl ∧ j = jl then nI (n0 + i) else if q = kb ∧ n0 ≤ j ∧ j < n0 + i then g w (j - n0) else M.1 q j, M.2)
theorem tyG_0 {g : Int64 → Nat → Int32} {kl kb : KK} {jl : Nat} {M : Mem} {n0 : Nat} {w : Int64} (hl : M.1 kl jl = nI n0) : tyG g kl jl kb M n0 w 0 = M := by
  unfold tyG
  refine Prod.ext ?_ rfl
  funext q j
  show ite _ _ (ite _ _ _) = _
  by_cases h : q = kl ∧ j = jl
  · obtain ⟨rfl, rfl⟩ := h
    rw [if_pos ⟨rfl, rfl⟩, hl]
    rfl
  · rw [if_neg h, if_neg (fun c => by omega)]
theorem tyG_s {g : Int64 → Nat → Int32} {kl kb : KK} {jl : Nat} {M : Mem} {n0 : Nat} {w : Int64} {i : Nat} {x : Int32} (hne : kb ≠ kl) (hx : x = g w i) : sI (sI (tyG g kl jl kb M n0 w i) kb (n0 + i) x) kl jl (nI (n0 + i + 1)) = tyG g kl jl kb M n0 w (i + 1) := by
  unfold tyG
  refine Prod.ext ?_ rfl
  funext q j
  show ite _ _ (ite _ _ (ite _ _ (ite _ _ _))) = ite _ _ (ite _ _ _)
  by_cases h : q = kl ∧ j = jl
  · rw [if_pos h, if_pos h]; rfl
  · rw [if_neg h, if_neg h, if_neg h]
    by_cases hq : q = kb
    · subst hq
      by_cases hj : j = n0 + i
      · subst hj
        rw [if_pos ⟨rfl, rfl⟩, if_pos ⟨rfl, by omega, by omega⟩, hx, Nat.add_sub_cancel_left]
      · rw [if_neg (fun c => hj c.2)]
        by_cases a1 : n0 ≤ j ∧ j < n0 + i
        · rw [if_pos ⟨rfl, a1⟩, if_pos ⟨rfl, by omega, by omega⟩]
        · rw [if_neg (fun c => a1 c.2), if_neg (fun c => by omega)]
    · rw [if_neg (fun c => hq c.1), if_neg (fun c => hq c.1), if_neg (fun c => hq c.1)]
section TP1
variable {G : GG} {l : Launch} {M : Mem}
theorem lp_type (hM : M.2.2.1 = rf) (w : Int64) (n n0 : Nat) (hz : n0 + n ≤ 64) (hl : M.1 (0, 1) 1 = nI n0) (mc ms : Nat) : ∀ (m i : Nat), i + m = n → n ≤ 8 → PW G l m_TK_type 48 [some (vR (some TKK)), some (vL w), none, some (vI (nI n)), some (vI (nI i))] [] (tyG byU (0, 1) 1 (0, 2) M n0 w i) (rI (nI (n0 + n))) (tyG byU (0, 1) 1 (0, 2) M n0 w n) mc ms := by
  intro m
  have hl2 : ∀ i, (tyG byU (0, 1) 1 (0, 2) M n0 w i).1 (0, 1) 1 = nI (n0 + i) := fun i => by simp [tyG]
  induction m with
  | zero =>
    intro i hi h8
    have : i = n := by omega
    subst this
    refine pw_iload d_TK_type_48 rfl ?_
    refine pw_iload_n d_TK_type_50 rfl ?_
    refine pw_icmp_ge (tgt := 79) d_TK_type_51 (by decide) (fun h => ?_) (fun h => ?_)
    · refine pw_aload_n d_TK_type_79 rfl ?_
      refine pw_getR d_TK_type_80 f_TK_14 rfl rfl (rfO hM rfl) ?_
      refine pw_getI d_TK_type_83 f_TK_49 rfl rfl ?_
      rw [hl2]
      refine pw_ireturn d_TK_type_86 rfl ?_ ?_
      · rfl
      · rfl
    · exact absurd (nI_le (Nat.le_refl i) (by omega)) h
  | succ m ih =>
    intro i hi h8
    refine pw_iload d_TK_type_48 rfl ?_
    refine pw_iload_n d_TK_type_50 rfl ?_
    refine pw_icmp_ge (tgt := 79) d_TK_type_51 (by decide) (fun h => ?_) (fun h => ?_)
    · rw [nI_leI (by omega) (by omega)] at h
      omega
    · refine pw_aload_n d_TK_type_54 rfl ?_
      refine pw_getR d_TK_type_55 f_TK_14 rfl rfl (rfO hM rfl) ?_
      refine pw_lload_n d_TK_type_58 rfl ?_
      refine pw_bipush (8) d_TK_type_59 (by decide) ?_
      refine pw_iload d_TK_type_61 rfl ?_
      refine pw_imul d_TK_type_63 ?_
      rw [show (8 : Int32) * nI i = nI (8 * i) from by rw [nI_8, pk_mul]]
      refine pw_lushr d_TK_type_64 ?_
      refine pw_l2i d_TK_type_65 ?_
      refine pw_sipush (255) d_TK_type_66 (by decide) ?_
      refine pw_iand d_TK_type_69 ?_
      refine c_TK_type_70 rfl (Nat.le_of_ble_eq_true rfl) (pm_append (M := tyG byU (0, 1) 1 (0, 2) M n0 w i) hM (n0 + i) (by omega) (hl2 i) _) ?_
      refine pw_iinc (1) d_TK_type_73 rfl (by decide) (by decide) ?_
      dsimp only [stL, kil, isL, cat]
      refine pw_goto (tgt := 48) d_TK_type_76 (by decide) ?_
      rw [nI_1]
      have q := ih (i + 1) (by omega) h8
      rw [← tyG_s (x := byU w i) (by decide) rfl] at q
      exact q
theorem pm_type (hM : M.2.2.1 = rf) (w : Int64) (n n0 : Nat) (h1 : 1 ≤ n) (h8 : n ≤ 8) (hz : n0 + n ≤ 64) (hl : M.1 (0, 1) 1 = nI n0) : PM G l m_TK_type [vR (some TKK), vL w, vI (nI n)] M (rI (nI (n0 + n))) (tyG byU (0, 1) 1 (0, 2) M n0 w n) 0 0 := by
  refine pm_in [some (vR (some TKK)), some (vL w), none, some (vI (nI n)), none] rfl ?_
  refine pw_iload_n d_TK_type_0 rfl ?_
  refine pw_iconst 1 d_TK_type_1 (by decide) ?_
  refine pw_icmp_lt (tgt := 11) d_TK_type_2 (by decide) (fun h => ?_) (fun h => ?_)
  · exact absurd h (nI_nlt (b := 1) h1 (by omega))
  · refine pw_iload_n d_TK_type_5 rfl ?_
    refine pw_bipush (8) d_TK_type_6 (by decide) ?_
    refine pw_icmp_le (tgt := 21) d_TK_type_8 (by decide) (fun h => ?_) (fun h => ?_)
    · refine pw_aload_n d_TK_type_21 rfl ?_
      refine pw_getR d_TK_type_22 f_TK_14 rfl rfl (rfO hM rfl) ?_
      refine pw_getI d_TK_type_25 f_TK_49 rfl rfl ?_
      refine pw_iload_n d_TK_type_28 rfl ?_
      refine pw_iadd d_TK_type_29 ?_
      rw [hl, nI_add]
      refine pw_bipush (64) d_TK_type_30 (by decide) ?_
      refine pw_icmp_le (tgt := 45) d_TK_type_32 (by decide) (fun h => ?_) (fun h => ?_)
      · refine pw_iconst 0 d_TK_type_45 (by decide) ?_
        refine pw_istore d_TK_type_46 (by decide) ?_
        dsimp only [stL, kil, isL, cat]
        have := lp_type (G := G) (l := l) hM w n n0 hz hl 0 0 n 0 (by omega) h8
        rw [tyG_0 hl] at this
        exact this
      · exact absurd (nI_le (b := 64) hz (by decide)) h
    · exact absurd (nI_le (b := 8) h8 (by decide)) h
theorem pm_type_x0 (hM : M.2.2.1 = rf) (w : Int64) (n : Int32) (h : n < 1 ∨ 8 < n) : PM G l m_TK_type [vR (some TKK), vL w, vI n] M (tE 0) M 1 6 := by
  refine pm_in [some (vR (some TKK)), some (vL w), none, some (vI n), none] rfl ?_
  refine pw_iload_n d_TK_type_0 rfl ?_
  refine pw_iconst 1 d_TK_type_1 (by decide) ?_
  refine pw_icmp_lt (tgt := 11) d_TK_type_2 (by decide) (fun h1 => ?_) (fun h1 => ?_)
  · exact th_TK_type_11 (Nat.le_of_ble_eq_true rfl) rfl rfl
  · refine pw_iload_n d_TK_type_5 rfl ?_
    refine pw_bipush (8) d_TK_type_6 (by decide) ?_
    refine pw_icmp_le (tgt := 21) d_TK_type_8 (by decide) (fun h2 => ?_) (fun h2 => ?_)
    · exact absurd (h.resolve_left h1) ((i32_nlt _ _).mpr h2)
    · exact th_TK_type_11 (Nat.le_of_ble_eq_true rfl) rfl rfl
theorem pm_type_x1 (hM : M.2.2.1 = rf) (w : Int64) (n n0 : Nat) (h1 : 1 ≤ n) (h8 : n ≤ 8) (h0 : n0 ≤ 64) (hz : 64 < n0 + n) (hl : M.1 (0, 1) 1 = nI n0) : PM G l m_TK_type [vR (some TKK), vL w, vI (nI n)] M (tE 1) M 1 6 := by
  refine pm_in [some (vR (some TKK)), some (vL w), none, some (vI (nI n)), none] rfl ?_
  refine pw_iload_n d_TK_type_0 rfl ?_
  refine pw_iconst 1 d_TK_type_1 (by decide) ?_
  refine pw_icmp_lt (tgt := 11) d_TK_type_2 (by decide) (fun h => ?_) (fun h => ?_)
  · exact absurd h (nI_nlt (b := 1) h1 (by omega))
  · refine pw_iload_n d_TK_type_5 rfl ?_
    refine pw_bipush (8) d_TK_type_6 (by decide) ?_
    refine pw_icmp_le (tgt := 21) d_TK_type_8 (by decide) (fun h => ?_) (fun h => ?_)
    · refine pw_aload_n d_TK_type_21 rfl ?_
      refine pw_getR d_TK_type_22 f_TK_14 rfl rfl (rfO hM rfl) ?_
      refine pw_getI d_TK_type_25 f_TK_49 rfl rfl ?_
      refine pw_iload_n d_TK_type_28 rfl ?_
      refine pw_iadd d_TK_type_29 ?_
      rw [hl, nI_add]
      refine pw_bipush (64) d_TK_type_30 (by decide) ?_
      refine pw_icmp_le (tgt := 45) d_TK_type_32 (by decide) (fun h => ?_) (fun h => ?_)
      · exact absurd h (nI_ge (a := 64) (b := n0 + n) hz (by omega))
      · exact th_TK_type_35 (Nat.le_of_ble_eq_true rfl) rfl rfl
    · exact absurd (nI_le (b := 8) h8 (by decide)) h
theorem lp_motype (hM : M.2.2.1 = rf) (w : Int64) (n n0 : Nat) (hz : n0 + n ≤ 64) (hl : M.1 MK 2 = nI n0) : ∀ (m i : Nat), i + m = n → n ≤ 8 → PW G l m_MO_type 47 [some (vR (some MK)), some (vL w), none, some (vI (nI n)), some (vI (nI i))] [] (tyG byS MK 2 (0, 21) M n0 w i) (rI (nI (n0 + n))) (tyG byS MK 2 (0, 21) M n0 w n) 0 0 := by
  intro m
  have hl2 : ∀ i, (tyG byS MK 2 (0, 21) M n0 w i).1 MK 2 = nI (n0 + i) := fun i => by simp [tyG]
  induction m with
  | zero =>
    intro i hi h8
    have : i = n := by omega
    subst this
    refine pw_iload d_MO_type_47 rfl ?_
    refine pw_iload_n d_MO_type_49 rfl ?_
    refine pw_icmp_ge (tgt := 90) d_MO_type_50 (by decide) (fun h => ?_) (fun h => ?_)
    · refine pw_aload_n d_MO_type_90 rfl ?_
      refine pw_getI d_MO_type_91 f_MO_63 rfl rfl ?_
      rw [hl2]
      refine pw_ireturn d_MO_type_94 rfl ?_ ?_
      · rfl
      · rfl
    · exact absurd (nI_le (Nat.le_refl i) (by omega)) h
  | succ m ih =>
    intro i hi h8
    refine pw_iload d_MO_type_47 rfl ?_
    refine pw_iload_n d_MO_type_49 rfl ?_
    refine pw_icmp_ge (tgt := 90) d_MO_type_50 (by decide) (fun h => ?_) (fun h => ?_)
    · rw [nI_leI (by omega) (by omega)] at h
      omega
    · refine pw_aload_n d_MO_type_53 rfl ?_
      refine pw_getR d_MO_type_54 f_MO_7 rfl rfl (rfO hM rfl) ?_
      refine pw_aload_n d_MO_type_57 rfl ?_
      refine pw_getI d_MO_type_58 f_MO_63 rfl rfl ?_
      rw [hl2]
      refine pw_lload_n d_MO_type_61 rfl ?_
      refine pw_bipush (8) d_MO_type_62 (by decide) ?_
      refine pw_iload d_MO_type_64 rfl ?_
      refine pw_imul d_MO_type_66 ?_
      rw [show (8 : Int32) * nI i = nI (8 * i) from by rw [nI_8, pk_mul]]
      refine pw_lshr d_MO_type_67 ?_
      refine pw_ldc2 (255) d_MO_type_68 g881 ?_
      refine pw_land d_MO_type_71 ?_
      refine pw_l2i d_MO_type_72 ?_
      refine pw_iastore d_MO_type_73 rfl (vp_in_nI (by omega) (by decide)) ?_
      rw [nI_clamp (by omega)]
      refine pw_aload_n d_MO_type_74 rfl ?_
      refine pw_dup d_MO_type_75 rfl ?_
      refine pw_getI d_MO_type_76 f_MO_63 rfl rfl ?_
      refine pw_iconst 1 d_MO_type_79 (by decide) ?_
      refine pw_iadd d_MO_type_80 ?_
      rw [show (sI (tyG byS MK 2 (0, 21) M n0 w i) (0, 21) (n0 + i) _).1 MK 2 = nI (n0 + i) from by simp [sI, tyG], nI_1]
      refine pw_putI d_MO_type_81 f_MO_63 rfl rfl rfl ?_
      refine pw_iinc (1) d_MO_type_84 rfl (by decide) (by decide) ?_
      dsimp only [stL, kil, isL, cat]
      refine pw_goto (tgt := 47) d_MO_type_87 (by decide) ?_
      rw [nI_1]
      have q := ih (i + 1) (by omega) h8
      rw [← tyG_s (x := byS w i) (by decide) rfl] at q
      exact q
theorem mo_type (hM : M.2.2.1 = rf) (w : Int64) (n n0 : Nat) (h1 : 1 ≤ n) (h8 : n ≤ 8) (hz : n0 + n ≤ 64) (hl : M.1 MK 2 = nI n0) : PM G l m_MO_type [vR (some MK), vL w, vI (nI n)] M (rI (nI (n0 + n))) (tyG byS MK 2 (0, 21) (sI M MK 0 0) n0 w n) 0 0 := by
  refine pm_in [some (vR (some MK)), some (vL w), none, some (vI (nI n)), none] rfl ?_
  refine pw_aload_n d_MO_type_0 rfl ?_
  refine pw_iload_n d_MO_type_1 rfl ?_
  refine pw_iconst 1 d_MO_type_2 (by decide) ?_
  refine pw_icmp_lt (tgt := 12) d_MO_type_3 (by decide) (fun h => ?_) (fun h => ?_)
  · exact absurd h (nI_nlt (b := 1) h1 (by omega))
  · refine pw_iload_n d_MO_type_6 rfl ?_
    refine pw_bipush (8) d_MO_type_7 (by decide) ?_
    refine pw_icmp_le (tgt := 16) d_MO_type_9 (by decide) (fun h => ?_) (fun h => ?_)
    · refine pw_aload_n d_MO_type_16 rfl ?_
      refine pw_getI d_MO_type_17 f_MO_63 rfl rfl ?_
      refine pw_iload_n d_MO_type_20 rfl ?_
      refine pw_iadd d_MO_type_21 ?_
      rw [hl, nI_add]
      refine pw_bipush (64) d_MO_type_22 (by decide) ?_
      refine pw_icmp_le (tgt := 31) d_MO_type_24 (by decide) (fun h => ?_) (fun h => ?_)
      · refine pw_iconst 0 d_MO_type_31 (by decide) ?_
        refine pw_putI d_MO_type_32 f_MO_60 rfl rfl rfl ?_
        refine pw_aload_n d_MO_type_35 rfl ?_
        refine pw_getI d_MO_type_36 f_MO_60 rfl rfl ?_
        rw [sI_s]
        refine pw_if_le (tgt := 44) d_MO_type_39 (by decide) (fun _ => ?_) (fun h => absurd (by decide) h)
        refine pw_iconst 0 d_MO_type_44 (by decide) ?_
        refine pw_istore d_MO_type_45 (by decide) ?_
        dsimp only [stL, kil, isL, cat]
        have hl2 : (sI M MK 0 0).1 MK 2 = nI n0 := by simp [sI, hl]
        have := lp_motype (G := G) (l := l) (M := sI M MK 0 0) hM w n n0 hz hl2 n 0 (by omega) h8
        rw [tyG_0 hl2] at this
        exact this
      · exact absurd (nI_le (b := 64) hz (by decide)) h
    · exact absurd (nI_le (b := 8) h8 (by decide)) h
theorem mo_type_x0 (w : Int64) (n : Int32) (h : n < 1 ∨ 8 < n) : PM G l m_MO_type [vR (some MK), vL w, vI n] M (rI 0) (sI M MK 0 1) 0 0 := by
  refine pm_in [some (vR (some MK)), some (vL w), none, some (vI n), none] rfl ?_
  refine pw_aload_n d_MO_type_0 rfl ?_
  refine pw_iload_n d_MO_type_1 rfl ?_
  refine pw_iconst 1 d_MO_type_2 (by decide) ?_
  refine pw_icmp_lt (tgt := 12) d_MO_type_3 (by decide) (fun h1 => ?_) (fun h1 => ?_)
  · refine pw_iconst 1 d_MO_type_12 (by decide) ?_
    refine pw_goto (tgt := 32) d_MO_type_13 (by decide) ?_
    refine pw_putI d_MO_type_32 f_MO_60 rfl rfl rfl ?_
    refine pw_aload_n d_MO_type_35 rfl ?_
    refine pw_getI d_MO_type_36 f_MO_60 rfl rfl ?_
    rw [sI_s]
    refine pw_if_le (tgt := 44) d_MO_type_39 (by decide) (fun h => absurd h (by decide)) (fun _ => ?_)
    refine pw_iconst 0 d_MO_type_42 (by decide) ?_
    refine pw_ireturn d_MO_type_43 rfl ?_ ?_
    · rfl
    · rfl
  · refine pw_iload_n d_MO_type_6 rfl ?_
    refine pw_bipush (8) d_MO_type_7 (by decide) ?_
    refine pw_icmp_le (tgt := 16) d_MO_type_9 (by decide) (fun h2 => ?_) (fun h2 => ?_)
    · exact absurd (h.resolve_left h1) ((i32_nlt _ _).mpr h2)
    · refine pw_iconst 1 d_MO_type_12 (by decide) ?_
      refine pw_goto (tgt := 32) d_MO_type_13 (by decide) ?_
      refine pw_putI d_MO_type_32 f_MO_60 rfl rfl rfl ?_
      refine pw_aload_n d_MO_type_35 rfl ?_
      refine pw_getI d_MO_type_36 f_MO_60 rfl rfl ?_
      rw [sI_s]
      refine pw_if_le (tgt := 44) d_MO_type_39 (by decide) (fun h => absurd h (by decide)) (fun _ => ?_)
      refine pw_iconst 0 d_MO_type_42 (by decide) ?_
      refine pw_ireturn d_MO_type_43 rfl ?_ ?_
      · rfl
      · rfl
theorem mo_type_x1 (w : Int64) (n n0 : Nat) (h1 : 1 ≤ n) (h8 : n ≤ 8) (h0 : n0 ≤ 64) (hz : 64 < n0 + n) (hl : M.1 MK 2 = nI n0) : PM G l m_MO_type [vR (some MK), vL w, vI (nI n)] M (rI 0) (sI M MK 0 2) 0 0 := by
  refine pm_in [some (vR (some MK)), some (vL w), none, some (vI (nI n)), none] rfl ?_
  refine pw_aload_n d_MO_type_0 rfl ?_
  refine pw_iload_n d_MO_type_1 rfl ?_
  refine pw_iconst 1 d_MO_type_2 (by decide) ?_
  refine pw_icmp_lt (tgt := 12) d_MO_type_3 (by decide) (fun h => ?_) (fun h => ?_)
  · exact absurd h (nI_nlt (b := 1) h1 (by omega))
  · refine pw_iload_n d_MO_type_6 rfl ?_
    refine pw_bipush (8) d_MO_type_7 (by decide) ?_
    refine pw_icmp_le (tgt := 16) d_MO_type_9 (by decide) (fun h => ?_) (fun h => ?_)
    · refine pw_aload_n d_MO_type_16 rfl ?_
      refine pw_getI d_MO_type_17 f_MO_63 rfl rfl ?_
      refine pw_iload_n d_MO_type_20 rfl ?_
      refine pw_iadd d_MO_type_21 ?_
      rw [hl, nI_add]
      refine pw_bipush (64) d_MO_type_22 (by decide) ?_
      refine pw_icmp_le (tgt := 31) d_MO_type_24 (by decide) (fun h => ?_) (fun h => ?_)
      · exact absurd h (nI_ge (a := 64) (b := n0 + n) hz (by omega))
      · refine pw_iconst 2 d_MO_type_27 (by decide) ?_
        refine pw_goto (tgt := 32) d_MO_type_28 (by decide) ?_
        refine pw_putI d_MO_type_32 f_MO_60 rfl rfl rfl ?_
        refine pw_aload_n d_MO_type_35 rfl ?_
        refine pw_getI d_MO_type_36 f_MO_60 rfl rfl ?_
        rw [sI_s]
        refine pw_if_le (tgt := 44) d_MO_type_39 (by decide) (fun h => absurd h (by decide)) (fun _ => ?_)
        refine pw_iconst 0 d_MO_type_42 (by decide) ?_
        refine pw_ireturn d_MO_type_43 rfl ?_ ?_
        · rfl
        · rfl
    · exact absurd (nI_le (b := 8) h8 (by decide)) h
end TP1
