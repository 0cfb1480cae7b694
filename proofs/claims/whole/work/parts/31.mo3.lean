/-! the reference: samples in their order -/
theorem lpU {P : Nat → Prop} {n : Nat} (hend : P n) (hstep : ∀ i, i < n → P (i + 1) → P i) : ∀ i, i ≤ n → P i := by
  have : ∀ m i, i + m = n → P i := by
    intro m
    induction m with
    | zero => intro i hi; have : i = n := by omega
              subst this; exact hend
    | succ m ih => intro i hi; exact hstep i (by omega) (ih (i + 1) (by omega))
  exact fun i hi => this (n - i) i (by omega)
section PN
variable {G : GG} {l : Launch} {mi : MI} {pc : Nat} {L : List (Option PV)} {st : List PV} {M M' : Mem} {o : PO} {mc ms : Nat}
theorem pw_iaN {k : KK} {z n : Nat} (hd : decode (mB mi) pc = .ok (.iaload, 1)) (hs : shp k = (1, z)) (hn : n < z) (hz : z < 2 ^ 31) (h : PW G l mi (pc + 1) L (vI (M.1 k n) :: st) M o M' mc ms) : PW G l mi pc L (vI (nI n) :: vR (some k) :: st) M o M' mc ms := by
  refine pw_iaload hd hs (vp_in_nI hn hz) ?_
  rw [nI_clamp (by omega)]
  exact h
theorem pw_laN {k : KK} {z n : Nat} (hd : decode (mB mi) pc = .ok (.laload, 1)) (hs : shp k = (2, z)) (hn : n < z) (hz : z < 2 ^ 31) (h : PW G l mi (pc + 1) L (vL (M.2.1 k n) :: st) M o M' mc ms) : PW G l mi pc L (vI (nI n) :: vR (some k) :: st) M o M' mc ms := by
  refine pw_laload hd hs (vp_in_nI hn hz) ?_
  rw [nI_clamp (by omega)]
  exact h
theorem pw_isN {k : KK} {z n : Nat} {x : Int32} (hd : decode (mB mi) pc = .ok (.iastore, 1)) (hs : shp k = (1, z)) (hn : n < z) (hz : z < 2 ^ 31) (h : PW G l mi (pc + 1) L st (sI M k n x) o M' mc ms) : PW G l mi pc L (vI x :: vI (nI n) :: vR (some k) :: st) M o M' mc ms := by
  refine pw_iastore hd hs (vp_in_nI hn hz) ?_
  rw [nI_clamp (by omega)]
  exact h
theorem pw_lsN {k : KK} {z n : Nat} {x : Int64} (hd : decode (mB mi) pc = .ok (.lastore, 1)) (hs : shp k = (2, z)) (hn : n < z) (hz : z < 2 ^ 31) (h : PW G l mi (pc + 1) L st (sL M k n x) o M' mc ms) : PW G l mi pc L (vL x :: vI (nI n) :: vR (some k) :: st) M o M' mc ms := by
  refine pw_lastore hd hs (vp_in_nI hn hz) ?_
  rw [nI_clamp (by omega)]
  exact h
end PN
/-- how many of the first i samples come before sample k: a smaller delay, or the same and younger -/
def bfN (d : Nat → Int64) (k : Nat) : Nat → Nat
  | 0 => 0
  | i + 1 => if d i < d k ∨ (d i = d k ∧ k < i) then bfN d k i + 1 else bfN d k i
/-- the sample at a place of THE ORDER -/
def odN (d : Nat → Int64) (c pl : Nat) : Nat → Option Nat
  | 0 => none
  | k + 1 => if bfN d k c = pl then some k else odN d c pl k
def odI (p : Nat) : Option Nat → Int32
  | none => -1
  | some k => nI (8 * p + k)
abbrev mdl (M : Mem) (p i : Nat) : Int64 := M.2.1 (0, 32) (8 * p + i)
theorem bfN_le (d : Nat → Int64) (k : Nat) : ∀ i, bfN d k i ≤ i
  | 0 => Nat.le_refl _
  | i + 1 => by
    have := bfN_le d k i
    rw [bfN]
    split <;> omega
section MO3
variable {G : GG} {l : Launch} {M : Mem}
theorem smpA (p k : Nat) : (8 : Int32) * nI p + nI k = nI (8 * p + k) := by rw [nI_8, pk_mul, nI_add]
theorem mo_sampleN (p k : Nat) : PM G l m_MO_sampleAt [vR (some MK), vI (nI p), vI (nI k)] M (rI (nI (8 * p + k))) M 0 0 := by
  have h := mo_sampleAt (G := G) (l := l) (M := M) (nI p) (nI k)
  rw [smpA] at h
  exact h
theorem lp_ordA (hM : M.2.2.1 = rf) (p pl c k : Nat) (hp : p < 8) (hc : c ≤ 8) (hk : k < c) (hC : M.1 (0, 29) p = nI c) (f : Int32) (o : PO) (M' : Mem)
    (hend : ∀ x6 x7 x9 : Option PV, isL x6 = false → PW G l m_MO_ordered 101 [some (vR (some MK)), some (vI (nI p)), some (vI (nI pl)), some (vI f), some (vI (nI k)), some (vI (nI (bfN (mdl M p) k c))), x6, x7, none, x9, none] [] M o M' 0 0) :
    ∀ i, i ≤ c → ∀ x7 x9 : Option PV, PW G l m_MO_ordered 22 [some (vR (some MK)), some (vI (nI p)), some (vI (nI pl)), some (vI f), some (vI (nI k)), some (vI (nI (bfN (mdl M p) k i))), some (vI (nI i)), x7, none, x9, none] [] M o M' 0 0 := by
  refine lpU ?_ ?_
  · intro x7 x9
    refine pw_iload d_MO_ordered_22 rfl ?_
    refine pw_aload_n d_MO_ordered_24 rfl ?_
    refine pw_getR d_MO_ordered_25 f_MO_35 rfl rfl (rfO hM rfl) ?_
    refine pw_iload_n d_MO_ordered_28 rfl ?_
    refine pw_iaN (n := p) d_MO_ordered_29 rfl (by omega) (by decide) ?_
    rw [hC]
    refine pw_icmp_ge (tgt := 101) d_MO_ordered_30 (by decide) (fun _ => ?_) (fun h => absurd (nI_le (Nat.le_refl c) (by omega)) h)
    exact hend _ _ _ rfl
  · intro i hi ih x7 x9
    refine pw_iload d_MO_ordered_22 rfl ?_
    refine pw_aload_n d_MO_ordered_24 rfl ?_
    refine pw_getR d_MO_ordered_25 f_MO_35 rfl rfl (rfO hM rfl) ?_
    refine pw_iload_n d_MO_ordered_28 rfl ?_
    refine pw_iaN (n := p) d_MO_ordered_29 rfl (by omega) (by decide) ?_
    rw [hC]
    refine pw_icmp_ge (tgt := 101) d_MO_ordered_30 (by decide) (fun h => absurd h (nI_ge hi (by omega))) (fun _ => ?_)
    refine pw_aload_n d_MO_ordered_33 rfl ?_
    refine pw_getR d_MO_ordered_34 f_MO_44 rfl rfl (rfO hM rfl) ?_
    refine pw_aload_n d_MO_ordered_37 rfl ?_
    refine pw_iload_n d_MO_ordered_38 rfl ?_
    refine pw_iload d_MO_ordered_39 rfl ?_
    refine c_MO_ordered_41 rfl (Nat.le_of_ble_eq_true rfl) (mo_sampleN p i) ?_
    refine pw_laN (n := 8 * p + i) d_MO_ordered_44 rfl (by omega) (by decide) ?_
    refine pw_lstore d_MO_ordered_45 (by decide) ?_
    dsimp only [stL, kil, isL, cat]
    refine pw_aload_n d_MO_ordered_47 rfl ?_
    refine pw_getR d_MO_ordered_48 f_MO_44 rfl rfl (rfO hM rfl) ?_
    refine pw_aload_n d_MO_ordered_51 rfl ?_
    refine pw_iload_n d_MO_ordered_52 rfl ?_
    refine pw_iload d_MO_ordered_53 rfl ?_
    refine c_MO_ordered_55 rfl (Nat.le_of_ble_eq_true rfl) (mo_sampleN p k) ?_
    refine pw_laN (n := 8 * p + k) d_MO_ordered_58 rfl (by omega) (by decide) ?_
    refine pw_lstore d_MO_ordered_59 (by decide) ?_
    dsimp only [stL, kil, isL, cat]
    refine pw_lload d_MO_ordered_61 rfl ?_
    refine pw_lload d_MO_ordered_63 rfl ?_
    refine pw_lcmp d_MO_ordered_65 ?_
    refine pw_if_lt (tgt := 84) d_MO_ordered_66 (by decide) (fun h66 => ?_) (fun h66 => ?_)
    · refine pw_iload d_MO_ordered_84 rfl ?_
      refine pw_iconst 1 d_MO_ordered_86 (by decide) ?_
      refine pw_iadd d_MO_ordered_87 ?_
      refine pw_goto (tgt := 93) d_MO_ordered_88 (by decide) ?_
      refine pw_istore d_MO_ordered_93 (by decide) ?_
      dsimp only [stL, kil, isL, cat]
      refine pw_iinc (1) d_MO_ordered_95 rfl (by decide) (by decide) ?_
      dsimp only [stL, kil, isL, cat]
      refine pw_goto (tgt := 22) d_MO_ordered_98 (by decide) ?_
      have q := ih (some (vL (M.2.1 (0, 32) (8 * p + i)))) (some (vL (M.2.1 (0, 32) (8 * p + k))))
      rw [nI_1]
      try rw [nI_1]
      simp only [lg_lt, lg_eq] at h66
      try rw [nI_leI (by omega) (by omega)] at h81
      rw [bfN] at q
      split at q <;> first | exact q | (rename_i cc; exfalso; first | exact cc (Or.inl h66) | exact cc.elim h66 (fun z => h74 z.1) | exact cc.elim h66 (fun z => absurd z.2 (by omega)) | exact cc (Or.inr ⟨h74, by omega⟩))
    · refine pw_lload d_MO_ordered_69 rfl ?_
      refine pw_lload d_MO_ordered_71 rfl ?_
      refine pw_lcmp d_MO_ordered_73 ?_
      refine pw_if_ne (tgt := 91) d_MO_ordered_74 (by decide) (fun h74 => ?_) (fun h74 => ?_)
      · refine pw_iload d_MO_ordered_91 rfl ?_
        refine pw_istore d_MO_ordered_93 (by decide) ?_
        dsimp only [stL, kil, isL, cat]
        refine pw_iinc (1) d_MO_ordered_95 rfl (by decide) (by decide) ?_
        dsimp only [stL, kil, isL, cat]
        refine pw_goto (tgt := 22) d_MO_ordered_98 (by decide) ?_
        have q := ih (some (vL (M.2.1 (0, 32) (8 * p + i)))) (some (vL (M.2.1 (0, 32) (8 * p + k))))
        rw [nI_1]
        try rw [nI_1]
        simp only [lg_lt, lg_eq] at h66 h74
        try rw [nI_leI (by omega) (by omega)] at h81
        rw [bfN] at q
        split at q <;> first | exact q | (rename_i cc; exfalso; first | exact cc (Or.inl h66) | exact cc.elim h66 (fun z => h74 z.1) | exact cc.elim h66 (fun z => absurd z.2 (by omega)) | exact cc (Or.inr ⟨h74, by omega⟩))
      · refine pw_iload d_MO_ordered_77 rfl ?_
        refine pw_iload d_MO_ordered_79 rfl ?_
        refine pw_icmp_le (tgt := 91) d_MO_ordered_81 (by decide) (fun h81 => ?_) (fun h81 => ?_)
        · refine pw_iload d_MO_ordered_91 rfl ?_
          refine pw_istore d_MO_ordered_93 (by decide) ?_
          dsimp only [stL, kil, isL, cat]
          refine pw_iinc (1) d_MO_ordered_95 rfl (by decide) (by decide) ?_
          dsimp only [stL, kil, isL, cat]
          refine pw_goto (tgt := 22) d_MO_ordered_98 (by decide) ?_
          have q := ih (some (vL (M.2.1 (0, 32) (8 * p + i)))) (some (vL (M.2.1 (0, 32) (8 * p + k))))
          rw [nI_1]
          try rw [nI_1]
          simp only [lg_lt, lg_eq] at h66 h74 h81
          try rw [nI_leI (by omega) (by omega)] at h81
          rw [bfN] at q
          split at q <;> first | exact q | (rename_i cc; exfalso; first | exact cc (Or.inl h66) | exact cc.elim h66 (fun z => h74 z.1) | exact cc.elim h66 (fun z => absurd z.2 (by omega)) | exact cc (Or.inr ⟨h74, by omega⟩))
        · refine pw_iload d_MO_ordered_84 rfl ?_
          refine pw_iconst 1 d_MO_ordered_86 (by decide) ?_
          refine pw_iadd d_MO_ordered_87 ?_
          refine pw_goto (tgt := 93) d_MO_ordered_88 (by decide) ?_
          refine pw_istore d_MO_ordered_93 (by decide) ?_
          dsimp only [stL, kil, isL, cat]
          refine pw_iinc (1) d_MO_ordered_95 rfl (by decide) (by decide) ?_
          dsimp only [stL, kil, isL, cat]
          refine pw_goto (tgt := 22) d_MO_ordered_98 (by decide) ?_
          have q := ih (some (vL (M.2.1 (0, 32) (8 * p + i)))) (some (vL (M.2.1 (0, 32) (8 * p + k))))
          rw [nI_1]
          try rw [nI_1]
          simp only [lg_lt, lg_eq] at h66 h74 h81
          try rw [nI_leI (by omega) (by omega)] at h81
          rw [bfN] at q
          split at q <;> first | exact q | (rename_i cc; exfalso; first | exact cc (Or.inl h66) | exact cc.elim h66 (fun z => h74 z.1) | exact cc.elim h66 (fun z => absurd z.2 (by omega)) | exact cc (Or.inr ⟨h74, by omega⟩))
theorem lp_ordB (hM : M.2.2.1 = rf) (p pl c : Nat) (hp : p < 8) (hc : c ≤ 8) (hpl : pl < 8) (hC : M.1 (0, 29) p = nI c) :
    ∀ k, k ≤ c → ∀ x5 x6 x7 x9 : Option PV, isL x5 = false → isL x6 = false → PW G l m_MO_ordered 5 [some (vR (some MK)), some (vI (nI p)), some (vI (nI pl)), some (vI (odI p (odN (mdl M p) c pl k))), some (vI (nI k)), x5, x6, x7, none, x9, none] [] M (rI (odI p (odN (mdl M p) c pl c))) M 0 0 := by
  refine lpU ?_ ?_
  · intro x5 x6 x7 x9 h5 h6
    refine pw_iload d_MO_ordered_5 rfl ?_
    refine pw_aload_n d_MO_ordered_7 rfl ?_
    refine pw_getR d_MO_ordered_8 f_MO_35 rfl rfl (rfO hM rfl) ?_
    refine pw_iload_n d_MO_ordered_11 rfl ?_
    refine pw_iaN (n := p) d_MO_ordered_12 rfl (by omega) (by decide) ?_
    rw [hC]
    refine pw_icmp_ge (tgt := 125) d_MO_ordered_13 (by decide) (fun _ => ?_) (fun h => absurd (nI_le (Nat.le_refl c) (by omega)) h)
    refine pw_iload_n d_MO_ordered_125 rfl ?_
    refine pw_ireturn d_MO_ordered_126 rfl ?_ ?_
    · rfl
    · rfl
  · intro k hk ih x5 x6 x7 x9 h5 h6
    refine pw_iload d_MO_ordered_5 rfl ?_
    refine pw_aload_n d_MO_ordered_7 rfl ?_
    refine pw_getR d_MO_ordered_8 f_MO_35 rfl rfl (rfO hM rfl) ?_
    refine pw_iload_n d_MO_ordered_11 rfl ?_
    refine pw_iaN (n := p) d_MO_ordered_12 rfl (by omega) (by decide) ?_
    rw [hC]
    refine pw_icmp_ge (tgt := 125) d_MO_ordered_13 (by decide) (fun h => absurd h (nI_ge hk (by omega))) (fun _ => ?_)
    refine pw_iconst 0 d_MO_ordered_16 (by decide) ?_
    refine pw_istore d_MO_ordered_17 (by decide) ?_
    dsimp only [stL, kil, isL, cat]
    refine pw_iconst 0 d_MO_ordered_19 (by decide) ?_
    refine pw_istore d_MO_ordered_20 (by decide) ?_
    dsimp only [stL, kil, isL, cat]
    refine lp_ordA hM p pl c k hp hc hk hC _ _ _ ?_ 0 (by omega) _ _
    intro y6 y7 y9 hy6
    refine pw_iload d_MO_ordered_101 rfl ?_
    refine pw_iload_n d_MO_ordered_103 rfl ?_
    have hb := bfN_le (mdl M p) k c
    refine pw_icmp_ne (tgt := 117) d_MO_ordered_104 (by decide) (fun h => ?_) (fun h => ?_)
    · rw [nI_eq (by omega) (by omega)] at h
      refine pw_iload_n d_MO_ordered_117 rfl ?_
      refine pw_istore_n d_MO_ordered_118 (by decide) ?_
      dsimp only [stL, kil, isL, cat]
      refine pw_iinc (1) d_MO_ordered_119 rfl (by decide) (by decide) ?_
      dsimp only [stL, kil, isL, cat]
      refine pw_goto (tgt := 5) d_MO_ordered_122 (by decide) ?_
      rw [nI_1]
      have q := ih (some (vI (nI (bfN (mdl M p) k c)))) y6 y7 y9 rfl hy6
      rw [odN, if_neg h] at q
      exact q
    · rw [nI_eq (by omega) (by omega)] at h
      refine pw_aload_n d_MO_ordered_107 rfl ?_
      refine pw_iload_n d_MO_ordered_108 rfl ?_
      refine pw_iload d_MO_ordered_109 rfl ?_
      refine c_MO_ordered_111 rfl (Nat.le_of_ble_eq_true rfl) (mo_sampleN p k) ?_
      refine pw_goto (tgt := 118) d_MO_ordered_114 (by decide) ?_
      refine pw_istore_n d_MO_ordered_118 (by decide) ?_
      dsimp only [stL, kil, isL, cat]
      refine pw_iinc (1) d_MO_ordered_119 rfl (by decide) (by decide) ?_
      dsimp only [stL, kil, isL, cat]
      refine pw_goto (tgt := 5) d_MO_ordered_122 (by decide) ?_
      rw [nI_1]
      have q := ih (some (vI (nI (bfN (mdl M p) k c)))) y6 y7 y9 rfl hy6
      rw [odN, if_pos h] at q
      exact q
theorem mo_ordered (hM : M.2.2.1 = rf) (p pl c : Nat) (hp : p < 8) (hc : c ≤ 8) (hpl : pl < 8) (hC : M.1 (0, 29) p = nI c) : PM G l m_MO_ordered [vR (some MK), vI (nI p), vI (nI pl)] M (rI (odI p (odN (mdl M p) c pl c))) M 0 0 := by
  refine pm_in [some (vR (some MK)), some (vI (nI p)), some (vI (nI pl)), none, none, none, none, none, none, none, none] rfl ?_
  refine pw_iconst (-1) d_MO_ordered_0 (by decide) ?_
  refine pw_istore_n d_MO_ordered_1 (by decide) ?_
  dsimp only [stL, kil, isL, cat]
  refine pw_iconst 0 d_MO_ordered_2 (by decide) ?_
  refine pw_istore d_MO_ordered_3 (by decide) ?_
  dsimp only [stL, kil, isL, cat]
  exact lp_ordB hM p pl c hp hc hpl hC 0 (by omega) none none none none rfl rfl
end MO3
