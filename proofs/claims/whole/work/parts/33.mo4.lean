/-! the reference: what a peer says -/
theorem lN_self {x : Int64} (h : 0 ≤ x.toInt) : lN x.toInt.toNat = x := by
  apply Int64.toInt_inj.mp
  rw [pk_lT, Int.toNat_of_nonneg h]
  have := x.toInt_lt
  omega
def rtL (x : Int64) : Int64 := lN (isq x.toInt.toNat)
def nowV (d : Int64) (t u : Int32) : Int64 := if 68719476736 < d + 64424 * (u - t).toInt64 then 68719476736 else d + 64424 * (u - t).toInt64
abbrev mOk (M : Mem) (p c pl : Nat) : Nat := 8 * p + odK (mdl M p) c pl
def mOf (M : Mem) (p c : Nat) : Int64 := M.2.1 (0, 31) (mOk M p c 0)
def mDe (M : Mem) (p c : Nat) : Int64 := M.2.1 (0, 32) (mOk M p c 0)
def mNw (M : Mem) (s : Nat) : Int64 := nowV (M.2.1 (0, 33) s) (M.1 (0, 34) s) (M.1 MK 6)
def hfN : Nat → Int64
  | 0 => 2
  | i + 1 => 2 * hfN i
theorem hfN_ne : ∀ i, i < 8 → ¬ hfN i = 0 := by decide +kernel
def mDs (M : Mem) (p c : Nat) : Int64 := smL (fun i => (if i < c then mNw M (mOk M p c i) else 68719476736) / hfN i) 8
def mJs (M : Mem) (p c : Nat) : Int64 := smL (fun j => sqL (M.2.1 (0, 31) (mOk M p c (j + 1)) - mOf M p c)) (c - 1)
def jiV (c : Nat) (s : Int64) : Int64 := if 1 < c then 4096 * rtL (s / lN (c - 1)) else 0
def mx14 (v : Int64) : Int64 := if v < 16384 then 16384 else v
def mJi (M : Mem) (p c : Nat) : Int64 := mx14 (jiV c (mJs M p c))
def dsV (rd de rp ds ji : Int64) : Int64 := mx14 (rd + de) / 2 + rp + ds + ji
def mDt (M : Mem) (p c : Nat) : Int64 := dsV (M.2.1 (0, 27) p) (mDe M p c) (M.2.1 (0, 28) p) (mDs M p c) (mJi M p c)
theorem lN_ne0 (n : Nat) (h0 : 0 < n) (h : n < 2 ^ 63) : ¬ lN n = 0 := fun q => by
  rw [show (0 : Int64) = lN 0 from rfl, pk_lEQ h (by omega)] at q
  omega
section MO4
variable {G : GG} {l : Launch} {M : Mem}
theorem mo_rootL (x : Int64) (h : 0 ≤ x.toInt) : PM G l m_MO_root [vL x] M (rL (rtL x)) M 0 0 := by
  have q := mo_root (G := G) (l := l) (M := M) x.toInt.toNat (by have := x.toInt_lt; omega)
  rw [lN_self h] at q
  exact q
theorem pm_rootL (x : Int64) (h : 0 ≤ x.toInt) (h2 : x.toInt < 2 ^ 62) : PM G l m_TK_root [vL x] M (rL (rtL x)) M 0 0 := by
  have q := pm_root (G := G) (l := l) (M := M) x.toInt.toNat (by omega)
  rw [lN_self h] at q
  exact q
theorem mo_ordK (hM : M.2.2.1 = rf) (p pl c : Nat) (hp : p < 8) (hc : c ≤ 8) (hpl : pl < c) (hC : M.1 (0, 29) p = nI c) : PM G l m_MO_ordered [vR (some MK), vI (nI p), vI (nI pl)] M (rI (nI (mOk M p c pl))) M 0 0 := by
  have q := mo_ordered (G := G) (l := l) hM p pl c hp hc (by omega) hC
  rw [(odK_spec hpl).1] at q
  exact q
theorem mOk_lt {p c pl : Nat} (hp : p < 8) (hc : c ≤ 8) (hpl : pl < c) : mOk M p c pl < 64 := by
  have := (odK_spec (d := mdl M p) hpl).2.1
  unfold mOk
  omega
theorem mo_now (hM : M.2.2.1 = rf) (s : Nat) (hs : s < 64) : PM G l m_MO_now [vR (some MK), vI (nI s)] M (rL (mNw M s)) M 0 0 := by
  refine pm_in [some (vR (some MK)), some (vI (nI s)), none, none] rfl ?_
  unfold mNw nowV
  refine pw_aload_n d_MO_now_0 rfl ?_
  refine pw_getR d_MO_now_1 f_MO_47 rfl rfl (rfO hM rfl) ?_
  refine pw_iload_n d_MO_now_4 rfl ?_
  refine pw_laN (n := s) d_MO_now_5 rfl (by omega) (by decide) ?_
  refine pw_ldc2 (64424) d_MO_now_6 g1007 ?_
  refine pw_aload_n d_MO_now_9 rfl ?_
  refine pw_getI d_MO_now_10 f_MO_90 rfl rfl ?_
  refine pw_aload_n d_MO_now_13 rfl ?_
  refine pw_getR d_MO_now_14 f_MO_50 rfl rfl (rfO hM rfl) ?_
  refine pw_iload_n d_MO_now_17 rfl ?_
  refine pw_iaN (n := s) d_MO_now_18 rfl (by omega) (by decide) ?_
  refine pw_isub d_MO_now_19 ?_
  refine pw_i2l d_MO_now_20 ?_
  refine pw_lmul d_MO_now_21 ?_
  refine pw_ladd d_MO_now_22 ?_
  refine pw_lstore_n d_MO_now_23 (by decide) ?_
  dsimp only [stL, kil, isL, cat]
  refine pw_lload_n d_MO_now_24 rfl ?_
  refine pw_ldc2 (68719476736) d_MO_now_25 g956 ?_
  refine pw_lcmp d_MO_now_28 ?_
  refine pw_if_le (tgt := 38) d_MO_now_29 (by decide) (fun h29 => ?_) (fun h29 => ?_)
  · refine pw_lload_n d_MO_now_38 rfl ?_
    refine pw_lreturn d_MO_now_39 rfl ?_ ?_
    · (try simp only [lg_lt, lg_gt, lg_ge, lg_le, lg_eq, Classical.not_not] at h29) <;> simp only [h29, if_true, if_false]
    · rfl
  · refine pw_ldc2 (68719476736) d_MO_now_32 g956 ?_
    refine pw_goto (tgt := 39) d_MO_now_35 (by decide) ?_
    refine pw_lreturn d_MO_now_39 rfl ?_ ?_
    · (try simp only [lg_lt, lg_gt, lg_ge, lg_le, lg_eq, Classical.not_not] at h29) <;> simp only [h29, if_true, if_false]
    · rfl
theorem mo_offsetOf (hM : M.2.2.1 = rf) (p c : Nat) (hp : p < 8) (hc : c ≤ 8) (h0 : 0 < c) (hC : M.1 (0, 29) p = nI c) : PM G l m_MO_offsetOf [vR (some MK), vI (nI p)] M (rL (mOf M p c)) M 0 0 := by
  refine pm_in [some (vR (some MK)), some (vI (nI p))] rfl ?_
  have hk := mOk_lt (M := M) hp hc h0
  refine pw_aload_n d_MO_offsetOf_0 rfl ?_
  refine pw_getR d_MO_offsetOf_1 f_MO_41 rfl rfl (rfO hM rfl) ?_
  refine pw_aload_n d_MO_offsetOf_4 rfl ?_
  refine pw_iload_n d_MO_offsetOf_5 rfl ?_
  refine pw_iconst 0 d_MO_offsetOf_6 (by decide) ?_
  refine c_MO_offsetOf_7 rfl (Nat.le_of_ble_eq_true rfl) (mo_ordK hM p 0 c hp hc h0 hC) ?_
  refine pw_laN (n := mOk M p c 0) d_MO_offsetOf_10 rfl (by omega) (by decide) ?_
  refine pw_lreturn d_MO_offsetOf_11 rfl ?_ ?_
  · rfl
  · rfl
theorem mo_delayOf (hM : M.2.2.1 = rf) (p c : Nat) (hp : p < 8) (hc : c ≤ 8) (h0 : 0 < c) (hC : M.1 (0, 29) p = nI c) : PM G l m_MO_delayOf [vR (some MK), vI (nI p)] M (rL (mDe M p c)) M 0 0 := by
  refine pm_in [some (vR (some MK)), some (vI (nI p))] rfl ?_
  have hk := mOk_lt (M := M) hp hc h0
  refine pw_aload_n d_MO_delayOf_0 rfl ?_
  refine pw_getR d_MO_delayOf_1 f_MO_44 rfl rfl (rfO hM rfl) ?_
  refine pw_aload_n d_MO_delayOf_4 rfl ?_
  refine pw_iload_n d_MO_delayOf_5 rfl ?_
  refine pw_iconst 0 d_MO_delayOf_6 (by decide) ?_
  refine c_MO_delayOf_7 rfl (Nat.le_of_ble_eq_true rfl) (mo_ordK hM p 0 c hp hc h0 hC) ?_
  refine pw_laN (n := mOk M p c 0) d_MO_delayOf_10 rfl (by omega) (by decide) ?_
  refine pw_lreturn d_MO_delayOf_11 rfl ?_ ?_
  · rfl
  · rfl
theorem lp_mdisp (hM : M.2.2.1 = rf) (p c : Nat) (hp : p < 8) (hc : c ≤ 8) (hC : M.1 (0, 29) p = nI c) : ∀ i, i ≤ 8 → ∀ x : Option PV, PW G l m_MO_dispersionOf 10 [some (vR (some MK)), some (vI (nI p)), some (vL (smL (fun i => (if i < c then mNw M (mOk M p c i) else 68719476736) / hfN i) i)), none, some (vL (hfN i)), none, some (vI (nI i)), x, none] [] M (rL (mDs M p c)) M 0 0 := by
  refine lpU ?_ ?_
  · intro x
    refine pw_iload d_MO_dispersionOf_10 rfl ?_
    refine pw_bipush (8) d_MO_dispersionOf_12 (by decide) ?_
    refine pw_icmp_ge (tgt := 69) d_MO_dispersionOf_14 (by decide) (fun _ => ?_) (fun h => absurd (nI_le (a := 8) (b := 8) (by omega) (by omega)) h)
    refine pw_lload_n d_MO_dispersionOf_69 rfl ?_
    refine pw_lreturn d_MO_dispersionOf_70 rfl ?_ ?_
    · rfl
    · rfl
  · intro i hi ih x
    refine pw_iload d_MO_dispersionOf_10 rfl ?_
    refine pw_bipush (8) d_MO_dispersionOf_12 (by decide) ?_
    refine pw_icmp_ge (tgt := 69) d_MO_dispersionOf_14 (by decide) (fun h => absurd h (nI_ge (b := 8) hi (by omega))) (fun _ => ?_)
    refine pw_iload d_MO_dispersionOf_17 rfl ?_
    refine pw_aload_n d_MO_dispersionOf_19 rfl ?_
    refine pw_getR d_MO_dispersionOf_20 f_MO_35 rfl rfl (rfO hM rfl) ?_
    refine pw_iload_n d_MO_dispersionOf_23 rfl ?_
    refine pw_iaN (n := p) d_MO_dispersionOf_24 rfl (by omega) (by decide) ?_
    rw [hC]
    have h8 := hfN_ne i hi
    refine pw_icmp_ge (tgt := 42) d_MO_dispersionOf_25 (by decide) (fun h => ?_) (fun h => ?_)
    · rw [nI_leI (by omega) (by omega)] at h
      refine pw_ldc2 (68719476736) d_MO_dispersionOf_42 g956 ?_
      refine pw_lstore d_MO_dispersionOf_45 (by decide) ?_
      dsimp only [stL, kil, isL, cat]
      refine pw_lload_n d_MO_dispersionOf_47 rfl ?_
      refine pw_lload d_MO_dispersionOf_48 rfl ?_
      refine pw_lload d_MO_dispersionOf_50 rfl ?_
      refine pw_ldiv d_MO_dispersionOf_52 h8 ?_
      refine pw_ladd d_MO_dispersionOf_53 ?_
      refine pw_lstore_n d_MO_dispersionOf_54 (by decide) ?_
      dsimp only [stL, kil, isL, cat]
      refine pw_ldc2 (2) d_MO_dispersionOf_55 g955 ?_
      refine pw_lload d_MO_dispersionOf_58 rfl ?_
      refine pw_lmul d_MO_dispersionOf_60 ?_
      refine pw_lstore d_MO_dispersionOf_61 (by decide) ?_
      dsimp only [stL, kil, isL, cat]
      refine pw_iinc (1) d_MO_dispersionOf_63 rfl (by decide) (by decide) ?_
      dsimp only [stL, kil, isL, cat]
      refine pw_goto (tgt := 10) d_MO_dispersionOf_66 (by decide) ?_
      rw [nI_1]
      have q := ih (some (vL 68719476736))
      rw [smL, if_neg (by omega)] at q
      exact q
    · rw [nI_leI (by omega) (by omega)] at h
      have hk := mOk_lt (M := M) hp hc (show i < c by omega)
      refine pw_aload_n d_MO_dispersionOf_28 rfl ?_
      refine pw_aload_n d_MO_dispersionOf_29 rfl ?_
      refine pw_iload_n d_MO_dispersionOf_30 rfl ?_
      refine pw_iload d_MO_dispersionOf_31 rfl ?_
      refine c_MO_dispersionOf_33 rfl (Nat.le_of_ble_eq_true rfl) (mo_ordK hM p i c hp hc (by omega) hC) ?_
      refine c_MO_dispersionOf_36 rfl (Nat.le_of_ble_eq_true rfl) (mo_now hM _ hk) ?_
      refine pw_goto (tgt := 45) d_MO_dispersionOf_39 (by decide) ?_
      refine pw_lstore d_MO_dispersionOf_45 (by decide) ?_
      dsimp only [stL, kil, isL, cat]
      refine pw_lload_n d_MO_dispersionOf_47 rfl ?_
      refine pw_lload d_MO_dispersionOf_48 rfl ?_
      refine pw_lload d_MO_dispersionOf_50 rfl ?_
      refine pw_ldiv d_MO_dispersionOf_52 h8 ?_
      refine pw_ladd d_MO_dispersionOf_53 ?_
      refine pw_lstore_n d_MO_dispersionOf_54 (by decide) ?_
      dsimp only [stL, kil, isL, cat]
      refine pw_ldc2 (2) d_MO_dispersionOf_55 g955 ?_
      refine pw_lload d_MO_dispersionOf_58 rfl ?_
      refine pw_lmul d_MO_dispersionOf_60 ?_
      refine pw_lstore d_MO_dispersionOf_61 (by decide) ?_
      dsimp only [stL, kil, isL, cat]
      refine pw_iinc (1) d_MO_dispersionOf_63 rfl (by decide) (by decide) ?_
      dsimp only [stL, kil, isL, cat]
      refine pw_goto (tgt := 10) d_MO_dispersionOf_66 (by decide) ?_
      rw [nI_1]
      have q := ih (some (vL (mNw M (mOk M p c i))))
      rw [smL, if_pos (by omega)] at q
      exact q
theorem mo_dispersionOf (hM : M.2.2.1 = rf) (p c : Nat) (hp : p < 8) (hc : c ≤ 8) (hC : M.1 (0, 29) p = nI c) : PM G l m_MO_dispersionOf [vR (some MK), vI (nI p)] M (rL (mDs M p c)) M 0 0 := by
  refine pm_in [some (vR (some MK)), some (vI (nI p)), none, none, none, none, none, none, none] rfl ?_
  refine pw_lconst 0 d_MO_dispersionOf_0 (by decide) ?_
  refine pw_lstore_n d_MO_dispersionOf_1 (by decide) ?_
  dsimp only [stL, kil, isL, cat]
  refine pw_ldc2 (2) d_MO_dispersionOf_2 g955 ?_
  refine pw_lstore d_MO_dispersionOf_5 (by decide) ?_
  dsimp only [stL, kil, isL, cat]
  refine pw_iconst 0 d_MO_dispersionOf_7 (by decide) ?_
  refine pw_istore d_MO_dispersionOf_8 (by decide) ?_
  dsimp only [stL, kil, isL, cat]
  exact lp_mdisp hM p c hp hc hC 0 (by omega) none
theorem lp_mjit (hM : M.2.2.1 = rf) (p c : Nat) (hp : p < 8) (hc : c ≤ 8) (h0 : 0 < c) (hC : M.1 (0, 29) p = nI c) (hJ : 1 < c → 0 ≤ (mJs M p c / lN (c - 1)).toInt) : ∀ j, j ≤ c - 1 → PW G l m_MO_jitterOf 12 [some (vR (some MK)), some (vI (nI p)), some (vL (smL (fun j => sqL (M.2.1 (0, 31) (mOk M p c (j + 1)) - mOf M p c)) j)), none, some (vL (mOf M p c)), none, some (vI (nI (j + 1))), none] [] M (rL (mJi M p c)) M 0 0 := by
  refine lpU ?_ ?_
  · refine pw_iload d_MO_jitterOf_12 rfl ?_
    refine pw_aload_n d_MO_jitterOf_14 rfl ?_
    refine pw_getR d_MO_jitterOf_15 f_MO_35 rfl rfl (rfO hM rfl) ?_
    refine pw_iload_n d_MO_jitterOf_18 rfl ?_
    refine pw_iaN (n := p) d_MO_jitterOf_19 rfl (by omega) (by decide) ?_
    rw [hC]
    refine pw_icmp_ge (tgt := 50) d_MO_jitterOf_20 (by decide) (fun _ => ?_) (fun h => absurd (nI_le (by omega) (by omega)) h)
    refine pw_aload_n d_MO_jitterOf_50 rfl ?_
    refine pw_getR d_MO_jitterOf_51 f_MO_35 rfl rfl (rfO hM rfl) ?_
    refine pw_iload_n d_MO_jitterOf_54 rfl ?_
    refine pw_iaN (n := p) d_MO_jitterOf_55 rfl (by omega) (by decide) ?_
    refine pw_iconst 1 d_MO_jitterOf_56 (by decide) ?_
    rw [hC]
    unfold mJi mx14 jiV
    by_cases h1 : 1 < c
    · refine pw_icmp_le (tgt := 81) d_MO_jitterOf_57 (by decide) (fun h => absurd h (nI_ge (a := 1) h1 (by omega))) (fun _ => ?_)
      refine pw_ldc2 (4096) d_MO_jitterOf_60 g1019 ?_
      refine pw_lload_n d_MO_jitterOf_63 rfl ?_
      refine pw_aload_n d_MO_jitterOf_64 rfl ?_
      refine pw_getR d_MO_jitterOf_65 f_MO_35 rfl rfl (rfO hM rfl) ?_
      refine pw_iload_n d_MO_jitterOf_68 rfl ?_
      refine pw_iaN (n := p) d_MO_jitterOf_69 rfl (by omega) (by decide) ?_
      refine pw_iconst 1 d_MO_jitterOf_70 (by decide) ?_
      refine pw_isub d_MO_jitterOf_71 ?_
      rw [hC, show nI c - 1 = nI (c - 1) from pk_sub (b := 1) (by omega)]
      refine pw_i2l d_MO_jitterOf_72 ?_
      rw [nI_l (by omega)]
      refine pw_ldiv d_MO_jitterOf_73 (lN_ne0 _ (by omega) (by omega)) ?_
      refine c_MO_jitterOf_74 (Nat.le_of_ble_eq_true rfl) (mo_rootL _ (hJ h1)) ?_
      refine pw_lmul d_MO_jitterOf_77 ?_
      refine pw_goto (tgt := 82) d_MO_jitterOf_78 (by decide) ?_
      refine pw_lstore d_MO_jitterOf_82 (by decide) ?_
      dsimp only [stL, kil, isL, cat]
      rw [if_pos h1]
      refine pw_lload d_MO_jitterOf_84 rfl ?_
      refine pw_ldc2 (16384) d_MO_jitterOf_86 g978 ?_
      refine pw_lcmp d_MO_jitterOf_89 ?_
      refine pw_if_ge (tgt := 99) d_MO_jitterOf_90 (by decide) (fun h90 => ?_) (fun h90 => ?_)
      · refine pw_lload d_MO_jitterOf_99 rfl ?_
        refine pw_lreturn d_MO_jitterOf_101 rfl ?_ ?_
        · rw [lg_ge] at h90; first | exact congrArg rL (if_neg h90) | exact congrArg rL (if_pos (Classical.not_not.mp h90))
        · rfl
      · refine pw_ldc2 (16384) d_MO_jitterOf_93 g978 ?_
        refine pw_goto (tgt := 101) d_MO_jitterOf_96 (by decide) ?_
        refine pw_lreturn d_MO_jitterOf_101 rfl ?_ ?_
        · rw [lg_ge] at h90; first | exact congrArg rL (if_neg h90) | exact congrArg rL (if_pos (Classical.not_not.mp h90))
        · rfl
    · refine pw_icmp_le (tgt := 81) d_MO_jitterOf_57 (by decide) (fun _ => ?_) (fun h => absurd (nI_le (b := 1) (by omega) (by omega)) h)
      rw [if_neg h1]
      refine pw_lconst 0 d_MO_jitterOf_81 (by decide) ?_
      refine pw_lstore d_MO_jitterOf_82 (by decide) ?_
      dsimp only [stL, kil, isL, cat]
      refine pw_lload d_MO_jitterOf_84 rfl ?_
      refine pw_ldc2 (16384) d_MO_jitterOf_86 g978 ?_
      refine pw_lcmp d_MO_jitterOf_89 ?_
      refine pw_if_ge (tgt := 99) d_MO_jitterOf_90 (by decide) (fun h90 => ?_) (fun h90 => ?_)
      · refine pw_lload d_MO_jitterOf_99 rfl ?_
        refine pw_lreturn d_MO_jitterOf_101 rfl ?_ ?_
        · (try simp only [lg_lt, lg_gt, lg_ge, lg_le, lg_eq, Classical.not_not] at h90) <;> simp only [h90, if_true, if_false]
        · rfl
      · refine pw_ldc2 (16384) d_MO_jitterOf_93 g978 ?_
        refine pw_goto (tgt := 101) d_MO_jitterOf_96 (by decide) ?_
        refine pw_lreturn d_MO_jitterOf_101 rfl ?_ ?_
        · (try simp only [lg_lt, lg_gt, lg_ge, lg_le, lg_eq, Classical.not_not] at h90) <;> simp only [h90, if_true, if_false]
        · rfl
  · intro j hj ih
    refine pw_iload d_MO_jitterOf_12 rfl ?_
    refine pw_aload_n d_MO_jitterOf_14 rfl ?_
    refine pw_getR d_MO_jitterOf_15 f_MO_35 rfl rfl (rfO hM rfl) ?_
    refine pw_iload_n d_MO_jitterOf_18 rfl ?_
    refine pw_iaN (n := p) d_MO_jitterOf_19 rfl (by omega) (by decide) ?_
    rw [hC]
    refine pw_icmp_ge (tgt := 50) d_MO_jitterOf_20 (by decide) (fun h => absurd h (nI_ge (by omega) (by omega))) (fun _ => ?_)
    have hk := mOk_lt (M := M) hp hc (show j + 1 < c by omega)
    refine pw_lload_n d_MO_jitterOf_23 rfl ?_
    refine pw_aload_n d_MO_jitterOf_24 rfl ?_
    refine pw_getR d_MO_jitterOf_25 f_MO_41 rfl rfl (rfO hM rfl) ?_
    refine pw_aload_n d_MO_jitterOf_28 rfl ?_
    refine pw_iload_n d_MO_jitterOf_29 rfl ?_
    refine pw_iload d_MO_jitterOf_30 rfl ?_
    refine c_MO_jitterOf_32 rfl (Nat.le_of_ble_eq_true rfl) (mo_ordK hM p (j + 1) c hp hc (by omega) hC) ?_
    refine pw_laN (n := mOk M p c (j + 1)) d_MO_jitterOf_35 rfl (by omega) (by decide) ?_
    refine pw_lload d_MO_jitterOf_36 rfl ?_
    refine pw_lsub d_MO_jitterOf_38 ?_
    refine c_MO_jitterOf_39 (Nat.le_of_ble_eq_true rfl) (mo_square _) ?_
    refine pw_ladd d_MO_jitterOf_42 ?_
    refine pw_lstore_n d_MO_jitterOf_43 (by decide) ?_
    dsimp only [stL, kil, isL, cat]
    refine pw_iinc (1) d_MO_jitterOf_44 rfl (by decide) (by decide) ?_
    dsimp only [stL, kil, isL, cat]
    refine pw_goto (tgt := 12) d_MO_jitterOf_47 (by decide) ?_
    rw [nI_1]
    exact ih
theorem mo_jitterOf (hM : M.2.2.1 = rf) (p c : Nat) (hp : p < 8) (hc : c ≤ 8) (h0 : 0 < c) (hC : M.1 (0, 29) p = nI c) (hJ : 1 < c → 0 ≤ (mJs M p c / lN (c - 1)).toInt) : PM G l m_MO_jitterOf [vR (some MK), vI (nI p)] M (rL (mJi M p c)) M 0 0 := by
  refine pm_in [some (vR (some MK)), some (vI (nI p)), none, none, none, none, none, none] rfl ?_
  refine pw_lconst 0 d_MO_jitterOf_0 (by decide) ?_
  refine pw_lstore_n d_MO_jitterOf_1 (by decide) ?_
  dsimp only [stL, kil, isL, cat]
  refine pw_aload_n d_MO_jitterOf_2 rfl ?_
  refine pw_iload_n d_MO_jitterOf_3 rfl ?_
  refine c_MO_jitterOf_4 rfl (Nat.le_of_ble_eq_true rfl) (mo_offsetOf hM p c hp hc h0 hC) ?_
  refine pw_lstore d_MO_jitterOf_7 (by decide) ?_
  dsimp only [stL, kil, isL, cat]
  refine pw_iconst 1 d_MO_jitterOf_9 (by decide) ?_
  refine pw_istore d_MO_jitterOf_10 (by decide) ?_
  dsimp only [stL, kil, isL, cat]
  exact lp_mjit hM p c hp hc h0 hC hJ 0 (by omega)
theorem mo_distanceOf (hM : M.2.2.1 = rf) (p c : Nat) (hp : p < 8) (hc : c ≤ 8) (h0 : 0 < c) (hC : M.1 (0, 29) p = nI c) (hJ : 1 < c → 0 ≤ (mJs M p c / lN (c - 1)).toInt) : PM G l m_MO_distanceOf [vR (some MK), vI (nI p)] M (rL (mDt M p c)) M 0 0 := by
  refine pm_in [some (vR (some MK)), some (vI (nI p)), none, none] rfl ?_
  unfold mDt dsV mx14
  refine pw_aload_n d_MO_distanceOf_0 rfl ?_
  refine pw_getR d_MO_distanceOf_1 f_MO_29 rfl rfl (rfO hM rfl) ?_
  refine pw_iload_n d_MO_distanceOf_4 rfl ?_
  refine pw_laN (n := p) d_MO_distanceOf_5 rfl (by omega) (by decide) ?_
  refine pw_aload_n d_MO_distanceOf_6 rfl ?_
  refine pw_iload_n d_MO_distanceOf_7 rfl ?_
  refine c_MO_distanceOf_8 rfl (Nat.le_of_ble_eq_true rfl) (mo_delayOf hM p c hp hc h0 hC) ?_
  refine pw_ladd d_MO_distanceOf_11 ?_
  refine pw_lstore_n d_MO_distanceOf_12 (by decide) ?_
  dsimp only [stL, kil, isL, cat]
  refine pw_lload_n d_MO_distanceOf_13 rfl ?_
  refine pw_ldc2 (16384) d_MO_distanceOf_14 g978 ?_
  refine pw_lcmp d_MO_distanceOf_17 ?_
  refine pw_if_ge (tgt := 27) d_MO_distanceOf_18 (by decide) (fun h18 => ?_) (fun h18 => ?_)
  · refine pw_lload_n d_MO_distanceOf_27 rfl ?_
    refine pw_ldc2 (2) d_MO_distanceOf_28 g955 ?_
    refine pw_ldiv d_MO_distanceOf_31 (by decide) ?_
    refine pw_aload_n d_MO_distanceOf_32 rfl ?_
    refine pw_getR d_MO_distanceOf_33 f_MO_32 rfl rfl (rfO hM rfl) ?_
    refine pw_iload_n d_MO_distanceOf_36 rfl ?_
    refine pw_laN (n := p) d_MO_distanceOf_37 rfl (by omega) (by decide) ?_
    refine pw_ladd d_MO_distanceOf_38 ?_
    refine pw_aload_n d_MO_distanceOf_39 rfl ?_
    refine pw_iload_n d_MO_distanceOf_40 rfl ?_
    refine c_MO_distanceOf_41 rfl (Nat.le_of_ble_eq_true rfl) (mo_dispersionOf hM p c hp hc hC) ?_
    refine pw_ladd d_MO_distanceOf_44 ?_
    refine pw_aload_n d_MO_distanceOf_45 rfl ?_
    refine pw_iload_n d_MO_distanceOf_46 rfl ?_
    refine c_MO_distanceOf_47 rfl (Nat.le_of_ble_eq_true rfl) (mo_jitterOf hM p c hp hc h0 hC hJ) ?_
    refine pw_ladd d_MO_distanceOf_50 ?_
    refine pw_lreturn d_MO_distanceOf_51 rfl ?_ ?_
    · (try simp only [lg_lt, lg_gt, lg_ge, lg_le, lg_eq, Classical.not_not] at h18) <;> simp only [h18, if_true, if_false]
    · rfl
  · refine pw_ldc2 (16384) d_MO_distanceOf_21 g978 ?_
    refine pw_goto (tgt := 28) d_MO_distanceOf_24 (by decide) ?_
    refine pw_ldc2 (2) d_MO_distanceOf_28 g955 ?_
    refine pw_ldiv d_MO_distanceOf_31 (by decide) ?_
    refine pw_aload_n d_MO_distanceOf_32 rfl ?_
    refine pw_getR d_MO_distanceOf_33 f_MO_32 rfl rfl (rfO hM rfl) ?_
    refine pw_iload_n d_MO_distanceOf_36 rfl ?_
    refine pw_laN (n := p) d_MO_distanceOf_37 rfl (by omega) (by decide) ?_
    refine pw_ladd d_MO_distanceOf_38 ?_
    refine pw_aload_n d_MO_distanceOf_39 rfl ?_
    refine pw_iload_n d_MO_distanceOf_40 rfl ?_
    refine c_MO_distanceOf_41 rfl (Nat.le_of_ble_eq_true rfl) (mo_dispersionOf hM p c hp hc hC) ?_
    refine pw_ladd d_MO_distanceOf_44 ?_
    refine pw_aload_n d_MO_distanceOf_45 rfl ?_
    refine pw_iload_n d_MO_distanceOf_46 rfl ?_
    refine c_MO_distanceOf_47 rfl (Nat.le_of_ble_eq_true rfl) (mo_jitterOf hM p c hp hc h0 hC hJ) ?_
    refine pw_ladd d_MO_distanceOf_50 ?_
    refine pw_lreturn d_MO_distanceOf_51 rfl ?_ ?_
    · (try simp only [lg_lt, lg_gt, lg_ge, lg_le, lg_eq, Classical.not_not] at h18) <;> simp only [h18, if_true, if_false]
    · rfl
end MO4
