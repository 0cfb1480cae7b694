/-! the reference: combined, updated -/
theorem mx_sym (a b : Int64) : (if b < a then a else b) = (if a < b then b else a) := by
  by_cases h1 : a < b
  · by_cases h2 : b < a
    · rw [Int64.lt_iff_toInt_lt] at h1 h2; omega
    · rw [if_pos h1, if_neg h2]
  · by_cases h2 : b < a
    · rw [if_neg h1, if_pos h2]
    · rw [if_neg h1, if_neg h2]
      rw [Int64.lt_iff_toInt_lt] at h1 h2
      apply Int64.toInt_inj.mp
      omega
section MU
variable {G : GG} {l : Launch} {M : Mem}
theorem lp_comb1 (hM : M.2.2.1 = rf) {cm : Nat → Nat} (hP : MPs M cm) (V : VV) (hV : V = mVV M cm) (t : List Nat) (hL : ModL M t) (ht : ∀ x ∈ t, x < 8 ∧ 0 < cm x) (hD : ∀ x ∈ t, 0 < dV V x) (o : PO) (M' : Mem)
    (hend : ∀ x6 : Option PV, PW G l m_MO_combine 67 [some (vR (some MK)), some (vL (mnS V t)), none, some (vL (mnW V t)), none, some (vI (nI t.length)), x6, none, none, none, none] [] M o M' 0 0) :
    ∀ i, i ≤ t.length → ∀ x6 : Option PV, PW G l m_MO_combine 7 [some (vR (some MK)), some (vL (mnS V (t.take i))), none, some (vL (mnW V (t.take i))), none, some (vI (nI i)), x6, none, none, none, none] [] M o M' 0 0 := by
  obtain ⟨r1, r2, r3⟩ := hL
  refine lpU ?_ ?_
  · intro x6
    rw [List.take_length]
    refine pw_iload d_MO_combine_7 rfl ?_
    refine pw_aload_n d_MO_combine_9 rfl ?_
    refine pw_getI d_MO_combine_10 f_MO_219 rfl rfl ?_
    rw [r1]
    refine pw_icmp_ge (tgt := 67) d_MO_combine_13 (by decide) (fun _ => ?_) (fun hQ => absurd (nI_le (Nat.le_refl _) (by omega)) hQ)
    exact hend _
  · intro i hi ih x6
    obtain ⟨x, hx⟩ := get_lt hi
    obtain ⟨x1, x2⟩ := ht x (get_mem hx)
    have hd := hD x (get_mem hx)
    have o1 := mo_ofV (G := G) (l := l) hM hP x1 x2
    have d1 := mo_dtV (G := G) (l := l) hM hP x1 x2
    rw [← hV] at o1 d1
    have q := ih (some (vL (wt V x)))
    unfold mnS mnW at q
    rw [fold_take hx, fold_take hx] at q
    refine pw_iload d_MO_combine_7 rfl ?_
    refine pw_aload_n d_MO_combine_9 rfl ?_
    refine pw_getI d_MO_combine_10 f_MO_219 rfl rfl ?_
    rw [r1]
    refine pw_icmp_ge (tgt := 67) d_MO_combine_13 (by decide) (fun hQ => absurd hQ (nI_ge hi (by omega))) (fun _ => ?_)
    refine pw_ldc2 (70368744177664) d_MO_combine_16 g1059 ?_
    refine pw_aload_n d_MO_combine_19 rfl ?_
    refine pw_aload_n d_MO_combine_20 rfl ?_
    refine pw_getR d_MO_combine_21 f_MO_53 rfl rfl (rfO hM rfl) ?_
    refine pw_iload d_MO_combine_24 rfl ?_
    refine pw_iaN (n := i) d_MO_combine_26 rfl (by omega) (by decide) ?_
    rw [r3 i x hx]
    refine c_MO_combine_27 rfl (Nat.le_of_ble_eq_true rfl) d1 ?_
    refine pw_ldiv d_MO_combine_30 (i64_pn hd) ?_
    refine pw_lstore d_MO_combine_31 (by decide) ?_
    dsimp only [stL, kil, isL, cat]
    refine pw_lload_n d_MO_combine_33 rfl ?_
    refine pw_aload_n d_MO_combine_34 rfl ?_
    refine pw_aload_n d_MO_combine_35 rfl ?_
    refine pw_getR d_MO_combine_36 f_MO_53 rfl rfl (rfO hM rfl) ?_
    refine pw_iload d_MO_combine_39 rfl ?_
    refine pw_iaN (n := i) d_MO_combine_41 rfl (by omega) (by decide) ?_
    rw [r3 i x hx]
    refine c_MO_combine_42 rfl (Nat.le_of_ble_eq_true rfl) o1 ?_
    refine pw_ldc2 (4096) d_MO_combine_45 g1019 ?_
    refine c_MO_combine_48 (Nat.le_of_ble_eq_true rfl) (mo_floor _ 4096 (by decide)) ?_
    refine pw_lload d_MO_combine_51 rfl ?_
    refine pw_lmul d_MO_combine_53 ?_
    refine pw_ladd d_MO_combine_54 ?_
    refine pw_lstore_n d_MO_combine_55 (by decide) ?_
    dsimp only [stL, kil, isL, cat]
    refine pw_lload_n d_MO_combine_56 rfl ?_
    refine pw_lload d_MO_combine_57 rfl ?_
    refine pw_ladd d_MO_combine_59 ?_
    refine pw_lstore_n d_MO_combine_60 (by decide) ?_
    dsimp only [stL, kil, isL, cat]
    refine pw_iinc (1) d_MO_combine_61 rfl (by decide) (by decide) ?_
    dsimp only [stL, kil, isL, cat]
    refine pw_goto (tgt := 7) d_MO_combine_64 (by decide) ?_
    rw [nI_1]
    exact q
theorem lp_comb2 (hM : M.2.2.1 = rf) {cm : Nat → Nat} (hP : MPs M cm) (V : VV) (hV : V = mVV M cm) (t : List Nat) (hL : ModL M t) (ht : ∀ x ∈ t, x < 8 ∧ 0 < cm x) (b : Int64) (hb : M.2.1 MK 26 = b) (y1 y3 : Int64) (o : PO) (M' : Mem)
    (hend : PW G l m_MO_combine 125 [some (vR (some MK)), some (vL y1), none, some (vL y3), none, some (vL (sqs V b t)), none, some (vI (nI t.length)), none, none, none] [] M o M' 0 0) :
    ∀ i, i ≤ t.length → PW G l m_MO_combine 86 [some (vR (some MK)), some (vL y1), none, some (vL y3), none, some (vL (sqs V b (t.take i))), none, some (vI (nI i)), none, none, none] [] M o M' 0 0 := by
  obtain ⟨r1, r2, r3⟩ := hL
  refine lpU ?_ ?_
  · rw [List.take_length]
    refine pw_iload d_MO_combine_86 rfl ?_
    refine pw_aload_n d_MO_combine_88 rfl ?_
    refine pw_getI d_MO_combine_89 f_MO_219 rfl rfl ?_
    rw [r1]
    refine pw_icmp_ge (tgt := 125) d_MO_combine_92 (by decide) (fun _ => ?_) (fun hQ => absurd (nI_le (Nat.le_refl _) (by omega)) hQ)
    exact hend
  · intro i hi ih
    obtain ⟨x, hx⟩ := get_lt hi
    obtain ⟨x1, x2⟩ := ht x (get_mem hx)
    have o1 := mo_ofV (G := G) (l := l) hM hP x1 x2
    rw [← hV] at o1
    unfold sqs at ih
    rw [fold_take hx] at ih
    refine pw_iload d_MO_combine_86 rfl ?_
    refine pw_aload_n d_MO_combine_88 rfl ?_
    refine pw_getI d_MO_combine_89 f_MO_219 rfl rfl ?_
    rw [r1]
    refine pw_icmp_ge (tgt := 125) d_MO_combine_92 (by decide) (fun hQ => absurd hQ (nI_ge hi (by omega))) (fun _ => ?_)
    refine pw_lload d_MO_combine_95 rfl ?_
    refine pw_aload_n d_MO_combine_97 rfl ?_
    refine pw_aload_n d_MO_combine_98 rfl ?_
    refine pw_getR d_MO_combine_99 f_MO_53 rfl rfl (rfO hM rfl) ?_
    refine pw_iload d_MO_combine_102 rfl ?_
    refine pw_iaN (n := i) d_MO_combine_104 rfl (by omega) (by decide) ?_
    rw [r3 i x hx]
    refine c_MO_combine_105 rfl (Nat.le_of_ble_eq_true rfl) o1 ?_
    refine pw_aload_n d_MO_combine_108 rfl ?_
    refine pw_getL d_MO_combine_109 f_MO_230 rfl rfl ?_
    rw [hb]
    refine pw_lsub d_MO_combine_112 ?_
    refine c_MO_combine_113 (Nat.le_of_ble_eq_true rfl) (mo_square _) ?_
    refine pw_ladd d_MO_combine_116 ?_
    refine pw_lstore d_MO_combine_117 (by decide) ?_
    dsimp only [stL, kil, isL, cat]
    refine pw_iinc (1) d_MO_combine_119 rfl (by decide) (by decide) ?_
    dsimp only [stL, kil, isL, cat]
    refine pw_goto (tgt := 86) d_MO_combine_122 (by decide) ?_
    rw [nI_1]
    exact ih
theorem SM_f {j : Nat} {x : Int64} : SM M (sL M MK j x) := ⟨rfl, fun k h1 _ => ⟨rfl, by funext i; simp [sL, h1]⟩, rfl⟩
theorem SM_i {j : Nat} {x : Int32} (hj : 6 ≠ j) : SM M (sI M MK j x) := ⟨rfl, fun k h1 _ => ⟨by funext i; simp [sI, h1], rfl⟩, by simp [sI, hj]⟩
theorem ModL_L {t : List Nat} {j : Nat} {x : Int64} (h : ModL M t) : ModL (sL M MK j x) t := h
theorem ModL_I {t : List Nat} {j : Nat} {x : Int32} (hj : 32 ≠ j) (h : ModL M t) : ModL (sI M MK j x) t := ⟨by rw [← h.1]; simp [sI, hj], h.2.1, fun i y hy => by rw [← h.2.2 i y hy]; simp [sI]⟩
theorem mo_combine (hM : M.2.2.1 = rf) {cm : Nat → Nat} (hP : MPs M cm) (V : VV) (hV : V = mVV M cm) (t : List Nat) (hL : ModL M t) (h0 : 0 < t.length) (ht : ∀ x ∈ t, x < 8 ∧ 0 < cm x) (hB : ∀ x ∈ t, oB (oV V x)) (hD : ∀ x ∈ t, 0 < dV V x) (hW : 0 < mnW V t) (hO : oB (mnO V t)) : PM G l m_MO_combine [vR (some MK)] M rV (sI (sL (sL M MK 26 (mnO V t)) MK 27 (cjV V t)) MK 28 (sV V (atL t 0) + 1)) 0 0 := by
  refine pm_in [some (vR (some MK)), none, none, none, none, none, none, none, none, none, none] rfl ?_
  have hx := atL_get h0
  obtain ⟨a1, a2⟩ := ht _ (get_mem hx)
  obtain ⟨r1, r2, r3⟩ := hL
  have hM1 : (sL M MK 26 (mnO V t)).2.2.1 = rf := hM
  have hP1 : MPs (sL M MK 26 (mnO V t)) cm := sm_mps SM_f hP
  have hV1 : V = mVV (sL M MK 26 (mnO V t)) cm := by rw [sm_mVV (SM_f (M := M))]; exact hV
  have j1 := mo_jiV (G := G) (l := l) hM1 hP1 a1 a2
  rw [← hV1] at j1
  have hdb := div_b (n := t.length) (sqs_b (V := V) (b := mnO V t) r2 hB hO) h0 r2
  refine pw_lconst 0 d_MO_combine_0 (by decide) ?_
  refine pw_lstore_n d_MO_combine_1 (by decide) ?_
  dsimp only [stL, kil, isL, cat]
  refine pw_lconst 0 d_MO_combine_2 (by decide) ?_
  refine pw_lstore_n d_MO_combine_3 (by decide) ?_
  dsimp only [stL, kil, isL, cat]
  refine pw_iconst 0 d_MO_combine_4 (by decide) ?_
  refine pw_istore d_MO_combine_5 (by decide) ?_
  dsimp only [stL, kil, isL, cat]
  refine lp_comb1 hM hP V hV t ⟨r1, r2, r3⟩ ht hD _ _ ?_ 0 (by omega) none
  intro x6
  refine pw_aload_n d_MO_combine_67 rfl ?_
  refine pw_lload_n d_MO_combine_68 rfl ?_
  refine pw_lload_n d_MO_combine_69 rfl ?_
  refine c_MO_combine_70 (Nat.le_of_ble_eq_true rfl) (mo_floor _ _ (i64_pn hW)) ?_
  refine pw_ldc2 (4096) d_MO_combine_73 g1019 ?_
  refine pw_lmul d_MO_combine_76 ?_
  refine pw_putL d_MO_combine_77 f_MO_230 rfl rfl rfl ?_
  refine pw_lconst 0 d_MO_combine_80 (by decide) ?_
  refine pw_lstore d_MO_combine_81 (by decide) ?_
  dsimp only [stL, kil, isL, cat]
  refine pw_iconst 0 d_MO_combine_83 (by decide) ?_
  refine pw_istore d_MO_combine_84 (by decide) ?_
  dsimp only [stL, kil, isL, cat]
  refine lp_comb2 (M := sL M MK 26 (mnO V t)) hM1 hP1 V hV1 t ⟨r1, r2, r3⟩ ht (mnO V t) (by simp [sL]) _ _ _ _ ?_ 0 (by omega)
  refine pw_ldc2 (4096) d_MO_combine_125 g1019 ?_
  refine pw_lload d_MO_combine_128 rfl ?_
  refine pw_aload_n d_MO_combine_130 rfl ?_
  refine pw_getI d_MO_combine_131 f_MO_219 rfl rfl ?_
  rw [show (sL M MK 26 (mnO V t)).1 MK 32 = nI t.length from r1]
  refine pw_i2l d_MO_combine_134 ?_
  rw [nI_l (by omega)]
  refine pw_ldiv d_MO_combine_135 (lN_ne0 _ (by omega) (by omega)) ?_
  refine c_MO_combine_136 (Nat.le_of_ble_eq_true rfl) (mo_rootL _ hdb.1) ?_
  refine pw_lmul d_MO_combine_139 ?_
  refine pw_lstore d_MO_combine_140 (by decide) ?_
  dsimp only [stL, kil, isL, cat]
  refine pw_aload_n d_MO_combine_142 rfl ?_
  refine pw_aload_n d_MO_combine_143 rfl ?_
  refine pw_getR d_MO_combine_144 f_MO_53 rfl rfl (rfO hM1 rfl) ?_
  refine pw_iconst 0 d_MO_combine_147 (by decide) ?_
  refine pw_iaN (n := 0) d_MO_combine_148 rfl (by omega) (by decide) ?_
  rw [show (sL M MK 26 (mnO V t)).1 (0, 35) 0 = nI (atL t 0) from r3 0 _ hx]
  refine c_MO_combine_149 rfl (Nat.le_of_ble_eq_true rfl) j1 ?_
  refine pw_lstore d_MO_combine_152 (by decide) ?_
  dsimp only [stL, kil, isL, cat]
  refine pw_aload_n d_MO_combine_154 rfl ?_
  refine pw_lload d_MO_combine_155 rfl ?_
  refine pw_lload d_MO_combine_157 rfl ?_
  refine pw_lcmp d_MO_combine_159 ?_
  have ej : (if 4096 * rtL (sqs V (mnO V t) t / lN t.length) < jV V (atL t 0) then jV V (atL t 0) else 4096 * rtL (sqs V (mnO V t) t / lN t.length)) = cjV V t := mx_sym _ _
  have fin : ∀ y7 y9 : Option PV, ∀ c, c = cjV V t → PW G l m_MO_combine 170 [some (vR (some MK)), some (vL (mnS V t)), none, some (vL (mnW V t)), none, some (vL (sqs V (mnO V t) t)), none, y7, none, y9, none] [vL c, vR (some MK)] (sL M MK 26 (mnO V t)) rV (sI (sL (sL M MK 26 (mnO V t)) MK 27 (cjV V t)) MK 28 (sV V (atL t 0) + 1)) 0 0 := by
    intro y7 y9 c hc
    subst hc
    refine pw_putL d_MO_combine_170 f_MO_233 rfl rfl rfl ?_
    refine pw_aload_n d_MO_combine_173 rfl ?_
    refine pw_aload_n d_MO_combine_174 rfl ?_
    refine pw_getR d_MO_combine_175 f_MO_26 rfl rfl (rfO hM rfl) ?_
    refine pw_aload_n d_MO_combine_178 rfl ?_
    refine pw_getR d_MO_combine_179 f_MO_53 rfl rfl (rfO hM rfl) ?_
    refine pw_iconst 0 d_MO_combine_182 (by decide) ?_
    refine pw_iaN (n := 0) d_MO_combine_183 rfl (by omega) (by decide) ?_
    rw [show (sL (sL M MK 26 (mnO V t)) MK 27 (cjV V t)).1 (0, 35) 0 = nI (atL t 0) from r3 0 _ hx]
    refine pw_iaN (n := atL t 0) d_MO_combine_184 rfl (by omega) (by decide) ?_
    rw [show (sL (sL M MK 26 (mnO V t)) MK 27 (cjV V t)).1 (0, 26) (atL t 0) = sV V (atL t 0) from by rw [hV]; rfl]
    refine pw_iconst 1 d_MO_combine_185 (by decide) ?_
    refine pw_iadd d_MO_combine_186 ?_
    refine pw_putI d_MO_combine_187 f_MO_184 rfl rfl rfl ?_
    refine pw_return d_MO_combine_190 rfl ?_ ?_
    · rfl
    · rfl
  by_cases hc : 4096 * rtL (sqs V (mnO V t) t / lN t.length) < jV V (atL t 0)
  · rw [if_pos hc] at ej
    refine pw_if_le (tgt := 168) d_MO_combine_160 (by decide) (fun hQ => absurd hQ ((fun z => (lg_le _ _).mp z hc))) (fun _ => ?_)
    refine pw_lload d_MO_combine_163 rfl ?_
    refine pw_goto (tgt := 170) d_MO_combine_165 (by decide) ?_
    exact fin _ _ _ ej
  · rw [if_neg hc] at ej
    refine pw_if_le (tgt := 168) d_MO_combine_160 (by decide) (fun _ => ?_) (fun hQ => absurd (((lg_le _ _).mpr hc)) hQ)
    refine pw_lload d_MO_combine_168 rfl ?_
    exact fin _ _ _ ej
theorem mcd_sm {N : Mem} (h : SM M N) (cm : Nat → Nat) (V : VV) (p : Nat) : mcd N cm V p = mcd M cm V p := by
  unfold mcd
  rw [(h.2.1 (0, 25) (by decide) (by decide)).1]
theorem lp_upd1 (hM : M.2.2.1 = rf) {cm : Nat → Nat} (hP : MPs M cm) (V : VV) (hV : V = mVV M cm) (P : Nat → Bool) (hPe : P = mcd M cm V) (o : PO) (M' : Mem)
    (hend : PW G l m_MO_update 56 [some (vR (some MK)), some (vI (nI 8)), none, none] [] (sI M MK 22 (nI (msk (rgf P 8)))) o M' 0 0) :
    ∀ i, i ≤ 8 → PW G l m_MO_update 17 [some (vR (some MK)), some (vI (nI i)), none, none] [] (sI M MK 22 (nI (msk (rgf P i)))) o M' 0 0 := by
  refine lpU ?_ ?_
  · refine pw_iload_n d_MO_update_17 rfl ?_
    refine pw_bipush (8) d_MO_update_18 (by decide) ?_
    refine pw_icmp_ge (tgt := 56) d_MO_update_20 (by decide) (fun _ => ?_) (fun hQ => absurd (nI_le (a := 8) (b := 8) (by omega) (by omega)) hQ)
    exact hend
  · intro i hi ih
    have hsm : SM M (sI M MK 22 (nI (msk (rgf P i)))) := SM_i (by decide)
    have hc := mo_isCand (G := G) (l := l) (M := sI M MK 22 (nI (msk (rgf P i)))) hM (sm_mps hsm hP) hi
    rw [sm_mVV hsm, ← hV, mcd_sm hsm, ← hPe] at hc
    have hm8 : msk (rgf P i) < 256 := msk_lt (fun x hx => by
      have := List.mem_range.mp (List.mem_filter.mp hx).1
      omega)
    refine pw_iload_n d_MO_update_17 rfl ?_
    refine pw_bipush (8) d_MO_update_18 (by decide) ?_
    refine pw_icmp_ge (tgt := 56) d_MO_update_20 (by decide) (fun hQ => absurd hQ (nI_ge (b := 8) hi (by omega))) (fun _ => ?_)
    by_cases h : P i = true
    · rw [if_pos h] at hc
      rw [rgf_y h] at ih
      refine pw_aload_n d_MO_update_23 rfl ?_
      refine pw_aload_n d_MO_update_24 rfl ?_
      refine pw_iload_n d_MO_update_25 rfl ?_
      refine c_MO_update_26 rfl (Nat.le_of_ble_eq_true rfl) hc ?_
      refine pw_if_eq (tgt := 43) d_MO_update_29 (by decide) (fun hQ => absurd hQ ((by decide))) (fun _ => ?_)
      refine pw_aload_n d_MO_update_32 rfl ?_
      refine pw_getI d_MO_update_33 f_MO_200 rfl rfl ?_
      rw [sI_s]
      refine pw_iconst 1 d_MO_update_36 (by decide) ?_
      refine pw_iload_n d_MO_update_37 rfl ?_
      refine pw_ishl d_MO_update_38 ?_
      refine pw_ior d_MO_update_39 ?_
      rw [(or_bit _ hm8 i hi).1]
      refine pw_goto (tgt := 47) d_MO_update_40 (by decide) ?_
      refine pw_putI d_MO_update_47 f_MO_200 rfl rfl rfl ?_
      refine pw_iinc (1) d_MO_update_50 rfl (by decide) (by decide) ?_
      dsimp only [stL, kil, isL, cat]
      refine pw_goto (tgt := 17) d_MO_update_53 (by decide) ?_
      rw [nI_1, sI_sI]
      unfold msk at ih
      rw [fold_y] at ih
      exact ih
    · rw [if_neg h] at hc
      rw [rgf_n h] at ih
      refine pw_aload_n d_MO_update_23 rfl ?_
      refine pw_aload_n d_MO_update_24 rfl ?_
      refine pw_iload_n d_MO_update_25 rfl ?_
      refine c_MO_update_26 rfl (Nat.le_of_ble_eq_true rfl) hc ?_
      refine pw_if_eq (tgt := 43) d_MO_update_29 (by decide) (fun _ => ?_) (fun hQ => absurd (rfl) hQ)
      refine pw_aload_n d_MO_update_43 rfl ?_
      refine pw_getI d_MO_update_44 f_MO_200 rfl rfl ?_
      rw [sI_s]
      refine pw_putI d_MO_update_47 f_MO_200 rfl rfl rfl ?_
      refine pw_iinc (1) d_MO_update_50 rfl (by decide) (by decide) ?_
      dsimp only [stL, kil, isL, cat]
      refine pw_goto (tgt := 17) d_MO_update_53 (by decide) ?_
      rw [nI_1, sI_sI]
      exact ih
/-- the beginning of an update -/
def up0 (M : Mem) (ns : List Nat) : Mem := sI (sI (sI (sI M MK 22 0) MK 23 0) MK 24 0) MK 22 (nI (msk ns))
theorem up0_sm {ns : List Nat} : SM M (up0 M ns) := (SM_i (j := 22) (by decide)).trans ((SM_i (j := 23) (by decide)).trans ((SM_i (j := 24) (by decide)).trans (SM_i (j := 22) (by decide))))
theorem up_start (hM : M.2.2.1 = rf) {cm : Nat → Nat} (hP : MPs M cm) (V : VV) (hV : V = mVV M cm) (P : Nat → Bool) (hPe : P = mcd M cm V) (ns : List Nat) (hns : ns = rgf P 8) (o : PO) (M' : Mem)
    (hend : PW G l m_MO_update 68 [some (vR (some MK)), some (vI (nI ns.length)), some (vI 0), some (vI (nI 0))] [] (up0 M ns) o M' 0 0) : PM G l m_MO_update [vR (some MK)] M o M' 0 0 := by
  refine pm_in [some (vR (some MK)), none, none, none] rfl ?_
  have hsm : SM M (sI (sI (sI M MK 22 0) MK 23 0) MK 24 0) := (SM_i (j := 22) (by decide)).trans ((SM_i (j := 23) (by decide)).trans (SM_i (j := 24) (by decide)))
  have e22 : sI (sI (sI (sI M MK 22 0) MK 23 0) MK 24 0) MK 22 (nI (msk (rgf P 0))) = sI (sI (sI M MK 22 0) MK 23 0) MK 24 0 := by
    have := sI_self (M := sI (sI (sI M MK 22 0) MK 23 0) MK 24 0) (k := MK) (j := 22)
    rw [show (sI (sI (sI M MK 22 0) MK 23 0) MK 24 0).1 MK 22 = 0 from by simp [sI]] at this
    exact this
  have q := lp_upd1 (G := G) (l := l) (M := sI (sI (sI M MK 22 0) MK 23 0) MK 24 0) hM (sm_mps hsm hP) V (by rw [sm_mVV hsm]; exact hV) P (by rw [hPe]; funext p; rw [mcd_sm hsm]) o M' ?_ 0 (by omega)
  · rw [e22] at q
    refine pw_aload_n d_MO_update_0 rfl ?_
    refine pw_iconst 0 d_MO_update_1 (by decide) ?_
    refine pw_putI d_MO_update_2 f_MO_200 rfl rfl rfl ?_
    refine pw_aload_n d_MO_update_5 rfl ?_
    refine pw_iconst 0 d_MO_update_6 (by decide) ?_
    refine pw_putI d_MO_update_7 f_MO_210 rfl rfl rfl ?_
    refine pw_aload_n d_MO_update_10 rfl ?_
    refine pw_iconst 0 d_MO_update_11 (by decide) ?_
    refine pw_putI d_MO_update_12 f_MO_236 rfl rfl rfl ?_
    refine pw_iconst 0 d_MO_update_15 (by decide) ?_
    refine pw_istore_n d_MO_update_16 (by decide) ?_
    dsimp only [stL, kil, isL, cat]
    exact q
  · rw [← hns]
    have hmany := mo_many (G := G) (l := l) (M := up0 M ns) (bts_msk (P := P))
    rw [← hns] at hmany
    refine pw_aload_n d_MO_update_56 rfl ?_
    refine pw_getI d_MO_update_57 f_MO_200 rfl rfl ?_
    rw [sI_s]
    refine c_MO_update_60 (Nat.le_of_ble_eq_true rfl) hmany ?_
    refine pw_istore_n d_MO_update_63 (by decide) ?_
    dsimp only [stL, kil, isL, cat]
    refine pw_iconst 0 d_MO_update_64 (by decide) ?_
    refine pw_istore_n d_MO_update_65 (by decide) ?_
    dsimp only [stL, kil, isL, cat]
    refine pw_iconst 0 d_MO_update_66 (by decide) ?_
    refine pw_istore_n d_MO_update_67 (by decide) ?_
    dsimp only [stL, kil, isL, cat]
    exact hend
end MU
