/-! the reference: thinned out, combined -/
section MC
variable {G : GG} {l : Launch} {M : Mem}
theorem lp_mspr (hM : M.2.2.1 = rf) {cm : Nat → Nat} (hP : MPs M cm) (V : VV) (hV : V = mVV M cm) (t : List Nat) (hL : ModL M t) (ht : ∀ x ∈ t, (x < 8 ∧ 0 < cm x) ∧ oB (oV V x)) (p : Nat) (hp : p < 8) (h0 : 0 < cm p) (hB : oB (oV V p)) (h1 : 1 < t.length) : ∀ i, i ≤ t.length → PW G l m_MO_spreadFrom 5 [some (vR (some MK)), some (vI (nI p)), some (vL (sqs V (oV V p) (t.take i))), none, some (vI (nI i))] [] M (rL (spA V t p)) M 0 0 := by
  obtain ⟨r1, r2, r3⟩ := hL
  refine lpU ?_ ?_
  · rw [List.take_length]
    have hb := div_b (n := t.length - 1) (sqs_b (b := oV V p) r2 (fun x hx => (ht x hx).2) hB) (by omega) (by omega)
    refine pw_iload d_MO_spreadFrom_5 rfl ?_
    refine pw_aload_n d_MO_spreadFrom_7 rfl ?_
    refine pw_getI d_MO_spreadFrom_8 f_MO_219 rfl rfl ?_
    rw [r1]
    refine pw_icmp_ge (tgt := 43) d_MO_spreadFrom_11 (by decide) (fun _ => ?_) (fun hQ => absurd (nI_le (Nat.le_refl _) (by omega)) hQ)
    refine pw_ldc2 (4096) d_MO_spreadFrom_43 g1019 ?_
    refine pw_lload_n d_MO_spreadFrom_46 rfl ?_
    refine pw_aload_n d_MO_spreadFrom_47 rfl ?_
    refine pw_getI d_MO_spreadFrom_48 f_MO_219 rfl rfl ?_
    rw [r1]
    refine pw_iconst 1 d_MO_spreadFrom_51 (by decide) ?_
    refine pw_isub d_MO_spreadFrom_52 ?_
    rw [show nI t.length - 1 = nI (t.length - 1) from pk_sub (b := 1) (by omega)]
    refine pw_i2l d_MO_spreadFrom_53 ?_
    rw [nI_l (by omega)]
    refine pw_ldiv d_MO_spreadFrom_54 (lN_ne0 _ (by omega) (by omega)) ?_
    refine c_MO_spreadFrom_55 (Nat.le_of_ble_eq_true rfl) (mo_rootL _ hb.1) ?_
    refine pw_lmul d_MO_spreadFrom_58 ?_
    refine pw_lreturn d_MO_spreadFrom_59 rfl ?_ ?_
    · unfold spA
      rw [if_neg (by omega)]
    · rfl
  · intro i hi ih
    obtain ⟨x, hx⟩ := get_lt hi
    obtain ⟨⟨x1, x2⟩, x3⟩ := ht x (get_mem hx)
    have o1 := mo_ofV (G := G) (l := l) hM hP x1 x2
    have o2 := mo_ofV (G := G) (l := l) hM hP hp h0
    rw [← hV] at o1 o2
    unfold sqs at ih
    rw [fold_take hx] at ih
    refine pw_iload d_MO_spreadFrom_5 rfl ?_
    refine pw_aload_n d_MO_spreadFrom_7 rfl ?_
    refine pw_getI d_MO_spreadFrom_8 f_MO_219 rfl rfl ?_
    rw [r1]
    refine pw_icmp_ge (tgt := 43) d_MO_spreadFrom_11 (by decide) (fun hQ => absurd hQ (nI_ge hi (by omega))) (fun _ => ?_)
    refine pw_lload_n d_MO_spreadFrom_14 rfl ?_
    refine pw_aload_n d_MO_spreadFrom_15 rfl ?_
    refine pw_aload_n d_MO_spreadFrom_16 rfl ?_
    refine pw_getR d_MO_spreadFrom_17 f_MO_53 rfl rfl (rfO hM rfl) ?_
    refine pw_iload d_MO_spreadFrom_20 rfl ?_
    refine pw_iaN (n := i) d_MO_spreadFrom_22 rfl (by omega) (by decide) ?_
    rw [r3 i x hx]
    refine c_MO_spreadFrom_23 rfl (Nat.le_of_ble_eq_true rfl) o1 ?_
    refine pw_aload_n d_MO_spreadFrom_26 rfl ?_
    refine pw_iload_n d_MO_spreadFrom_27 rfl ?_
    refine c_MO_spreadFrom_28 rfl (Nat.le_of_ble_eq_true rfl) o2 ?_
    refine pw_lsub d_MO_spreadFrom_31 ?_
    refine c_MO_spreadFrom_32 (Nat.le_of_ble_eq_true rfl) (mo_square _) ?_
    refine pw_ladd d_MO_spreadFrom_35 ?_
    refine pw_lstore_n d_MO_spreadFrom_36 (by decide) ?_
    dsimp only [stL, kil, isL, cat]
    refine pw_iinc (1) d_MO_spreadFrom_37 rfl (by decide) (by decide) ?_
    dsimp only [stL, kil, isL, cat]
    refine pw_goto (tgt := 5) d_MO_spreadFrom_40 (by decide) ?_
    rw [nI_1]
    exact ih
theorem mo_spr (hM : M.2.2.1 = rf) {cm : Nat → Nat} (hP : MPs M cm) (V : VV) (hV : V = mVV M cm) (t : List Nat) (hL : ModL M t) (ht : ∀ x ∈ t, (x < 8 ∧ 0 < cm x) ∧ oB (oV V x)) (p : Nat) (hp : p ∈ t) (h1 : 1 < t.length) : PM G l m_MO_spreadFrom [vR (some MK), vI (nI p)] M (rL (spA V t p)) M 0 0 := by
  refine pm_in [some (vR (some MK)), some (vI (nI p)), none, none, none] rfl ?_
  obtain ⟨⟨x1, x2⟩, x3⟩ := ht p hp
  refine pw_lconst 0 d_MO_spreadFrom_0 (by decide) ?_
  refine pw_lstore_n d_MO_spreadFrom_1 (by decide) ?_
  dsimp only [stL, kil, isL, cat]
  refine pw_iconst 0 d_MO_spreadFrom_2 (by decide) ?_
  refine pw_istore d_MO_spreadFrom_3 (by decide) ?_
  dsimp only [stL, kil, isL, cat]
  exact lp_mspr hM hP V hV t hL ht p x1 x2 x3 h1 0 (by omega)
theorem lp_clu1 (hM : M.2.2.1 = rf) {cm : Nat → Nat} (hP : MPs M cm) (V : VV) (hV : V = mVV M cm) (t : List Nat) (hL : ModL M t) (ht : ∀ x ∈ t, (x < 8 ∧ 0 < cm x) ∧ oB (oV V x)) (h1 : 3 < t.length) (o : PO) (M' : Mem)
    (hend : PW G l m_MO_cluster 113 [some (vR (some MK)), some (vI 1), some (vI (nI (thW V t))), some (vL (ljN V t (t.length - 1))), none, some (vI (nI t.length))] [] M o M' 0 0) :
    ∀ i, i ≤ t.length → PW G l m_MO_cluster 34 [some (vR (some MK)), some (vI 1), some (vI (nI (wst (fun k => spA V t (atL t k)) i))), some (vL (ljN V t (i - 1))), none, some (vI (nI i))] [] M o M' 0 0 := by
  obtain ⟨r1, r2, r3⟩ := hL
  refine lpU ?_ ?_
  · refine pw_iload d_MO_cluster_34 rfl ?_
    refine pw_aload_n d_MO_cluster_36 rfl ?_
    refine pw_getI d_MO_cluster_37 f_MO_219 rfl rfl ?_
    rw [r1]
    refine pw_icmp_ge (tgt := 113) d_MO_cluster_40 (by decide) (fun _ => ?_) (fun hQ => absurd (nI_le (Nat.le_refl _) (by omega)) hQ)
    exact hend
  · intro i hi ih
    have hx := atL_get hi
    have hwl : wst (fun k => spA V t (atL t k)) i < t.length := by
      by_cases hi0 : i = 0
      · subst hi0; rw [wst]; omega
      · have := wst_lt (fun k => spA V t (atL t k)) i (by omega); omega
    have hwx := atL_get hwl
    have s1 := mo_spr (G := G) (l := l) hM hP V hV t ⟨r1, r2, r3⟩ ht (atL t i) (get_mem hx) (by omega)
    have s2 := mo_spr (G := G) (l := l) hM hP V hV t ⟨r1, r2, r3⟩ ht _ (get_mem hwx) (by omega)
    obtain ⟨⟨x1, x2⟩, x3⟩ := ht _ (get_mem hx)
    have j1 := mo_jiV (G := G) (l := l) hM hP x1 x2
    rw [← hV] at j1
    -- the jitter's half
    have half : ∀ w, (∀ L, L = ljN V t (i + 1 - 1) → PW G l m_MO_cluster 34 [some (vR (some MK)), some (vI 1), some (vI w), some (vL L), none, some (vI (nI (i + 1)))] [] M o M' 0 0) → PW G l m_MO_cluster 75 [some (vR (some MK)), some (vI 1), some (vI w), some (vL (ljN V t (i - 1))), none, some (vI (nI i))] [] M o M' 0 0 := by
      intro w hw
      refine pw_aload_n d_MO_cluster_75 rfl ?_
      refine pw_aload_n d_MO_cluster_76 rfl ?_
      refine pw_getR d_MO_cluster_77 f_MO_53 rfl rfl (rfO hM rfl) ?_
      refine pw_iload d_MO_cluster_80 rfl ?_
      refine pw_iaN (n := i) d_MO_cluster_82 rfl (by omega) (by decide) ?_
      rw [r3 i _ hx]
      refine c_MO_cluster_83 rfl (Nat.le_of_ble_eq_true rfl) j1 ?_
      refine pw_lload_n d_MO_cluster_86 rfl ?_
      refine pw_lcmp d_MO_cluster_87 ?_
      have e : (if jV V (atL t i) < ljN V t (i - 1) then jV V (atL t i) else ljN V t (i - 1)) = ljN V t (i + 1 - 1) := by
        cases i with
        | zero =>
          show (if jV V (atL t 0) < jV V (atL t 0) then _ else _) = jV V (atL t 0)
          split <;> rfl
        | succ i => rfl
      by_cases hc : jV V (atL t i) < ljN V t (i - 1)
      · rw [if_pos hc] at e
        refine pw_if_ge (tgt := 105) d_MO_cluster_88 (by decide) (fun hQ => absurd hQ ((fun z => (lg_ge _ _).mp z hc))) (fun _ => ?_)
        refine pw_aload_n d_MO_cluster_91 rfl ?_
        refine pw_aload_n d_MO_cluster_92 rfl ?_
        refine pw_getR d_MO_cluster_93 f_MO_53 rfl rfl (rfO hM rfl) ?_
        refine pw_iload d_MO_cluster_96 rfl ?_
        refine pw_iaN (n := i) d_MO_cluster_98 rfl (by omega) (by decide) ?_
        rw [r3 i _ hx]
        refine c_MO_cluster_99 rfl (Nat.le_of_ble_eq_true rfl) j1 ?_
        refine pw_goto (tgt := 106) d_MO_cluster_102 (by decide) ?_
        refine pw_lstore_n d_MO_cluster_106 (by decide) ?_
        dsimp only [stL, kil, isL, cat]
        refine pw_iinc (1) d_MO_cluster_107 rfl (by decide) (by decide) ?_
        dsimp only [stL, kil, isL, cat]
        refine pw_goto (tgt := 34) d_MO_cluster_110 (by decide) ?_
        rw [nI_1]
        exact hw _ e
      · rw [if_neg hc] at e
        refine pw_if_ge (tgt := 105) d_MO_cluster_88 (by decide) (fun _ => ?_) (fun hQ => absurd (((lg_ge _ _).mpr hc)) hQ)
        refine pw_lload_n d_MO_cluster_105 rfl ?_
        refine pw_lstore_n d_MO_cluster_106 (by decide) ?_
        dsimp only [stL, kil, isL, cat]
        refine pw_iinc (1) d_MO_cluster_107 rfl (by decide) (by decide) ?_
        dsimp only [stL, kil, isL, cat]
        refine pw_goto (tgt := 34) d_MO_cluster_110 (by decide) ?_
        rw [nI_1]
        exact hw _ e
    refine pw_iload d_MO_cluster_34 rfl ?_
    refine pw_aload_n d_MO_cluster_36 rfl ?_
    refine pw_getI d_MO_cluster_37 f_MO_219 rfl rfl ?_
    rw [r1]
    refine pw_icmp_ge (tgt := 113) d_MO_cluster_40 (by decide) (fun hQ => absurd hQ (nI_ge hi (by omega))) (fun _ => ?_)
    refine pw_aload_n d_MO_cluster_43 rfl ?_
    refine pw_aload_n d_MO_cluster_44 rfl ?_
    refine pw_getR d_MO_cluster_45 f_MO_53 rfl rfl (rfO hM rfl) ?_
    refine pw_iload d_MO_cluster_48 rfl ?_
    refine pw_iaN (n := i) d_MO_cluster_50 rfl (by omega) (by decide) ?_
    rw [r3 i _ hx]
    refine c_MO_cluster_51 rfl (Nat.le_of_ble_eq_true rfl) s1 ?_
    refine pw_aload_n d_MO_cluster_54 rfl ?_
    refine pw_aload_n d_MO_cluster_55 rfl ?_
    refine pw_getR d_MO_cluster_56 f_MO_53 rfl rfl (rfO hM rfl) ?_
    refine pw_iload_n d_MO_cluster_59 rfl ?_
    refine pw_iaN (n := wst (fun k => spA V t (atL t k)) i) d_MO_cluster_60 rfl (by omega) (by decide) ?_
    rw [r3 _ _ hwx]
    refine c_MO_cluster_61 rfl (Nat.le_of_ble_eq_true rfl) s2 ?_
    refine pw_lcmp d_MO_cluster_64 ?_
    rw [wst] at ih
    by_cases hc : spA V t (atL t i) < spA V t (atL t (wst (fun k => spA V t (atL t k)) i))
    · refine pw_if_lt (tgt := 73) d_MO_cluster_65 (by decide) (fun _ => ?_) (fun hQ => absurd (((lg_lt _ _).mpr hc)) hQ)
      refine pw_iload_n d_MO_cluster_73 rfl ?_
      refine pw_istore_n d_MO_cluster_74 (by decide) ?_
      dsimp only [stL, kil, isL, cat]
      rw [if_pos hc] at ih
      exact half _ (fun L e => by rw [e]; exact ih)
    · refine pw_if_lt (tgt := 73) d_MO_cluster_65 (by decide) (fun hQ => absurd hQ ((fun z => hc ((lg_lt _ _).mp z)))) (fun _ => ?_)
      refine pw_iload d_MO_cluster_68 rfl ?_
      refine pw_goto (tgt := 74) d_MO_cluster_70 (by decide) ?_
      refine pw_istore_n d_MO_cluster_74 (by decide) ?_
      dsimp only [stL, kil, isL, cat]
      rw [if_neg hc] at ih
      exact half _ (fun L e => by rw [e]; exact ih)
theorem lp_clu2 (hM : M.2.2.1 = rf) (w n : Nat) (hn : n ≤ 8) (hw : w < n) (hl : M.1 MK 32 = nI n) (f : Nat → Int32) (L : Int64) (o : PO) (M' : Mem)
    (hend : PW G l m_MO_cluster 174 [some (vR (some MK)), some (vI 1), some (vI (nI w)), some (vL L), none, some (vI (nI n))] [] (oI M (0, 35) (sd f w (n - 1))) o M' 0 0) :
    ∀ i, i ≤ n → w + 1 ≤ i → PW G l m_MO_cluster 139 [some (vR (some MK)), some (vI 1), some (vI (nI w)), some (vL L), none, some (vI (nI i))] [] (oI M (0, 35) (sd f w (i - 1))) o M' 0 0 := by
  have hr : ∀ f, (oI M (0, 35) f).2.2.1 = rf := fun _ => hM
  have h32 : ∀ f, (oI M (0, 35) f).1 MK 32 = nI n := fun f => by rw [← hl]; exact oI_ne (by decide)
  refine lpU ?_ ?_
  · intro _
    refine pw_iload d_MO_cluster_139 rfl ?_
    refine pw_aload_n d_MO_cluster_141 rfl ?_
    refine pw_getI d_MO_cluster_142 f_MO_219 rfl rfl ?_
    rw [h32]
    refine pw_icmp_ge (tgt := 174) d_MO_cluster_145 (by decide) (fun _ => ?_) (fun hQ => absurd (nI_le (Nat.le_refl _) (by omega)) hQ)
    exact hend
  · intro i hi ih hwi
    refine pw_iload d_MO_cluster_139 rfl ?_
    refine pw_aload_n d_MO_cluster_141 rfl ?_
    refine pw_getI d_MO_cluster_142 f_MO_219 rfl rfl ?_
    rw [h32]
    refine pw_icmp_ge (tgt := 174) d_MO_cluster_145 (by decide) (fun hQ => absurd hQ (nI_ge hi (by omega))) (fun _ => ?_)
    refine pw_iload_n d_MO_cluster_148 rfl ?_
    refine pw_if_eq (tgt := 174) d_MO_cluster_149 (by decide) (fun hQ => absurd hQ ((by decide))) (fun _ => ?_)
    refine pw_aload_n d_MO_cluster_152 rfl ?_
    refine pw_getR d_MO_cluster_153 f_MO_53 rfl rfl (rfO (hr _) rfl) ?_
    refine pw_iload d_MO_cluster_156 rfl ?_
    refine pw_iconst 1 d_MO_cluster_158 (by decide) ?_
    refine pw_isub d_MO_cluster_159 ?_
    rw [show nI i - 1 = nI (i - 1) from pk_sub (b := 1) (by omega)]
    refine pw_aload_n d_MO_cluster_160 rfl ?_
    refine pw_getR d_MO_cluster_161 f_MO_53 rfl rfl (rfO (hr _) rfl) ?_
    refine pw_iload d_MO_cluster_164 rfl ?_
    refine pw_iaN (n := i) d_MO_cluster_166 rfl (by omega) (by decide) ?_
    refine pw_isN (n := i - 1) d_MO_cluster_167 rfl (by omega) (by decide) ?_
    rw [oI_at, sI_oI]
    have e := sd_step f w (i - 1) (by omega)
    rw [show i - 1 + 1 = i by omega] at e
    rw [e]
    refine pw_iinc (1) d_MO_cluster_168 rfl (by decide) (by decide) ?_
    dsimp only [stL, kil, isL, cat]
    refine pw_goto (tgt := 139) d_MO_cluster_171 (by decide) ?_
    rw [nI_1]
    exact ih (by omega)
theorem lp_clu (hM : M.2.2.1 = rf) {cm : Nat → Nat} (hP : MPs M cm) (V : VV) (hV : V = mVV M cm) : ∀ k t N (x2 x3 x5 : Option PV), t.length ≤ k + 3 → FX M N → ModL N t → (∀ x ∈ t, (x < 8 ∧ 0 < cm x) ∧ oB (oV V x)) → isL x2 = false → isL x5 = false → ∃ N', (FX M N' ∧ ModL N' (thN V k t)) ∧ PW G l m_MO_cluster 14 [some (vR (some MK)), some (vI (if 3 < t.length then 1 else 0)), x2, x3, none, x5] [] N rV N' 0 0 := by
  intro k
  induction k with
  | zero =>
    intro t N x2 x3 x5 hk hF hL ht _ _
    refine ⟨N, ⟨hF, hL⟩, ?_⟩
    rw [if_neg (by omega)]
    refine pw_iload_n d_MO_cluster_14 rfl ?_
    refine pw_if_eq (tgt := 216) d_MO_cluster_15 (by decide) (fun _ => ?_) (fun hQ => absurd (rfl) hQ)
    refine pw_return d_MO_cluster_216 rfl ?_ ?_
    · rfl
    · rfl
  | succ k ih =>
    intro t N x2 x3 x5 hk hF hL ht h2 h5
    by_cases h3 : 3 < t.length
    · rw [if_pos h3]
      have hN := hF.rf hM
      have hPN := sm_mps hF.sm hP
      have hVN : V = mVV N cm := by rw [sm_mVV hF.sm]; exact hV
      have hx0 := atL_get (l := t) (i := 0) (by omega)
      obtain ⟨⟨a1, a2⟩, a3⟩ := ht _ (get_mem hx0)
      have j0 := mo_jiV (G := G) (l := l) hN hPN a1 a2
      rw [← hVN] at j0
      have hwl : thW V t < t.length := wst_lt _ _ (by omega)
      have hwx := atL_get hwl
      have s2 := mo_spr (G := G) (l := l) hN hPN V hVN t hL ht _ (get_mem hwx) (by omega)
      obtain ⟨r1, r2, r3⟩ := hL
      by_cases hc : spA V t (atL t (thW V t)) < ljN V t (t.length - 1)
      · refine ⟨N, ⟨hF, ?_⟩, ?_⟩
        · rw [thN, if_neg (fun z => z.2 hc)]
          exact ⟨r1, r2, r3⟩
        · refine pw_iload_n d_MO_cluster_14 rfl ?_
          refine pw_if_eq (tgt := 216) d_MO_cluster_15 (by decide) (fun hQ => absurd hQ ((by decide))) (fun _ => ?_)
          refine pw_iconst 0 d_MO_cluster_18 (by decide) ?_
          refine pw_istore_n d_MO_cluster_19 (by decide) ?_
          dsimp only [stL, kil, isL, cat]
          refine pw_aload_n d_MO_cluster_20 rfl ?_
          refine pw_aload_n d_MO_cluster_21 rfl ?_
          refine pw_getR d_MO_cluster_22 f_MO_53 rfl rfl (rfO hN rfl) ?_
          refine pw_iconst 0 d_MO_cluster_25 (by decide) ?_
          refine pw_iaN (n := 0) d_MO_cluster_26 rfl (by omega) (by decide) ?_
          rw [r3 0 _ hx0]
          refine c_MO_cluster_27 rfl (Nat.le_of_ble_eq_true rfl) j0 ?_
          refine pw_lstore_n d_MO_cluster_30 (by decide) ?_
          dsimp only [stL, kil, isL, cat]
          refine pw_iconst 0 d_MO_cluster_31 (by decide) ?_
          refine pw_istore d_MO_cluster_32 (by decide) ?_
          dsimp only [stL, kil, isL, cat]
          refine lp_clu1 hN hPN V hVN t ⟨r1, r2, r3⟩ ht h3 _ _ ?_ 0 (by omega)
          refine pw_aload_n d_MO_cluster_113 rfl ?_
          refine pw_aload_n d_MO_cluster_114 rfl ?_
          refine pw_getR d_MO_cluster_115 f_MO_53 rfl rfl (rfO hN rfl) ?_
          refine pw_iload_n d_MO_cluster_118 rfl ?_
          refine pw_iaN (n := thW V t) d_MO_cluster_119 rfl (by omega) (by decide) ?_
          rw [r3 _ _ hwx]
          refine c_MO_cluster_120 rfl (Nat.le_of_ble_eq_true rfl) s2 ?_
          refine pw_lload_n d_MO_cluster_123 rfl ?_
          refine pw_lcmp d_MO_cluster_124 ?_
          refine pw_if_lt (tgt := 132) d_MO_cluster_125 (by decide) (fun _ => ?_) (fun hQ => absurd (((lg_lt _ _).mpr hc)) hQ)
          refine pw_iconst 0 d_MO_cluster_132 (by decide) ?_
          refine pw_istore_n d_MO_cluster_133 (by decide) ?_
          dsimp only [stL, kil, isL, cat]
          refine pw_iload_n d_MO_cluster_134 rfl ?_
          refine pw_iconst 1 d_MO_cluster_135 (by decide) ?_
          refine pw_iadd d_MO_cluster_136 ?_
          rw [nI_1]
          have tail : PW G l m_MO_cluster 174 [some (vR (some MK)), some (vI 0), some (vI (nI (thW V t))), some (vL (ljN V t (t.length - 1))), none, some (vI (nI (thW V t + 1)))] [] N rV N 0 0 := by
            refine pw_aload_n d_MO_cluster_174 rfl ?_
            refine pw_iload_n d_MO_cluster_175 rfl ?_
            refine pw_if_eq (tgt := 188) d_MO_cluster_176 (by decide) (fun _ => ?_) (fun hQ => absurd (rfl) hQ)
            refine pw_aload_n d_MO_cluster_188 rfl ?_
            refine pw_getI d_MO_cluster_189 f_MO_219 rfl rfl ?_
            refine pw_putI d_MO_cluster_192 f_MO_219 rfl rfl rfl ?_
            rw [sI_self]
            refine pw_iload_n d_MO_cluster_195 rfl ?_
            refine pw_if_eq (tgt := 211) d_MO_cluster_196 (by decide) (fun _ => ?_) (fun hQ => absurd (rfl) hQ)
            refine pw_iconst 0 d_MO_cluster_211 (by decide) ?_
            refine pw_istore_n d_MO_cluster_212 (by decide) ?_
            dsimp only [stL, kil, isL, cat]
            refine pw_goto (tgt := 14) d_MO_cluster_213 (by decide) ?_
            refine pw_iload_n d_MO_cluster_14 rfl ?_
            refine pw_if_eq (tgt := 216) d_MO_cluster_15 (by decide) (fun _ => ?_) (fun hQ => absurd (rfl) hQ)
            refine pw_return d_MO_cluster_216 rfl ?_ ?_
            · rfl
            · rfl
          refine pw_istore d_MO_cluster_137 (by decide) ?_
          dsimp only [stL, kil, isL, cat]
          refine pw_iload d_MO_cluster_139 rfl ?_
          refine pw_aload_n d_MO_cluster_141 rfl ?_
          refine pw_getI d_MO_cluster_142 f_MO_219 rfl rfl ?_
          refine pw_icmp_ge (tgt := 174) d_MO_cluster_145 (by decide) (fun h7 => ?_) (fun h7 => ?_)
          · exact tail
          · refine pw_iload_n d_MO_cluster_148 rfl ?_
            refine pw_if_eq (tgt := 174) d_MO_cluster_149 (by decide) (fun _ => ?_) (fun hQ => absurd (rfl) hQ)
            exact tail
      · have hRK : ModL (sI (oI N (0, 35) (sd (N.1 (0, 35)) (thW V t) (t.length - 1))) MK 32 (nI (t.length - 1))) (t.eraseIdx (thW V t)) := by
          refine ⟨by rw [sI_s, List.length_eraseIdx, if_pos hwl], by rw [List.length_eraseIdx, if_pos hwl]; omega, fun i x hx => ?_⟩
          rw [List.getElem?_eraseIdx] at hx
          rw [show ∀ (K : Mem) y, (sI K MK 32 y).1 (0, 35) i = K.1 (0, 35) i from fun K y => by simp [sI], oI_at]
          unfold sd
          by_cases h : i < thW V t
          · rw [if_pos h] at hx
            rw [if_neg (by omega)]
            exact r3 i x hx
          · rw [if_neg h] at hx
            have := get_ltI hx
            rw [if_pos (by omega)]
            exact r3 (i + 1) x hx
        have hFK : FX N (sI (oI N (0, 35) (sd (N.1 (0, 35)) (thW V t) (t.length - 1))) MK 32 (nI (t.length - 1))) := by
          refine FX.trans (N := oI N (0, 35) (sd (N.1 (0, 35)) (thW V t) (t.length - 1))) ⟨rfl, fun k _ h2 => ⟨by funext i; exact oI_ne h2, rfl⟩, fun i _ => oI_ne (by decide), rfl⟩ FX_n
        have hel : (t.eraseIdx (thW V t)).length = t.length - 1 := by rw [List.length_eraseIdx, if_pos hwl]
        obtain ⟨N', hX, hw⟩ := ih (t.eraseIdx (thW V t)) _ (some (vI (nI (thW V t)))) (some (vL (ljN V t (t.length - 1)))) (some (vI (nI t.length))) (by omega) (hF.trans hFK) hRK (fun x hx => ht x (List.mem_of_mem_eraseIdx hx)) rfl rfl
        refine ⟨N', ⟨hX.1, ?_⟩, ?_⟩
        · rw [thN, if_pos ⟨h3, hc⟩]
          exact hX.2
        · refine pw_iload_n d_MO_cluster_14 rfl ?_
          refine pw_if_eq (tgt := 216) d_MO_cluster_15 (by decide) (fun hQ => absurd hQ ((by decide))) (fun _ => ?_)
          refine pw_iconst 0 d_MO_cluster_18 (by decide) ?_
          refine pw_istore_n d_MO_cluster_19 (by decide) ?_
          dsimp only [stL, kil, isL, cat]
          refine pw_aload_n d_MO_cluster_20 rfl ?_
          refine pw_aload_n d_MO_cluster_21 rfl ?_
          refine pw_getR d_MO_cluster_22 f_MO_53 rfl rfl (rfO hN rfl) ?_
          refine pw_iconst 0 d_MO_cluster_25 (by decide) ?_
          refine pw_iaN (n := 0) d_MO_cluster_26 rfl (by omega) (by decide) ?_
          rw [r3 0 _ hx0]
          refine c_MO_cluster_27 rfl (Nat.le_of_ble_eq_true rfl) j0 ?_
          refine pw_lstore_n d_MO_cluster_30 (by decide) ?_
          dsimp only [stL, kil, isL, cat]
          refine pw_iconst 0 d_MO_cluster_31 (by decide) ?_
          refine pw_istore d_MO_cluster_32 (by decide) ?_
          dsimp only [stL, kil, isL, cat]
          refine lp_clu1 hN hPN V hVN t ⟨r1, r2, r3⟩ ht h3 _ _ ?_ 0 (by omega)
          refine pw_aload_n d_MO_cluster_113 rfl ?_
          refine pw_aload_n d_MO_cluster_114 rfl ?_
          refine pw_getR d_MO_cluster_115 f_MO_53 rfl rfl (rfO hN rfl) ?_
          refine pw_iload_n d_MO_cluster_118 rfl ?_
          refine pw_iaN (n := thW V t) d_MO_cluster_119 rfl (by omega) (by decide) ?_
          rw [r3 _ _ hwx]
          refine c_MO_cluster_120 rfl (Nat.le_of_ble_eq_true rfl) s2 ?_
          refine pw_lload_n d_MO_cluster_123 rfl ?_
          refine pw_lcmp d_MO_cluster_124 ?_
          refine pw_if_lt (tgt := 132) d_MO_cluster_125 (by decide) (fun hQ => absurd hQ ((fun z => hc ((lg_lt _ _).mp z)))) (fun _ => ?_)
          refine pw_iconst 1 d_MO_cluster_128 (by decide) ?_
          refine pw_goto (tgt := 133) d_MO_cluster_129 (by decide) ?_
          refine pw_istore_n d_MO_cluster_133 (by decide) ?_
          dsimp only [stL, kil, isL, cat]
          refine pw_iload_n d_MO_cluster_134 rfl ?_
          refine pw_iconst 1 d_MO_cluster_135 (by decide) ?_
          refine pw_iadd d_MO_cluster_136 ?_
          rw [nI_1]
          refine pw_istore d_MO_cluster_137 (by decide) ?_
          dsimp only [stL, kil, isL, cat]
          have q := lp_clu2 (G := G) (l := l) hN (thW V t) t.length r2 hwl r1 (N.1 (0, 35)) (ljN V t (t.length - 1)) rV N' ?_ (thW V t + 1) hwl (Nat.le_refl _)
          · rw [show thW V t + 1 - 1 = thW V t from rfl, sd_0, oI_self] at q
            exact q
          · have h32 : (oI N (0, 35) (sd (N.1 (0, 35)) (thW V t) (t.length - 1))).1 MK 32 = nI t.length := by rw [← r1]; exact oI_ne (by decide)
            refine pw_aload_n d_MO_cluster_174 rfl ?_
            refine pw_iload_n d_MO_cluster_175 rfl ?_
            refine pw_if_eq (tgt := 188) d_MO_cluster_176 (by decide) (fun hQ => absurd hQ ((by decide))) (fun _ => ?_)
            refine pw_aload_n d_MO_cluster_179 rfl ?_
            refine pw_getI d_MO_cluster_180 f_MO_219 rfl rfl ?_
            rw [h32]
            refine pw_iconst 1 d_MO_cluster_183 (by decide) ?_
            refine pw_isub d_MO_cluster_184 ?_
            rw [show nI t.length - 1 = nI (t.length - 1) from pk_sub (b := 1) (by omega)]
            refine pw_goto (tgt := 192) d_MO_cluster_185 (by decide) ?_
            refine pw_putI d_MO_cluster_192 f_MO_219 rfl rfl rfl ?_
            refine pw_iload_n d_MO_cluster_195 rfl ?_
            refine pw_if_eq (tgt := 211) d_MO_cluster_196 (by decide) (fun hQ => absurd hQ ((by decide))) (fun _ => ?_)
            refine pw_aload_n d_MO_cluster_199 rfl ?_
            refine pw_getI d_MO_cluster_200 f_MO_219 rfl rfl ?_
            rw [sI_s]
            refine pw_iconst 3 d_MO_cluster_203 (by decide) ?_
            rw [hel] at hw
            by_cases h4 : 3 < t.length - 1
            · rw [if_pos h4] at hw
              refine pw_icmp_le (tgt := 211) d_MO_cluster_204 (by decide) (fun hQ => absurd hQ (nI_ge (a := 3) h4 (by omega))) (fun _ => ?_)
              refine pw_iconst 1 d_MO_cluster_207 (by decide) ?_
              refine pw_goto (tgt := 212) d_MO_cluster_208 (by decide) ?_
              refine pw_istore_n d_MO_cluster_212 (by decide) ?_
              dsimp only [stL, kil, isL, cat]
              refine pw_goto (tgt := 14) d_MO_cluster_213 (by decide) ?_
              exact hw
            · rw [if_neg h4] at hw
              refine pw_icmp_le (tgt := 211) d_MO_cluster_204 (by decide) (fun _ => ?_) (fun hQ => absurd (nI_le (b := 3) (by omega) (by omega)) hQ)
              refine pw_iconst 0 d_MO_cluster_211 (by decide) ?_
              refine pw_istore_n d_MO_cluster_212 (by decide) ?_
              dsimp only [stL, kil, isL, cat]
              refine pw_goto (tgt := 14) d_MO_cluster_213 (by decide) ?_
              exact hw
    · refine ⟨N, ⟨hF, ?_⟩, ?_⟩
      · rw [thN, if_neg (fun z => h3 z.1)]
        exact hL
      · rw [if_neg h3]
        refine pw_iload_n d_MO_cluster_14 rfl ?_
        refine pw_if_eq (tgt := 216) d_MO_cluster_15 (by decide) (fun _ => ?_) (fun hQ => absurd (rfl) hQ)
        refine pw_return d_MO_cluster_216 rfl ?_ ?_
        · rfl
        · rfl
theorem mo_cluster (hM : M.2.2.1 = rf) {cm : Nat → Nat} (hP : MPs M cm) (V : VV) (hV : V = mVV M cm) (t : List Nat) (hL : ModL M t) (ht : ∀ x ∈ t, (x < 8 ∧ 0 < cm x) ∧ oB (oV V x)) : ∃ N, FX M N ∧ ModL N (thN V 8 t) ∧ PM G l m_MO_cluster [vR (some MK)] M rV N 0 0 := by
  have r2 := hL.2.1
  obtain ⟨N, ⟨h1, h2⟩, hw⟩ := lp_clu (G := G) (l := l) hM hP V hV 8 t M none none none (by omega) FX.rfl' hL ht rfl rfl
  refine ⟨N, h1, h2, ?_⟩
  refine pm_in [some (vR (some MK)), none, none, none, none, none] rfl ?_
  refine pw_aload_n d_MO_cluster_0 rfl ?_
  refine pw_getI d_MO_cluster_1 f_MO_219 rfl rfl ?_
  rw [hL.1]
  refine pw_iconst 3 d_MO_cluster_4 (by decide) ?_
  by_cases h3 : 3 < t.length
  · rw [if_pos h3] at hw
    refine pw_icmp_le (tgt := 12) d_MO_cluster_5 (by decide) (fun hQ => absurd hQ (nI_ge (a := 3) h3 (by omega))) (fun _ => ?_)
    refine pw_iconst 1 d_MO_cluster_8 (by decide) ?_
    refine pw_goto (tgt := 13) d_MO_cluster_9 (by decide) ?_
    refine pw_istore_n d_MO_cluster_13 (by decide) ?_
    dsimp only [stL, kil, isL, cat]
    exact hw
  · rw [if_neg h3] at hw
    refine pw_icmp_le (tgt := 12) d_MO_cluster_5 (by decide) (fun _ => ?_) (fun hQ => absurd (nI_le (b := 3) (by omega) (by omega)) hQ)
    refine pw_iconst 0 d_MO_cluster_12 (by decide) ?_
    refine pw_istore_n d_MO_cluster_13 (by decide) ?_
    dsimp only [stL, kil, isL, cat]
    exact hw
end MC
