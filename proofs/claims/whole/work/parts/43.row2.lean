/-! the row: spreads, jitters, the mean -/
theorem sm_fold {g h : Nat → Int64} {ns : List Nat} (hg : ∀ j x, ns[j]? = some x → g j = h x) : ∀ k, k ≤ ns.length → smL g k = (ns.take k).foldl (fun s y => s + h y) 0
  | 0, _ => by rw [List.take_zero]; rfl
  | k + 1, hk => by
    obtain ⟨x, hx⟩ := get_lt (show k < ns.length from hk)
    rw [smL, fold_take hx, ← sm_fold hg k (by omega), hg k x hx]
theorem i64_subS (a : Int64) : a - a = 0 := by apply Int64.toInt_inj.mp; rw [l_sub (by omega) (by omega)]; show _ = 0; omega
theorem sqL_0 (a : Int64) : sqL (a - a) = 0 := by rw [i64_subS]; decide
theorem spC_i {i : Nat} (hi : i < 8) : ∀ n, n ≤ 8 → spC (nI i) n = if i < n then n - 1 else n
  | 0, _ => rfl
  | n + 1, hn => by
    have ih := spC_i hi n (by omega)
    rw [spC, ih]
    by_cases e : n = i
    · subst e
      simp
    · rw [if_neg (fun q => e ((nI_eq (by omega) (by omega)).mp q))]
      by_cases h : i < n
      · rw [if_pos h, if_pos (by omega)]; omega
      · rw [if_neg h, if_neg (by omega)]
theorem nI_nm1 {j : Nat} (h : j < 2 ^ 31) : ¬ nI j = -1 := fun q => by
  have := congrArg Int32.toInt q
  rw [nI_toInt h] at this
  have h2 : (-1 : Int32).toInt = -1 := by decide
  omega
theorem spC_m : ∀ n, n ≤ 8 → spC (-1) n = n
  | 0, _ => rfl
  | n + 1, hn => by rw [spC, spC_m n (by omega), if_neg (nI_nm1 (by omega))]
theorem sqs_b {V : VV} {ns : List Nat} {b : Int64} (hn : ns.length ≤ 8) (hB : ∀ x ∈ ns, oB (oV V x)) (hb : oB b) : 0 ≤ (sqs V b ns).toInt ∧ (sqs V b ns).toInt ≤ 2305843009213693952 := by
  have h := sm_fold (g := fun j => sqL (oV V (atL ns j) - b)) (h := fun x => sqL (oV V x - b)) (ns := ns) (fun j x hx => by simp only [atL_of hx]) ns.length (Nat.le_refl _)
  rw [List.take_length] at h
  have h2 := sm_b (f := fun j => sqL (oV V (atL ns j) - b)) ns.length hn (fun i hi => sqL_b (hB _ (get_mem (atL_get hi))) hb)
  rw [h] at h2
  unfold sqs
  omega
theorem i64_pn {x : Int64} (h : 0 < x) : ¬ x = 0 := fun z => by
  rw [z] at h
  exact absurd h (by decide)
section RW2
variable {G : GG} {l : Launch} {M : Mem} {V : VV} {ns : List Nat}
theorem spS_row (hR : RowL V M ns) {i x : Nat} (hx : ns[i]? = some x) : spS (M.2.1 (0, 11)) (oV V x) (nI i) ns.length = sqs V (oV V x) ns := by
  obtain ⟨h1, h2, h3⟩ := hR
  unfold spS sqs
  rw [sm_fold (h := fun y => sqL (oV V y - oV V x)) (ns := ns) _ _ (Nat.le_refl _), List.take_length]
  intro j y hy
  have hj := get_ltI hy
  have hi := get_ltI hx
  by_cases e : nI j = nI i
  · rw [nI_eq (by omega) (by omega)] at e
    subst e
    rw [hx] at hy
    rw [if_pos rfl, Option.some.inj hy, sqL_0]
  · rw [if_neg e, (h3 j y hy).2.2.1]
theorem pm_spreadAround (hM : M.2.2.1 = rf) (hR : RowL V M ns) (hB : ∀ x ∈ ns, oB (oV V x)) {i x : Nat} (hx : ns[i]? = some x) : PM G l m_RW_spreadAround [vR (some RWK), vI (nI i)] M (rL (spA V ns x)) M 0 0 := by
  have hi := get_ltI hx
  have hS := spS_row hR hx
  obtain ⟨h1, h2, h3⟩ := hR
  have hC : spC (nI i) ns.length = ns.length - 1 := by rw [spC_i (by omega) _ h2, if_pos hi]
  have hq := pm_spread (G := G) (l := l) (M := M) (0, 11) rfl ns.length h2 (oV V x) (nI i) (by
    rw [hS, hC]
    intro hz
    exact div_b (sqs_b h2 hB (hB x (get_mem hx))) (by omega) (by omega))
  refine pm_in [some (vR (some RWK)), some (vI (nI i))] rfl ?_
  refine pw_aload_n d_RW_spreadAround_0 rfl ?_
  refine pw_getR d_RW_spreadAround_1 f_RW_18 rfl rfl (rfO hM rfl) ?_
  refine pw_aload_n d_RW_spreadAround_4 rfl ?_
  refine pw_getI d_RW_spreadAround_5 f_RW_28 rfl rfl ?_
  rw [h1]
  refine pw_aload_n d_RW_spreadAround_8 rfl ?_
  refine pw_getR d_RW_spreadAround_9 f_RW_18 rfl rfl (rfO hM rfl) ?_
  refine pw_iload_n d_RW_spreadAround_12 rfl ?_
  refine pw_laN (n := i) d_RW_spreadAround_13 rfl (by omega) (by decide) ?_
  rw [(h3 i x hx).2.2.1]
  refine pw_iload_n d_RW_spreadAround_14 rfl ?_
  refine c_RW_spreadAround_15 (Nat.le_of_ble_eq_true rfl) hq ?_
  refine pw_lreturn d_RW_spreadAround_18 rfl ?_ ?_
  · unfold spV spA
    rw [hS, hC]
  · rfl
theorem lp_place (hM : M.2.2.1 = rf) (hR : RowL V M ns) (hB : ∀ x ∈ ns, oB (oV V x)) : ∀ i, i ≤ ns.length → 1 ≤ i → ∀ x : Option PV, PW G l m_RW_placeOfGreatestSpread 11 [some (vR (some RWK)), some (vI (nI (wst (fun k => spA V ns (atL ns k)) i))), some (vL (spA V ns (atL ns (wst (fun k => spA V ns (atL ns k)) i)))), none, some (vI (nI i)), x, none] [] M (rI (nI (wst (fun k => spA V ns (atL ns k)) ns.length))) M 0 0 := by
  have hR' := hR
  obtain ⟨h1, h2, h3⟩ := hR
  refine lpU ?_ ?_
  · intro _ x
    refine pw_iload d_RW_placeOfGreatestSpread_11 rfl ?_
    refine pw_aload_n d_RW_placeOfGreatestSpread_13 rfl ?_
    refine pw_getI d_RW_placeOfGreatestSpread_14 f_RW_28 rfl rfl ?_
    rw [h1]
    refine pw_icmp_ge (tgt := 47) d_RW_placeOfGreatestSpread_17 (by decide) (fun _ => ?_) (fun hQ => absurd (nI_le (Nat.le_refl _) (by omega)) hQ)
    refine pw_iload_n d_RW_placeOfGreatestSpread_47 rfl ?_
    refine pw_ireturn d_RW_placeOfGreatestSpread_48 rfl ?_ ?_
    · rfl
    · rfl
  · intro i hi ih hi1 x
    have hx := atL_get hi
    refine pw_iload d_RW_placeOfGreatestSpread_11 rfl ?_
    refine pw_aload_n d_RW_placeOfGreatestSpread_13 rfl ?_
    refine pw_getI d_RW_placeOfGreatestSpread_14 f_RW_28 rfl rfl ?_
    rw [h1]
    refine pw_icmp_ge (tgt := 47) d_RW_placeOfGreatestSpread_17 (by decide) (fun hQ => absurd hQ (nI_ge hi (by omega))) (fun _ => ?_)
    refine pw_aload_n d_RW_placeOfGreatestSpread_20 rfl ?_
    refine pw_iload d_RW_placeOfGreatestSpread_21 rfl ?_
    refine c_RW_placeOfGreatestSpread_23 rfl (Nat.le_of_ble_eq_true rfl) (pm_spreadAround hM hR' hB hx) ?_
    refine pw_lstore d_RW_placeOfGreatestSpread_26 (by decide) ?_
    dsimp only [stL, kil, isL, cat]
    refine pw_lload d_RW_placeOfGreatestSpread_28 rfl ?_
    refine pw_lload_n d_RW_placeOfGreatestSpread_30 rfl ?_
    refine pw_lcmp d_RW_placeOfGreatestSpread_31 ?_
    have q := ih (by omega) (some (vL (spA V ns (atL ns i))))
    rw [wst] at q
    refine pw_if_lt (tgt := 41) d_RW_placeOfGreatestSpread_32 (by decide) (fun h => ?_) (fun h => ?_)
    · rw [lg_lt] at h
      refine pw_iinc (1) d_RW_placeOfGreatestSpread_41 rfl (by decide) (by decide) ?_
      dsimp only [stL, kil, isL, cat]
      refine pw_goto (tgt := 11) d_RW_placeOfGreatestSpread_44 (by decide) ?_
      rw [nI_1]
      rw [if_pos h] at q
      exact q
    · rw [lg_lt] at h
      refine pw_lload d_RW_placeOfGreatestSpread_35 rfl ?_
      refine pw_lstore_n d_RW_placeOfGreatestSpread_37 (by decide) ?_
      dsimp only [stL, kil, isL, cat]
      refine pw_iload d_RW_placeOfGreatestSpread_38 rfl ?_
      refine pw_istore_n d_RW_placeOfGreatestSpread_40 (by decide) ?_
      dsimp only [stL, kil, isL, cat]
      refine pw_iinc (1) d_RW_placeOfGreatestSpread_41 rfl (by decide) (by decide) ?_
      dsimp only [stL, kil, isL, cat]
      refine pw_goto (tgt := 11) d_RW_placeOfGreatestSpread_44 (by decide) ?_
      rw [nI_1]
      rw [if_neg h] at q
      exact q
theorem pm_place (hM : M.2.2.1 = rf) (hR : RowL V M ns) (hB : ∀ x ∈ ns, oB (oV V x)) (h0 : 0 < ns.length) : PM G l m_RW_placeOfGreatestSpread [vR (some RWK)] M (rI (nI (wst (fun k => spA V ns (atL ns k)) ns.length))) M 0 0 := by
  refine pm_in [some (vR (some RWK)), none, none, none, none, none, none] rfl ?_
  have hx := atL_get h0
  have q := lp_place (G := G) (l := l) hM hR hB 1 h0 (by omega) none
  have e : wst (fun k => spA V ns (atL ns k)) 1 = 0 := by rw [wst, wst]; split <;> rfl
  rw [e] at q
  refine pw_iconst 0 d_RW_placeOfGreatestSpread_0 (by decide) ?_
  refine pw_istore_n d_RW_placeOfGreatestSpread_1 (by decide) ?_
  dsimp only [stL, kil, isL, cat]
  refine pw_aload_n d_RW_placeOfGreatestSpread_2 rfl ?_
  refine pw_iconst 0 d_RW_placeOfGreatestSpread_3 (by decide) ?_
  refine c_RW_placeOfGreatestSpread_4 rfl (Nat.le_of_ble_eq_true rfl) (pm_spreadAround hM hR hB hx) ?_
  refine pw_lstore_n d_RW_placeOfGreatestSpread_7 (by decide) ?_
  dsimp only [stL, kil, isL, cat]
  refine pw_iconst 1 d_RW_placeOfGreatestSpread_8 (by decide) ?_
  refine pw_istore d_RW_placeOfGreatestSpread_9 (by decide) ?_
  dsimp only [stL, kil, isL, cat]
  exact q
theorem lp_least (hM : M.2.2.1 = rf) (hR : RowL V M ns) : ∀ i, i ≤ ns.length - 1 → PW G l m_RW_leastJitter 9 [some (vR (some RWK)), some (vL (ljN V ns i)), none, some (vI (nI (i + 1)))] [] M (rL (ljN V ns (ns.length - 1))) M 0 0 := by
  obtain ⟨h1, h2, h3⟩ := hR
  refine lpU ?_ ?_
  · refine pw_iload_n d_RW_leastJitter_9 rfl ?_
    refine pw_aload_n d_RW_leastJitter_10 rfl ?_
    refine pw_getI d_RW_leastJitter_11 f_RW_28 rfl rfl ?_
    rw [h1]
    refine pw_icmp_ge (tgt := 34) d_RW_leastJitter_14 (by decide) (fun _ => ?_) (fun hQ => absurd (nI_le (by omega) (by omega)) hQ)
    refine pw_lload_n d_RW_leastJitter_34 rfl ?_
    refine pw_lreturn d_RW_leastJitter_35 rfl ?_ ?_
    · rfl
    · rfl
  · intro i hi ih
    have hx := atL_get (l := ns) (i := i + 1) (by omega)
    refine pw_iload_n d_RW_leastJitter_9 rfl ?_
    refine pw_aload_n d_RW_leastJitter_10 rfl ?_
    refine pw_getI d_RW_leastJitter_11 f_RW_28 rfl rfl ?_
    rw [h1]
    refine pw_icmp_ge (tgt := 34) d_RW_leastJitter_14 (by decide) (fun hQ => absurd hQ (nI_ge (by omega) (by omega))) (fun _ => ?_)
    refine pw_lload_n d_RW_leastJitter_17 rfl ?_
    refine pw_aload_n d_RW_leastJitter_18 rfl ?_
    refine pw_getR d_RW_leastJitter_19 f_RW_25 rfl rfl (rfO hM rfl) ?_
    refine pw_iload_n d_RW_leastJitter_22 rfl ?_
    refine pw_laN (n := i + 1) d_RW_leastJitter_23 rfl (by omega) (by decide) ?_
    rw [(h3 _ _ hx).2.2.2.2]
    refine c_RW_leastJitter_24 (Nat.le_of_ble_eq_true rfl) (pm_min_JJ _ _) ?_
    refine pw_lstore_n d_RW_leastJitter_27 (by decide) ?_
    dsimp only [stL, kil, isL, cat]
    refine pw_iinc (1) d_RW_leastJitter_28 rfl (by decide) (by decide) ?_
    dsimp only [stL, kil, isL, cat]
    refine pw_goto (tgt := 9) d_RW_leastJitter_31 (by decide) ?_
    rw [nI_1]
    exact ih
theorem pm_least (hM : M.2.2.1 = rf) (hR : RowL V M ns) (h0 : 0 < ns.length) : PM G l m_RW_leastJitter [vR (some RWK)] M (rL (ljN V ns (ns.length - 1))) M 0 0 := by
  refine pm_in [some (vR (some RWK)), none, none, none] rfl ?_
  have hx := atL_get h0
  have q := lp_least (G := G) (l := l) hM hR 0 (by omega)
  obtain ⟨h1, h2, h3⟩ := hR
  refine pw_aload_n d_RW_leastJitter_0 rfl ?_
  refine pw_getR d_RW_leastJitter_1 f_RW_25 rfl rfl (rfO hM rfl) ?_
  refine pw_iconst 0 d_RW_leastJitter_4 (by decide) ?_
  refine pw_laN (n := 0) d_RW_leastJitter_5 rfl (by omega) (by decide) ?_
  rw [(h3 _ _ hx).2.2.2.2]
  refine pw_lstore_n d_RW_leastJitter_6 (by decide) ?_
  dsimp only [stL, kil, isL, cat]
  refine pw_iconst 1 d_RW_leastJitter_7 (by decide) ?_
  refine pw_istore_n d_RW_leastJitter_8 (by decide) ?_
  dsimp only [stL, kil, isL, cat]
  exact q
theorem lp_mean (hM : M.2.2.1 = rf) (hR : RowL V M ns) (hD : ∀ x ∈ ns, 0 < dV V x) (hW : 0 < mnW V ns) : ∀ i, i ≤ ns.length → ∀ x : Option PV, PW G l m_RW_meanOffset 7 [some (vR (some RWK)), some (vL (mnS V (ns.take i))), none, some (vL (mnW V (ns.take i))), none, some (vI (nI i)), x, none] [] M (rL (mnO V ns)) M 0 0 := by
  obtain ⟨h1, h2, h3⟩ := hR
  refine lpU ?_ ?_
  · intro x
    rw [List.take_length]
    refine pw_iload d_RW_meanOffset_7 rfl ?_
    refine pw_aload_n d_RW_meanOffset_9 rfl ?_
    refine pw_getI d_RW_meanOffset_10 f_RW_28 rfl rfl ?_
    rw [h1]
    refine pw_icmp_ge (tgt := 75) d_RW_meanOffset_13 (by decide) (fun _ => ?_) (fun hQ => absurd (nI_le (Nat.le_refl _) (by omega)) hQ)
    refine pw_lload_n d_RW_meanOffset_75 rfl ?_
    refine pw_lconst 0 d_RW_meanOffset_76 (by decide) ?_
    refine pw_lcmp d_RW_meanOffset_77 ?_
    refine pw_if_le (tgt := 93) d_RW_meanOffset_78 (by decide) (fun hQ => absurd hQ ((fun z => (lg_le _ _).mp z hW))) (fun _ => ?_)
    refine pw_lload_n d_RW_meanOffset_81 rfl ?_
    refine pw_lload_n d_RW_meanOffset_82 rfl ?_
    refine c_RW_meanOffset_83 (Nat.le_of_ble_eq_true rfl) (pm_floorDiv _ _ (i64_pn hW)) ?_
    refine pw_ldc2 (4096) d_RW_meanOffset_86 g653 ?_
    refine pw_lmul d_RW_meanOffset_89 ?_
    refine pw_goto (tgt := 94) d_RW_meanOffset_90 (by decide) ?_
    refine pw_lreturn d_RW_meanOffset_94 rfl ?_ ?_
    · rw [fdv_flr hW]
      rfl
    · rfl
  · intro i hi ih x
    obtain ⟨y, hy⟩ := get_lt hi
    obtain ⟨g1, g2, g3, g4, g5⟩ := h3 i y hy
    have hd := hD y (get_mem hy)
    have q := ih (some (vL (wt V y)))
    unfold mnS mnW at q
    rw [fold_take hy, fold_take hy] at q
    refine pw_iload d_RW_meanOffset_7 rfl ?_
    refine pw_aload_n d_RW_meanOffset_9 rfl ?_
    refine pw_getI d_RW_meanOffset_10 f_RW_28 rfl rfl ?_
    rw [h1]
    refine pw_icmp_ge (tgt := 75) d_RW_meanOffset_13 (by decide) (fun hQ => absurd hQ (nI_ge hi (by omega))) (fun _ => ?_)
    refine pw_aload_n d_RW_meanOffset_16 rfl ?_
    refine pw_getR d_RW_meanOffset_17 f_RW_22 rfl rfl (rfO hM rfl) ?_
    refine pw_iload d_RW_meanOffset_20 rfl ?_
    refine pw_laN (n := i) d_RW_meanOffset_22 rfl (by omega) (by decide) ?_
    rw [g4]
    refine pw_lconst 0 d_RW_meanOffset_23 (by decide) ?_
    refine pw_lcmp d_RW_meanOffset_24 ?_
    refine pw_if_le (tgt := 42) d_RW_meanOffset_25 (by decide) (fun hQ => absurd hQ ((fun z => (lg_le _ _).mp z hd))) (fun _ => ?_)
    refine pw_ldc2 (70368744177664) d_RW_meanOffset_28 g652 ?_
    refine pw_aload_n d_RW_meanOffset_31 rfl ?_
    refine pw_getR d_RW_meanOffset_32 f_RW_22 rfl rfl (rfO hM rfl) ?_
    refine pw_iload d_RW_meanOffset_35 rfl ?_
    refine pw_laN (n := i) d_RW_meanOffset_37 rfl (by omega) (by decide) ?_
    rw [g4]
    refine pw_ldiv d_RW_meanOffset_38 (i64_pn hd) ?_
    refine pw_goto (tgt := 43) d_RW_meanOffset_39 (by decide) ?_
    refine pw_lstore d_RW_meanOffset_43 (by decide) ?_
    dsimp only [stL, kil, isL, cat]
    refine pw_lload_n d_RW_meanOffset_45 rfl ?_
    refine pw_aload_n d_RW_meanOffset_46 rfl ?_
    refine pw_getR d_RW_meanOffset_47 f_RW_18 rfl rfl (rfO hM rfl) ?_
    refine pw_iload d_RW_meanOffset_50 rfl ?_
    refine pw_laN (n := i) d_RW_meanOffset_52 rfl (by omega) (by decide) ?_
    rw [g3]
    refine pw_ldc2 (4096) d_RW_meanOffset_53 g653 ?_
    refine c_RW_meanOffset_56 (Nat.le_of_ble_eq_true rfl) (pm_floorDiv _ 4096 (by decide)) ?_
    rw [fdv_flr (by decide)]
    refine pw_lload d_RW_meanOffset_59 rfl ?_
    refine pw_lmul d_RW_meanOffset_61 ?_
    refine pw_ladd d_RW_meanOffset_62 ?_
    refine pw_lstore_n d_RW_meanOffset_63 (by decide) ?_
    dsimp only [stL, kil, isL, cat]
    refine pw_lload_n d_RW_meanOffset_64 rfl ?_
    refine pw_lload d_RW_meanOffset_65 rfl ?_
    refine pw_ladd d_RW_meanOffset_67 ?_
    refine pw_lstore_n d_RW_meanOffset_68 (by decide) ?_
    dsimp only [stL, kil, isL, cat]
    refine pw_iinc (1) d_RW_meanOffset_69 rfl (by decide) (by decide) ?_
    dsimp only [stL, kil, isL, cat]
    refine pw_goto (tgt := 7) d_RW_meanOffset_72 (by decide) ?_
    rw [nI_1]
    exact q
theorem pm_mean (hM : M.2.2.1 = rf) (hR : RowL V M ns) (hD : ∀ x ∈ ns, 0 < dV V x) (hW : 0 < mnW V ns) : PM G l m_RW_meanOffset [vR (some RWK)] M (rL (mnO V ns)) M 0 0 := by
  refine pm_in [some (vR (some RWK)), none, none, none, none, none, none, none] rfl ?_
  refine pw_lconst 0 d_RW_meanOffset_0 (by decide) ?_
  refine pw_lstore_n d_RW_meanOffset_1 (by decide) ?_
  dsimp only [stL, kil, isL, cat]
  refine pw_lconst 0 d_RW_meanOffset_2 (by decide) ?_
  refine pw_lstore_n d_RW_meanOffset_3 (by decide) ?_
  dsimp only [stL, kil, isL, cat]
  refine pw_iconst 0 d_RW_meanOffset_4 (by decide) ?_
  refine pw_istore d_RW_meanOffset_5 (by decide) ?_
  dsimp only [stL, kil, isL, cat]
  exact lp_mean hM hR hD hW 0 (by omega) none
end RW2
