/-! the row: gathered -/
def PEs (M : Mem) (cn : Nat → Nat) (os : Nat → Nat → Nat) : Prop := ∀ p, p < 8 → cn p ≤ 8 ∧ M.1 (PEK p) 6 = nI (cn p) ∧ oOK M p (cn p) (os p)
def cVV (M : Mem) (cn : Nat → Nat) (os : Nat → Nat → Nat) (u : Int32) : VV := (fun p => M.1 (PEK p) 3, fun p => M.2.1 (p + 1, 1) (os p 0), fun p => cDt M p (cn p) (os p) u, fun p => M.2.1 (PEK p) 7)
def cnd (M : Mem) (cn : Nat → Nat) (V : VV) (p : Nat) : Bool := decide (0 < cn p) && (decide (¬ M.1 (PEK p) 2 = 0) && decide (dV V p < 6442450944))
theorem nRow {p j : Nat} : ¬ isRow (p + 1, j) := fun h => by have := h.1; simp at this
theorem FR_cDt {M N : Mem} (h : FR M N) {p c : Nat} {o : Nat → Nat} {u : Int32} : cDt N p c o u = cDt M p c o u := by
  unfold cDt cDs cNw
  rw [(h.2 (p + 1, 0) nRow).2, (h.2 (p + 1, 2) nRow).2, (h.2 (p + 1, 3) nRow).2, (h.2 (p + 1, 4) nRow).1]
theorem FR_oOK {M N : Mem} (h : FR M N) {p c : Nat} {o : Nat → Nat} (ho : oOK M p c o) : oOK N p c o := fun pl hpl => by
  rw [(h.2 (p + 1, 5) nRow).1]
  exact ho pl hpl
section GA
variable {G : GG} {l : Launch} {M : Mem}
theorem row_push {V : VV} {ns : List Nat} {x : Nat} (hR : RowL V M ns) (hn : ns.length < 8) : RowL V (sI (sL (sL (sL (sI (sI M (0, 9) ns.length (nI x)) (0, 10) ns.length (sV V x)) (0, 11) ns.length (oV V x)) (0, 12) ns.length (dV V x)) (0, 13) ns.length (jV V x)) RWK 5 (nI (ns.length + 1))) (ns ++ [x]) := by
  obtain ⟨h1, h2, h3⟩ := hR
  refine ⟨by rw [sI_s]; simp, by simp; omega, ?_⟩
  intro i y hy
  by_cases e : i = ns.length
  · subst e
    have : y = x := by simpa using hy.symm
    subst this
    simp [sI, sL]
  · have hi : i < ns.length := by
      have := get_ltI hy
      simp at this
      omega
    rw [List.getElem?_append_left hi] at hy
    have := h3 i y hy
    simp [sI, sL, e]
    exact this
theorem lp_gather (hM : M.2.2.1 = rf) (cn : Nat → Nat) (os : Nat → Nat → Nat) (u : Int32) (hP : PEs M cn os) : ∀ i, i ≤ 8 → ∀ N (x4 x5 x6 : Option PV), isL x4 = false → isL x5 = false → FR M N → RowL (cVV M cn os u) N ((List.range i).filter (cnd M cn (cVV M cn os u))) → ∃ N', (FR M N' ∧ RowL (cVV M cn os u) N' ((List.range 8).filter (cnd M cn (cVV M cn os u)))) ∧ PW G l m_RW_gather 7 [some (vR (some RWK)), some (vR (some (0, 6))), some (vI u), some (vI (nI i)), x4, x5, x6, none] [] N rV N' 0 0 := by
  refine lpU ?_ ?_
  · intro N x4 x5 x6 _ _ hF hR
    refine ⟨N, ⟨hF, hR⟩, ?_⟩
    refine pw_iload_n d_RW_gather_7 rfl ?_
    refine pw_bipush (8) d_RW_gather_8 (by decide) ?_
    refine pw_icmp_ge (tgt := 149) d_RW_gather_10 (by decide) (fun _ => ?_) (fun hQ => absurd (nI_le (a := 8) (b := 8) (by omega) (by omega)) hQ)
    refine pw_return d_RW_gather_149 rfl ?_ ?_
    · rfl
    · rfl
  · intro i hi ih N x4 x5 x6 h4 h5 hF hR
    have hN := hF.rf hM
    obtain ⟨c1, c2, c3⟩ := hP i hi
    have c2' : N.1 (PEK i) 6 = nI (cn i) := by rw [(hF.2 (i + 1, 0) nRow).1]; exact c2
    have er : N.1 (PEK i) 2 = M.1 (PEK i) 2 := by rw [(hF.2 (i + 1, 0) nRow).1]
    have es : (List.range (i + 1)).filter (cnd M cn (cVV M cn os u)) = (List.range i).filter (cnd M cn (cVV M cn os u)) ++ (if cnd M cn (cVV M cn os u) i then [i] else []) := by
      rw [List.range_succ, List.filter_append, List.filter_cons, List.filter_nil]
    have hlen : ((List.range i).filter (cnd M cn (cVV M cn os u))).length < 8 := Nat.lt_of_le_of_lt (List.length_filter_le _ _) (by rw [List.length_range]; exact hi)
    -- not a candidate
    have skip : cnd M cn (cVV M cn os u) i = false → ∀ x4 x5 x6, isL x4 = false → isL x5 = false → ∃ N', (FR M N' ∧ RowL (cVV M cn os u) N' ((List.range 8).filter (cnd M cn (cVV M cn os u)))) ∧ PW G l m_RW_gather 7 [some (vR (some RWK)), some (vR (some (0, 6))), some (vI u), some (vI (nI (i + 1))), x4, x5, x6, none] [] N rV N' 0 0 := by
      intro hf x4 x5 x6 a4 a5
      rw [es, hf] at ih
      exact ih N x4 x5 x6 a4 a5 hF (by simpa using hR)
    by_cases h1 : 0 < cn i
    · by_cases h2 : M.1 (PEK i) 2 = 0
      · obtain ⟨N', hX, hw⟩ := skip (by unfold cnd; simp [h2]) (some (vR (some (i + 1, 0)))) (some (vI 0)) (some (vL 6442450944)) rfl rfl
        refine ⟨N', hX, ?_⟩
        refine pw_iload_n d_RW_gather_7 rfl ?_
        refine pw_bipush (8) d_RW_gather_8 (by decide) ?_
        refine pw_icmp_ge (tgt := 149) d_RW_gather_10 (by decide) (fun hQ => absurd hQ (nI_ge (b := 8) hi (by omega))) (fun _ => ?_)
        refine pw_aload_n d_RW_gather_13 rfl ?_
        refine pw_iload_n d_RW_gather_14 rfl ?_
        refine pw_aaload d_RW_gather_15 rfl (vp_in_nI hi (by decide)) (rfO hN (rf6 hi)) ?_
        refine pw_astore d_RW_gather_16 (by decide) ?_
        dsimp only [stL, kil, isL, cat]
        refine pw_aload d_RW_gather_18 rfl ?_
        refine pw_getI d_RW_gather_20 f_RW_32 rfl rfl ?_
        rw [c2']
        refine pw_if_le (tgt := 38) d_RW_gather_23 (by decide) (fun hQ => absurd hQ (nI_nle h1 (by omega))) (fun _ => ?_)
        refine pw_aload d_RW_gather_26 rfl ?_
        refine pw_getI d_RW_gather_28 f_RW_37 rfl rfl ?_
        rw [er, h2]
        refine pw_if_eq (tgt := 38) d_RW_gather_31 (by decide) (fun _ => ?_) (fun hQ => absurd (rfl) hQ)
        refine pw_iconst 0 d_RW_gather_38 (by decide) ?_
        refine pw_istore d_RW_gather_39 (by decide) ?_
        dsimp only [stL, kil, isL, cat]
        refine pw_iload d_RW_gather_41 rfl ?_
        refine pw_if_eq (tgt := 55) d_RW_gather_43 (by decide) (fun _ => ?_) (fun hQ => absurd (rfl) hQ)
        refine pw_ldc2 (6442450944) d_RW_gather_55 g562 ?_
        refine pw_lstore d_RW_gather_58 (by decide) ?_
        dsimp only [stL, kil, isL, cat]
        refine pw_lload d_RW_gather_60 rfl ?_
        refine pw_ldc2 (6442450944) d_RW_gather_62 g562 ?_
        refine pw_lcmp d_RW_gather_65 ?_
        refine pw_if_ge (tgt := 143) d_RW_gather_66 (by decide) (fun _ => ?_) (fun hQ => absurd ((by decide)) hQ)
        refine pw_iinc (1) d_RW_gather_143 rfl (by decide) (by decide) ?_
        dsimp only [stL, kil, isL, cat]
        refine pw_goto (tgt := 7) d_RW_gather_146 (by decide) ?_
        rw [nI_1]
        exact hw
      · have ed := FR_cDt hF (p := i) (c := cn i) (o := os i) (u := u)
        have hdist := pm_distance (G := G) (l := l) hN i (cn i) (os i) (FR_oOK hF c3) c1 h1 c2' u
        rw [ed] at hdist
        by_cases h3 : cDt M i (cn i) (os i) u < 6442450944
        · have hcn : cnd M cn (cVV M cn os u) i = true := by
            unfold cnd
            simp only [h1, h2, decide_true, not_false_eq_true, Bool.true_and, decide_eq_true_eq]
            exact h3
          rw [es, hcn] at ih
          have hpush := row_push (x := i) hR hlen
          obtain ⟨h1R, h2R, h3R⟩ := hR
          generalize hns : (List.range i).filter (cnd M cn (cVV M cn os u)) = ns at *
          have hFp : FR N (sI (sL (sL (sL (sI (sI N (0, 9) ns.length (nI i)) (0, 10) ns.length (sV (cVV M cn os u) i)) (0, 11) ns.length (oV (cVV M cn os u) i)) (0, 12) ns.length (dV (cVV M cn os u) i)) (0, 13) ns.length (jV (cVV M cn os u) i)) RWK 5 (nI (ns.length + 1))) :=
            (FR_sI (k := (0, 9)) (by unfold isRow; decide)).trans ((FR_sI (k := (0, 10)) (by unfold isRow; decide)).trans ((FR_sL (k := (0, 11)) (by unfold isRow; decide)).trans ((FR_sL (k := (0, 12)) (by unfold isRow; decide)).trans ((FR_sL (k := (0, 13)) (by unfold isRow; decide)).trans (FR_sI (k := RWK) (by unfold isRow; decide))))))
          obtain ⟨N', hX, hw⟩ := ih _ (some (vR (some (i + 1, 0)))) (some (vI 1)) (some (vL (cDt M i (cn i) (os i) u))) rfl rfl (hF.trans hFp) hpush
          refine ⟨N', hX, ?_⟩
          refine pw_iload_n d_RW_gather_7 rfl ?_
          refine pw_bipush (8) d_RW_gather_8 (by decide) ?_
          refine pw_icmp_ge (tgt := 149) d_RW_gather_10 (by decide) (fun hQ => absurd hQ (nI_ge (b := 8) hi (by omega))) (fun _ => ?_)
          refine pw_aload_n d_RW_gather_13 rfl ?_
          refine pw_iload_n d_RW_gather_14 rfl ?_
          refine pw_aaload d_RW_gather_15 rfl (vp_in_nI hi (by decide)) (rfO hN (rf6 hi)) ?_
          refine pw_astore d_RW_gather_16 (by decide) ?_
          dsimp only [stL, kil, isL, cat]
          refine pw_aload d_RW_gather_18 rfl ?_
          refine pw_getI d_RW_gather_20 f_RW_32 rfl rfl ?_
          rw [c2']
          refine pw_if_le (tgt := 38) d_RW_gather_23 (by decide) (fun hQ => absurd hQ (nI_nle h1 (by omega))) (fun _ => ?_)
          refine pw_aload d_RW_gather_26 rfl ?_
          refine pw_getI d_RW_gather_28 f_RW_37 rfl rfl ?_
          rw [er]
          refine pw_if_eq (tgt := 38) d_RW_gather_31 (by decide) (fun hQ => absurd hQ (h2)) (fun _ => ?_)
          refine pw_iconst 1 d_RW_gather_34 (by decide) ?_
          refine pw_goto (tgt := 39) d_RW_gather_35 (by decide) ?_
          refine pw_istore d_RW_gather_39 (by decide) ?_
          dsimp only [stL, kil, isL, cat]
          refine pw_iload d_RW_gather_41 rfl ?_
          refine pw_if_eq (tgt := 55) d_RW_gather_43 (by decide) (fun hQ => absurd hQ ((by decide))) (fun _ => ?_)
          refine pw_aload d_RW_gather_46 rfl ?_
          refine pw_iload_n d_RW_gather_48 rfl ?_
          refine c_RW_gather_49 rfl (Nat.le_of_ble_eq_true rfl) hdist ?_
          refine pw_goto (tgt := 58) d_RW_gather_52 (by decide) ?_
          refine pw_lstore d_RW_gather_58 (by decide) ?_
          dsimp only [stL, kil, isL, cat]
          refine pw_lload d_RW_gather_60 rfl ?_
          refine pw_ldc2 (6442450944) d_RW_gather_62 g562 ?_
          refine pw_lcmp d_RW_gather_65 ?_
          refine pw_if_ge (tgt := 143) d_RW_gather_66 (by decide) (fun hQ => absurd hQ ((fun z => (lg_ge _ _).mp z h3))) (fun _ => ?_)
          refine pw_aload_n d_RW_gather_69 rfl ?_
          refine pw_getR d_RW_gather_70 f_RW_9 rfl rfl (rfO hN rfl) ?_
          refine pw_aload_n d_RW_gather_73 rfl ?_
          refine pw_getI d_RW_gather_74 f_RW_28 rfl rfl ?_
          rw [h1R]
          refine pw_iload_n d_RW_gather_77 rfl ?_
          refine pw_isN (n := ns.length) d_RW_gather_78 rfl (by omega) (by decide) ?_
          refine pw_aload_n d_RW_gather_79 rfl ?_
          refine pw_getR d_RW_gather_80 f_RW_15 rfl rfl (rfO hN rfl) ?_
          refine pw_aload_n d_RW_gather_83 rfl ?_
          refine pw_getI d_RW_gather_84 f_RW_28 rfl rfl ?_
          simp (config := {decide := true}) only [rdII, rdLL, rdIL, rdLI, false_and, true_and, and_false, if_true, if_false]
          rw [h1R]
          refine pw_aload d_RW_gather_87 rfl ?_
          refine pw_getI d_RW_gather_89 f_RW_46 rfl rfl ?_
          rw [show (sI N (0, 9) ns.length (nI i)).1 (PEK i) 3 = sV (cVV M cn os u) i from by rw [← (show N.1 (PEK i) 3 = sV (cVV M cn os u) i from by rw [(hF.2 (i + 1, 0) nRow).1]; rfl)]; simp [sI]]
          refine pw_isN (n := ns.length) d_RW_gather_92 rfl (by omega) (by decide) ?_
          refine pw_aload_n d_RW_gather_93 rfl ?_
          refine pw_getR d_RW_gather_94 f_RW_18 rfl rfl (rfO hN rfl) ?_
          refine pw_aload_n d_RW_gather_97 rfl ?_
          refine pw_getI d_RW_gather_98 f_RW_28 rfl rfl ?_
          simp (config := {decide := true}) only [rdII, rdLL, rdIL, rdLI, false_and, true_and, and_false, if_true, if_false]
          rw [h1R]
          have hF2 : FR M (sI (sI N (0, 9) ns.length (nI i)) (0, 10) ns.length (sV (cVV M cn os u) i)) := hF.trans ((FR_sI (k := (0, 9)) (by unfold isRow; decide)).trans (FR_sI (k := (0, 10)) (by unfold isRow; decide)))
          have hoff := pm_offsetAt (G := G) (l := l) (hF2.rf hM) i (cn i) (os i) (FR_oOK hF2 c3) 0 h1 c1
          rw [(hF2.2 (i + 1, 1) nRow).2] at hoff
          refine pw_aload d_RW_gather_101 rfl ?_
          refine pw_iconst 0 d_RW_gather_103 (by decide) ?_
          refine c_RW_gather_104 rfl (Nat.le_of_ble_eq_true rfl) hoff ?_
          refine pw_lsN (n := ns.length) d_RW_gather_107 rfl (by omega) (by decide) ?_
          refine pw_aload_n d_RW_gather_108 rfl ?_
          refine pw_getR d_RW_gather_109 f_RW_22 rfl rfl (rfO hN rfl) ?_
          refine pw_aload_n d_RW_gather_112 rfl ?_
          refine pw_getI d_RW_gather_113 f_RW_28 rfl rfl ?_
          simp (config := {decide := true}) only [rdII, rdLL, rdIL, rdLI, false_and, true_and, and_false, if_true, if_false]
          rw [h1R]
          refine pw_lload d_RW_gather_116 rfl ?_
          refine pw_lsN (n := ns.length) d_RW_gather_118 rfl (by omega) (by decide) ?_
          refine pw_aload_n d_RW_gather_119 rfl ?_
          refine pw_getR d_RW_gather_120 f_RW_25 rfl rfl (rfO hN rfl) ?_
          refine pw_aload_n d_RW_gather_123 rfl ?_
          refine pw_getI d_RW_gather_124 f_RW_28 rfl rfl ?_
          simp (config := {decide := true}) only [rdII, rdLL, rdIL, rdLI, false_and, true_and, and_false, if_true, if_false]
          rw [h1R]
          refine pw_aload d_RW_gather_127 rfl ?_
          refine pw_getL d_RW_gather_129 f_RW_52 rfl rfl ?_
          rw [show ∀ a b, (sL (sL (sI (sI N (0, 9) ns.length (nI i)) (0, 10) ns.length (sV (cVV M cn os u) i)) (0, 11) ns.length a) (0, 12) ns.length b).2.1 (PEK i) 7 = jV (cVV M cn os u) i from fun a b => by
            rw [← (show N.2.1 (PEK i) 7 = jV (cVV M cn os u) i from by rw [(hF.2 (i + 1, 0) nRow).2]; rfl)]; simp [sI, sL]]
          refine pw_lsN (n := ns.length) d_RW_gather_132 rfl (by omega) (by decide) ?_
          refine pw_aload_n d_RW_gather_133 rfl ?_
          refine pw_dup d_RW_gather_134 rfl ?_
          refine pw_getI d_RW_gather_135 f_RW_28 rfl rfl ?_
          simp (config := {decide := true}) only [rdII, rdLL, rdIL, rdLI, false_and, true_and, and_false, if_true, if_false]
          rw [h1R]
          refine pw_iconst 1 d_RW_gather_138 (by decide) ?_
          refine pw_iadd d_RW_gather_139 ?_
          rw [nI_1]
          refine pw_putI d_RW_gather_140 f_RW_28 rfl rfl rfl ?_
          refine pw_iinc (1) d_RW_gather_143 rfl (by decide) (by decide) ?_
          dsimp only [stL, kil, isL, cat]
          refine pw_goto (tgt := 7) d_RW_gather_146 (by decide) ?_
          rw [nI_1]
          exact hw
        · obtain ⟨N', hX, hw⟩ := skip (by
            unfold cnd
            simp only [h1, h2, decide_true, not_false_eq_true, Bool.true_and, decide_eq_false_iff_not]
            exact h3) (some (vR (some (i + 1, 0)))) (some (vI 1)) (some (vL (cDt M i (cn i) (os i) u))) rfl rfl
          refine ⟨N', hX, ?_⟩
          refine pw_iload_n d_RW_gather_7 rfl ?_
          refine pw_bipush (8) d_RW_gather_8 (by decide) ?_
          refine pw_icmp_ge (tgt := 149) d_RW_gather_10 (by decide) (fun hQ => absurd hQ (nI_ge (b := 8) hi (by omega))) (fun _ => ?_)
          refine pw_aload_n d_RW_gather_13 rfl ?_
          refine pw_iload_n d_RW_gather_14 rfl ?_
          refine pw_aaload d_RW_gather_15 rfl (vp_in_nI hi (by decide)) (rfO hN (rf6 hi)) ?_
          refine pw_astore d_RW_gather_16 (by decide) ?_
          dsimp only [stL, kil, isL, cat]
          refine pw_aload d_RW_gather_18 rfl ?_
          refine pw_getI d_RW_gather_20 f_RW_32 rfl rfl ?_
          rw [c2']
          refine pw_if_le (tgt := 38) d_RW_gather_23 (by decide) (fun hQ => absurd hQ (nI_nle h1 (by omega))) (fun _ => ?_)
          refine pw_aload d_RW_gather_26 rfl ?_
          refine pw_getI d_RW_gather_28 f_RW_37 rfl rfl ?_
          rw [er]
          refine pw_if_eq (tgt := 38) d_RW_gather_31 (by decide) (fun hQ => absurd hQ (h2)) (fun _ => ?_)
          refine pw_iconst 1 d_RW_gather_34 (by decide) ?_
          refine pw_goto (tgt := 39) d_RW_gather_35 (by decide) ?_
          refine pw_istore d_RW_gather_39 (by decide) ?_
          dsimp only [stL, kil, isL, cat]
          refine pw_iload d_RW_gather_41 rfl ?_
          refine pw_if_eq (tgt := 55) d_RW_gather_43 (by decide) (fun hQ => absurd hQ ((by decide))) (fun _ => ?_)
          refine pw_aload d_RW_gather_46 rfl ?_
          refine pw_iload_n d_RW_gather_48 rfl ?_
          refine c_RW_gather_49 rfl (Nat.le_of_ble_eq_true rfl) hdist ?_
          refine pw_goto (tgt := 58) d_RW_gather_52 (by decide) ?_
          refine pw_lstore d_RW_gather_58 (by decide) ?_
          dsimp only [stL, kil, isL, cat]
          refine pw_lload d_RW_gather_60 rfl ?_
          refine pw_ldc2 (6442450944) d_RW_gather_62 g562 ?_
          refine pw_lcmp d_RW_gather_65 ?_
          refine pw_if_ge (tgt := 143) d_RW_gather_66 (by decide) (fun _ => ?_) (fun hQ => absurd ((lg_ge _ _).mpr h3) hQ)
          refine pw_iinc (1) d_RW_gather_143 rfl (by decide) (by decide) ?_
          dsimp only [stL, kil, isL, cat]
          refine pw_goto (tgt := 7) d_RW_gather_146 (by decide) ?_
          rw [nI_1]
          exact hw
    · obtain ⟨N', hX, hw⟩ := skip (by unfold cnd; simp [h1]) (some (vR (some (i + 1, 0)))) (some (vI 0)) (some (vL 6442450944)) rfl rfl
      refine ⟨N', hX, ?_⟩
      refine pw_iload_n d_RW_gather_7 rfl ?_
      refine pw_bipush (8) d_RW_gather_8 (by decide) ?_
      refine pw_icmp_ge (tgt := 149) d_RW_gather_10 (by decide) (fun hQ => absurd hQ (nI_ge (b := 8) hi (by omega))) (fun _ => ?_)
      refine pw_aload_n d_RW_gather_13 rfl ?_
      refine pw_iload_n d_RW_gather_14 rfl ?_
      refine pw_aaload d_RW_gather_15 rfl (vp_in_nI hi (by decide)) (rfO hN (rf6 hi)) ?_
      refine pw_astore d_RW_gather_16 (by decide) ?_
      dsimp only [stL, kil, isL, cat]
      refine pw_aload d_RW_gather_18 rfl ?_
      refine pw_getI d_RW_gather_20 f_RW_32 rfl rfl ?_
      rw [c2']
      refine pw_if_le (tgt := 38) d_RW_gather_23 (by decide) (fun _ => ?_) (fun hQ => absurd ((by rw [show cn i = 0 by omega]; decide)) hQ)
      refine pw_iconst 0 d_RW_gather_38 (by decide) ?_
      refine pw_istore d_RW_gather_39 (by decide) ?_
      dsimp only [stL, kil, isL, cat]
      refine pw_iload d_RW_gather_41 rfl ?_
      refine pw_if_eq (tgt := 55) d_RW_gather_43 (by decide) (fun _ => ?_) (fun hQ => absurd (rfl) hQ)
      refine pw_ldc2 (6442450944) d_RW_gather_55 g562 ?_
      refine pw_lstore d_RW_gather_58 (by decide) ?_
      dsimp only [stL, kil, isL, cat]
      refine pw_lload d_RW_gather_60 rfl ?_
      refine pw_ldc2 (6442450944) d_RW_gather_62 g562 ?_
      refine pw_lcmp d_RW_gather_65 ?_
      refine pw_if_ge (tgt := 143) d_RW_gather_66 (by decide) (fun _ => ?_) (fun hQ => absurd ((by decide)) hQ)
      refine pw_iinc (1) d_RW_gather_143 rfl (by decide) (by decide) ?_
      dsimp only [stL, kil, isL, cat]
      refine pw_goto (tgt := 7) d_RW_gather_146 (by decide) ?_
      rw [nI_1]
      exact hw
theorem pm_gather (hM : M.2.2.1 = rf) (cn : Nat → Nat) (os : Nat → Nat → Nat) (u : Int32) (hP : PEs M cn os) : ∃ N, FR M N ∧ RowL (cVV M cn os u) N ((List.range 8).filter (cnd M cn (cVV M cn os u))) ∧ PM G l m_RW_gather [vR (some RWK), vR (some (0, 6)), vI u] M rV N 0 0 := by
  have hF : FR M (sI M RWK 5 0) := FR_sI (k := RWK) (by unfold isRow; decide)
  obtain ⟨N, ⟨h1, h2⟩, hw⟩ := lp_gather (G := G) (l := l) hM cn os u hP 0 (by omega) (sI M RWK 5 0) none none none rfl rfl hF ⟨by rw [sI_s]; rfl, by simp, fun i x hx => by simp at hx⟩
  refine ⟨N, h1, h2, ?_⟩
  refine pm_in [some (vR (some RWK)), some (vR (some (0, 6))), some (vI u), none, none, none, none, none] rfl ?_
  refine pw_aload_n d_RW_gather_0 rfl ?_
  refine pw_iconst 0 d_RW_gather_1 (by decide) ?_
  refine pw_putI d_RW_gather_2 f_RW_28 rfl rfl rfl ?_
  refine pw_iconst 0 d_RW_gather_5 (by decide) ?_
  refine pw_istore_n d_RW_gather_6 (by decide) ?_
  dsimp only [stL, kil, isL, cat]
  exact hw
end GA
