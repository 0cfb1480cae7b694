/-! the simple calls, on both sides at once -/
theorem i_rng (a b : Nat) (hb : b < 2 ^ 31) (ha : a < 2 ^ 31) {n : Int32} (h1 : ¬ n < nI a) (h2 : ¬ nI b < n) : ∃ j, a ≤ j ∧ j ≤ b ∧ n = nI j := by
  rw [Int32.lt_iff_toInt_lt, nI_toInt ha] at h1
  rw [Int32.lt_iff_toInt_lt, nI_toInt hb] at h2
  refine ⟨n.toInt.toNat, by omega, by omega, ?_⟩
  apply Int32.toInt_inj.mp
  rw [nI_toInt (by omega), Int.toNat_of_nonneg (by omega)]
theorem cg_sg (pl r : Int64) : ∀ n, n < 2 ^ 31 → cgN pl r n = sgN r n + (nI n).toInt64 * pl
  | 0, _ => by
    show (0 : Int64) = 0 + (0 : Int32).toInt64 * pl
    rw [show (0 : Int32).toInt64 = 0 from rfl, Int64.zero_mul]
    rfl
  | n + 1, h => by
    rw [cgN, cg_sg pl r n (by omega), sgN, nI_l (by omega), nI_l h, ← lN_1, Int64.add_mul, Int64.one_mul]
    ac_rfl
section S1
variable {G : GG} {l : Launch} {M : Mem} {t : Nat}
theorem bad1 {k : Int32} {A : Prop} (h : ¬ k = 0) : k = 0 → A := fun e => absurd e h
theorem sim_type (r : Rel M t) (w : Int64) (n : Int32) : SimI G l t M m_LW_type [vR (some TKK), vL w, vI n, vR (some OK_)] m_MO_type [vR (some MK), vL w, vI n] := by
  have r0 := r
  obtain ⟨⟨hM, hx⟩, ⟨n0, m, rt⟩, ⟨u, ld, q, ha, rc, cn, rp⟩, rx⟩ := r
  obtain ⟨t1, t2, t3, t4, t5, t6, t7, t8, t9, t10⟩ := rt
  by_cases h : n < 1 ∨ 8 < n
  · exact ⟨1, 0, M, sI M MK 0 1, 1, 6, lw_type_0 w n (pm_type_x0 hM w n h), mo_type_x0 w n h, by simp [sI], bad1 (by decide), sN_code.rel (by omega) r0, by omega, by omega⟩
  · obtain ⟨j, j1, j8, rfl⟩ := i_rng 1 8 (by decide) (by decide) (fun z => h (Or.inl z)) (fun z => h (Or.inr z))
    by_cases hz : 64 < n0 + j
    · exact ⟨2, 0, M, sI M MK 0 2, 1, 6, lw_type_1 w _ (pm_type_x1 hM w j n0 j1 j8 t1 hz t3), mo_type_x1 w j n0 j1 j8 t1 hz t4, by simp [sI], bad1 (by decide), sN_code.rel (by omega) r0, by omega, by omega⟩
    · have p1 := lw_type (G := G) (l := l) w (nI j) _ (pm_type hM w j n0 j1 j8 (by omega) t3)
      have p2 := mo_type (G := G) (l := l) (M := sL (tyG byU (0, 1) 1 (0, 2) M n0 w j) OK_ 0 (nI (n0 + j)).toInt64) hM w j n0 j1 j8 (by omega) (by rw [← t4]; simp [sL, tyG])
      refine ⟨0, _, _, _, 0, 0, p1, p2, by simp [tyG, sI], fun _ => by simp [tyG, sI, sL], ⟨⟨hM, hx⟩, ⟨n0 + j, m, ?_⟩, ⟨u, ld, q, ⟨by omega, by omega⟩, RC_c ⟨⟨by funext i; simp [tyG, sI, sL], by funext i; simp [tyG, sI, sL]⟩, ⟨by simp [tyG, sI, sL], by simp [tyG, sI, sL], by simp [tyG, sI, sL], by simp [tyG, sI, sL], by simp [tyG, sI, sL], by simp [tyG, sI, sL]⟩, by simp [tyG, sI, sL], by simp [tyG, sI, sL], by simp [tyG, sI, sL], by simp [tyG, sI, sL]⟩ rc, cn, fun p hp => R1_c ⟨fun a b => ⟨by funext i; simp [tyG, sI, sL], by funext i; simp [tyG, sI, sL]⟩, fun b h1 h2 => ⟨by funext i; simp [tyG, sI, sL, show ¬ b = 1 by omega, show ¬ b = 2 by omega, show ¬ b = 3 by omega, show ¬ b = 4 by omega, show ¬ b = 5 by omega, show ¬ b = 7 by omega, show ¬ b = 20 by omega, show ¬ b = 21 by omega, show ¬ b = 22 by omega, show ¬ b = 35 by omega, show ¬ b = 40 by omega], by funext i; simp [tyG, sI, sL, show ¬ b = 1 by omega, show ¬ b = 2 by omega, show ¬ b = 3 by omega, show ¬ b = 4 by omega, show ¬ b = 5 by omega, show ¬ b = 7 by omega, show ¬ b = 20 by omega, show ¬ b = 21 by omega, show ¬ b = 22 by omega, show ¬ b = 35 by omega, show ¬ b = 40 by omega]⟩⟩ (Nat.le_refl _) (rp p hp)⟩, RX_c ⟨⟨by funext i; simp [tyG, sI, sL], by funext i; simp [tyG, sI, sL]⟩, ⟨by simp [tyG, sI, sL], by simp [tyG, sI, sL], by simp [tyG, sI, sL], by simp [tyG, sI, sL], by simp [tyG, sI, sL]⟩, by simp [tyG, sI, sL], by simp [tyG, sI, sL], by simp [tyG, sI, sL], by simp [tyG, sI, sL]⟩ rx⟩, by omega, by omega⟩
      refine ⟨by omega, t2, by simp [tyG, sI, sL], by simp [tyG, sI, sL], by rw [← t5]; simp [tyG, sI, sL], by rw [← t6]; simp [tyG, sI, sL], ?_, ?_, ?_, ?_⟩
      · funext i
        have e : M.1 (0, 2) i = M.1 (0, 21) i := by rw [t7]
        by_cases c : n0 ≤ i ∧ i < n0 + j
        · simp [tyG, sI, sL, c, by_eq w (i - n0) (by omega)]
        · simp only [tyG, sI, sL]
          simp [c, e]
      · intro i
        by_cases c : n0 ≤ i ∧ i < n0 + j
        · have := and255 ((w.toUInt64 >>> ((nI (8 * (i - n0))).toInt64.toUInt64 &&& Int64.toUInt64 63)).toInt64.toInt32)
          simp only [tyG, sI, sL]
          simp [c]
          exact this
        · have := t8 i
          simp only [tyG, sI, sL]
          simp [c]
          exact this
      · funext i
        have e : M.1 (0, 4) i = M.1 (0, 22) i := by rw [t9]
        simp [tyG, sI, sL, e]
      · intro i
        have := t10 i
        simp [tyG, sI, sL]
        exact this
theorem sim_wipe (r : Rel M t) : ∃ M1 M2, PM G l m_TK_wipe [vR (some TKK)] M rV M1 0 0 ∧ PM G l m_MO_wipe [vR (some MK)] M1 rV M2 0 0 ∧ Rel M2 (t + 1) := by
  have r0 := r
  obtain ⟨⟨hM, hx⟩, ⟨n0, m, rt⟩, ⟨u, ld, q, ha, rc, cn, rp⟩, rx⟩ := r
  obtain ⟨t1, t2, t3, t4, t5, t6, t7, t8, t9, t10⟩ := rt
  refine ⟨_, _, pm_wipe hM, mo_wipe, ⟨⟨hM, hx⟩, ⟨0, m, ?_⟩, ⟨u, ld, q, ⟨by omega, by omega⟩, RC_c ⟨⟨by funext i; simp [sI], by funext i; simp [sI]⟩, ⟨by simp [sI], by simp [sI], by simp [sI], by simp [sI], by simp [sI], by simp [sI]⟩, by simp [sI], by simp [sI], by simp [sI], by simp [sI]⟩ rc, cn, fun p hp => R1_c ⟨fun a b => ⟨by funext i; simp [sI], by funext i; simp [sI]⟩, fun b h1 h2 => ⟨by funext i; simp [sI, show ¬ b = 1 by omega, show ¬ b = 2 by omega, show ¬ b = 3 by omega, show ¬ b = 4 by omega, show ¬ b = 5 by omega, show ¬ b = 7 by omega, show ¬ b = 20 by omega, show ¬ b = 21 by omega, show ¬ b = 22 by omega, show ¬ b = 35 by omega, show ¬ b = 40 by omega], by funext i; simp [sI, show ¬ b = 1 by omega, show ¬ b = 2 by omega, show ¬ b = 3 by omega, show ¬ b = 4 by omega, show ¬ b = 5 by omega, show ¬ b = 7 by omega, show ¬ b = 20 by omega, show ¬ b = 21 by omega, show ¬ b = 22 by omega, show ¬ b = 35 by omega, show ¬ b = 40 by omega]⟩⟩ (Nat.le_refl _) (rp p hp)⟩, RX_c ⟨⟨by funext i; simp [sI], by funext i; simp [sI]⟩, ⟨by simp [sI], by simp [sI], by simp [sI], by simp [sI], by simp [sI]⟩, by simp [sI], by simp [sI], by simp [sI], by simp [sI]⟩ rx⟩⟩
  refine ⟨by omega, t2, by simp [sI]; rfl, by simp [sI]; rfl, by rw [← t5]; simp [sI], by rw [← t6]; simp [sI], ?_, ?_, ?_, ?_⟩
  · funext i
    have e : M.1 (0, 2) i = M.1 (0, 21) i := by rw [t7]
    simp [sI, e]
  · intro i
    have := t8 i
    simp [sI]
    exact this
  · funext i
    have e : M.1 (0, 4) i = M.1 (0, 22) i := by rw [t9]
    simp [sI, e]
  · intro i
    have := t10 i
    simp [sI]
    exact this
theorem sim_set (r : Rel M t) (x : Int64) : ∃ M1 M2, PM G l m_TK_set [vR (some TKK), vL x] M rV M1 0 0 ∧ PM G l m_MO_set [vR (some MK), vL x] M1 rV M2 0 0 ∧ Rel M2 (t + 1) := by
  have r0 := r
  obtain ⟨⟨hM, hx⟩, ⟨n0, m, rt⟩, ⟨u, ld, q, ha, rc, cn, rp⟩, rx⟩ := r
  obtain ⟨⟨c1, c2, c3, c4, c5, c6⟩, ⟨c7, c8, c9, c10, c11, c12⟩, c13, c14, c15, c16⟩ := rc
  refine ⟨_, _, pm_set hM x, mo_set x, ⟨⟨hM, hx⟩, ⟨n0, m, RT_c ⟨by simp [sI, sL], by simp [sI, sL], by simp [sI, sL], by simp [sI, sL], by funext i; simp [sI, sL], by funext i; simp [sI, sL], by funext i; simp [sI, sL], by funext i; simp [sI, sL]⟩ rt⟩, ⟨u, ld, q, ⟨by omega, by omega⟩, ?_, cn, fun p hp => R1_c ⟨fun a b => ⟨by funext i; simp [sI, sL], by funext i; simp [sI, sL]⟩, fun b h1 h2 => ⟨by funext i; simp [sI, sL, show ¬ b = 1 by omega, show ¬ b = 2 by omega, show ¬ b = 3 by omega, show ¬ b = 4 by omega, show ¬ b = 5 by omega, show ¬ b = 7 by omega, show ¬ b = 20 by omega, show ¬ b = 21 by omega, show ¬ b = 22 by omega, show ¬ b = 35 by omega, show ¬ b = 40 by omega], by funext i; simp [sI, sL, show ¬ b = 1 by omega, show ¬ b = 2 by omega, show ¬ b = 3 by omega, show ¬ b = 4 by omega, show ¬ b = 5 by omega, show ¬ b = 7 by omega, show ¬ b = 20 by omega, show ¬ b = 21 by omega, show ¬ b = 22 by omega, show ¬ b = 35 by omega, show ¬ b = 40 by omega]⟩⟩ (Nat.le_refl _) (rp p hp)⟩, RX_c ⟨⟨by funext i; simp [sI, sL], by funext i; simp [sI, sL]⟩, ⟨by simp [sI, sL], by simp [sI, sL], by simp [sI, sL], by simp [sI, sL], by simp [sI, sL]⟩, by simp [sI, sL], by simp [sI, sL], by simp [sI, sL], by simp [sI, sL]⟩ rx⟩⟩
  refine ⟨⟨by simp [sI, sL], by rw [← c2]; simp [sI, sL], by rw [← c3]; simp [sI, sL], by simp [sI, sL]; exact c4, by simp [sI, sL]; exact c5, by simp [sI, sL]; exact c6⟩, ⟨by rw [← c7]; simp [sI, sL], by rw [← c8]; simp [sI, sL], by simp [sI, sL]; exact c9, by simp [sI, sL]; exact c10, by rw [← c11]; simp [sI, sL], by rw [← c12]; simp [sI, sL]⟩, fun z => by simp [sI, sL]; exact c13 z, fun z => by simp [sI, sL]; exact c14 z, c15, c16⟩
theorem sim_drift (r : Rel M t) (d : Int32) : SimV G l t M m_LW_drift [vR (some TKK), vI d] m_MO_drift [vR (some MK), vI d] := by
  have r0 := r
  obtain ⟨⟨hM, hx⟩, ⟨n0, m, rt⟩, ⟨u, ld, q, ha, rc, cn, rp⟩, rx⟩ := r
  obtain ⟨⟨c1, c2, c3, c4, c5, c6⟩, ⟨c7, c8, c9, c10, c11, c12⟩, c13, c14, c15, c16⟩ := rc
  have q0 := pm_drift (G := G) (l := l) hM d
  have q1 := mo_drift (G := G) (l := l) (M := M) d
  by_cases h1 : d < -2000000
  · rw [if_pos h1] at q1
    rw [if_pos h1, if_pos h1] at q0
    exact ⟨1, M, _, 1, 6, lw_drift_0 d q0, q1, by simp [sI], sN_code.rel (by omega) r0, by omega, by omega⟩
  · by_cases h2 : d ≤ 2000000
    · have p1 := lw_drift (G := G) (l := l) d (pm_drift_r hM d h1 h2)
      have p2 := mo_drift (G := G) (l := l) (M := sI M (0, 5) 2 d) d
      rw [if_neg h1, if_pos h2] at p2
      refine ⟨0, _, _, 0, 0, p1, p2, by simp [sI, sL], ⟨⟨hM, hx⟩, ⟨n0, m, RT_c ⟨by simp [sI, sL], by simp [sI, sL], by simp [sI, sL], by simp [sI, sL], by funext i; simp [sI, sL], by funext i; simp [sI, sL], by funext i; simp [sI, sL], by funext i; simp [sI, sL]⟩ rt⟩, ⟨u, ld, q, ⟨by omega, by omega⟩, ?_, cn, fun p hp => R1_c ⟨fun a b => ⟨by funext i; simp [sI, sL], by funext i; simp [sI, sL]⟩, fun b h1 h2 => ⟨by funext i; simp [sI, sL, show ¬ b = 1 by omega, show ¬ b = 2 by omega, show ¬ b = 3 by omega, show ¬ b = 4 by omega, show ¬ b = 5 by omega, show ¬ b = 7 by omega, show ¬ b = 20 by omega, show ¬ b = 21 by omega, show ¬ b = 22 by omega, show ¬ b = 35 by omega, show ¬ b = 40 by omega], by funext i; simp [sI, sL, show ¬ b = 1 by omega, show ¬ b = 2 by omega, show ¬ b = 3 by omega, show ¬ b = 4 by omega, show ¬ b = 5 by omega, show ¬ b = 7 by omega, show ¬ b = 20 by omega, show ¬ b = 21 by omega, show ¬ b = 22 by omega, show ¬ b = 35 by omega, show ¬ b = 40 by omega]⟩⟩ (Nat.le_refl _) (rp p hp)⟩, RX_c ⟨⟨by funext i; simp [sI, sL], by funext i; simp [sI, sL]⟩, ⟨by simp [sI, sL], by simp [sI, sL], by simp [sI, sL], by simp [sI, sL], by simp [sI, sL]⟩, by simp [sI, sL], by simp [sI, sL], by simp [sI, sL], by simp [sI, sL]⟩ rx⟩, by omega, by omega⟩
      refine ⟨⟨by simp [sI, sL]; exact c1, by rw [← c2]; simp [sI, sL], by rw [← c3]; simp [sI, sL], by simp [sI, sL], by simp [sI, sL]; exact c5, by simp [sI, sL]; exact c6⟩, ⟨by rw [← c7]; simp [sI, sL], by rw [← c8]; simp [sI, sL], by simp [sI, sL]; exact c9, by simp [sI, sL]; exact c10, by rw [← c11]; simp [sI, sL], by rw [← c12]; simp [sI, sL]⟩, fun z => by simp [sI, sL]; exact c13 z, fun z => by simp [sI, sL]; exact c14 z, c15, c16⟩
    · rw [if_neg h1, if_neg h2] at q1
      rw [if_neg h1, if_neg h2, if_neg h1, if_neg h2] at q0
      exact ⟨1, M, _, 1, 6, lw_drift_0 d q0, q1, by simp [sI], sN_code.rel (by omega) r0, by omega, by omega⟩
theorem sim_pass (r : Rel M t) (d : Int32) : SimI G l t M m_LW_pass [vR (some TKK), vI d, vR (some OK_)] m_MO_pass [vR (some MK), vI d] := by
  have r0 := r
  obtain ⟨⟨hM, hx⟩, ⟨n0, m, rt⟩, ⟨u, ld, q, ha, rc, cn, rp⟩, rx⟩ := r
  obtain ⟨⟨c1, c2, c3, c4, c5, c6⟩, ⟨c7, c8, c9, c10, c11, c12⟩, c13, c14, c15, c16⟩ := rc
  by_cases h : d < 0 ∨ 4096 < d
  · exact ⟨1, 0, M, sI M MK 0 1, 1, 6, lw_pass_0 d (pm_pass_x d h), mo_pass_x d h, by simp [sI], bad1 (by decide), sN_code.rel (by omega) r0, by omega, by omega⟩
  · obtain ⟨j, j1, j8, rfl⟩ := i_rng 0 4096 (by decide) (by decide) (fun z => h (Or.inl z)) (fun z => h (Or.inr z))
    have p1 := lw_pass (G := G) (l := l) (nI j) _ (pm_pass hM j j8)
    have p2 := mo_pass (G := G) (l := l) (M := sL (psC M j) OK_ 0 (M.1 TPK 1 + nI j).toInt64) j j8
    refine ⟨0, _, _, _, 0, 0, p1, p2, by simp [psM, sI], fun _ => by simp [psC, psM, sI, sL, c2, c3], ⟨⟨hM, hx⟩, ⟨n0, m, RT_c ⟨by simp [psC, psM, sI, sL], by simp [psC, psM, sI, sL], by simp [psC, psM, sI, sL], by simp [psC, psM, sI, sL], by funext i; simp [psC, psM, sI, sL], by funext i; simp [psC, psM, sI, sL], by funext i; simp [psC, psM, sI, sL], by funext i; simp [psC, psM, sI, sL]⟩ rt⟩, ⟨u + j, ld, q, ⟨by omega, by omega⟩, ?_, cn, fun p hp => R1_c ⟨fun a b => ⟨by funext i; simp [psC, psM, sI, sL], by funext i; simp [psC, psM, sI, sL]⟩, fun b h1 h2 => ⟨by funext i; simp [psC, psM, sI, sL, show ¬ b = 1 by omega, show ¬ b = 2 by omega, show ¬ b = 3 by omega, show ¬ b = 4 by omega, show ¬ b = 5 by omega, show ¬ b = 7 by omega, show ¬ b = 20 by omega, show ¬ b = 21 by omega, show ¬ b = 22 by omega, show ¬ b = 35 by omega, show ¬ b = 40 by omega], by funext i; simp [psC, psM, sI, sL, show ¬ b = 1 by omega, show ¬ b = 2 by omega, show ¬ b = 3 by omega, show ¬ b = 4 by omega, show ¬ b = 5 by omega, show ¬ b = 7 by omega, show ¬ b = 20 by omega, show ¬ b = 21 by omega, show ¬ b = 22 by omega, show ¬ b = 35 by omega, show ¬ b = 40 by omega]⟩⟩ (by omega) (rp p hp)⟩, RX_c ⟨⟨by funext i; simp [psC, psM, sI, sL], by funext i; simp [psC, psM, sI, sL]⟩, ⟨by simp [psC, psM, sI, sL], by simp [psC, psM, sI, sL], by simp [psC, psM, sI, sL], by simp [psC, psM, sI, sL], by simp [psC, psM, sI, sL]⟩, by simp [psC, psM, sI, sL], by simp [psC, psM, sI, sL], by simp [psC, psM, sI, sL], by simp [psC, psM, sI, sL]⟩ rx⟩, by omega, by omega⟩
    refine ⟨⟨?_, by simp [psC, psM, sI, sL, c2, nI_add], by simp [psC, psM, sI, sL, c3, nI_add], by simp [psC, psM, sI, sL]; exact c4, by simp [psC, psM, sI, sL]; exact c5, by simp [psC, psM, sI, sL, c6]⟩, ⟨by rw [← c7]; simp [psC, psM, sI, sL], by rw [← c8]; simp [psC, psM, sI, sL], by simp [psC, psM, sI, sL]; exact c9, by simp [psC, psM, sI, sL]; exact c10, by rw [← c11]; simp [psC, psM, sI, sL], by rw [← c12]; simp [psC, psM, sI, sL]⟩, fun z => by simp [psC, psM, sI, sL]; exact c13 z, fun z => ?_, c15, c16⟩
    · simp [psC, psM, sI, sL, c1, c4, c5, c6, cg_sg _ _ j (by omega : j < 2 ^ 31), i64_addA]
    · obtain ⟨d1, a, d2, d3⟩ := c14 z
      exact ⟨by simp [psC, psM, sI, sL]; exact d1, a, by omega, by rw [← d3]; simp [psC, psM, sI, sL]⟩
theorem sim_turn (r : Rel M t) : ∃ M1 M2, PM G l m_TK_turn [vR (some TKK)] M rV M1 0 0 ∧ PM G l m_MO_turn [vR (some MK)] M1 rV M2 0 0 ∧ Rel M2 (t + 1) := by
  have r0 := r
  obtain ⟨⟨hM, hx⟩, ⟨n0, m, rt⟩, ⟨u, ld, q, ha, rc, cn, rp⟩, rx⟩ := r
  obtain ⟨t1, t2, t3, t4, t5, t6, t7, t8, t9, t10⟩ := rt
  refine ⟨_, _, pm_turn hM m t2 t5, mo_turn (M := sI (cpI M (0, 4) (0, 2) m) (0, 1) 1 (nI m)) hM m t2 (by rw [← t6]; simp [cpI, sI]), ⟨⟨hM, hx⟩, ⟨m, m, ?_⟩, ⟨u, ld, q, ⟨by omega, by omega⟩, RC_c ⟨⟨by funext i; simp [cpI, sI], by funext i; simp [cpI, sI]⟩, ⟨by simp [cpI, sI], by simp [cpI, sI], by simp [cpI, sI], by simp [cpI, sI], by simp [cpI, sI], by simp [cpI, sI]⟩, by simp [cpI, sI], by simp [cpI, sI], by simp [cpI, sI], by simp [cpI, sI]⟩ rc, cn, fun p hp => R1_c ⟨fun a b => ⟨by funext i; simp [cpI, sI], by funext i; simp [cpI, sI]⟩, fun b h1 h2 => ⟨by funext i; simp [cpI, sI, show ¬ b = 1 by omega, show ¬ b = 2 by omega, show ¬ b = 3 by omega, show ¬ b = 4 by omega, show ¬ b = 5 by omega, show ¬ b = 7 by omega, show ¬ b = 20 by omega, show ¬ b = 21 by omega, show ¬ b = 22 by omega, show ¬ b = 35 by omega, show ¬ b = 40 by omega], by funext i; simp [cpI, sI, show ¬ b = 1 by omega, show ¬ b = 2 by omega, show ¬ b = 3 by omega, show ¬ b = 4 by omega, show ¬ b = 5 by omega, show ¬ b = 7 by omega, show ¬ b = 20 by omega, show ¬ b = 21 by omega, show ¬ b = 22 by omega, show ¬ b = 35 by omega, show ¬ b = 40 by omega]⟩⟩ (Nat.le_refl _) (rp p hp)⟩, RX_c ⟨⟨by funext i; simp [cpI, sI], by funext i; simp [cpI, sI]⟩, ⟨by simp [cpI, sI], by simp [cpI, sI], by simp [cpI, sI], by simp [cpI, sI], by simp [cpI, sI]⟩, by simp [cpI, sI], by simp [cpI, sI], by simp [cpI, sI], by simp [cpI, sI]⟩ rx⟩⟩
  refine ⟨by omega, t2, by simp [cpI, sI], by simp [cpI, sI], by rw [← t5]; simp [cpI, sI], by rw [← t6]; simp [cpI, sI], ?_, ?_, ?_, ?_⟩
  · funext i
    have e : M.1 (0, 2) i = M.1 (0, 21) i := by rw [t7]
    have e2 : M.1 (0, 4) i = M.1 (0, 22) i := by rw [t9]
    simp [cpI, sI, e, e2]
  · intro i
    have a1 := t8 i
    have a2 := t10 i
    by_cases c : i < m
    · simp [cpI, sI, c]
      exact a2
    · simp [cpI, sI, c]
      exact a1
  · funext i
    have e : M.1 (0, 4) i = M.1 (0, 22) i := by rw [t9]
    simp [cpI, sI, e]
  · intro i
    have := t10 i
    simp [cpI, sI]
    exact this
theorem sim_clock (r : Rel M t) : ∃ x M2, PM G l m_TK_clock [vR (some TKK)] M (rL x) M 0 0 ∧ PM G l m_MO_clock [vR (some MK)] M (rL x) M2 0 0 ∧ Rel M2 (t + 1) := by
  have r0 := r
  obtain ⟨⟨hM, hx⟩, ⟨n0, m, rt⟩, ⟨u, ld, q, ha, rc, cn, rp⟩, rx⟩ := r
  obtain ⟨⟨c1, c2, c3, c4, c5, c6⟩, ⟨c7, c8, c9, c10, c11, c12⟩, c13, c14, c15, c16⟩ := rc
  have p1 := pm_clock (G := G) (l := l) hM
  rw [c1] at p1
  exact ⟨_, _, p1, mo_clock, sN_code.rel (by omega) r0⟩
theorem sim_size (r : Rel M t) : ∃ x M2, PM G l m_TK_size [vR (some TKK)] M (rI x) M 0 0 ∧ PM G l m_MO_size_ [vR (some MK)] M (rI x) M2 0 0 ∧ Rel M2 (t + 1) := by
  have r0 := r
  obtain ⟨⟨hM, hx⟩, ⟨n0, m, rt⟩, ⟨u, ld, q, ha, rc, cn, rp⟩, rx⟩ := r
  obtain ⟨t1, t2, t3, t4, t5, t6, t7, t8, t9, t10⟩ := rt
  have p1 := pm_size (G := G) (l := l) hM
  have p2 := mo_size (G := G) (l := l) (M := M)
  rw [t5] at p1
  rw [t6] at p2
  exact ⟨_, _, p1, p2, sN_code.rel (by omega) r0⟩
theorem sim_put (r : Rel M t) (i v : Int32) : SimV G l t M m_LW_put [vR (some TKK), vI i, vI v] m_MO_put [vR (some MK), vI i, vI v] := by
  have r0 := r
  obtain ⟨⟨hM, hx⟩, ⟨n0, m, rt⟩, ⟨u, ld, q, ha, rc, cn, rp⟩, rx⟩ := r
  obtain ⟨t1, t2, t3, t4, t5, t6, t7, t8, t9, t10⟩ := rt
  have q0 := pm_put (G := G) (l := l) hM n0 t1 t3 i v
  have q1 := mo_put (G := G) (l := l) hM n0 t1 t4 i v
  by_cases h1 : i < 0
  · rw [if_pos h1] at q1
    rw [if_pos h1, if_pos h1] at q0
    exact ⟨1, M, _, 1, 6, lw_put_2 i v q0, q1, by simp [sI], sN_code.rel (by omega) r0, by omega, by omega⟩
  · by_cases h2 : i < nI n0
    · rw [if_neg h1, if_pos h2] at q1
      rw [if_neg h1, if_pos h2, if_neg h1, if_pos h2] at q0
      by_cases h3 : v < 0
      · rw [if_pos h3] at q1
        rw [if_pos h3, if_pos h3] at q0
        exact ⟨2, M, _, 1, 6, lw_put_0 i v q0, q1, by simp [sI], sN_code.rel (by omega) r0, by omega, by omega⟩
      · by_cases h4 : v ≤ 255
        · obtain ⟨j, hj, rfl⟩ := nI_of h1
          have hj2 : j < n0 := (nI_ltI hj (by omega)).mp h2
          have p1 := lw_put (G := G) (l := l) (nI j) v (pm_put_r hM n0 t1 t3 j hj2 v h3 h4)
          have p2 := mo_put (G := G) (l := l) (M := sI M (0, 2) j v) hM n0 t1 (by rw [← t4]; simp [sI]) (nI j) v
          rw [if_neg h1, if_pos h2, if_neg h3, if_pos h4, nI_clamp hj] at p2
          refine ⟨0, _, _, 0, 0, p1, p2, by simp [sI], ⟨⟨hM, hx⟩, ⟨n0, m, ?_⟩, ⟨u, ld, q, ⟨by omega, by omega⟩, RC_c ⟨⟨by funext i; simp [sI, sL], by funext i; simp [sI, sL]⟩, ⟨by simp [sI, sL], by simp [sI, sL], by simp [sI, sL], by simp [sI, sL], by simp [sI, sL], by simp [sI, sL]⟩, by simp [sI, sL], by simp [sI, sL], by simp [sI, sL], by simp [sI, sL]⟩ rc, cn, fun p hp => R1_c ⟨fun a b => ⟨by funext i; simp [sI, sL], by funext i; simp [sI, sL]⟩, fun b h1 h2 => ⟨by funext i; simp [sI, sL, show ¬ b = 1 by omega, show ¬ b = 2 by omega, show ¬ b = 3 by omega, show ¬ b = 4 by omega, show ¬ b = 5 by omega, show ¬ b = 7 by omega, show ¬ b = 20 by omega, show ¬ b = 21 by omega, show ¬ b = 22 by omega, show ¬ b = 35 by omega, show ¬ b = 40 by omega], by funext i; simp [sI, sL, show ¬ b = 1 by omega, show ¬ b = 2 by omega, show ¬ b = 3 by omega, show ¬ b = 4 by omega, show ¬ b = 5 by omega, show ¬ b = 7 by omega, show ¬ b = 20 by omega, show ¬ b = 21 by omega, show ¬ b = 22 by omega, show ¬ b = 35 by omega, show ¬ b = 40 by omega]⟩⟩ (Nat.le_refl _) (rp p hp)⟩, RX_c ⟨⟨by funext i; simp [sI, sL], by funext i; simp [sI, sL]⟩, ⟨by simp [sI, sL], by simp [sI, sL], by simp [sI, sL], by simp [sI, sL], by simp [sI, sL]⟩, by simp [sI, sL], by simp [sI, sL], by simp [sI, sL], by simp [sI, sL]⟩ rx⟩, by omega, by omega⟩
          refine ⟨t1, t2, by rw [← t3]; simp [sI], by rw [← t4]; simp [sI], by rw [← t5]; simp [sI], by rw [← t6]; simp [sI], ?_, ?_, ?_, ?_⟩
          · funext a
            have e : M.1 (0, 2) a = M.1 (0, 21) a := by rw [t7]
            by_cases c : a = j
            · simp [sI, c]
            · simp [sI, c, e]
          · intro a
            by_cases c : a = j
            · simp [sI, c]
              rw [Int32.lt_iff_toInt_lt, Int32.toInt_zero] at h3
              rw [Int32.le_iff_toInt_le] at h4
              have : (255 : Int32).toInt = 255 := by decide
              exact ⟨by omega, by omega⟩
            · have := t8 a
              simp [sI, c]
              exact this
          · funext a
            have e : M.1 (0, 4) a = M.1 (0, 22) a := by rw [t9]
            simp [sI, e]
          · intro a
            have := t10 a
            simp [sI]
            exact this
        · rw [if_neg h3, if_neg h4] at q1
          rw [if_neg h3, if_neg h4, if_neg h3, if_neg h4] at q0
          exact ⟨2, M, _, 1, 6, lw_put_0 i v q0, q1, by simp [sI], sN_code.rel (by omega) r0, by omega, by omega⟩
    · rw [if_neg h1, if_neg h2] at q1
      rw [if_neg h1, if_neg h2, if_neg h1, if_neg h2] at q0
      exact ⟨1, M, _, 1, 6, lw_put_2 i v q0, q1, by simp [sI], sN_code.rel (by omega) r0, by omega, by omega⟩
theorem sim_out (r : Rel M t) (i : Int32) : SimI G l t M m_LW_out [vR (some TKK), vI i, vR (some OK_)] m_MO_out [vR (some MK), vI i] := by
  have r0 := r
  obtain ⟨⟨hM, hx⟩, ⟨n0, m, rt⟩, ⟨u, ld, q, ha, rc, cn, rp⟩, rx⟩ := r
  obtain ⟨t1, t2, t3, t4, t5, t6, t7, t8, t9, t10⟩ := rt
  have q0 := pm_out (G := G) (l := l) hM m t2 t5 i
  have q1 := mo_out (G := G) (l := l) hM m t2 t6 i
  by_cases h1 : i < 0
  · rw [if_pos h1, if_pos h1] at q1
    rw [if_pos h1] at q0
    exact ⟨1, 0, M, _, 1, 6, lw_out_2 i q0, q1, by simp [sI], bad1 (by decide), sN_code.rel (by omega) r0, by omega, by omega⟩
  · by_cases h2 : i < nI m
    · obtain ⟨j, hj, rfl⟩ := nI_of h1
      have hj2 : j < m := (nI_ltI hj (by omega)).mp h2
      have p1 := lw_out (G := G) (l := l) (nI j) _ (pm_out_r hM m t2 t5 j hj2)
      have p2 := mo_out (G := G) (l := l) (M := sL M OK_ 0 (M.1 (0, 4) j).toInt64) hM m t2 t6 (nI j)
      rw [if_neg h1, if_pos h2, if_neg h1, if_pos h2, nI_clamp hj] at p2
      refine ⟨0, _, _, _, 0, 0, p1, p2, by simp [sI], fun _ => ?_, (sN_t sN_out sN_code).rel (by omega) r0, by omega, by omega⟩
      have e : M.1 (0, 4) j = M.1 (0, 22) j := by rw [t9]
      simp [sI, sL, e]
    · rw [if_neg h1, if_neg h2, if_neg h1, if_neg h2] at q1
      rw [if_neg h1, if_neg h2] at q0
      exact ⟨1, 0, M, _, 1, 6, lw_out_2 i q0, q1, by simp [sI], bad1 (by decide), sN_code.rel (by omega) r0, by omega, by omega⟩
theorem sim_chosen (r : Rel M t) (w : Int32) : SimI G l t M m_LW_chosen [vR (some TKK), vI w, vR (some OK_)] m_MO_chosen [vR (some MK), vI w] := by
  have r0 := r
  obtain ⟨⟨hM, hx⟩, ⟨n0, m, rt⟩, ⟨u, ld, q, ha, rc, cn, rp⟩, rx⟩ := r
  obtain ⟨⟨x1, x2, x3, x4⟩, x5, x6, x7, x8, x9⟩ := rx
  by_cases h : w < 0 ∨ 2 < w
  · have h' : w.toInt < 0 ∨ 2 < w.toInt := by
      rw [Int32.lt_iff_toInt_lt, Int32.lt_iff_toInt_lt] at h
      exact h
    exact ⟨1, 0, M, _, 1, 6, lw_chosen_0 w (pm_chosen_x hM w h'), mo_chosen_x w h, by simp [sI], bad1 (by decide), sN_code.rel (by omega) r0, by omega, by omega⟩
  · obtain ⟨j, j1, j8, rfl⟩ := i_rng 0 2 (by decide) (by decide) (fun z => h (Or.inl z)) (fun z => h (Or.inr z))
    refine ⟨0, _, _, _, 0, 0, lw_chosen (nI j) _ (pm_chosen hM j j8), mo_chosen j j8, by simp [sI], fun _ => ?_, (sN_t sN_out sN_code).rel (by omega) r0, by omega, by omega⟩
    have hcase : j = 0 ∨ j = 1 ∨ j = 2 := by omega
    rcases hcase with rfl | rfl | rfl
    · simp [sI, sL, chC, chM, x1]
    · simp [sI, sL, chC, chM, x2]
    · simp [sI, sL, chC, chM, x3]
theorem sim_about (r : Rel M t) (w : Int32) : SimL G l t M m_LW_about [vR (some TKK), vI w, vR (some OK_)] m_MO_about [vR (some MK), vI w] := by
  have r0 := r
  obtain ⟨⟨hM, hx⟩, ⟨n0, m, rt⟩, ⟨u, ld, q, ha, rc, cn, rp⟩, rx⟩ := r
  obtain ⟨⟨c1, c2, c3, c4, c5, c6⟩, ⟨c7, c8, c9, c10, c11, c12⟩, c13, c14, c15, c16⟩ := rc
  obtain ⟨⟨x1, x2, x3, x4⟩, ⟨s, x5, x5a, x5b⟩, x6, x7, x8, x9⟩ := rx
  by_cases h : w < 0 ∨ 10 < w
  · exact ⟨1, 0, M, _, 1, 6, lw_about_0 w (pm_about_x0 hM w h), mo_about_x1 w h, by simp [sI], bad1 (by decide), sN_code.rel (by omega) r0, by omega, by omega⟩
  · obtain ⟨j, j1, j8, rfl⟩ := i_rng 0 10 (by decide) (by decide) (fun z => h (Or.inl z)) (fun z => h (Or.inr z))
    by_cases h4 : j ≤ 4 ∧ M.1 CHK 4 = 0
    · exact ⟨2, 0, M, _, 1, 6, lw_about_1 _ (pm_about_x1 hM j h4.1 h4.2), mo_about_x2 j h4.1 (by rw [← x4]; exact h4.2), by simp [sI], bad1 (by decide), sN_code.rel (by omega) r0, by omega, by omega⟩
    · have p1 := lw_about (G := G) (l := l) (nI j) _ (pm_about hM j j8 (fun z z2 => h4 ⟨z, z2⟩))
      have p2 := mo_about (G := G) (l := l) (M := sL M OK_ 0 (abC M j)) j j8 (fun z z2 => h4 ⟨z, by rw [x4]; exact z2⟩)
      refine ⟨0, _, _, _, 0, 0, p1, p2, by simp [sI], fun _ => ?_, (sN_t sN_out sN_code).rel (by omega) r0, by omega, by omega⟩
      have hcase : j = 0 ∨ j = 1 ∨ j = 2 ∨ j = 3 ∨ j = 4 ∨ j = 5 ∨ j = 6 ∨ j = 7 ∨ j = 8 ∨ j = 9 ∨ j = 10 := by omega
      rcases hcase with rfl | rfl | rfl | rfl | rfl | rfl | rfl | rfl | rfl | rfl | rfl
      · simp [sI, sL, abC, abM, x6]
      · simp [sI, sL, abC, abM, x7]
      · simp [sI, sL, abC, abM, x5a, x5b]
      · simp [sI, sL, abC, abM, x8]
      · simp [sI, sL, abC, abM, x9]
      · simp [sI, sL, abC, abM, c5]
      · simp [sI, sL, abC, abM, c6]
      · simp [sI, sL, abC, abM, c7, c8]
      · simp [sI, sL, abC, abM, c9]
      · simp [sI, sL, abC, abM, c10]
      · simp [sI, sL, abC, abM, c11, c12]
end S1
