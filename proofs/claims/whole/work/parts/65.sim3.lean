/-! serve, on both sides at once -/
theorem v_eq : ∀ v, v < 8 → (64 * 3 + 8 * nI v + 4 : Int32) = 8 * nI v + 4 + 192 ∧ (64 * 0 + 8 * nI v + 4 : Int32) = 8 * nI v + 4 + 0 ∧ byteOK (8 * nI v + 4 + 192) ∧ byteOK (8 * nI v + 4 + 0) := by
  unfold byteOK
  decide +kernel
section S3
variable {G : GG} {l : Launch} {M : Mem} {t : Nat}
theorem sv_rel (r : Rel M t) (lp st h : Int32) (h0 : 64 * lp + 8 * (M.1 (0, 2) 0 >>> ((3 : Int32) &&& 31) &&& 7) + 4 = 8 * vrM (M.1 (0, 21) 0) + 4 + h) (hb : byteOK (64 * lp + 8 * (M.1 (0, 2) 0 >>> ((3 : Int32) &&& 31) &&& 7) + 4)) (hst : byteOK st) : Rel (svB (svM M lp st) st h) (t + 1) := by
  have r0 := r
  obtain ⟨⟨hM, hx⟩, ⟨n0, m, rt⟩, ⟨u, ld, q, ha, rc, cn, rp⟩, rx⟩ := r
  obtain ⟨t1, t2, t3, t4, t5, t6, t7, t8, t9, t10⟩ := rt
  have rc0 := rc
  obtain ⟨⟨c1, c2, c3, c4, c5, c6⟩, ⟨c7, c8, c9, c10, c11, c12⟩, c13, c14, c15, c16⟩ := rc
  refine ⟨⟨hM, hx⟩, ⟨n0, 48, ?_⟩, ⟨u, ld, q, ⟨by omega, by omega⟩, RC_c ⟨⟨by funext i; simp [svM, svB, wrB, blnk_o, zrO, sI, sL], by funext i; simp [svM, svB, wrB, blnk_o, zrO, sI, sL]⟩, ⟨by simp [svM, svB, wrB, blnk_o, zrO, sI, sL], by simp [svM, svB, wrB, blnk_o, zrO, sI, sL], by simp [svM, svB, wrB, blnk_o, zrO, sI, sL], by simp [svM, svB, wrB, blnk_o, zrO, sI, sL], by simp [svM, svB, wrB, blnk_o, zrO, sI, sL], by simp [svM, svB, wrB, blnk_o, zrO, sI, sL]⟩, by simp [svM, svB, wrB, blnk_o, zrO, sI, sL], by simp [svM, svB, wrB, blnk_o, zrO, sI, sL], by simp [svM, svB, wrB, blnk_o, zrO, sI, sL], by simp [svM, svB, wrB, blnk_o, zrO, sI, sL]⟩ rc0, cn, fun p hp => R1_c ⟨fun a b => ⟨by funext i; simp [svM, svB, wrB, blnk_o, zrO, sI, sL], by funext i; simp [svM, svB, wrB, blnk_o, zrO, sI, sL]⟩, fun b h1 h2 => ⟨by funext i; simp [svM, svB, wrB, blnk_o, zrO, sI, sL, show ¬ b = 1 by omega, show ¬ b = 2 by omega, show ¬ b = 3 by omega, show ¬ b = 4 by omega, show ¬ b = 5 by omega, show ¬ b = 7 by omega, show ¬ b = 20 by omega, show ¬ b = 21 by omega, show ¬ b = 22 by omega, show ¬ b = 35 by omega, show ¬ b = 40 by omega], by funext i; simp [svM, svB, wrB, blnk_o, zrO, sI, sL, show ¬ b = 1 by omega, show ¬ b = 2 by omega, show ¬ b = 3 by omega, show ¬ b = 4 by omega, show ¬ b = 5 by omega, show ¬ b = 7 by omega, show ¬ b = 20 by omega, show ¬ b = 21 by omega, show ¬ b = 22 by omega, show ¬ b = 35 by omega, show ¬ b = 40 by omega]⟩⟩ (Nat.le_refl _) (rp p hp)⟩, RX_c ⟨⟨by funext i; simp [svM, svB, wrB, blnk_o, zrO, sI, sL], by funext i; simp [svM, svB, wrB, blnk_o, zrO, sI, sL]⟩, ⟨by simp [svM, svB, wrB, blnk_o, zrO, sI, sL], by simp [svM, svB, wrB, blnk_o, zrO, sI, sL], by simp [svM, svB, wrB, blnk_o, zrO, sI, sL], by simp [svM, svB, wrB, blnk_o, zrO, sI, sL], by simp [svM, svB, wrB, blnk_o, zrO, sI, sL]⟩, by simp [svM, svB, wrB, blnk_o, zrO, sI, sL], by simp [svM, svB, wrB, blnk_o, zrO, sI, sL], by simp [svM, svB, wrB, blnk_o, zrO, sI, sL], by simp [svM, svB, wrB, blnk_o, zrO, sI, sL]⟩ rx⟩
  refine ⟨t1, by omega, by rw [← t3]; simp [svM, svB, wrB, blnk_o, zrO, sI, sL], by rw [← t4]; simp [svM, svB, wrB, blnk_o, zrO, sI, sL], by simp [svM, svB, wrB, blnk_o, zrO, sI, sL]; rfl, by simp [svM, svB, wrB, blnk_o, zrO, sI, sL]; rfl, ?_, ?_, ?_, ?_⟩
  · funext i
    have e : M.1 (0, 2) i = M.1 (0, 21) i := by rw [t7]
    simp [svM, svB, wrB, blnk_o, zrO, sI, sL, e]
  · intro i
    have := t8 i
    simp [svM, svB, wrB, blnk_o, zrO, sI, sL]
    exact this
  · funext i
    have e : M.1 (0, 4) i = M.1 (0, 22) i := by rw [t9]
    have ck : M.2.1 TPK 0 = M.2.1 MK 5 := c1
    have ek : M.2.1 (0, 5) 0 = M.2.1 (0, 20) 5 := c1
    have t7' : M.1 (0, 2) = M.1 (0, 21) := t7
    by_cases g0 : 40 ≤ i ∧ i < 48
    · simp [svM, svB, wrB, blnk_o, zrO, sI, sL, g0, by_eq _ (7 - (i - 40)) (by omega), ek]
    · by_cases g1 : 32 ≤ i ∧ i < 40
      · simp [svM, svB, wrB, blnk_o, zrO, sI, sL, g0, g1, by_eq _ (7 - (i - 32)) (by omega), ek]
      · by_cases g2 : 24 ≤ i ∧ i < 32
        · simp [svM, svB, wrB, blnk_o, zrO, sI, sL, g0, g1, g2, by_eq _ (7 - (i - 24)) (by omega), t7]
        · by_cases g3 : i = 3
          · subst g3; simp [svM, svB, wrB, blnk_o, zrO, sI, sL]
          · by_cases g4 : i = 2
            · subst g4; simp [svM, svB, wrB, blnk_o, zrO, sI, sL, t7]
            · by_cases g5 : i = 1
              · subst g5; simp [svM, svB, wrB, blnk_o, zrO, sI, sL]
              · by_cases g6 : i = 0
                · subst g6; simp [svM, svB, wrB, blnk_o, zrO, sI, sL]; exact h0
                · by_cases g7 : i < 48
                  · simp [svM, svB, wrB, blnk_o, zrO, sI, sL, g0, g1, g2, g3, g4, g5, g6, g7, show ¬ 40 ≤ i by omega]
                  · simp [svM, svB, wrB, blnk_o, zrO, sI, sL, g0, g1, g2, g3, g4, g5, g6, g7, e]
  · intro i
    have := t10 i
    have b238 := byteI 238 (by decide)
    have b0 := byteI 0 (by decide)
    by_cases g0 : 40 ≤ i ∧ i < 48
    · simp [svM, svB, wrB, blnk_o, zrO, sI, sL, g0]; exact byU_b _ _
    · by_cases g1 : 32 ≤ i ∧ i < 40
      · simp [svM, svB, wrB, blnk_o, zrO, sI, sL, g0, g1]; exact byU_b _ _
      · by_cases g2 : 24 ≤ i ∧ i < 32
        · simp [svM, svB, wrB, blnk_o, zrO, sI, sL, g0, g1, g2]; exact byU_b _ _
        · by_cases g3 : i = 3
          · subst g3; simp [svM, svB, wrB, blnk_o, zrO, sI, sL]; exact b238
          · by_cases g4 : i = 2
            · subst g4; simp [svM, svB, wrB, blnk_o, zrO, sI, sL]; exact t8 2
            · by_cases g5 : i = 1
              · subst g5; simp [svM, svB, wrB, blnk_o, zrO, sI, sL]; exact hst
              · by_cases g6 : i = 0
                · subst g6; simp [svM, svB, wrB, blnk_o, zrO, sI, sL]; exact hb
                · by_cases g7 : i < 48
                  · simp [svM, svB, wrB, blnk_o, zrO, sI, sL, g0, g1, g2, g3, g4, g5, g6, g7, show ¬ 40 ≤ i by omega]; exact b0
                  · simp [svM, svB, wrB, blnk_o, zrO, sI, sL, g0, g1, g2, g3, g4, g5, g6, g7]; exact this
theorem sim_serve (r : Rel M t) : ∃ x M1 M2, PM G l m_TK_serve [vR (some TKK)] M (rI x) M1 0 0 ∧ PM G l m_MO_serve [vR (some MK)] M1 (rI x) M2 0 0 ∧ Rel M2 (t + 1) := by
  have r0 := r
  obtain ⟨⟨hM, hx⟩, ⟨n0, m, rt⟩, ⟨u, ld, q, ha, rc, cn, rp⟩, rx⟩ := r
  obtain ⟨t1, t2, t3, t4, t5, t6, t7, t8, t9, t10⟩ := rt
  obtain ⟨x1, ⟨s, x5, x5a, x5b⟩, x6⟩ := rx
  obtain ⟨b, hb, eb⟩ := byteN (t8 0)
  obtain ⟨v1, v2, v3, v4, v5, v6⟩ := b_ver b hb
  have eb2 : M.1 (0, 21) 0 = nI b := by rw [← t7]; exact eb
  have hv8 : b / 8 % 8 < 8 := by omega
  obtain ⟨w1, w2, w3, w4⟩ := v_eq (b / 8 % 8) hv8
  have hiff : svOK (M.1 (0, 1) 1) (M.1 (0, 2) 0) ↔ svOKm (M.1 MK 2) (M.1 (0, 21) 0) := by
    unfold svOK svOKm
    rw [t3, t4, eb, eb2, v1, v2, v3, v4]
    rw [show (1 : Int32) = nI 1 from rfl, show (4 : Int32) = nI 4 from rfl, nI_leI (by omega) (by omega), nI_leI (by omega) (by omega), nI_ltI (by omega) (by omega), nI_ltI (by omega) (by omega)]
    constructor
    · rintro ⟨a, ⟨b1, b2⟩, c⟩
      exact ⟨a, by omega, by omega, c⟩
    · rintro ⟨a, b1, b2, c⟩
      exact ⟨a, ⟨by omega, by omega⟩, c⟩
  by_cases hok : svOK (M.1 (0, 1) 1) (M.1 (0, 2) 0)
  · have q := pm_serve_y (G := G) (l := l) hM t8 hok
    have ev : ∀ lp st, (svM M lp st).1 (0, 21) 0 = M.1 (0, 21) 0 := fun lp st => by simp [svM, wrB, blnk_o, sI]
    have e2 : ∀ lp st, (svM M lp st).1 MK 2 = M.1 MK 2 := fun lp st => by simp [svM, wrB, blnk_o, sI]
    have e28 : ∀ lp st, (svM M lp st).1 MK 28 = nI s := fun lp st => by rw [← x5b]; simp [svM, wrB, blnk_o, sI]
    have p2 : ∀ lp st, PM G l m_MO_serve [vR (some MK)] (svM M lp st) (rI 1) (svB (svM M lp st) (if nI s ≤ 15 then nI s else 0) (if (if nI s ≤ 15 then nI s else 0) = 0 then 192 else 0)) 0 0 := fun lp st => by
      have := mo_serve_y (G := G) (l := l) (M := svM M lp st) hM (by rw [ev, e2]; exact hiff.mp hok)
      rw [e28] at this
      exact this
    rw [show M.1 (0, 7) 7 = nI s from x5a] at q
    by_cases s0 : s = 0
    · subst s0
      have q2 := p2 3 0
      rw [show (if nI 0 ≤ (15 : Int32) then nI 0 else 0) = 0 from rfl, if_pos rfl] at q2
      refine ⟨1, _, _, q, q2, ?_⟩
      exact sv_rel r0 3 0 192 (by rw [eb, eb2, v1, v2]; exact w1) (by rw [eb, v1, w1]; exact w3) (byteI 0 (by decide))
    · have n0' : ¬ nI s = 0 := nI_ne0 (by omega) (by omega)
      rw [if_neg n0'] at q
      by_cases s15 : s ≤ 15
      · have l15 : nI s ≤ (15 : Int32) := nI_le (b := 15) s15 (by decide)
        rw [if_pos l15] at q
        have q2 := p2 0 (nI s)
        rw [if_pos l15, if_neg n0'] at q2
        refine ⟨1, _, _, q, q2, ?_⟩
        exact sv_rel r0 0 (nI s) 0 (by rw [eb, eb2, v1, v2]; exact w2) (by rw [eb, v1, w2]; exact w4) (byteI s (by omega))
      · have l15 : ¬ nI s ≤ (15 : Int32) := nI_ge (a := 15) (by omega) (by omega)
        rw [if_neg l15] at q
        have q2 := p2 3 0
        rw [if_neg l15, if_pos rfl] at q2
        refine ⟨1, _, _, q, q2, ?_⟩
        exact sv_rel r0 3 0 192 (by rw [eb, eb2, v1, v2]; exact w1) (by rw [eb, v1, w1]; exact w3) (byteI 0 (by decide))
  · exact ⟨0, M, _, pm_serve_n hM hok, mo_serve_n hM (fun z => hok (hiff.mpr z)), sN_code.rel (by omega) r0⟩
end S3
