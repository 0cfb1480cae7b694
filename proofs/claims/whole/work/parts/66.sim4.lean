/-! answer, on both sides at once -/
section S4
variable {G : GG} {l : Launch} {M : Mem} {t : Nat}
theorem sim_answer (r : Rel M t) (d lv dl dp : Int32) (off way held back : Int64) : SimL G l t M m_LW_answer [vR (some TKK), vI d, vI lv, vI dl, vI dp, vL off, vL way, vL held, vL back, vR (some OK_)] m_MO_answer [vR (some MK), vI d, vI lv, vI dl, vI dp, vL off, vL way, vL held, vL back] := by
  have r0 := r
  obtain ⟨⟨hM, hx⟩, ⟨n0, m, rt⟩, ⟨u, ld, q, ha, rc, cn, rp⟩, rx⟩ := r
  obtain ⟨t1, t2, t3, t4, t5, t6, t7, t8, t9, t10⟩ := rt
  have rc0 := rc
  obtain ⟨⟨c1, c2, c3, c4, c5, c6⟩, ⟨c7, c8, c9, c10, c11, c12⟩, c13, c14, c15, c16⟩ := rc
  by_cases h : d < 0 ∨ 8 ≤ d
  · exact ⟨1, 0, M, sI M MK 0 1, 1, 6, lw_answer_2 d lv dl dp off way held back (pm_answer_x2 hM d lv dl dp off way held back h), mo_answer_x1 d lv dl dp off way held back h, by simp [sI], bad1 (by decide), sN_code.rel (by omega) r0, by omega, by omega⟩
  · obtain ⟨j, hj, rfl⟩ := p_rng h
    have hlvi : lv ≤ 255 ↔ ¬ 256 ≤ lv := by
      rw [Int32.le_iff_toInt_le, Int32.le_iff_toInt_le]
      have a : (255 : Int32).toInt = 255 := by decide
      have b : (256 : Int32).toInt = 256 := by decide
      omega
    have hiff : anOK lv dl dp way held back ↔ anOKm lv dl dp way held back := by
      unfold anOK anOKm
      rw [hlvi]
      constructor
      · rintro ⟨⟨a, b⟩, ⟨c, d⟩, e, f, g⟩
        exact ⟨a, b, c, d, e, f, g⟩
      · rintro ⟨a, b, c, d, e, f, g⟩
        exact ⟨⟨a, b⟩, ⟨c, d⟩, e, f, g⟩
    by_cases hok : anOK lv dl dp way held back
    · have hlv : byteOK lv := by
        obtain ⟨⟨a, b⟩, _⟩ := hok
        rw [Int32.lt_iff_toInt_lt, Int32.toInt_zero] at a
        rw [Int32.le_iff_toInt_le] at b
        have : (255 : Int32).toInt = 255 := by decide
        exact ⟨by omega, by omega⟩
      have p1 := lw_answer (G := G) (l := l) (nI j) lv dl dp off way held back _ (pm_answer hM j hj lv dl dp off way held back hok)
      have p2 := mo_answer (G := G) (l := l) (M := (sL (anC M j lv dl dp off way held back) OK_ 0 (M.2.1 (0, 5) 0 + (way + held + back)))) hM j hj lv dl dp off way held back (hiff.mp hok)
      have ec : (sL (anC M j lv dl dp off way held back) OK_ 0 (M.2.1 (0, 5) 0 + (way + held + back))).2.1 MK 5 = M.2.1 (0, 5) 0 := by rw [show M.2.1 (0, 5) 0 = M.2.1 MK 5 from c1]; simp [anC, anM, anD, anB, wrB, blnk_t, zrT, sI, sL]
      rw [ec] at p2
      have es : M.2.1 (j + 1, 0) 0 = M.2.1 (0, 23) j := (rp j hj).2.1.1
      refine ⟨0, _, _, _, 0, 0, p1, p2, by simp [anC, anM, anD, anB, wrB, blnk_t, zrT, sI, sL], fun _ => by simp [anC, anM, anD, anB, wrB, blnk_t, zrT, sI, sL], ⟨⟨hM, hx⟩, ⟨48, m, ?_⟩, ⟨u, ld, q, ⟨by omega, by omega⟩, ?_, cn, fun p hp => R1_c ⟨fun a b => ⟨by funext i; simp [anC, anM, anD, anB, wrB, blnk_t, zrT, sI, sL], by funext i; simp [anC, anM, anD, anB, wrB, blnk_t, zrT, sI, sL]⟩, fun b h1 h2 => ⟨by funext i; simp [anC, anM, anD, anB, wrB, blnk_t, zrT, sI, sL, show ¬ b = 1 by omega, show ¬ b = 2 by omega, show ¬ b = 3 by omega, show ¬ b = 4 by omega, show ¬ b = 5 by omega, show ¬ b = 7 by omega, show ¬ b = 20 by omega, show ¬ b = 21 by omega, show ¬ b = 22 by omega, show ¬ b = 35 by omega, show ¬ b = 40 by omega], by funext i; simp [anC, anM, anD, anB, wrB, blnk_t, zrT, sI, sL, show ¬ b = 1 by omega, show ¬ b = 2 by omega, show ¬ b = 3 by omega, show ¬ b = 4 by omega, show ¬ b = 5 by omega, show ¬ b = 7 by omega, show ¬ b = 20 by omega, show ¬ b = 21 by omega, show ¬ b = 22 by omega, show ¬ b = 35 by omega, show ¬ b = 40 by omega]⟩⟩ (Nat.le_refl _) (rp p hp)⟩, RX_c ⟨⟨by funext i; simp [anC, anM, anD, anB, wrB, blnk_t, zrT, sI, sL], by funext i; simp [anC, anM, anD, anB, wrB, blnk_t, zrT, sI, sL]⟩, ⟨by simp [anC, anM, anD, anB, wrB, blnk_t, zrT, sI, sL], by simp [anC, anM, anD, anB, wrB, blnk_t, zrT, sI, sL], by simp [anC, anM, anD, anB, wrB, blnk_t, zrT, sI, sL], by simp [anC, anM, anD, anB, wrB, blnk_t, zrT, sI, sL], by simp [anC, anM, anD, anB, wrB, blnk_t, zrT, sI, sL]⟩, by simp [anC, anM, anD, anB, wrB, blnk_t, zrT, sI, sL], by simp [anC, anM, anD, anB, wrB, blnk_t, zrT, sI, sL], by simp [anC, anM, anD, anB, wrB, blnk_t, zrT, sI, sL], by simp [anC, anM, anD, anB, wrB, blnk_t, zrT, sI, sL]⟩ rx⟩, by omega, by omega⟩
      · refine ⟨by omega, t2, by simp [anC, anM, anD, anB, wrB, blnk_t, zrT, sI, sL]; rfl, by simp [anC, anM, anD, anB, wrB, blnk_t, zrT, sI, sL]; rfl, by rw [← t5]; simp [anC, anM, anD, anB, wrB, blnk_t, zrT, sI, sL], by rw [← t6]; simp [anC, anM, anD, anB, wrB, blnk_t, zrT, sI, sL], ?_, ?_, ?_, ?_⟩
        · funext i
          have e : M.1 (0, 2) i = M.1 (0, 21) i := by rw [t7]
          by_cases g0 : 40 ≤ i ∧ i < 48
          · simp [anC, anM, anD, anB, wrB, blnk_t, zrT, sI, sL, g0, by_eq _ (7 - (i - 40)) (by omega), es]
          · by_cases g1 : 32 ≤ i ∧ i < 40
            · simp [anC, anM, anD, anB, wrB, blnk_t, zrT, sI, sL, g0, g1, by_eq _ (7 - (i - 32)) (by omega), es]
            · by_cases g2 : 24 ≤ i ∧ i < 32
              · simp [anC, anM, anD, anB, wrB, blnk_t, zrT, sI, sL, g0, g1, g2, by_eq _ (7 - (i - 24)) (by omega), es]
              · by_cases g3 : 8 ≤ i ∧ i < 12
                · simp [anC, anM, anD, anB, wrB, blnk_t, zrT, sI, sL, g0, g1, g2, g3, by_eq _ (3 - (i - 8)) (by omega), es]
                · by_cases g4 : 4 ≤ i ∧ i < 8
                  · simp [anC, anM, anD, anB, wrB, blnk_t, zrT, sI, sL, g0, g1, g2, g3, g4, by_eq _ (3 - (i - 4)) (by omega), es]
                  · by_cases g5 : i = 1
                    · subst g5; simp [anC, anM, anD, anB, wrB, blnk_t, zrT, sI, sL]
                    · by_cases g6 : i = 0
                      · subst g6; simp [anC, anM, anD, anB, wrB, blnk_t, zrT, sI, sL]
                      · by_cases g7 : i < 48
                        · simp [anC, anM, anD, anB, wrB, blnk_t, zrT, sI, sL, g0, g1, g2, g3, g4, g5, g6, g7, show ¬ 40 ≤ i by omega]
                        · simp [anC, anM, anD, anB, wrB, blnk_t, zrT, sI, sL, g0, g1, g2, g3, g4, g5, g6, g7, e]
        · intro i
          have := t8 i
          have b36 := byteI 36 (by decide)
          have b0 := byteI 0 (by decide)
          by_cases g0 : 40 ≤ i ∧ i < 48
          · simp [anC, anM, anD, anB, wrB, blnk_t, zrT, sI, sL, g0]; exact byU_b _ _
          · by_cases g1 : 32 ≤ i ∧ i < 40
            · simp [anC, anM, anD, anB, wrB, blnk_t, zrT, sI, sL, g0, g1]; exact byU_b _ _
            · by_cases g2 : 24 ≤ i ∧ i < 32
              · simp [anC, anM, anD, anB, wrB, blnk_t, zrT, sI, sL, g0, g1, g2]; exact byU_b _ _
              · by_cases g3 : 8 ≤ i ∧ i < 12
                · simp [anC, anM, anD, anB, wrB, blnk_t, zrT, sI, sL, g0, g1, g2, g3]; exact byU_b _ _
                · by_cases g4 : 4 ≤ i ∧ i < 8
                  · simp [anC, anM, anD, anB, wrB, blnk_t, zrT, sI, sL, g0, g1, g2, g3, g4]; exact byU_b _ _
                  · by_cases g5 : i = 1
                    · subst g5; simp [anC, anM, anD, anB, wrB, blnk_t, zrT, sI, sL]; exact hlv
                    · by_cases g6 : i = 0
                      · subst g6; simp [anC, anM, anD, anB, wrB, blnk_t, zrT, sI, sL]; exact b36
                      · by_cases g7 : i < 48
                        · simp [anC, anM, anD, anB, wrB, blnk_t, zrT, sI, sL, g0, g1, g2, g3, g4, g5, g6, g7, show ¬ 40 ≤ i by omega]; exact b0
                        · simp [anC, anM, anD, anB, wrB, blnk_t, zrT, sI, sL, g0, g1, g2, g3, g4, g5, g6, g7]; exact this
        · funext i
          have e : M.1 (0, 4) i = M.1 (0, 22) i := by rw [t9]
          simp [anC, anM, anD, anB, wrB, blnk_t, zrT, sI, sL, e]
        · intro i
          have := t10 i
          simp [anC, anM, anD, anB, wrB, blnk_t, zrT, sI, sL]
          exact this
      · refine ⟨⟨by simp [anC, anM, anD, anB, wrB, blnk_t, zrT, sI, sL, c1], by rw [← c2]; simp [anC, anM, anD, anB, wrB, blnk_t, zrT, sI, sL], by rw [← c3]; simp [anC, anM, anD, anB, wrB, blnk_t, zrT, sI, sL], by simp [anC, anM, anD, anB, wrB, blnk_t, zrT, sI, sL]; exact c4, by simp [anC, anM, anD, anB, wrB, blnk_t, zrT, sI, sL]; exact c5, by simp [anC, anM, anD, anB, wrB, blnk_t, zrT, sI, sL]; exact c6⟩, ⟨by rw [← c7]; simp [anC, anM, anD, anB, wrB, blnk_t, zrT, sI, sL], by rw [← c8]; simp [anC, anM, anD, anB, wrB, blnk_t, zrT, sI, sL], by simp [anC, anM, anD, anB, wrB, blnk_t, zrT, sI, sL]; exact c9, by simp [anC, anM, anD, anB, wrB, blnk_t, zrT, sI, sL]; exact c10, by rw [← c11]; simp [anC, anM, anD, anB, wrB, blnk_t, zrT, sI, sL], by rw [← c12]; simp [anC, anM, anD, anB, wrB, blnk_t, zrT, sI, sL]⟩, fun z => by simp [anC, anM, anD, anB, wrB, blnk_t, zrT, sI, sL]; exact c13 z, fun z => by simp [anC, anM, anD, anB, wrB, blnk_t, zrT, sI, sL]; exact c14 z, c15, c16⟩
    · exact ⟨2, 0, M, _, 1, 6, lw_answer_0 _ lv dl dp off way held back (pm_answer_x0 hM j hj lv dl dp off way held back hok), mo_answer_x2 j hj lv dl dp off way held back (fun z => hok (hiff.mpr z)), by simp [sI], bad1 (by decide), (sN_t sN_code sN_code).rel (by omega) r0, by omega, by omega⟩
end S4
