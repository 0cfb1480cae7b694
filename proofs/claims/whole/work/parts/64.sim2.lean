/-! request, serve, answer, on both sides at once -/
def sP1 (M N : Mem) (p : Nat) : Prop := (∀ j, N.1 (p + 1, j) = M.1 (p + 1, j) ∧ N.2.1 (p + 1, j) = M.2.1 (p + 1, j)) ∧ (N.1 (0, 25) p = M.1 (0, 25) p ∧ N.1 (0, 26) p = M.1 (0, 26) p ∧ N.1 (0, 29) p = M.1 (0, 29) p ∧ N.1 (0, 30) p = M.1 (0, 30) p) ∧ (N.2.1 (0, 23) p = M.2.1 (0, 23) p ∧ N.2.1 (0, 24) p = M.2.1 (0, 24) p ∧ N.2.1 (0, 27) p = M.2.1 (0, 27) p ∧ N.2.1 (0, 28) p = M.2.1 (0, 28) p) ∧ N.2.1 (0, 31) = M.2.1 (0, 31) ∧ N.2.1 (0, 32) = M.2.1 (0, 32) ∧ N.2.1 (0, 33) = M.2.1 (0, 33) ∧ N.1 (0, 34) = M.1 (0, 34)
theorem R1_c1 {M N : Mem} {u u' p c : Nat} (h : sP1 M N p) (hu : u ≤ u') (r : R1 M u p c) : R1 N u' p c := by
  obtain ⟨hc, ⟨a1, a2, a3, a4⟩, ⟨b1, b2, b3, b4⟩, d1, d2, d3, d4⟩ := h
  obtain ⟨e1, e2⟩ := mJi_c (M := M) (N := N) d1 d2 p c
  unfold R1 RS at *
  rw [e1, e2, (hc 0).1, (hc 0).2, (hc 1).2, (hc 2).2, (hc 3).2, (hc 4).1, (hc 5).1, a1, a2, a3, a4, b1, b2, b3, b4, d1, d2, d3, d4]
  obtain ⟨r1, r2, r3, r4, r5, r6, r7, r8⟩ := r
  refine ⟨r1, r2, r3, r4, r5, fun i hi => ?_, r7, r8⟩
  obtain ⟨s1, s2, s3, s4, a, ha, e⟩ := r6 i hi
  exact ⟨s1, s2, s3, s4, a, by omega, e⟩
theorem byU_b (v : Int64) (s : Nat) : byteOK (byU v s) := and255 _
theorem p_rng {d : Int32} (h : ¬ (d < 0 ∨ 8 ≤ d)) : ∃ j, j < 8 ∧ d = nI j := by
  obtain ⟨j, _, j8, e⟩ := i_rng 0 7 (by decide) (by decide) (n := d) (fun z => h (Or.inl z)) (fun z => h (Or.inr (by
    rw [Int32.lt_iff_toInt_lt, nI_toInt (by decide)] at z
    rw [Int32.le_iff_toInt_le]
    have : (8 : Int32).toInt = 8 := by decide
    omega)))
  exact ⟨j, by omega, e⟩
section S2
variable {G : GG} {l : Launch} {M : Mem} {t : Nat}
theorem sim_request (r : Rel M t) (d : Int32) : SimL G l t M m_LW_request [vR (some TKK), vI d, vR (some OK_)] m_MO_request [vR (some MK), vI d] := by
  have r0 := r
  obtain ⟨⟨hM, hx⟩, ⟨n0, m, rt⟩, ⟨u, ld, q, ha, rc, cn, rp⟩, rx⟩ := r
  obtain ⟨t1, t2, t3, t4, t5, t6, t7, t8, t9, t10⟩ := rt
  have rc0 := rc
  obtain ⟨⟨c1, c2, c3, c4, c5, c6⟩, ⟨c7, c8, c9, c10, c11, c12⟩, c13, c14, c15, c16⟩ := rc
  by_cases h : d < 0 ∨ 8 ≤ d
  · exact ⟨1, 0, M, sI M MK 0 1, 1, 6, lw_request_2 d (pm_request_x hM d h), mo_request_x d h, by simp [sI], bad1 (by decide), sN_code.rel (by omega) r0, by omega, by omega⟩
  · obtain ⟨j, hj, rfl⟩ := p_rng h
    have p1 := lw_request (G := G) (l := l) (nI j) _ (pm_request hM j hj)
    have p2 := mo_request (G := G) (l := l) (M := (sL (rqM (askM M j (M.2.1 (0, 5) 0)) (sentOf (M.2.1 (0, 5) 0))) OK_ 0 (sentOf (M.2.1 (0, 5) 0)))) hM j hj
    have ec : (sL (rqM (askM M j (M.2.1 (0, 5) 0)) (sentOf (M.2.1 (0, 5) 0))) OK_ 0 (sentOf (M.2.1 (0, 5) 0))).2.1 MK 5 = M.2.1 (0, 5) 0 := by rw [c1]; simp [rqM, askM, rqB, rqA, wrB, blnk_o, zrO, sI, sL]
    rw [ec] at p2
    refine ⟨0, _, _, _, 0, 0, p1, p2, by simp [rqM, askM, rqB, rqA, wrB, blnk_o, zrO, sI, sL], fun _ => by simp [rqM, askM, rqB, rqA, wrB, blnk_o, zrO, sI, sL], ⟨⟨hM, hx⟩, ⟨n0, 48, ?_⟩, ⟨u, ld, q, ⟨by omega, by omega⟩, RC_c ⟨⟨by funext i; simp [rqM, askM, rqB, rqA, wrB, blnk_o, zrO, sI, sL], by funext i; simp [rqM, askM, rqB, rqA, wrB, blnk_o, zrO, sI, sL]⟩, ⟨by simp [rqM, askM, rqB, rqA, wrB, blnk_o, zrO, sI, sL], by simp [rqM, askM, rqB, rqA, wrB, blnk_o, zrO, sI, sL], by simp [rqM, askM, rqB, rqA, wrB, blnk_o, zrO, sI, sL], by simp [rqM, askM, rqB, rqA, wrB, blnk_o, zrO, sI, sL], by simp [rqM, askM, rqB, rqA, wrB, blnk_o, zrO, sI, sL], by simp [rqM, askM, rqB, rqA, wrB, blnk_o, zrO, sI, sL]⟩, by simp [rqM, askM, rqB, rqA, wrB, blnk_o, zrO, sI, sL], by simp [rqM, askM, rqB, rqA, wrB, blnk_o, zrO, sI, sL], by simp [rqM, askM, rqB, rqA, wrB, blnk_o, zrO, sI, sL], by simp [rqM, askM, rqB, rqA, wrB, blnk_o, zrO, sI, sL]⟩ rc0, cn, fun p hp => ?_⟩, RX_c ⟨⟨by funext i; simp [rqM, askM, rqB, rqA, wrB, blnk_o, zrO, sI, sL], by funext i; simp [rqM, askM, rqB, rqA, wrB, blnk_o, zrO, sI, sL]⟩, ⟨by simp [rqM, askM, rqB, rqA, wrB, blnk_o, zrO, sI, sL], by simp [rqM, askM, rqB, rqA, wrB, blnk_o, zrO, sI, sL], by simp [rqM, askM, rqB, rqA, wrB, blnk_o, zrO, sI, sL], by simp [rqM, askM, rqB, rqA, wrB, blnk_o, zrO, sI, sL], by simp [rqM, askM, rqB, rqA, wrB, blnk_o, zrO, sI, sL]⟩, by simp [rqM, askM, rqB, rqA, wrB, blnk_o, zrO, sI, sL], by simp [rqM, askM, rqB, rqA, wrB, blnk_o, zrO, sI, sL], by simp [rqM, askM, rqB, rqA, wrB, blnk_o, zrO, sI, sL], by simp [rqM, askM, rqB, rqA, wrB, blnk_o, zrO, sI, sL]⟩ rx⟩, by omega, by omega⟩
    · refine ⟨t1, by omega, by rw [← t3]; simp [rqM, askM, rqB, rqA, wrB, blnk_o, zrO, sI, sL], by rw [← t4]; simp [rqM, askM, rqB, rqA, wrB, blnk_o, zrO, sI, sL], by simp [rqM, askM, rqB, rqA, wrB, blnk_o, zrO, sI, sL]; rfl, by simp [rqM, askM, rqB, rqA, wrB, blnk_o, zrO, sI, sL]; rfl, ?_, ?_, ?_, ?_⟩
      · funext i
        have e : M.1 (0, 2) i = M.1 (0, 21) i := by rw [t7]
        simp [rqM, askM, rqB, rqA, wrB, blnk_o, zrO, sI, sL, e]
      · intro i
        have := t8 i
        simp [rqM, askM, rqB, rqA, wrB, blnk_o, zrO, sI, sL]
        exact this
      · funext i
        have e : M.1 (0, 4) i = M.1 (0, 22) i := by rw [t9]
        by_cases g0 : 40 ≤ i ∧ i < 48
        · simp [rqM, askM, rqB, rqA, wrB, blnk_o, zrO, sI, sL, g0, by_eq _ (7 - (i - 40)) (by omega)]
        · by_cases g1 : i = 3
          · subst g1; simp [rqM, askM, rqB, rqA, wrB, blnk_o, zrO, sI, sL, c7, c8]; done
          · by_cases g2 : i = 2
            · subst g2; simp [rqM, askM, rqB, rqA, wrB, blnk_o, zrO, sI, sL, c7, c8]; done
            · by_cases g3 : i = 0
              · subst g3; simp [rqM, askM, rqB, rqA, wrB, blnk_o, zrO, sI, sL, c7, c8]; done
              · by_cases g4 : i < 48
                · simp [rqM, askM, rqB, rqA, wrB, blnk_o, zrO, sI, sL, g0, g1, g2, g3, g4, show ¬ 40 ≤ i by omega, e, c7, c8]; done
                · simp [rqM, askM, rqB, rqA, wrB, blnk_o, zrO, sI, sL, g0, g1, g2, g3, g4, e, c7, c8]
      · intro i
        have := t10 i
        have b35 := byteI 35 (by decide)
        have b238 := byteI 238 (by decide)
        have bq := byteI q (by omega)
        have b0 := byteI 0 (by decide)
        by_cases g0 : 40 ≤ i ∧ i < 48
        · simp [rqM, askM, rqB, rqA, wrB, blnk_o, zrO, sI, sL, g0]; exact byU_b _ _
        · by_cases g1 : i = 3
          · subst g1; simp [rqM, askM, rqB, rqA, wrB, blnk_o, zrO, sI, sL, c7]; exact b238
          · by_cases g2 : i = 2
            · subst g2; simp [rqM, askM, rqB, rqA, wrB, blnk_o, zrO, sI, sL, c7]; exact bq
            · by_cases g3 : i = 0
              · subst g3; simp [rqM, askM, rqB, rqA, wrB, blnk_o, zrO, sI, sL, c7]; exact b35
              · by_cases g4 : i < 48
                · simp [rqM, askM, rqB, rqA, wrB, blnk_o, zrO, sI, sL, g0, g1, g2, g3, g4, show ¬ 40 ≤ i by omega]; exact b0
                · simp [rqM, askM, rqB, rqA, wrB, blnk_o, zrO, sI, sL, g0, g1, g2, g3, g4]; exact this
    · by_cases e : p = j
      · subst e
        obtain ⟨r1, r2, ⟨rr, r3, r3a, r3b⟩, r4, r5, r6, r7, r8⟩ := rp p hp
        obtain ⟨q1, q2⟩ := r_shl rr r3
        obtain ⟨e1, e2⟩ := mJi_c (M := M) (N := rqB (rqA (sL (rqM (askM M p (M.2.1 (0, 5) 0)) (sentOf (M.2.1 (0, 5) 0))) OK_ 0 (sentOf (M.2.1 (0, 5) 0))) p) (sentOf (M.2.1 (0, 5) 0))) (by funext i; simp [rqM, askM, rqB, rqA, wrB, blnk_o, zrO, sI, sL]) (by funext i; simp [rqM, askM, rqB, rqA, wrB, blnk_o, zrO, sI, sL]) p (cn p)
        refine ⟨⟨r1.1, by rw [← r1.2.1]; simp [rqM, askM, rqB, rqA, wrB, blnk_o, zrO, sI, sL], by rw [← r1.2.2]; simp [rqM, askM, rqB, rqA, wrB, blnk_o, zrO, sI, sL]⟩, ⟨by simp [rqM, askM, rqB, rqA, wrB, blnk_o, zrO, sI, sL, c1], by simp [rqM, askM, rqB, rqA, wrB, blnk_o, zrO, sI, sL]; exact r2.2.1, by simp [rqM, askM, rqB, rqA, wrB, blnk_o, zrO, sI, sL]; exact r2.2.2.1, by simp [rqM, askM, rqB, rqA, wrB, blnk_o, zrO, sI, sL]; exact r2.2.2.2.1, by simp [rqM, askM, rqB, rqA, wrB, blnk_o, zrO, sI, sL]; exact r2.2.2.2.2⟩, ⟨2 * rr % 256, by omega, ?_, ?_⟩, ?_, ?_, fun i hi => ?_, fun pl hpl => ?_, fun z => ?_⟩
        · rw [← q1, ← r3a]
          simp [rqM, askM, rqB, rqA, wrB, blnk_o, zrO, sI, sL]
        · rw [← q2, ← r3b]
          simp [rqM, askM, rqB, rqA, wrB, blnk_o, zrO, sI, sL]
        · obtain ⟨s, a1, a2, a3⟩ := r4
          exact ⟨s, a1, by rw [← a2]; simp [rqM, askM, rqB, rqA, wrB, blnk_o, zrO, sI, sL], by rw [← a3]; simp [rqM, askM, rqB, rqA, wrB, blnk_o, zrO, sI, sL]⟩
        · simp [rqM, askM, rqB, rqA, wrB, blnk_o, zrO, sI, sL]
          exact r5
        · have a := r6 i hi
          unfold RS at a ⊢
          simp [rqM, askM, rqB, rqA, wrB, blnk_o, zrO, sI, sL]
          exact a
        · rw [e2, ← r7 pl hpl]
          simp [rqM, askM, rqB, rqA, wrB, blnk_o, zrO, sI, sL]
        · rw [e1, ← r8 z]
          simp [rqM, askM, rqB, rqA, wrB, blnk_o, zrO, sI, sL]
      · refine R1_c1 ⟨fun b => ⟨?_, ?_⟩, ⟨by simp [rqM, askM, rqB, rqA, wrB, blnk_o, zrO, sI, sL, e], by simp [rqM, askM, rqB, rqA, wrB, blnk_o, zrO, sI, sL, e], by simp [rqM, askM, rqB, rqA, wrB, blnk_o, zrO, sI, sL, e], by simp [rqM, askM, rqB, rqA, wrB, blnk_o, zrO, sI, sL, e]⟩, ⟨by simp [rqM, askM, rqB, rqA, wrB, blnk_o, zrO, sI, sL, e], by simp [rqM, askM, rqB, rqA, wrB, blnk_o, zrO, sI, sL, e], by simp [rqM, askM, rqB, rqA, wrB, blnk_o, zrO, sI, sL, e], by simp [rqM, askM, rqB, rqA, wrB, blnk_o, zrO, sI, sL, e]⟩, by funext i; simp [rqM, askM, rqB, rqA, wrB, blnk_o, zrO, sI, sL], by funext i; simp [rqM, askM, rqB, rqA, wrB, blnk_o, zrO, sI, sL], by funext i; simp [rqM, askM, rqB, rqA, wrB, blnk_o, zrO, sI, sL], by funext i; simp [rqM, askM, rqB, rqA, wrB, blnk_o, zrO, sI, sL]⟩ (Nat.le_refl _) (rp p hp)
        · funext i
          simp [rqM, askM, rqB, rqA, wrB, blnk_o, zrO, sI, sL, e]
        · funext i
          simp [rqM, askM, rqB, rqA, wrB, blnk_o, zrO, sI, sL, e]
end S2
