/-! hear, whole -/
section HE4
variable {G : GG} {l : Launch} {M : Mem} {t : Nat}
theorem sim_hear (r : Rel M t) (ht : t ≤ 512) (d : Int32) : SimI G l t M m_LW_hear [vR (some TKK), vI d, vR (some OK_)] m_MO_hear [vR (some MK), vI d] := by
  have r0 := r
  obtain ⟨⟨hM, hx⟩, ⟨n0, m, rt⟩, ⟨u, ld, q, ha, rc, cn, rp⟩, rx⟩ := r
  have rt0 := rt
  have rc0 := rc
  obtain ⟨t1, t2, t3, t4, t5, t6, t7, t8, t9, t10⟩ := rt
  obtain ⟨⟨c1, c2, c3, c4, c5, c6⟩, ⟨c7, c8, c9, c10, c11, c12⟩, c13, c14, c15, c16⟩ := rc
  by_cases h : d < 0 ∨ 8 ≤ d
  · exact ⟨1, 0, M, sI M MK 0 1, 1, 6, lw_hear_2 d (pm_hear_x hM d h), mo_hear_x d h, by simp [sI], bad1 (by decide), sN_code.rel (by omega) r0, by omega, by omega⟩
  · obtain ⟨j, hj, rfl⟩ := p_rng h
    have r1 := rp j hj
    have q1 : M.2.1 (PEK j) 0 = M.2.1 (0, 23) j := r1.2.1.1
    have q2 : M.2.1 (PEK j) 1 = M.2.1 (0, 24) j := r1.2.1.2.1
    have hb21 : ∀ i, byteOK (M.1 (0, 21) i) := fun i => by rw [← t7]; exact t8 i
    have hf := pm_failedTest (G := G) (l := l) hM t8 j
    have fe : ftC (M.1 (0, 1) 1) (M.1 (0, 2) 0) (M.1 (0, 2) 1) (rdN (M.1 (0, 2)) 40 8) (rdN (M.1 (0, 2)) 24 8) (rdN (M.1 (0, 2)) 32 8) (M.2.1 (PEK j) 1) (M.2.1 (PEK j) 0) (rdN (M.1 (0, 2)) 4 4 + 2 * rdN (M.1 (0, 2)) 8 4) (oNw (rdN (M.1 (0, 2)) 32 8) (rdN (M.1 (0, 2)) 40 8) (M.2.1 (PEK j) 0) (M.2.1 TPK 0)) = fMv M j := by
      unfold fMv
      rw [t3, t4, q1, q2, c1, t7]
      exact ft_eq (hb21 0) (tw_eq hb21)
    rw [fe] at hf
    have hmo : PM G l m_MO_failed [vR (some MK), vI (nI j)] (sI (sL M OK_ 0 (fMv M j).toInt64) MK 0 0) (rI (fMv M j)) (sI (sL M OK_ 0 (fMv M j).toInt64) MK 0 0) 0 0 := by
      have z : PM G l m_MO_failed [vR (some MK), vI (nI j)] (sI (sL M OK_ 0 (fMv M j).toInt64) MK 0 0) (rI (fMv (sI (sL M OK_ 0 (fMv M j).toInt64) MK 0 0) j)) (sI (sL M OK_ 0 (fMv M j).toInt64) MK 0 0) 0 0 := mo_failed (M := sI (sL M OK_ 0 (fMv M j).toInt64) MK 0 0) hM j hj
      have e : mE M (sI (sL M OK_ 0 (fMv M j).toInt64) MK 0 0) := mE_code (kp.mE ⟨rfl, fun _ _ => ⟨rfl, rfl⟩⟩)
      rw [mE_f e j] at z
      exact z
    by_cases f0 : fMv M j = 0
    · rw [f0] at hf
      obtain ⟨⟨s, hs15, hst⟩, hoff⟩ := ft_0 f0 (hb21 1)
      obtain ⟨x, hX⟩ : ∃ x, x = oNw (rdN (M.1 (0, 2)) 32 8) (rdN (M.1 (0, 2)) 40 8) (M.2.1 (PEK j) 0) (M.2.1 TPK 0) := ⟨_, rfl⟩
      obtain ⟨y, hY⟩ : ∃ y, y = clp (dNw (rdN (M.1 (0, 2)) 32 8) (rdN (M.1 (0, 2)) 40 8) (M.2.1 (PEK j) 0) (M.2.1 TPK 0)) := ⟨_, rfl⟩
      have hxB : oB x := by
        rw [hX, t7, q1, c1]
        exact hoff
      have hc8 : cn j ≤ 8 := r1.1.1
      have r6 := r1.2.2.2.2.2.1
      obtain ⟨o, hS, w1⟩ := pm_take (G := G) (l := l) hM t8 j (cn j) hc8 r1.1.2.1 (tk_c (cn j)) rfl x y hX hY (fun k hk hne => sp_b tk_k8 (fun i hi => shF_P (P := oB) hxB (fun k hk => (r6 k hk).2.1) hc8 hi) k hk hne)
      have hA1 : ∀ p, p < 8 → R1 (mix (tkC M (adM M j (tk_c (cn j)) x y (M.1 TPK 1) o) j) (tkM M j (cn j))) u p (up cn j (tk_c (cn j)) p) := fun p hp => by
        by_cases e : p = j
        · subst e
          have := take_R1 (A := M) (B := M) (R1_mc cQ_r mE_r r1) c2 c3 t7 t8 c1 hX hY hxB s hs15 (by rw [t7]; exact hst) hS
          rw [show up cn p (tk_c (cn p)) p = tk_c (cn p) by simp [up]]
          exact this
        · rw [show up cn j (tk_c (cn j)) p = cn p by simp [up, e]]
          exact take_o e (R1_mc cQ_r mE_r (rp p hp))
      have kM1 : ∀ k : KK, k.1 = 0 → (tkC M (adM M j (tk_c (cn j)) x y (M.1 TPK 1) o) j).1 k = M.1 k ∧ (tkC M (adM M j (tk_c (cn j)) x y (M.1 TPK 1) o) j).2.1 k = M.2.1 k := fun k hk => tkC_f (by omega)
      have hr1 : (tkC M (adM M j (tk_c (cn j)) x y (M.1 TPK 1) o) j).2.2 = M.2.2 := rfl
      have hmo2 := fun N (a : N.2.2.1 = rf) (b : mE M N) => hear_mo (G := G) (l := l) a b hj hc8 r1.1.2.2 f0
      have hcj : up cn j (tk_c (cn j)) j = tk_c (cn j) := by simp [up]
      have rj := hA1 j hj
      rw [hcj] at rj
      have hat := R1_at rj (pl := 0) tk_k0
      have v1 : (tkC M (adM M j (tk_c (cn j)) x y (M.1 TPK 1) o) j).1 (j + 1, 4) (ro (mix (tkC M (adM M j (tk_c (cn j)) x y (M.1 TPK 1) o) j) (tkM M j (cn j))) j (tk_c (cn j)) 0) = (tkM M j (cn j)).1 (0, 34) (mOk (tkM M j (cn j)) j (tk_c (cn j)) 0) := hat.1.2.2.2
      have v2 : (tkC M (adM M j (tk_c (cn j)) x y (M.1 TPK 1) o) j).1 (PEK j) 13 = (tkM M j (cn j)).1 (0, 30) j := rj.2.1.2.2.2.2
      have hord : oOK (tkC M (adM M j (tk_c (cn j)) x y (M.1 TPK 1) o) j) j (tk_c (cn j)) (ro (mix (tkC M (adM M j (tk_c (cn j)) x y (M.1 TPK 1) o) j) (tkM M j (cn j))) j (tk_c (cn j))) := R1_ord rj
      have kK : ∀ i, i < 23 → (tkM M j (cn j)).1 (0, i) = M.1 (0, i) ∧ (tkM M j (cn j)).2.1 (0, i) = M.2.1 (0, i) := fun i hi => tkM_f (fun k a _ _ e => by injection e with _ e; omega)
      generalize ro (mix (tkC M (adM M j (tk_c (cn j)) x y (M.1 TPK 1) o) j) (tkM M j (cn j))) j (tk_c (cn j)) = o1 at v1 hord
      generalize tkC M (adM M j (tk_c (cn j)) x y (M.1 TPK 1) o) j = M1 at *
      have hM1 : M1.2.2.1 = rf := by rw [hr1]; exact hM
      have hn := pm_hasNews (G := G) (l := l) hM1 j (tk_c (cn j)) o1 hord tk_k0
      rw [v1, v2] at hn
      have k1 : kp M M1 := ⟨hr1, fun i _ => kM1 (0, i) rfl⟩
      by_cases hv : (tkM M j (cn j)).1 (0, 30) j < (tkM M j (cn j)).1 (0, 34) (mOk (tkM M j (cn j)) j (tk_c (cn j)) 0)
      · rw [if_pos hv, if_pos hv] at hn
        have hmo3 := fun N a b => (hmo2 N a b).2 hv
        generalize hvv : (tkM M j (cn j)).1 (0, 34) (mOk (tkM M j (cn j)) j (tk_c (cn j)) 0) = v at *
        have kM2 : ∀ i, (sI M1 (PEK j) 13 v).1 (0, i) = M.1 (0, i) ∧ (sI M1 (PEK j) 13 v).2.1 (0, i) = M.2.1 (0, i) := fun i => by
          refine ⟨?_, (kM1 (0, i) rfl).2⟩
          rw [← (kM1 (0, i) rfl).1]
          funext k
          simp [sI]
        have hM2 : (sI M1 (PEK j) 13 v).2.2.1 = rf := hM1
        have hu1 : (sI M1 (PEK j) 13 v).1 TPK 1 = nI u := by rw [(kM2 5).1]; exact c2
        have kK2 : ∀ i, i < 23 → (sI (tkM M j (cn j)) (0, 30) j v).1 (0, i) = M.1 (0, i) ∧ (sI (tkM M j (cn j)) (0, 30) j v).2.1 (0, i) = M.2.1 (0, i) := fun i hi => by
          refine ⟨?_, (kK i hi).2⟩
          rw [← (kK i hi).1]
          funext k
          simp [sI, show ¬ i = 30 by omega]
        refine hear_2 (M2 := sI M1 (PEK j) 13 v) (K2 := sI (tkM M j (cn j)) (0, 30) j v) (cn1 := up cn j (tk_c (cn j))) hM hx ht rt0 ha.1 ha.2 rc0 rx ⟨hr1, fun i _ => kM2 i⟩ (kM2 5).1 (kM2 5).2 (kM2 7).1 (kM2 7).2 (kK2 21 (by decide)).1 (kK2 22 (by decide)).1 (kK2 20 (by decide)).1 (kK2 20 (by decide)).2 (fun p hp => ?_) (fun M3 hc => ?_) (fun M3 M4 hM3 hc hl => ?_) (fun M3 M4 hM3 hc hl hM4 => ?_) (fun N hN hE => ?_)
        · by_cases e : p = j
          · subst e
            exact look_R1 (hA1 p hp)
          · exact look_o e (hA1 p hp)
        · exact pm_hear_n hM j hj hf M1 _ M3 w1 hn hM2 (nI u) hu1 hc
        · exact pm_hear_l hM j hj hf M1 _ M3 M4 w1 hn hM2 (nI u) hu1 hc hM3 hl
        · exact pm_hear_s hM j hj hf M1 _ M3 M4 w1 hn hM2 (nI u) hu1 hc hM3 hl hM4
        · have hNr : N.2.2.1 = rf := by rw [hN]; exact hM
          refine ⟨sI (tkM (sI N MK 0 0) j (cn j)) (0, 30) j v, mE_lk (mE_tk (mE_code hE) j (cn j)) j v, rfl, ⟨fun p i => ?_, fun i hi => ?_⟩, ?_, ?_, hmo3 N hNr hE⟩
          · have a := (tkM_cQ (N := sI N MK 0 0) j (cn j)).1 p i
            refine ⟨?_, a.2⟩
            have e : (sI N MK 0 0).1 (p + 1, i) = N.1 (p + 1, i) := by funext k; simp [sI]
            rw [← e, ← a.1]
            funext k
            simp [sI]
          · have a := (tkM_cQ (N := sI N MK 0 0) j (cn j)).2 i hi
            refine ⟨?_, a.2⟩
            have e : (sI N MK 0 0).1 (0, i) = N.1 (0, i) := by funext k; simp [sI, show ¬ i = 20 by omega]
            rw [← e, ← a.1]
            funext k
            simp [sI, show ¬ i = 30 by omega]
          · have a := (tkM_MK (N := sI N MK 0 0) j (cn j)).1
            have e : (sI (tkM (sI N MK 0 0) j (cn j)) (0, 30) j v).1 MK 0 = (tkM (sI N MK 0 0) j (cn j)).1 MK 0 := by simp [sI]
            rw [e, a]
            simp [sI]
          · exact (tkM_f (B := sI N MK 0 0) (p := j) (c := cn j) (q := OK_) (fun k a b _ e => by injection e with _ e; omega)).2
      · rw [if_neg hv, if_neg hv] at hn
        have p1 := pm_hear_0 hM j hj hf M1 M1 w1 hn
        have hE : mE M (sL M1 OK_ 0 (0 : Int32).toInt64) := k1.mE
        have p2 := (hmo2 (sL M1 OK_ 0 (0 : Int32).toInt64) hM1 hE).1 hv
        have hcq := tkM_cQ (N := sI (sL M1 OK_ 0 (0 : Int32).toInt64) MK 0 0) j (cn j)
        have hmk := tkM_MK (N := sI (sL M1 OK_ 0 (0 : Int32).toInt64) MK 0 0) j (cn j)
        have hmE := mE_tk (mE_code hE (x := 0)) j (cn j)
        have hok := (tkM_f (B := sI (sL M1 OK_ 0 (0 : Int32).toInt64) MK 0 0) (p := j) (c := cn j) (q := OK_) (fun k a b _ e => by injection e with _ e; omega)).2
        have low : ∀ i, i < 20 → (tkM (sI (sL M1 OK_ 0 (0 : Int32).toInt64) MK 0 0) j (cn j)).1 (0, i) = M1.1 (0, i) ∧ (tkM (sI (sL M1 OK_ 0 (0 : Int32).toInt64) MK 0 0) j (cn j)).2.1 (0, i) = M1.2.1 (0, i) := fun i hi => by
          rw [(hcq.2 i hi).1, (hcq.2 i hi).2]
          constructor
          · funext k; simp [sI, sL, show ¬ i = 20 by omega]
          · funext k; simp [sI, sL, show ¬ i = 40 by omega]
        have hr2 : (tkM (sI (sL M1 OK_ 0 (0 : Int32).toInt64) MK 0 0) j (cn j)).2.2 = M.2.2 := hr1
        have mki : ∀ i, i ≠ 0 → i ≠ 32 → (tkM (sI (sL M1 OK_ 0 (0 : Int32).toInt64) MK 0 0) j (cn j)).1 MK i = M.1 MK i := fun i a b => by
          rw [hmE.2.1 i a b, (kK 20 (by decide)).1]
        have mkl : (tkM (sI (sL M1 OK_ 0 (0 : Int32).toInt64) MK 0 0) j (cn j)).2.1 MK = M.2.1 MK := by
          rw [hmE.2.2, (kK 20 (by decide)).2]
        have z0 : (tkM (sI (sL M1 OK_ 0 (0 : Int32).toInt64) MK 0 0) j (cn j)).1 MK 0 = 0 := by
          rw [hmk.1]
          simp [sI]
        have zo : (tkM (sI (sL M1 OK_ 0 (0 : Int32).toInt64) MK 0 0) j (cn j)).2.1 OK_ 0 = (0 : Int32).toInt64 := by
          rw [hok]
          simp [sI, sL]
        have pe : ∀ q i, (tkM (sI (sL M1 OK_ 0 (0 : Int32).toInt64) MK 0 0) j (cn j)).1 (q + 1, i) = M1.1 (q + 1, i) ∧ (tkM (sI (sL M1 OK_ 0 (0 : Int32).toInt64) MK 0 0) j (cn j)).2.1 (q + 1, i) = M1.2.1 (q + 1, i) := fun q i => by
          rw [(hcq.1 q i).1, (hcq.1 q i).2]
          constructor
          · funext k; simp [sI, sL]
          · funext k; simp [sI, sL]
        generalize tkM (sI (sL M1 OK_ 0 (0 : Int32).toInt64) MK 0 0) j (cn j) = N at *
        refine hear_sim p1 p2 z0 zo (fin_rel hM hx rt0 ha.1 k1 hr2 low ?_ ?_ (mki 2 (by decide) (by decide)) (mki 4 (by decide) (by decide)) ⟨ld, q, by omega, RC_c ⟨⟨?_, ?_⟩, ⟨mki 6 (by decide) (by decide), mki 33 (by decide) (by decide), mki 34 (by decide) (by decide), mki 35 (by decide) (by decide), mki 36 (by decide) (by decide), mki 37 (by decide) (by decide)⟩, by rw [mkl], by rw [mkl], by rw [mkl], by rw [mkl]⟩ rc0⟩ ⟨up cn j (tk_c (cn j)), fun p hp => R1_cm2 (A := M1) (B := tkM M j (cn j)) pe (fun i a b => hmE.1 i (by omega) b) (hA1 p hp)⟩ ?_)
        · rw [(hmE.1 21 (by decide) (by decide)).1, (kK 21 (by decide)).1]
        · rw [(hmE.1 22 (by decide) (by decide)).1, (kK 22 (by decide)).1]
        · rw [(low 5 (by decide)).1]; exact (kM1 (0, 5) rfl).1
        · rw [(low 5 (by decide)).2]; exact (kM1 (0, 5) rfl).2
        · refine RX_c ⟨⟨?_, ?_⟩, ⟨mki 22 (by decide) (by decide), mki 23 (by decide) (by decide), mki 24 (by decide) (by decide), mki 25 (by decide) (by decide), mki 28 (by decide) (by decide)⟩, by rw [mkl], by rw [mkl], by rw [mkl], by rw [mkl]⟩ rx
          · rw [(low 7 (by decide)).1]; exact (kM1 (0, 7) rfl).1
          · rw [(low 7 (by decide)).2]; exact (kM1 (0, 7) rfl).2
    · have hp := (ft_p _ _ _ _ _ _ _ _ _ _ : fMv M j = 0 ∨ ¬ fMv M j ≤ 0).resolve_left f0
      have p1 := lw_hear (G := G) (l := l) (nI j) _ (pm_hear_f hM j hj _ f0 hf)
      have p2 := mo_hear_f (G := G) (l := l) (M := sL M OK_ 0 (fMv M j).toInt64) j hj (fMv M j) hp hmo
      exact ⟨0, fMv M j, _, _, 0, 0, p1, p2, by simp [sI], fun _ => by simp [sI, sL], (sN_t sN_out sN_code).rel (by omega) r0, by omega, by omega⟩
end HE4
