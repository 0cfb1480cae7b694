/-! the reference: an update, whole -/
section MU2
variable {G : GG} {l : Launch} {M : Mem}
theorem cand_pos {cm : Nat → Nat} {V : VV} {p : Nat} (h : mcd M cm V p = true) : 0 < cm p := by
  unfold mcd at h
  simp only [Bool.and_eq_true, decide_eq_true_eq] at h
  exact h.1
theorem up0_22 {ns : List Nat} : (up0 M ns).1 MK 22 = nI (msk ns) := sI_s
theorem inter_no (hM : M.2.2.1 = rf) {cm : Nat → Nat} (hP : MPs M cm) (V : VV) (hV : V = mVV M cm) (P : Nat → Bool) (hPe : P = mcd M cm V) (ns : List Nat) (hns : ns = rgf P 8) (g : Nat) (hg : g ≤ ns.length) (hno : ∀ lo hi, ¬ mAg V ns g lo hi) : PM G l m_MO_intersect [vR (some MK), vI (nI g)] (up0 M ns) (rI 0) (up0 M ns) 0 0 := by
  refine mo_inter (M := up0 M ns) hM (sm_mps up0_sm hP) (m := msk ns) (P := P) (by rw [hns]; exact bts_msk) up0_22 (fun p _ h => cand_pos (by rw [hPe] at h; exact h)) g V (by rw [sm_mVV up0_sm]; exact hV) ns hns hg _ _ ?_ ?_
  · intro lo hi h
    exact absurd h (hno lo hi)
  · intro _
    exact ⟨rfl, rfl⟩
theorem update_n (hM : M.2.2.1 = rf) {cm : Nat → Nat} (hP : MPs M cm) (V : VV) (hV : V = mVV M cm) (P : Nat → Bool) (hPe : P = mcd M cm V) (ns : List Nat) (hns : ns = rgf P 8) (hno : ∀ g, 2 * g < ns.length → ∀ lo hi, ¬ mAg V ns g lo hi) : PM G l m_MO_update [vR (some MK)] M rV (up0 M ns) 0 0 := by
  have h8 : ns.length ≤ 8 := by rw [hns]; exact rgf_len
  refine up_start hM hP V hV P hPe ns hns _ _ ?_
  have stop : ∀ i, i ≤ ns.length → ns.length ≤ 2 * i → PW G l m_MO_update 68 [some (vR (some MK)), some (vI (nI ns.length)), some (vI 0), some (vI (nI i))] [] (up0 M ns) rV (up0 M ns) 0 0 := by
    intro i hi hl
    refine pw_iconst 2 d_MO_update_68 (by decide) ?_
    refine pw_iload_n d_MO_update_69 rfl ?_
    refine pw_imul d_MO_update_70 ?_
    refine pw_iload_n d_MO_update_71 rfl ?_
    rw [show (2 : Int32) * nI i = nI (2 * i) from pk_mul 2 i]
    refine pw_icmp_ge (tgt := 91) d_MO_update_72 (by decide) (fun _ => ?_) (fun hQ => absurd (nI_le hl (by omega)) hQ)
    refine pw_iload_n d_MO_update_91 rfl ?_
    refine pw_if_ne (tgt := 96) d_MO_update_92 (by decide) (fun hQ => absurd (rfl) hQ) (fun _ => ?_)
    refine pw_return d_MO_update_95 rfl ?_ ?_
    · rfl
    · rfl
  refine lpU (P := fun i => PW G l m_MO_update 68 [some (vR (some MK)), some (vI (nI ns.length)), some (vI 0), some (vI (nI i))] [] (up0 M ns) rV (up0 M ns) 0 0) (stop _ (Nat.le_refl _) (by omega)) ?_ 0 (by omega)
  intro i hi ih
  by_cases hl : ns.length ≤ 2 * i
  · exact stop i (by omega) hl
  · refine pw_iconst 2 d_MO_update_68 (by decide) ?_
    refine pw_iload_n d_MO_update_69 rfl ?_
    refine pw_imul d_MO_update_70 ?_
    refine pw_iload_n d_MO_update_71 rfl ?_
    rw [show (2 : Int32) * nI i = nI (2 * i) from pk_mul 2 i]
    refine pw_icmp_ge (tgt := 91) d_MO_update_72 (by decide) (fun hQ => absurd hQ (nI_ge (by omega) (by omega))) (fun _ => ?_)
    refine pw_iload_n d_MO_update_75 rfl ?_
    refine pw_if_ne (tgt := 91) d_MO_update_76 (by decide) (fun hQ => absurd (rfl) hQ) (fun _ => ?_)
    refine pw_aload_n d_MO_update_79 rfl ?_
    refine pw_iload_n d_MO_update_80 rfl ?_
    refine c_MO_update_81 rfl (Nat.le_of_ble_eq_true rfl) (inter_no hM hP V hV P hPe ns hns i (by omega) (hno i (by omega))) ?_
    refine pw_istore_n d_MO_update_84 (by decide) ?_
    dsimp only [stL, kil, isL, cat]
    refine pw_iinc (1) d_MO_update_85 rfl (by decide) (by decide) ?_
    dsimp only [stL, kil, isL, cat]
    refine pw_goto (tgt := 68) d_MO_update_88 (by decide) ?_
    rw [nI_1]
    exact ih
theorem lp_ended (hM : M.2.2.1 = rf) (t : List Nat) (hL : ModL M t) (h8 : ∀ x ∈ t, x < 8) (x1 x2 : Int32) (M' : Mem)
    (hend : PW G l m_MO_update 142 [some (vR (some MK)), some (vI x1), some (vI x2), some (vI (nI t.length))] [] (sI M MK 24 (nI (msk t))) rV M' 0 0) :
    ∀ i, i ≤ t.length → PW G l m_MO_update 111 [some (vR (some MK)), some (vI x1), some (vI x2), some (vI (nI i))] [] (sI M MK 24 (nI (msk (t.take i)))) rV M' 0 0 := by
  refine lpU ?_ ?_
  · rw [List.take_length]
    obtain ⟨r1, r2, r3⟩ := ModL_I (j := 24) (x := nI (msk t)) (by decide) hL
    refine pw_iload_n d_MO_update_111 rfl ?_
    refine pw_aload_n d_MO_update_112 rfl ?_
    refine pw_getI d_MO_update_113 f_MO_219 rfl rfl ?_
    rw [r1]
    refine pw_icmp_ge (tgt := 142) d_MO_update_116 (by decide) (fun _ => ?_) (fun hQ => absurd (nI_le (Nat.le_refl _) (by omega)) hQ)
    exact hend
  · intro i hi ih
    obtain ⟨x, hx⟩ := get_lt hi
    obtain ⟨r1, r2, r3⟩ := ModL_I (j := 24) (x := nI (msk (t.take i))) (by decide) hL
    have hm8 : msk (t.take i) < 256 := msk_lt (fun y hy => h8 y (List.mem_of_mem_take hy))
    refine pw_iload_n d_MO_update_111 rfl ?_
    refine pw_aload_n d_MO_update_112 rfl ?_
    refine pw_getI d_MO_update_113 f_MO_219 rfl rfl ?_
    rw [r1]
    refine pw_icmp_ge (tgt := 142) d_MO_update_116 (by decide) (fun hQ => absurd hQ (nI_ge hi (by omega))) (fun _ => ?_)
    refine pw_aload_n d_MO_update_119 rfl ?_
    refine pw_aload_n d_MO_update_120 rfl ?_
    refine pw_getI d_MO_update_121 f_MO_236 rfl rfl ?_
    rw [sI_s]
    refine pw_iconst 1 d_MO_update_124 (by decide) ?_
    refine pw_aload_n d_MO_update_125 rfl ?_
    refine pw_getR d_MO_update_126 f_MO_53 rfl rfl (rfO hM rfl) ?_
    refine pw_iload_n d_MO_update_129 rfl ?_
    refine pw_iaN (n := i) d_MO_update_130 rfl (by omega) (by decide) ?_
    rw [r3 i x hx]
    refine pw_ishl d_MO_update_131 ?_
    refine pw_ior d_MO_update_132 ?_
    rw [(or_bit _ hm8 x (h8 x (get_mem hx))).1]
    refine pw_putI d_MO_update_133 f_MO_236 rfl rfl rfl ?_
    refine pw_iinc (1) d_MO_update_136 rfl (by decide) (by decide) ?_
    dsimp only [stL, kil, isL, cat]
    refine pw_goto (tgt := 111) d_MO_update_139 (by decide) ?_
    rw [nI_1, sI_sI]
    unfold msk at ih
    rw [fold_take hx] at ih
    exact ih
/-- the ints of the reference after an update that had survivors -/
def upI (f : Nat → Int32) (c s e : Int32) (st : Int32) : Nat → Int32 := up (up (up (up (up f 22 c) 23 s) 24 e) 25 1) 28 st
def upL (f : Nat → Int64) (lo hi off cj : Int64) : Nat → Int64 := up (up (up (up f 29 lo) 30 hi) 26 off) 27 cj
theorem update_y (hM : M.2.2.1 = rf) {cm : Nat → Nat} (hP : MPs M cm) (V : VV) (hV : V = mVV M cm) (P : Nat → Bool) (hPe : P = mcd M cm V) (ns : List Nat) (hns : ns = rgf P 8) (f : Nat) (h2 : 2 * f < ns.length) (lo hi : Int64) (ha : mAg V ns f lo hi) (hmin : ∀ g, g < f → ∀ lo hi, ¬ mAg V ns g lo hi)
    (n2 : List Nat) (hn2 : n2 = ns.filter (inO V lo hi)) (hn0 : 0 < n2.length)
    (hB : ∀ x ∈ ns, oB (oV V x)) (hD : ∀ x ∈ ns, 0 < dV V x) (hMn : ∀ t : List Nat, t.length ≤ 8 → 0 < t.length → (∀ x ∈ t, x ∈ ns) → 0 < mnW V t ∧ oB (mnO V t)) :
    ∃ N t, t.Pairwise (Rk V) ∧ (∀ y, y ∈ t ↔ y ∈ n2) ∧ N.2.2 = M.2.2 ∧ (∀ k, k ≠ MK → k ≠ (0, 35) → N.1 k = M.1 k ∧ N.2.1 k = M.2.1 k) ∧
      (∀ j, j ≠ 32 → N.1 MK j = upI (M.1 MK) (nI (msk ns)) (nI (msk n2)) (nI (msk (thN V 8 t))) (sV V (atL (thN V 8 t) 0) + 1) j) ∧
      N.2.1 MK = upL (M.2.1 MK) lo hi (mnO V (thN V 8 t)) (cjV V (thN V 8 t)) ∧
      ∀ M', PM G l m_MO_lead [vR (some MK)] N rV M' 0 0 → PM G l m_MO_update [vR (some MK)] M rV M' 0 0 := by
  have h8 : ns.length ≤ 8 := by rw [hns]; exact rgf_len
  have hN0 : (up0 M ns).2.2.1 = rf := hM
  have hP0 : MPs (up0 M ns) cm := sm_mps up0_sm hP
  have hV0 : V = mVV (up0 M ns) cm := by rw [sm_mVV up0_sm]; exact hV
  have hbt : bts (msk ns) P := by rw [hns]; exact bts_msk
  have hpos : ∀ p, p < 8 → P p = true → 0 < cm p := fun p _ h => cand_pos (by rw [hPe] at h; exact h)
  have hnsm : ∀ x ∈ ns, x < 8 ∧ 0 < cm x := fun x hx => by
    rw [hns] at hx
    exact ⟨rg_lt hx, hpos x (rg_lt hx) (List.mem_filter.mp hx).2⟩
  -- the agreement
  have hI : PM G l m_MO_intersect [vR (some MK), vI (nI f)] (up0 M ns) (rI 1) (sL (sL (sI (up0 M ns) MK 23 (nI (msk n2))) MK 29 lo) MK 30 hi) 0 0 := by
    refine mo_inter (M := up0 M ns) hN0 hP0 hbt up0_22 hpos f V hV0 ns hns (by omega) _ _ ?_ ?_
    · intro lo' hi' h
      have e1 := h.1.symm.trans ha.1
      have e2 := h.2.1.symm.trans ha.2.1
      rw [Option.some.inj e1, Option.some.inj e2, hn2]
      exact ⟨rfl, rfl⟩
    · intro h
      exact absurd ha (h lo hi)
  have s1 : SM M (sI (sL (sL (sI (up0 M ns) MK 23 (nI (msk n2))) MK 29 lo) MK 30 hi) MK 25 1) := up0_sm.trans ((SM_i (j := 23) (by decide)).trans (SM_f.trans (SM_f.trans (SM_i (j := 25) (by decide)))))
  have e1I : ∀ j, (sI (sL (sL (sI (up0 M ns) MK 23 (nI (msk n2))) MK 29 lo) MK 30 hi) MK 25 1).1 MK j = up (up (up (up (M.1 MK) 22 (nI (msk ns))) 23 (nI (msk n2))) 24 0) 25 1 j := fun j => by
    simp only [up0, sI, sL, up, true_and]
    by_cases a : j = 25
    · simp [a]
    · by_cases b : j = 24
      · simp [b]
      · by_cases c : j = 23
        · simp [c]
        · by_cases d : j = 22
          · simp [d]
          · simp [a, b, c, d]
  have e1L : (sI (sL (sL (sI (up0 M ns) MK 23 (nI (msk n2))) MK 29 lo) MK 30 hi) MK 25 1).2.1 MK = up (up (M.2.1 MK) 29 lo) 30 hi := by
    rw [sI_c2, sL_c2, sL_c2]
    rfl
  have hN1 : (sI (sL (sL (sI (up0 M ns) MK 23 (nI (msk n2))) MK 29 lo) MK 30 hi) MK 25 1).2.2.1 = rf := hM
  generalize hN1e : sI (sL (sL (sI (up0 M ns) MK 23 (nI (msk n2))) MK 29 lo) MK 30 hi) MK 25 1 = N1 at *
  have hP1 := sm_mps s1 hP
  have hV1 : V = mVV N1 cm := by rw [sm_mVV s1]; exact hV
  have eQ : rgf (fun p => inO V lo hi p && P p) 8 = n2 := by rw [hn2, hns]; unfold rgf; rw [List.filter_filter]
  obtain ⟨N2, t, f2, l2, p2, m2, w2⟩ := mo_layRow (G := G) (l := l) hN1 hP1 V hV1 (msk n2) (fun p => inO V lo hi p && P p) (by rw [← eQ]; exact bts_msk) (by rw [e1I]; simp [up]) (fun p hp h => hpos p hp (by simp only [Bool.and_eq_true] at h; exact h.2))
  rw [eQ] at m2
  have s2 := s1.trans f2.sm
  have hN2 := s2.rf hM
  have hP2 := sm_mps s2 hP
  have hV2 : V = mVV N2 cm := by rw [sm_mVV s2]; exact hV
  have st : ∀ x ∈ t, x ∈ ns := fun x hx => by
    have := (m2 x).mp hx
    rw [hn2] at this
    exact (List.mem_filter.mp this).1
  obtain ⟨N3, f3, l3, w3⟩ := mo_cluster (G := G) (l := l) hN2 hP2 V hV2 t l2 (fun x hx => ⟨hnsm x (st x hx), hB x (st x hx)⟩)
  have s3 := s2.trans f3.sm
  have hN3 := s3.rf hM
  have st' : ∀ x ∈ thN V 8 t, x ∈ ns := fun x hx => st x (th_sub 8 t x hx)
  have ht0 : 0 < t.length := by
    obtain ⟨x, hx⟩ := get_lt hn0
    exact List.length_pos_of_mem ((m2 x).mpr (get_mem hx))
  have h70 := th_pos (V := V) 8 t ht0
  obtain ⟨hW, hO⟩ := hMn (thN V 8 t) l3.2.1 h70 st'
  have s4 : SM M (sI N3 MK 24 (nI (msk (thN V 8 t)))) := s3.trans (SM_i (j := 24) (by decide))
  have w5 := mo_combine (G := G) (l := l) (M := sI N3 MK 24 (nI (msk (thN V 8 t)))) hN3 (sm_mps s4 hP) V (by rw [sm_mVV s4]; exact hV) (thN V 8 t) (ModL_I (by decide) l3) h70 (fun x hx => hnsm x (st' x hx)) (fun x hx => hB x (st' x hx)) (fun x hx => hD x (st' x hx)) hW hO
  have s5 : SM M (sI (sL (sL (sI N3 MK 24 (nI (msk (thN V 8 t)))) MK 26 (mnO V (thN V 8 t))) MK 27 (cjV V (thN V 8 t))) MK 28 (sV V (atL (thN V 8 t) 0) + 1)) := s4.trans (SM_f.trans (SM_f.trans (SM_i (j := 28) (by decide))))
  refine ⟨_, t, p2, m2, s5.1, s5.2.1, ?_, ?_, ?_⟩
  · intro j hj
    have e3 : N3.1 MK j = up (up (up (up (M.1 MK) 22 (nI (msk ns))) 23 (nI (msk n2))) 24 0) 25 1 j := by
      rw [f3.2.2.1 j hj, f2.2.2.1 j hj, e1I]
    rw [rdII, rdLI, rdLI, rdII, e3]
    simp only [upI, up, true_and]
    by_cases a : j = 28
    · simp [a]
    · by_cases b : j = 25
      · simp [b]
      · by_cases c : j = 24
        · simp [c]
        · simp [a, b, c]
  · rw [sI_c2, sL_c2, sL_c2, sI_c2, f3.2.2.2, f2.2.2.2, e1L]
    rfl
  · intro M' hlead
    refine up_start hM hP V hV P hPe ns hns _ _ ?_
    have tail : ∀ x3 : Int32, PW G l m_MO_update 91 [some (vR (some MK)), some (vI (nI ns.length)), some (vI 1), some (vI x3)] [] (sL (sL (sI (up0 M ns) MK 23 (nI (msk n2))) MK 29 lo) MK 30 hi) rV M' 0 0 := by
      intro x3
      refine pw_iload_n d_MO_update_91 rfl ?_
      refine pw_if_ne (tgt := 96) d_MO_update_92 (by decide) (fun _ => ?_) (fun hQ => absurd hQ ((by decide)))
      refine pw_aload_n d_MO_update_96 rfl ?_
      refine pw_iconst 1 d_MO_update_97 (by decide) ?_
      refine pw_putZ d_MO_update_98 f_MO_245 rfl rfl rfl (by first | exact Or.inl rfl | exact Or.inr rfl) ?_
      rw [hN1e]
      refine pw_aload_n d_MO_update_101 rfl ?_
      refine c_MO_update_102 rfl (Nat.le_of_ble_eq_true rfl) w2 ?_
      refine pw_aload_n d_MO_update_105 rfl ?_
      refine c_MO_update_106 rfl (Nat.le_of_ble_eq_true rfl) w3 ?_
      refine pw_iconst 0 d_MO_update_109 (by decide) ?_
      refine pw_istore_n d_MO_update_110 (by decide) ?_
      dsimp only [stL, kil, isL, cat]
      have q := lp_ended (G := G) (l := l) hN3 (thN V 8 t) l3 (fun x hx => (hnsm x (st' x hx)).1) (nI ns.length) 1 M' ?_ 0 (by omega)
      · have e24 : sI N3 MK 24 (nI (msk ((thN V 8 t).take 0))) = N3 := by
          have := sI_self (M := N3) (k := MK) (j := 24)
          rw [show N3.1 MK 24 = nI (msk ((thN V 8 t).take 0)) from by rw [f3.2.2.1 24 (by decide), f2.2.2.1 24 (by decide), e1I]; simp [up, msk]; rfl] at this
          exact this
        rw [e24] at q
        exact q
      · refine pw_aload_n d_MO_update_142 rfl ?_
        refine c_MO_update_143 rfl (Nat.le_of_ble_eq_true rfl) w5 ?_
        refine pw_aload_n d_MO_update_146 rfl ?_
        refine c_MO_update_147 rfl (Nat.le_of_ble_eq_true rfl) hlead ?_
        refine pw_return d_MO_update_150 rfl ?_ ?_
        · rfl
        · rfl
    refine lpU (P := fun i => PW G l m_MO_update 68 [some (vR (some MK)), some (vI (nI ns.length)), some (vI 0), some (vI (nI i))] [] (up0 M ns) rV M' 0 0) (n := f) ?_ ?_ 0 (by omega)
    · refine pw_iconst 2 d_MO_update_68 (by decide) ?_
      refine pw_iload_n d_MO_update_69 rfl ?_
      refine pw_imul d_MO_update_70 ?_
      refine pw_iload_n d_MO_update_71 rfl ?_
      rw [show (2 : Int32) * nI f = nI (2 * f) from pk_mul 2 f]
      refine pw_icmp_ge (tgt := 91) d_MO_update_72 (by decide) (fun hQ => absurd hQ (nI_ge h2 (by omega))) (fun _ => ?_)
      refine pw_iload_n d_MO_update_75 rfl ?_
      refine pw_if_ne (tgt := 91) d_MO_update_76 (by decide) (fun hQ => absurd (rfl) hQ) (fun _ => ?_)
      refine pw_aload_n d_MO_update_79 rfl ?_
      refine pw_iload_n d_MO_update_80 rfl ?_
      refine c_MO_update_81 rfl (Nat.le_of_ble_eq_true rfl) hI ?_
      refine pw_istore_n d_MO_update_84 (by decide) ?_
      dsimp only [stL, kil, isL, cat]
      refine pw_iinc (1) d_MO_update_85 rfl (by decide) (by decide) ?_
      dsimp only [stL, kil, isL, cat]
      refine pw_goto (tgt := 68) d_MO_update_88 (by decide) ?_
      rw [nI_1]
      refine pw_iconst 2 d_MO_update_68 (by decide) ?_
      refine pw_iload_n d_MO_update_69 rfl ?_
      refine pw_imul d_MO_update_70 ?_
      refine pw_iload_n d_MO_update_71 rfl ?_
      refine pw_icmp_ge (tgt := 91) d_MO_update_72 (by decide) (fun h9 => ?_) (fun h9 => ?_)
      · exact tail _
      · refine pw_iload_n d_MO_update_75 rfl ?_
        refine pw_if_ne (tgt := 91) d_MO_update_76 (by decide) (fun _ => ?_) (fun hQ => absurd hQ ((by decide)))
        exact tail _
    · intro i hi ih
      refine pw_iconst 2 d_MO_update_68 (by decide) ?_
      refine pw_iload_n d_MO_update_69 rfl ?_
      refine pw_imul d_MO_update_70 ?_
      refine pw_iload_n d_MO_update_71 rfl ?_
      rw [show (2 : Int32) * nI i = nI (2 * i) from pk_mul 2 i]
      refine pw_icmp_ge (tgt := 91) d_MO_update_72 (by decide) (fun hQ => absurd hQ (nI_ge (by omega) (by omega))) (fun _ => ?_)
      refine pw_iload_n d_MO_update_75 rfl ?_
      refine pw_if_ne (tgt := 91) d_MO_update_76 (by decide) (fun hQ => absurd (rfl) hQ) (fun _ => ?_)
      refine pw_aload_n d_MO_update_79 rfl ?_
      refine pw_iload_n d_MO_update_80 rfl ?_
      refine c_MO_update_81 rfl (Nat.le_of_ble_eq_true rfl) (inter_no hM hP V hV P hPe ns hns i (by omega) (hmin i hi)) ?_
      refine pw_istore_n d_MO_update_84 (by decide) ?_
      dsimp only [stL, kil, isL, cat]
      refine pw_iinc (1) d_MO_update_85 rfl (by decide) (by decide) ?_
      dsimp only [stL, kil, isL, cat]
      refine pw_goto (tgt := 68) d_MO_update_88 (by decide) ?_
      rw [nI_1]
      exact ih
end MU2
